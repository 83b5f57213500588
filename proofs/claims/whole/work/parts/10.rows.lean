/-! Rows of our own over the kit's: arrays whose contents are numbers (nI of naturals, lN of naturals), contracts of one shape, calls in one line. -/
abbrev nw_ai (cA : ClassId) (n : Nat) (f : Nat → Nat) : va_E := .inl (cA, n, .inl (fun j => nI (f j)))
abbrev nw_al (cA : ClassId) (n : Nat) (f : Nat → Nat) : va_E := .inl (cA, n, .inr (.inl (fun j => lN (f j))))
abbrev nw_ar (cA : ClassId) (n : Nat) (f : Nat → Option Nat) : va_E := .inl (cA, n, .inr (.inr (.inr (.inr f))))
theorem nw_upd (f : Nat → Nat) (k v : Nat) : upd (fun j => nI (f j)) k (nI v) = fun j => nI (va_up f k v j) := by
  funext j
  by_cases h : j = k <;> simp [upd, va_up, h]
theorem nw_updL (f : Nat → Nat) (k v : Nat) : vp_updL (fun j => lN (f j)) k (lN v) = fun j => lN (va_up f k v j) := by
  funext j
  by_cases h : j = k <;> simp [vp_updL, va_up, h]
theorem nw_cpy (f g : Nat → Nat) (sp dp n : Nat) : va_cpy (fun j => nI (f j)) (fun j => nI (g j)) sp dp n = fun j => nI (va_cpy f g sp dp n j) := by
  funext j
  by_cases h : dp ≤ j ∧ j < dp + n <;> simp [va_cpy, h]
theorem nw_nb : ∀ v, v < 128 → (nI v).toInt8.toInt32 = nI v := by decide +kernel
theorem nw_nz : ∀ v, v < 2 → vp_nar .boolean (nI v) = nI v := by decide +kernel
theorem nw_fb : ∀ v, v < 128 → fits .byte (.int (nI v)) = true := by decide +kernel
/-- a contract's start: read only -/
def nw_Pr (av : List Value) (D : va_G) (cl : List vw_C) (tys : List (ClassId × FieldType)) (ws : va_W) : Array Value → State → Prop := va_Pc av (fun U => va_P D cl ws U.heap ∧ va_K D cl tys U)
/-- a contract's start: it may write its world -/
def nw_Pw (av : List Value) (D : va_G) (cl : List vw_C) (tys : List (ClassId × FieldType)) (ws : va_W) (sz : Nat) : Array Value → State → Prop := va_Pc av (fun U => U.heap.size = sz ∧ va_P D cl ws U.heap ∧ va_K D cl tys U ∧ va_D (fun _ => True) ws)
/-- the world behind a method -/
def nw_B {S : Type} (D : va_G) (cl : List vw_C) (A : Nat → Prop) (W1 : S → va_W) : S → State → Prop := fun u t => va_P D cl (W1 u) t.heap ∧ va_D A (W1 u)
theorem nw_Pr.blind {av : List Value} {D : va_G} {cl : List vw_C} {tys : List (ClassId × FieldType)} {ws : va_W} : FrameBlind (nw_Pr av D cl tys ws) := fun a U g mk q => ⟨q.1, q.2.1, va_K.moved (u := U) (U := U.calling g mk a) (Vm.Alike.refl U.vm) q.2.2⟩
theorem nw_Pw.blind {av : List Value} {D : va_G} {cl : List vw_C} {tys : List (ClassId × FieldType)} {ws : va_W} {sz : Nat} : FrameBlind (nw_Pw av D cl tys ws sz) := fun a U g mk q => ⟨q.1, q.2.1, q.2.2.1, va_K.moved (u := U) (U := U.calling g mk a) (Vm.Alike.refl U.vm) q.2.2.2.1, q.2.2.2.2⟩
theorem nw_preS {s : State} {H : Heap} {D : va_G} {cl : List vw_C} {tys tys' : List (ClassId × FieldType)} {ws wc : va_W} {As : List Value} (hK : va_K D cl tys s) (hP : va_P D cl ws H) (isC isT : List Nat) (hC : isC.filterMap (fun i => ws[i]?) = wc) (hT : isT.filterMap (fun i => tys[i]?) = tys') : PreS s H (nw_Pr As D cl tys' wc) As :=
  ⟨nw_Pr.blind, fun U hU hW => ⟨rfl, by rw [hU]; exact hP.sub isC hC, va_K.moved hW.alike (hK.sub isT hT)⟩⟩
theorem nw_preV {s : State} {H : Heap} {D : va_G} {cl : List vw_C} {tys tys' : List (ClassId × FieldType)} {ws wc : va_W} {As : List Value} {b q0 ci : Nat} {q : vw_C} {fs : List Value} (hK : va_K D cl tys s) (hP : va_P D cl ws H) (isC isT : List Nat) (hC : isC.filterMap (fun i => ws[i]?) = wc) (hT : isT.filterMap (fun i => tys[i]?) = tys') (hc : cl[ci]? = some q) (he : ws[q0]? = some (b, .inr (ci, fs))) : PreV s H q.1 b (nw_Pr (.ref b :: As) D cl tys' wc) As :=
  ⟨nw_Pr.blind, va_recv hK hP hc he, fun U hU hW => ⟨rfl, by rw [hU]; exact hP.sub isC hC, va_K.moved hW.alike (hK.sub isT hT)⟩⟩
theorem nw_prewS {s : State} {H : Heap} {D : va_G} {cl : List vw_C} {tys tys' : List (ClassId × FieldType)} {ws wc : va_W} {A : Nat → Prop} {As : List Value} (hK : va_K D cl tys s) (hP : va_P D cl ws H) (hD : va_D A ws) (isC isT : List Nat) (hn : va_nd isC = true) (hC : isC.map (fun i => ws[i]?) = wc.map some) (hT : isT.filterMap (fun i => tys[i]?) = tys') : PreS s H (nw_Pw As D cl tys' wc H.size) As := by
  have hC2 : isC.filterMap (fun i => ws[i]?) = wc := by
    have h1 : (isC.map (fun i => ws[i]?)).filterMap id = isC.filterMap (fun i => ws[i]?) := by rw [List.filterMap_map]; rfl
    rw [← h1, hC, List.filterMap_map]
    exact List.filterMap_some
  exact ⟨nw_Pw.blind, fun U hU hW => ⟨rfl, by rw [hU], by rw [hU]; exact hP.sub isC hC2, va_K.moved hW.alike (hK.sub isT hT), (hD.sub isC hn hC).weaken (fun _ _ _ _ => trivial)⟩⟩
theorem nw_prewV {s : State} {H : Heap} {D : va_G} {cl : List vw_C} {tys tys' : List (ClassId × FieldType)} {ws wc : va_W} {A : Nat → Prop} {As : List Value} {b q0 ci : Nat} {q : vw_C} {fs : List Value} (hK : va_K D cl tys s) (hP : va_P D cl ws H) (hD : va_D A ws) (isC isT : List Nat) (hn : va_nd isC = true) (hC : isC.map (fun i => ws[i]?) = wc.map some) (hT : isT.filterMap (fun i => tys[i]?) = tys') (hc : cl[ci]? = some q) (he : ws[q0]? = some (b, .inr (ci, fs))) : PreV s H q.1 b (nw_Pw (.ref b :: As) D cl tys' wc H.size) As :=
  ⟨nw_Pw.blind, va_recv hK hP hc he, (nw_prewS (As := .ref b :: As) hK hP hD isC isT hn hC hT).2⟩
theorem nw_eq0 {n : Nat} (h : n < 2 ^ 31) : nI n = 0 ↔ n = 0 := by
  have := nI_eq (a := n) (b := 0) h (by decide)
  rw [nI_0] at this
  exact this
theorem nw_le0 {n : Nat} (h : n < 2 ^ 31) : nI n ≤ 0 ↔ n = 0 := by
  have := nI_leI (a := n) (b := 0) h (by decide)
  rw [nI_0] at this
  rw [this]; omega
theorem nw_lt0 {n : Nat} (h : n < 2 ^ 31) : nI n < 0 ↔ n < 0 := by
  have := nI_ltI (a := n) (b := 0) h (by decide)
  rw [nI_0] at this
  exact this
theorem nw_0lt {n : Nat} (h : n < 2 ^ 31) : 0 < nI n ↔ 0 < n := by
  have := nI_ltI (a := 0) (b := n) (by decide) h
  rw [nI_0] at this
  exact this
theorem nw_0le {n : Nat} (h : n < 2 ^ 31) : 0 ≤ nI n ↔ 0 ≤ n := by
  have := nI_leI (a := 0) (b := n) (by decide) h
  rw [nI_0] at this
  exact this
theorem nw_dec {n : Nat} (k : Nat) (h : k ≤ n) : nI n + Int32.ofInt (-(k : Int)) = nI (n - k) := by
  rw [← pk_sub h, Int32.ofInt_neg, Int32.sub_eq_add_neg]
  rfl
theorem nw_big {n : Nat} (h : n < 128) : n < 2 ^ 31 := by omega
theorem nw_imax {x y : Nat} (hx : x < 2 ^ 31) (hy : y < 2 ^ 31) : (if nI x < nI y then nI y else nI x) = nI (max x y) := by
  by_cases h : x < y
  · rw [if_pos ((nI_ltI hx hy).mpr h), Nat.max_eq_right (by omega)]
  · rw [if_neg (fun q => h ((nI_ltI hx hy).mp q)), Nat.max_eq_left (by omega)]
theorem nw_imin {x y : Nat} (hx : x < 2 ^ 31) (hy : y < 2 ^ 31) : (if nI y < nI x then nI y else nI x) = nI (min x y) := by
  by_cases h : y < x
  · rw [if_pos ((nI_ltI hy hx).mpr h), Nat.min_eq_right (by omega)]
  · rw [if_neg (fun q => h ((nI_ltI hy hx).mp q)), Nat.min_eq_left (by omega)]
/-- the greatest of f 0 .. f (n - 1) -/
def nw_mx (f : Nat → Nat) : Nat → Nat
  | 0 => 0
  | n + 1 => max (nw_mx f n) (f n)
theorem nw_mx_lt {f : Nat → Nat} {n b : Nat} (hb : 0 < b) (h : ∀ i, i < n → f i < b) : nw_mx f n < b := by
  induction n with
  | zero => exact hb
  | succ n ih =>
    have h1 := ih (fun i hi => h i (by omega))
    have h2 := h n (by omega)
    show max (nw_mx f n) (f n) < b
    omega
theorem nw_mx_congr {f g : Nat → Nat} {n : Nat} (h : ∀ i, i < n → f i = g i) : nw_mx f n = nw_mx g n := by
  induction n with
  | zero => rfl
  | succ n ih =>
    show max (nw_mx f n) (f n) = max (nw_mx g n) (g n)
    rw [ih (fun i hi => h i (by omega)), h n (by omega)]
/-- the starts when a word of len numbers has come in at place pl of n -/
def nw_ins (st : Nat → Nat) (pl n len : Nat) : Nat → Nat := fun x => if pl < x ∧ x ≤ n + 1 then st (x - 1) + len else st x
/-- .. when the word of len numbers at place pl of n has gone -/
def nw_del (st : Nat → Nat) (pl n len : Nat) : Nat → Nat := fun x => if pl ≤ x ∧ x < n then st (x + 1) - len else st x
theorem nw_j1 (j : Nat) : nI j - nI 1 + nI 1 = nI j := by rw [Int32.sub_eq_add_neg, Int32.add_assoc, Int32.add_comm (-nI 1), ← Int32.sub_eq_add_neg, Int32.sub_self, Int32.add_zero]
theorem nw_jlt {j p : Nat} (hj : j < 2 ^ 30) (hp : p < 2 ^ 30) : nI j - nI 1 < nI p ↔ j ≤ p := by
  rw [Int32.lt_iff_toInt_lt, pk_sub_toInt hj (by decide), nI_toInt (by omega)]
  omega
theorem nw_jdec (j : Nat) (h : 1 ≤ j) : (nI j - nI 1) + Int32.ofInt (-1) = nI (j - 1) - nI 1 := by
  rw [pk_sub h, Int32.sub_eq_add_neg]
  congr 1
/-- how many of 0 .. n - 1 have it -/
def nw_cnt (f : Nat → Prop) [DecidablePred f] : Nat → Nat
  | 0 => 0
  | n + 1 => nw_cnt f n + if f n then 1 else 0
theorem nw_cnt_le (f : Nat → Prop) [DecidablePred f] (n : Nat) : nw_cnt f n ≤ n := by
  induction n with
  | zero => exact Nat.le_refl _
  | succ n ih =>
    show nw_cnt f n + (if f n then 1 else 0) ≤ n + 1
    split <;> omega
/-- where those that have it stand ahead of the others, they are as many as the place where they end -/
theorem nw_cnt_cut {f : Nat → Prop} [DecidablePred f] {n p : Nat} (hp : p ≤ n) (h1 : ∀ i, i < p → f i) (h2 : ∀ i, p ≤ i → i < n → ¬ f i) : nw_cnt f n = p := by
  induction n with
  | zero => show 0 = p; omega
  | succ n ih =>
    show nw_cnt f n + (if f n then 1 else 0) = p
    by_cases e : p = n + 1
    · have : nw_cnt f n = n := by
        clear ih h2
        have key : ∀ k, k ≤ n → nw_cnt f k = k := by
          intro k
          induction k with
          | zero => intro _; rfl
          | succ k ih => intro hk; show nw_cnt f k + (if f k then 1 else 0) = k + 1; rw [ih (by omega), if_pos (h1 k (by omega))]
        exact key n (Nat.le_refl _)
      rw [this, if_pos (h1 n (by omega)), e]
    · rw [ih (by omega) (fun i h3 h4 => h2 i h3 (by omega)), if_neg (h2 n (by omega) (by omega))]
      omega
/-- what count answers -/
def nw_sw (q : Int32) (a b c d e : Nat) : Int32 := if q.toInt = 0 then nI a else if q.toInt = 1 then nI b else if q.toInt = 2 then nI c else if q.toInt = 3 then nI d else if q.toInt = 4 then nI e else -1
theorem nw_cpy_0 {α : Type} (f g : Nat → α) (sp dp : Nat) (x : Nat) : va_cpy f g sp dp 0 x = g x := pk_cpy_out (by omega)
/-- one place more -/
theorem nw_cpy_s {f g h : Nat → Nat} {sp dp k v : Nat} (hh : ∀ x, h x = va_cpy f g sp dp k x) (hv : v = f (sp + k)) : ∀ x, va_up h (dp + k) v x = va_cpy f g sp dp (k + 1) x := by
  intro x
  by_cases e : x = dp + k
  · rw [e, va_up_self, pk_cpy_in (by omega) (by omega), hv]
    congr 1
    omega
  · rw [va_up_ne _ _ e, hh x]
    by_cases i : dp ≤ x ∧ x < dp + k
    · rw [pk_cpy_in i.1 i.2, pk_cpy_in i.1 (by omega)]
    · rw [pk_cpy_out (by omega), pk_cpy_out (by omega)]
