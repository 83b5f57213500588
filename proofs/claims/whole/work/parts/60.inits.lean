/-! Constructors: facts that are no words of the list, grids. -/
def nw_Pwx (K : State → Prop) (av : List Value) (D : va_G) (cl : List vw_C) (tys : List (ClassId × FieldType)) (ws : va_W) (sz : Nat) : Array Value → State → Prop := va_Pc av (fun U => U.heap.size = sz ∧ va_P D cl ws U.heap ∧ va_K D cl tys U ∧ va_D (fun _ => True) ws ∧ K U)
/-- facts that go by the tables alone, and stay as they warm -/
def nw_St (K : State → Prop) : Prop := (∀ u U : State, u.vm = U.vm → K u → K U) ∧ ∀ u U : State, u.WarmedH U.vm → K u → K U
theorem nw_Pwx.blind {K : State → Prop} (hst : nw_St K) {av : List Value} {D : va_G} {cl : List vw_C} {tys : List (ClassId × FieldType)} {ws : va_W} {sz : Nat} : FrameBlind (nw_Pwx K av D cl tys ws sz) := fun a U g mk q => ⟨q.1, q.2.1, q.2.2.1, va_K.moved (u := U) (U := U.calling g mk a) (Vm.Alike.refl U.vm) q.2.2.2.1, q.2.2.2.2.1, hst.1 U (U.calling g mk a) rfl q.2.2.2.2.2⟩
theorem nw_prewSX {s : State} {K : State → Prop} (hKs : nw_St K ∧ K s) {H : Heap} {D : va_G} {cl : List vw_C} {tys tys' : List (ClassId × FieldType)} {ws wc : va_W} {A : Nat → Prop} {As : List Value} (hK : va_K D cl tys s) (hP : va_P D cl ws H) (hD : va_D A ws) (isC isT : List Nat) (hn : va_nd isC = true) (hC : isC.map (fun i => ws[i]?) = wc.map some) (hT : isT.filterMap (fun i => tys[i]?) = tys') : PreS s H (nw_Pwx K As D cl tys' wc H.size) As := by
  have h0 := nw_prewS (As := As) hK hP hD isC isT hn hC hT
  exact ⟨nw_Pwx.blind hKs.1, fun U hU hW => ⟨(h0.2 U hU hW).1, (h0.2 U hU hW).2.1, (h0.2 U hU hW).2.2.1, (h0.2 U hU hW).2.2.2.1, (h0.2 U hU hW).2.2.2.2, hKs.1.2 s U hW hKs.2⟩⟩
def nw_AO (ty : FieldType) (U : State) : Prop := (Cond.arrayOver (.array ty)).before #[] U = true
theorem nw_AO.st (ty : FieldType) : nw_St (nw_AO ty) := ⟨fun u U h k => over_moved (a := #[]) (a' := #[]) (by rw [h]; exact Vm.Alike.refl _) k, fun u U h k => over_moved (a := #[]) (a' := #[]) h.alike k⟩
theorem va_Nw_over {ty : FieldType} {s : State} {args : Array Value} (h : nw_AO ty s) : (Cond.arrayOver (.array ty)).before args s = true := over_moved (a := #[]) (Vm.Alike.refl _) h
theorem nw_Pm {D : va_G} {cl : List vw_C} {X a b : va_W} {H : Heap} (h : va_P D cl ((X ++ (a ++ [])) ++ (b ++ [])) H) : va_P D cl (X ++ (b ++ a)) H := by
  rw [List.append_nil, List.append_nil, List.append_assoc] at h
  exact nw_Psw h
theorem nw_Dm {A : Nat → Prop} {X a b : va_W} (h : va_D A ((X ++ (a ++ [])) ++ (b ++ []))) : va_D A (X ++ (b ++ a)) := by
  rw [List.append_nil, List.append_nil, List.append_assoc] at h
  exact nw_Dsw h
theorem nw_outer (c : ClassId) (N h0 : Nat) : ∀ i : Nat, Jvm.Free.Multi.outerC c N h0 i = arrV c N (fun j => va_rf (if j < i then some (h0 + 1 + j) else none))
  | 0 => by
    show ({ cls := c, slots := Array.replicate N .null, vm := .none } : Cell) = _
    rw [arrV_new]
    refine congrArg (arrV c N) (funext fun j => ?_)
    simp [va_rf]
  | i + 1 => by
    show (Jvm.Free.Multi.outerC c N h0 i).setSlot i (.ref (h0 + 1 + i)) = _
    rw [nw_outer c N h0 i, arrV_store]
    refine congrArg (arrV c N) (funext fun j => ?_)
    by_cases e : j = i
    · subst e
      simp [updV, va_rf]
    · by_cases h : j < i
      · simp [updV, e, h, Nat.lt_succ_of_lt h]
      · simp [updV, e, h, show ¬ j < i + 1 by omega]
theorem nw_arrV_congr (c : ClassId) (N : Nat) {f g : Nat → Value} (h : ∀ j, j < N → f j = g j) : arrV c N f = arrV c N g := by
  unfold arrV
  congr 1
  exact congrArg _ (funext fun j => h j.val j.isLt)
section NWMN
variable {p : Program} {l : Launch} {e : Env} {R : Room} {s : State} {m : MethodId} {args : Array Value} {below : List Frame} {meth : Method} {c : Code} {H : Heap} {locs : List Loc} {cells slots : Nat} {Q : State → Prop}
variable {cc : ByteArray} {pc : Nat} {ls : Array Slot} {rest : List Value} {D : va_G} {cl : List vw_C} {A : Nat → Prop} {tys : List (ClassId × FieldType)} {ws : va_W} {H0 : Heap}
/-- a grid: an array of arrays, all new -/
theorem nw_mna (hexec : p.tables.exec = Jvm.exec) (hb : c.code = cc) {own : String} {index : Nat} {ty : FieldType} {cy cO : ClassId} (hown : s.vm.findClass own = some m.cls) (hclink : (Cond.classLink own index ("[" ++ (FieldType.array ty).toString)).before args s = true) (hover : (Cond.arrayOver (.array ty)).before args s = true) (harr : (Cond.arrayClass ty).before args s = true)
    (hK : va_K D cl tys s) (tO ti : Nat) (htO : tys[tO]? = some (cO, .array ty)) (hti : tys[ti]? = some (cy, ty)) (hpr : (match ty with | .object _ => false | _ => true) = true) (hP : va_P D cl ws H) (hD : va_D A ws) (hS : va_S A H0 H locs) (hA : ∀ q, H0.size ≤ q → A q) {N K : Nat} {z : vp_A} (hN : N < 2 ^ 31) (hK9 : K < 2 ^ 31)
    (hb1 : N * 4 ≤ 536870912) (hb2 : K * componentBytes ty ≤ 536870912) (hb3 : K ≤ 536870912) (hdf : fits ty (defaultValue ty) = true) (hdd : (defaultValue ty).isDefault = true) (hcells : cells + (1 + N) ≤ R.cells) (hslots : slots + (N + N * K) ≤ R.slots) (hz : ∀ c : ClassId, arrV c K (fun _ => defaultValue ty) = vp_cell c z) (hdg : decode cc pc = .ok (.multianewarray index 2, 4))
    (kk : ∀ (q : Nat) (r : Nat → Nat) (H1 : Heap), va_P D cl ((ws ++ [(q, nw_ar cO N (fun k => some (r k)))]) ++ ((List.range N).map (fun k => (r k, (.inl (cy, z) : va_E))) ++ [])) H1 → va_D A ((ws ++ [(q, nw_ar cO N (fun k => some (r k)))]) ++ ((List.range N).map (fun k => (r k, (.inl (cy, z) : va_E))) ++ [])) → va_S A H0 H1 locs →
      W p l e R s m args below meth c H1 locs (cells + 1 + N) (slots + N + N * K) Q (F0 m (pc + 4) ls (.ref q :: rest))) : W p l e R s m args below meth c H locs cells slots Q (F0 m pc ls (.int (nI K) :: .int (nI N) :: rest)) := by
  intro T hT Xs
  have eN : (nI N).toNatClampNeg = N := nI_clamp hN
  have eK : (nI K).toNatClampNeg = K := nI_clamp hK9
  obtain ⟨vm₁, cA, comp, -, fA, fC, hO, -, X', step⟩ := Xs.multianewarray2F hexec hown hclink hover harr (g := F0 m pc ls (.int (nI K) :: .int (nI N) :: rest)) rfl (by rw [hb]; exact hdg) rfl (nI_pos hN) (nI_pos hK9) (by rw [eN]; exact hb1) (by rw [eK]; exact hb2) (by rw [eK]; exact hb3) hdf hdd (by rw [eN]; exact hcells) (by rw [eN, eK]; exact hslots)
  rw [eN, eK] at X' step
  have ec : comp = cy := by
    have h1 := (hK.2 ti _ hti).2
    cases ty with
    | object C => simp at hpr
    | _ => exact Option.some.inj (fC.symm.trans h1)
  have eo : cA = cO := Option.some.inj (fA.symm.trans (hK.2 tO _ htO).2)
  subst ec
  subst eo
  generalize hF : Jvm.Free.Multi.fill (T.setVm vm₁) cA comp N K (defaultValue ty) N = F at X' step
  have hTh : (T.setVm vm₁).heap = H := hT
  obtain ⟨f1, f2, -, -⟩ := Jvm.Free.Multi.fill_facts (T.setVm vm₁) cA comp N K (defaultValue ty) N
  rw [hF, hTh] at f1 f2
  have hold : ∀ x : Nat, x < H.size → F.heap[x]? = H[x]? := fun x hx => by
    have := Jvm.Free.Multi.fill_old (T.setVm vm₁) cA comp N K (defaultValue ty) (a := x) (by rw [hTh]; exact hx) N
    rw [hF, hTh] at this
    exact this
  have hinner : Jvm.Free.Multi.innerC comp K (defaultValue ty) = vp_cell comp z := by
    rw [← hz comp, ← arrV_new]
    rfl
  have hrow : ∀ j : Nat, j < N → F.heap[H.size + 1 + j]? = some (vp_cell comp z) := fun j hj => by
    have := Jvm.Free.Multi.fill_inner (T.setVm vm₁) cA comp N K (defaultValue ty) N j hj
    rw [hF, hTh, hinner] at this
    exact this
  have hout : Jvm.Free.Multi.outerC cA N H.size N = vp_cell cA (N, .inr (.inr (.inr (.inr (fun i => some (H.size + 1 + i)))))) := by
    rw [vp_cell_q, nw_outer cA N H.size N]
    exact nw_arrV_congr cA N (fun j hj => by rw [if_pos hj])
  rw [hout] at f2
  have hP0 : va_P D cl ws F.heap := hP.kept (fun k9 x hx => hold x.1 ((hP k9 x hx).lt))
  have hP1 : va_P D cl (ws ++ [(H.size, nw_ar cA N (fun i => some (H.size + 1 + i)))]) F.heap := hP0.app (fun k9 x hx => by
    have h0 : k9 < 1 := (List.getElem?_eq_some_iff.mp hx).1
    rw [show k9 = 0 by omega] at hx
    cases hx
    exact f2)
  have hP2 : va_P D cl ((ws ++ [(H.size, nw_ar cA N (fun i => some (H.size + 1 + i)))]) ++ (List.range N).map (fun k => (H.size + 1 + k, (.inl (comp, z) : va_E)))) F.heap := hP1.app (fun k9 x hx => by
    obtain ⟨i, hi, rfl⟩ := List.mem_map.mp (List.mem_of_getElem? hx)
    exact hrow i (List.mem_range.mp hi))
  have hD2 : va_D A ((ws ++ [(H.size, nw_ar cA N (fun i => some (H.size + 1 + i)))]) ++ (List.range N).map (fun k => (H.size + 1 + k, (.inl (comp, z) : va_E)))) := by
    have hD1 := hD.push (e := nw_ar cA N (fun i => some (H.size + 1 + i))) hP rfl (hA _ hS.1)
    generalize hW1 : ws ++ [(H.size, nw_ar cA N (fun i => some (H.size + 1 + i)))] = W1 at hD1 hP1 ⊢
    have hle : ∀ (k9 : Nat) (x : Nat × va_E), W1[k9]? = some x → x.1 ≤ H.size := fun k9 x hx => by
      rw [← hW1] at hx
      by_cases hl : k9 < ws.length
      · rw [List.getElem?_append_left hl] at hx
        exact Nat.le_of_lt ((hP k9 x hx).lt)
      · rw [List.getElem?_append_right (by omega)] at hx
        have h0 : k9 - ws.length < 1 := (List.getElem?_eq_some_iff.mp hx).1
        rw [show k9 - ws.length = 0 by omega] at hx
        cases hx
        exact Nat.le_refl _
    have hr : ∀ (k9 : Nat) (x : Nat × va_E), ((List.range N).map (fun k => ((H.size + 1 + k, .inl (comp, z)) : Nat × va_E)))[k9]? = some x → x.1 = H.size + 1 + k9 := fun k9 x hx => by
      rw [List.getElem?_map] at hx
      by_cases h9 : k9 < N
      · rw [List.getElem?_range h9] at hx
        cases hx
        rfl
      · have hn0 : (List.range N)[k9]? = none := List.getElem?_eq_none (by rw [List.length_range]; omega)
        rw [hn0] at hx
        cases hx
    refine ⟨fun i j x y hi hj hxy => ?_, fun k9 x hx => ?_⟩
    · by_cases h1 : i < W1.length <;> by_cases h2 : j < W1.length
      · rw [List.getElem?_append_left h1] at hi
        rw [List.getElem?_append_left h2] at hj
        exact hD1.1 i j x y hi hj hxy
      · rw [List.getElem?_append_left h1] at hi
        rw [List.getElem?_append_right (by omega)] at hj
        have := hle _ _ hi
        have := hr _ _ hj
        omega
      · rw [List.getElem?_append_right (by omega)] at hi
        rw [List.getElem?_append_left h2] at hj
        have := hle _ _ hj
        have := hr _ _ hi
        omega
      · rw [List.getElem?_append_right (by omega)] at hi hj
        have := hr _ _ hi
        have := hr _ _ hj
        omega
    · by_cases h1 : k9 < W1.length
      · rw [List.getElem?_append_left h1] at hx
        exact hD1.2 k9 x hx
      · rw [List.getElem?_append_right (by omega)] at hx
        have := hr _ _ hx
        exact hA _ (by have := hS.1; omega)
  obtain ⟨t, a1, b1⟩ := kk H.size (fun i => H.size + 1 + i) F.heap (by rw [List.append_nil]; exact hP2) (by rw [List.append_nil]; exact hD2) ⟨by rw [f1]; have := hS.1; omega, fun x h1 h2 => (hold x (Nat.lt_of_lt_of_le h1 hS.1)).trans (hS.2.1 x h1 h2), hS.2.2⟩ F rfl X'
  refine ⟨t, step t ?_, b1⟩
  have e : T.heap.size = H.size := by rw [hT]
  rw [e]
  exact a1
end NWMN
theorem nw_up0e (M : Nat → Nat → Nat) (k : Nat) : va_up M k (M k) = M := by
  funext j
  by_cases e : j = k
  · rw [e, va_up_self]
  · rw [va_up_ne _ _ e]
theorem nw_up0 {D : va_G} {cl : List vw_C} {X pl : va_W} {H : Heap} {n k w : Nat} {cA : ClassId} {ry : Nat → Nat} {M : Nat → Nat → Nat} (hP : va_P D cl (X ++ (nw_rl n cA w ry M ++ pl)) H) : va_P D cl (X ++ (nw_rl n cA w ry (va_up M k (M k)) ++ pl)) H := by rw [nw_up0e]; exact hP
theorem nw_up0D {A : Nat → Prop} {X pl : va_W} {n k w : Nat} {cA : ClassId} {ry : Nat → Nat} {M : Nat → Nat → Nat} (hD : va_D A (X ++ (nw_rl n cA w ry M ++ pl))) : va_D A (X ++ (nw_rl n cA w ry (va_up M k (M k)) ++ pl)) := by rw [nw_up0e]; exact hD
