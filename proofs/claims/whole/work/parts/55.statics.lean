/-! What a throw needs of the state beside the tables' words: two statics of Throwable, words of declaring and casting. -/
def nx_Z (C n d : String) (A : Nat → Prop) (U : State) (H : Heap) : Prop := ∃ (c : ClassId) (k : Class) (i : Nat) (f : Field) (a : Nat) (cell : Cell) (v : Value), U.vm.findClass C = some c ∧ U.fieldFound? C n d = some (c, k, i, f) ∧ f.isStatic = true ∧ k.statics = some a ∧ H[a]? = some cell ∧ cell.vm.isStatics = true ∧ cell.cls = c ∧ f.slot < cell.slots.size ∧ k.staticTypes[f.slot]? = some f.type ∧ cell.slots[f.slot]? = some v ∧ (v = .null ∨ ∃ t, v = .ref t) ∧ ¬ A a
theorem nx_Z.of {args : Array Value} {s : State} {C n d : String} {A : Nat → Prop} (hl : (Cond.laysStatic C n d).before args s = true) (h : (Cond.isRef (.static C n d)).before args s = true) (hA : ∀ a : Nat, a < s.heap.size → ¬ A a) : nx_Z C n d A s s.heap := by
  obtain ⟨c, k, i, f, a, cell, hc, hi, hst, ha, hcell, hs, hcls, hlt, hty⟩ := Cond.laysStatic_spec hl
  cases hv : (Term.static C n d).eval args s none [] s with
  | none => simp [Cond.before, Cond.holds, Cond.value, hv] at h
  | some w =>
    obtain ⟨-, a', cell', ha', hcell', -, hslot⟩ := Term.static_spec hi hv
    cases ha.symm.trans ha'
    cases hcell.symm.trans hcell'
    refine ⟨c, k, i, f, a, cell, w, hc, hi, hst, ha, hcell, hs, hcls, hlt, hty, hslot, ?_, hA a (Array.getElem?_eq_some_iff.mp hcell).1⟩
    simp only [Cond.before, Cond.holds, Cond.value, hv] at h
    cases w with
    | null => exact Or.inl rfl
    | ref t => exact Or.inr ⟨t, rfl⟩
    | _ => simp at h
theorem nx_Z.moved {C n d : String} {A : Nat → Prop} {u U : State} {H : Heap} (hvm : u.vm.Alike U.vm) (h : nx_Z C n d A u H) : nx_Z C n d A U H := by
  obtain ⟨c, k, i, f, a, cell, v, hc, hi, hst, ha, hcell, hs, hcls, hlt, hty, hr⟩ := h
  obtain ⟨k', hi', he⟩ := State.fieldFound?_setVm hvm hi
  exact ⟨c, k', i, f, a, cell, v, by rw [hvm.findClass]; exact hc, hi', hst, by rw [he]; exact ha, hcell, hs, hcls, hlt, by rw [he]; exact hty, hr⟩
theorem nx_Z.kept {C n d : String} {A : Nat → Prop} {U : State} {H H1 : Heap} (h : nx_Z C n d A U H) (hq : ∀ a : Nat, a < H.size → ¬ A a → H1[a]? = H[a]?) : nx_Z C n d A U H1 := by
  obtain ⟨c, k, i, f, a, cell, v, hc, hi, hst, ha, hcell, hs, hcls, hlt, hty, hr, hv, hA⟩ := h
  exact ⟨c, k, i, f, a, cell, v, hc, hi, hst, ha, by rw [hq a (Array.getElem?_eq_some_iff.mp hcell).1 hA]; exact hcell, hs, hcls, hlt, hty, hr, hv, hA⟩
theorem nx_Z.narrow {C n d : String} {A B : Nat → Prop} {U : State} {H : Heap} (h : nx_Z C n d A U H) (hAB : ∀ q, B q → A q) : nx_Z C n d B U H := by
  obtain ⟨c, k, i, f, a, cell, v, hc, hi, hst, ha, hcell, hs, hcls, hlt, hty, hr, hv, hA⟩ := h
  exact ⟨c, k, i, f, a, cell, v, hc, hi, hst, ha, hcell, hs, hcls, hlt, hty, hr, hv, fun z => hA (hAB a z)⟩
theorem nx_Z.lays {C n d : String} {A : Nat → Prop} {U : State} {args : Array Value} (h : nx_Z C n d A U U.heap) : (Cond.laysStatic C n d).before args U = true := by
  obtain ⟨c, k, i, f, a, cell, v, hc, hi, hst, ha, hcell, hs, hcls, hlt, hty, hr, hv, hA⟩ := h
  simp [Cond.before, Cond.holds, Cond.value, hc, hi, ha, hcell, hst, hs, hcls, hlt, hty]
theorem nx_Z.isRef {C n d : String} {A : Nat → Prop} {U : State} {args : Array Value} (h : nx_Z C n d A U U.heap) : (Cond.isRef (.static C n d)).before args U = true := by
  obtain ⟨c, k, i, f, a, cell, v, hc, hi, hst, ha, hcell, hs, hcls, hlt, hty, hr, hv, hA⟩ := h
  have e : (Term.static C n d).eval args U none [] U = some v := by
    simp [Term.eval, State.fieldNamed?, hi, hst, ha, hcell, hs, hr]
  rcases hv with rfl | ⟨t, rfl⟩ <;> simp [Cond.before, Cond.holds, Cond.value, e]
/-- what a throw needs -/
def nx_ok (A : Nat → Prop) (U : State) (H : Heap) : Prop := (∀ w ∈ nx_A1 ++ nx_A2, nx_dc w = true → va_Nw w U) ∧ nx_Z Bundle.tN "UNASSIGNED_STACK" Bundle.steD A U H ∧ nx_Z Bundle.tN "SUPPRESSED_SENTINEL" Bundle.listD A U H ∧
  ∀ c t, U.vm.findClass "java/lang/IndexOutOfBoundsException" = some c → U.vm.findClass "java/lang/IllegalArgumentException" = some t → U.vm.assignable c t = false
theorem nx_dcw {w : Cond} (h : nx_dc w = true) {s U : State} (hW : s.WarmedH U.vm) (hZ : va_Nw w s) : va_Nw w U := by
  cases w <;> first | exact hZ.warmD hW | exact va_Nw.warmD hW hZ | exact va_Nw.warmC hW hZ | (simp [nx_dc] at h)
theorem nx_ok.moved {A : Nat → Prop} {u U : State} {H : Heap} (hW : u.WarmedH U.vm) (h : nx_ok A u H) : nx_ok A U H :=
  ⟨fun w hw hd => nx_dcw hd hW (h.1 w hw hd), h.2.1.moved hW.alike, h.2.2.1.moved hW.alike, fun c t hc ht => by
    rw [hW.alike.assignable]
    exact h.2.2.2 c t (by rw [← hW.alike.findClass]; exact hc) (by rw [← hW.alike.findClass]; exact ht)⟩
theorem nx_ok.kept {A : Nat → Prop} {U : State} {H H1 : Heap} (h : nx_ok A U H) (hq : ∀ a : Nat, a < H.size → ¬ A a → H1[a]? = H[a]?) : nx_ok A U H1 := ⟨h.1, h.2.1.kept hq, h.2.2.1.kept hq, h.2.2.2⟩
theorem nx_ok.narrow {A B : Nat → Prop} {U : State} {H : Heap} (h : nx_ok A U H) (hAB : ∀ q, B q → A q) : nx_ok B U H := ⟨h.1, h.2.1.narrow hAB, h.2.2.1.narrow hAB, h.2.2.2⟩
/-- the same tables under another frame -/
theorem nx_ok.same {A : Nat → Prop} {u U : State} {H : Heap} (hv : u.vm = U.vm) (h : nx_ok A u H) : nx_ok A U H :=
  ⟨fun w hw hd => (h.1 w hw hd).same (by cases w <;> first | rfl | (simp [nx_dc] at hd)) hv, h.2.1.moved (by rw [hv]; exact Vm.Alike.refl _), h.2.2.1.moved (by rw [hv]; exact Vm.Alike.refl _), fun c t => by rw [← hv]; exact h.2.2.2 c t⟩
theorem nx_on : nx_aw.all (fun w => w.onTables) = true := by decide +kernel
theorem nx_ok.words {A : Nat → Prop} {s U : State} {H : Heap} {args a' : Array Value} (h : nx_ok A s H) (hts : ∀ w ∈ nw_tbl, w.before args s = true) (hv : U.vm = s.vm) (hh : U.heap = H) : ∀ w ∈ nx_A1 ++ nx_A2, w.before a' U = true := by
  intro w hw
  have hU : nx_ok A U U.heap := by rw [hh]; exact h.same hv.symm
  cases hd : nx_dc w with
  | true => exact (hU.1 w hw hd).use (by cases w <;> first | rfl | (simp [nx_dc] at hd))
  | false =>
    cases hs : nx_st w with
    | false =>
      have hm := nx_mem hw hs hd
      exact va_tabs (List.all_eq_true.mp nx_on w (List.mem_filter.mpr ⟨hw, by rw [hs, hd]; rfl⟩)) hv.symm (hts w hm)
    | true =>
      simp only [nx_st, Bool.or_eq_true, decide_eq_true_eq] at hs
      rcases hs with ((rfl | rfl) | rfl) | rfl
      · exact hU.2.1.isRef
      · exact hU.2.2.1.isRef
      · exact hU.2.1.lays
      · exact hU.2.2.1.lays
