/-! Exception tables of the law's helpers. -/
def nx_f (h : ExceptionTableEntry) : Nat × Nat × Nat × Nat := (h.startPc, h.endPc, h.handlerPc, h.catchType)
theorem nx_f_eq {x : ExceptionTableEntry} {a b h t : Nat} (hf : nx_f x = (a, b, h, t)) : x.startPc = a ∧ x.endPc = b ∧ x.handlerPc = h ∧ x.catchType = t := by
  simp only [nx_f, Prod.mk.injEq] at hf
  exact hf
theorem nx_cov {x : ExceptionTableEntry} {a b h t pc : Nat} (hf : nx_f x = (a, b, h, t)) (h1 : a ≤ pc) (h2 : pc < b) : covers x pc = true := by
  obtain ⟨e1, e2, -, -⟩ := nx_f_eq hf
  simp [covers, e1, e2, h1, h2]
theorem nx_c1 : Cond.castable "java/lang/IllegalArgumentException" "java/lang/IllegalArgumentException" ∈ nx_A1 ++ nx_A2 := by decide +kernel
theorem nx_c2 : Cond.castable "java/lang/IndexOutOfBoundsException" "java/lang/IndexOutOfBoundsException" ∈ nx_A1 ++ nx_A2 := by decide +kernel
section NXC2
variable {p : Program} {l : Launch} {e : Env} {R : Room} {s : State} {m : MethodId} {args : Array Value} {below : List Frame} {meth : Method} {c : Code} {H : Heap} {locs : List Loc} {cells slots : Nat} {Q : State → Prop}
variable {cc : ByteArray} {pc : Nat} {ls : Array Slot} {rest : List Value} {D : va_G} {cl : List vw_C} {A : Nat → Prop} {H0 : Heap}
/-- the first entry catches -/
theorem nx_catchA (hexec : p.tables.exec = Jvm.exec) (hb : c.code = cc) (hml : c.maxLocals = ls.size) {own C : String} {index n : Nat} {y : MethodName} {bytes : ByteArray} {maxL mc ms : Nat} {ret : Option FieldType} {ws : List Cond} {rm : Room} {Pc : Array Value → State → Prop} {wc post : va_W}
    (hown : s.vm.findClass own = some m.cls) (hok : nx_ok A s H) (cw : CallW R s args own C index y bytes maxL ret ws rm mc ms n) (hM : nx_Thr l y ws rm Pc (nx_Qx "java/lang/IllegalArgumentException" D cl (va_A wc H.size) post) mc ms (va_A wc H.size))
    {b : Addr} {As : List Value} (hp : PreV s H C b Pc As) (hn : As.length = n) {st0 : List Value} (hst : st0 = As.reverse ++ .ref b :: rest) (hW : (rest.map fun v => v.category).sum ≤ 8) (hdg : decode cc pc = .ok (.invokevirtual index, 3)) (hf : cells + mc ≤ R.cells ∧ slots + ms ≤ R.slots)
    (hS : va_S A H0 H locs) (hFc : ∀ q, va_A wc H.size q → A q) {sp ep hp9 ct : Nat} {tl : List (Nat × Nat × Nat × Nat)} (htab : c.exceptionTable.toList.map nx_f = (sp, ep, hp9, ct) :: tl) (h1 : sp ≤ pc) (h2 : pc < ep) (h0 : ct ≠ 0) (hlink : (Cond.classLink own ct "java/lang/IllegalArgumentException").before args s = true)
    (kk : ∀ (q : Nat) (H1 : Heap) (locs1 : List Loc), va_P D cl post H1 → va_D A post → va_S A H0 H1 locs1 → W p l e R s m args below meth c H1 locs1 (cells + mc) (slots + ms) Q (F0 m hp9 ls [.ref q])) : W p l e R s m args below meth c H locs cells slots Q (F0 m pc ls st0) := by
  obtain ⟨x, t9, ht, hfx, -⟩ := List.map_eq_cons_iff.mp htab
  obtain ⟨e1, e2, e3, e4⟩ := nx_f_eq hfx
  refine nx_catch hexec hb hml hown cw hM hp hn hst hW hdg hf hS hFc [] x t9 ht (nx_cov hfx h1 h2) (by rw [e4]; exact h0) (by rw [e4]; exact hlink) ((hok.1 _ nx_c1 rfl).use rfl) (fun y hy => nomatch hy) (fun q H1 locs1 a1 a2 a3 a4 => ?_)
  rw [e3]
  exact kk q H1 locs1 a1 (a2.weaken (fun _ z _ h => hFc _ h)) a4
/-- the second entry catches -/
theorem nx_catchB (hexec : p.tables.exec = Jvm.exec) (hb : c.code = cc) (hml : c.maxLocals = ls.size) {own C : String} {index n : Nat} {y : MethodName} {bytes : ByteArray} {maxL mc ms : Nat} {ret : Option FieldType} {ws : List Cond} {rm : Room} {Pc : Array Value → State → Prop} {wc post : va_W}
    (hown : s.vm.findClass own = some m.cls) (hok : nx_ok A s H) (cw : CallW R s args own C index y bytes maxL ret ws rm mc ms n) (hM : nx_Thr l y ws rm Pc (nx_Qx "java/lang/IndexOutOfBoundsException" D cl (va_A wc H.size) post) mc ms (va_A wc H.size))
    {b : Addr} {As : List Value} (hp : PreV s H C b Pc As) (hn : As.length = n) {st0 : List Value} (hst : st0 = As.reverse ++ .ref b :: rest) (hW : (rest.map fun v => v.category).sum ≤ 8) (hdg : decode cc pc = .ok (.invokevirtual index, 3)) (hf : cells + mc ≤ R.cells ∧ slots + ms ≤ R.slots)
    (hS : va_S A H0 H locs) (hFc : ∀ q, va_A wc H.size q → A q) {sp0 ep0 hp0 ct0 sp ep hp9 ct : Nat} {tl : List (Nat × Nat × Nat × Nat)} (htab : c.exceptionTable.toList.map nx_f = (sp0, ep0, hp0, ct0) :: (sp, ep, hp9, ct) :: tl) (h1 : sp ≤ pc) (h2 : pc < ep) (h00 : ct0 ≠ 0) (hlink0 : (Cond.classLink own ct0 "java/lang/IllegalArgumentException").before args s = true) (h0 : ct ≠ 0) (hlink : (Cond.classLink own ct "java/lang/IndexOutOfBoundsException").before args s = true)
    (kk : ∀ (q : Nat) (H1 : Heap) (locs1 : List Loc), va_P D cl post H1 → va_D A post → va_S A H0 H1 locs1 → W p l e R s m args below meth c H1 locs1 (cells + mc) (slots + ms) Q (F0 m hp9 ls [.ref q])) : W p l e R s m args below meth c H locs cells slots Q (F0 m pc ls st0) := by
  obtain ⟨x0, t0, ht0, hf0, htab1⟩ := List.map_eq_cons_iff.mp htab
  obtain ⟨x, t9, ht, hfx, -⟩ := List.map_eq_cons_iff.mp htab1
  obtain ⟨e1, e2, e3, e4⟩ := nx_f_eq hfx
  obtain ⟨-, -, -, g4⟩ := nx_f_eq hf0
  have hcA : (Cond.castable "java/lang/IllegalArgumentException" "java/lang/IllegalArgumentException").before args s = true := (hok.1 _ nx_c1 rfl).use rfl
  have hcB : (Cond.castable "java/lang/IndexOutOfBoundsException" "java/lang/IndexOutOfBoundsException").before args s = true := (hok.1 _ nx_c2 rfl).use rfl
  obtain ⟨cN, -, wN, -, -⟩ := Cond.castable_spec hcA
  obtain ⟨cE, -, wE, -, -⟩ := Cond.castable_spec hcB
  refine nx_catch hexec hb hml hown cw hM hp hn hst hW hdg hf hS hFc [x0] x t9 (by rw [ht0, ht]; rfl) (nx_cov hfx h1 h2) (by rw [e4]; exact h0) (by rw [e4]; exact hlink) hcB (fun y hy => ?_) (fun q H1 locs1 a1 a2 a3 a4 => ?_)
  · rw [List.mem_singleton.mp hy]
    exact ⟨"java/lang/IllegalArgumentException", cN, cE, by rw [g4]; exact h00, by rw [g4]; exact hlink0, wN, wE, hok.2.2.2 cE cN wE wN⟩
  · rw [e3]
    exact kk q H1 locs1 a1 (a2.weaken (fun _ z _ h => hFc _ h)) a4
end NXC2
abbrev w_Law_type : List Cond := .codeWith y_Law_type b_Law_type 7 (some .int) [(0, 11, 14, 13), (0, 11, 18, 15)] :: nw_tbl
abbrev w_Law_add : List Cond := .codeWith y_Law_add b_Law_add 3 (some .int) [(0, 8, 11, 13), (0, 8, 14, 15)] :: nw_tbl
abbrev w_Law_remove : List Cond := .codeWith y_Law_remove b_Law_remove 3 (some .int) [(0, 8, 11, 13)] :: nw_tbl
abbrev w_Law_near : List Cond := .codeWith y_Law_near b_Law_near 4 (some .int) [(0, 9, 12, 13)] :: nw_tbl
abbrev w_Law_letter : List Cond := .codeWith y_Law_letter b_Law_letter 5 (some .int) [(0, 10, 13, 13)] :: nw_tbl
abbrev w_Law_distance : List Cond := .codeWith y_Law_distance b_Law_distance 4 (some .int) [(0, 9, 12, 13)] :: nw_tbl
theorem nx_GH {y : MethodName} {b : ByteArray} {k : Nat} {r : Option FieldType} {hh : List (Nat × Nat × Nat × Nat)} : GoodIn (.codeWith y b k r hh :: nw_tbl) (.codeWith y b k r hh :: nw_tbl) := fun w hw => by
  refine ⟨hw, ?_⟩
  rcases List.mem_cons.mp hw with e | e
  · rw [e]; exact Or.inl rfl
  · exact nw_good e
