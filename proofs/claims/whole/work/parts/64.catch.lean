/-! Calls of methods that throw, caught in the caller; static calls of methods with an exception table. -/
section NXC
variable {p : Program} {l : Launch} {e : Env} {R : Room} {s : State} {m : MethodId} {args : Array Value} {below : List Frame} {meth : Method} {c : Code} {H : Heap} {locs : List Loc} {cells slots : Nat} {Q : State → Prop}
variable {cc : ByteArray} {pc : Nat} {ls : Array Slot} {rest : List Value} {D : va_G} {cl : List vw_C} {A : Nat → Prop} {H0 : Heap}
theorem nx_catch (hexec : p.tables.exec = Jvm.exec) (hb : c.code = cc) (hml : c.maxLocals = ls.size) {own C : String} {index n : Nat} {y : MethodName} {bytes : ByteArray} {maxL mc ms : Nat} {ret : Option FieldType} {ws : List Cond} {rm : Room} {Pc : Array Value → State → Prop} {E : String} {wc post : va_W}
    (hown : s.vm.findClass own = some m.cls) (cw : CallW R s args own C index y bytes maxL ret ws rm mc ms n) (hM : nx_Thr l y ws rm Pc (nx_Qx E D cl (va_A wc H.size) post) mc ms (va_A wc H.size))
    {b : Addr} {As : List Value} (hp : PreV s H C b Pc As) (hn : As.length = n) {st0 : List Value} (hst : st0 = As.reverse ++ .ref b :: rest) (hW : (rest.map fun v => v.category).sum ≤ 8) (hdg : decode cc pc = .ok (.invokevirtual index, 3)) (hf : cells + mc ≤ R.cells ∧ slots + ms ≤ R.slots)
    (hS : va_S A H0 H locs) (hFc : ∀ q, va_A wc H.size q → A q)
    (pre : List ExceptionTableEntry) (x : ExceptionTableEntry) (post9 : List ExceptionTableEntry) (hsplit : c.exceptionTable.toList = pre ++ x :: post9) (hx : covers x pc = true) (h0 : x.catchType ≠ 0) (hlink : (Cond.classLink own x.catchType E).before args s = true) (hcast : (Cond.castable E E).before args s = true)
    (hpass : ∀ y ∈ pre, ∃ (N : String) (cN cE : ClassId), y.catchType ≠ 0 ∧ (Cond.classLink own y.catchType N).before args s = true ∧ s.vm.findClass N = some cN ∧ s.vm.findClass E = some cE ∧ s.vm.assignable cE cN = false)
    (kk : ∀ (q : Nat) (H1 : Heap) (locs1 : List Loc), va_P D cl post H1 → va_D (va_A wc H.size) post → (∀ q : Nat, q < H.size → ¬ va_A wc H.size q → H1[q]? = H[q]?) → va_S A H0 H1 locs1 → W p l e R s m args below meth c H1 locs1 (cells + mc) (slots + ms) Q (F0 m x.handlerPc ls [.ref q])) : W p l e R s m args below meth c H locs cells slots Q (F0 m pc ls st0) := by
  subst hst
  intro T hT X
  obtain ⟨q, st₀, t, T', L, k0, X', hL, e1, e2, ⟨⟨ce, hce, hvn, hcls⟩, hP1, hD1, hz, hk⟩, steps⟩ := nx_callV X hexec hown cw hM (by rw [hT]; exact hp) (g := F0 m pc ls (As.reverse ++ .ref b :: rest)) rfl hn hml.symm rfl (by show 2 * 0 + _ ≤ 8; omega) (by rw [hb]; exact hdg) hf
  rw [k0, hT] at hz hk
  have hpl : e.platform.magicAccessors = ({} : Platform).magicAccessors := by rw [X.admits.platform]
  have hvm0 : s.vm.findClass E = some ce.cls := by
    have h9 := X'.warmed.alike
    rw [e2] at h9
    rw [h9.findClass] at hcls
    exact hcls
  obtain ⟨c1, t1, w1, w2, w3⟩ := Cond.castable_spec hcast
  cases w1.symm.trans hvm0
  cases w2.symm.trans hvm0
  obtain ⟨hend, hk0⟩ := X'.catches_of_link hown h0 hlink hvm0 w3
  have hcellT : T'.heap[q]? = some ce := by rw [e1]; exact hce
  have hobj : ce.vm.isStatics = false := by rw [hvn]; rfl
  have hps : ∀ y ∈ pre, RowPassed e.platform s m.cls pc ce.cls y := fun y hy => by
    obtain ⟨N, cN, cE, a1, a2, a3, a4, a5⟩ := hpass y hy
    obtain ⟨c', hc', hcl⟩ := Cond.classLink_spec hown a2 e.platform hpl
    cases a3.symm.trans hc'
    cases a4.symm.trans hvm0
    exact Or.inr ⟨a1, _, hcl, a5⟩
  obtain ⟨vm', XV, st⟩ := X'.thenCaughtThrough q (g := { F0 m pc ls (As.reverse ++ .ref b :: rest) with stack := rest }) rfl steps hcellT hobj hk0 pre x post9 hsplit hps hx hend
  obtain ⟨t2, a1, b1⟩ := kk q T'.heap (locs ++ L) (by rw [e1]; exact hP1) hD1 (fun z h1 h2 => by rw [e1]; exact hk z h1 h2)
    ⟨Nat.le_trans hS.1 (by rw [e1]; exact hz), fun z h1 h2 => by rw [e1, hk z (Nat.lt_of_lt_of_le h1 hS.1) (fun w => h2 (hFc z w))]; exact hS.2.1 z h1 h2, fun z hz => by
      rcases List.mem_append.mp hz with h | h
      · exact hS.2.2 z h
      · exact hFc _ (hL z h)⟩ (T'.setVm vm') rfl XV
  exact ⟨t2, st.trans a1, b1⟩
theorem nx_callSW {T : State} (X : Stand p l e R s m args below meth c T locs cells slots) (hexec : p.tables.exec = Jvm.exec) {own : String} {index : Nat} {y : MethodName} {bytes : ByteArray} {maxL : Nat} {ret : Option FieldType} {hh : List (Nat × Nat × Nat × Nat)}
    (hown : s.vm.findClass own = some m.cls) (hlink : (Cond.methodLink own index y).before args s = true) (hstat : (Cond.static y).before args s = true) (hinit : (Cond.initialized y.cls).before args s = true)
    (hcode : (Cond.codeWith y bytes maxL ret hh).before args s = true) (hy : y.cls ≠ "java/lang/invoke/MethodHandle" ∧ y.cls ≠ "java/lang/invoke/VarHandle")
    {W : Nat} {Pre : Pt → Array Value → Prop} {Post : Pt → Array Value → Option Value → Pt → Prop} (hK : Back l R p e below s args y 3 W Pre Post)
    {g : JFrame} (hg : g.method = m) (hsize : g.locals.size = c.maxLocals) {argsL rest : List Value} (hlen : ∀ sig, parseMethodDescriptor y.desc = some sig → argsL.length = sig.parameters.length)
    (hstack : g.stack = argsL.reverse ++ rest) (hW : 2 * g.monitorRoom + (rest.map fun v => v.category).sum ≤ W) (hdg : decode c.code g.pc = .ok (.invokestatic index, 3))
    (hpre : ∀ vm₁, s.WarmedH vm₁ → Pre ⟨T.setVm vm₁, locs, cells, slots⟩ argsL.toArray) :
    ∃ (v : Option Value) (vm₁ : Vm) (B : Pt), s.WarmedH vm₁ ∧ Stand p l e R s m args below meth c B.U B.locs B.cells B.slots ∧ Post ⟨T.setVm vm₁, locs, cells, slots⟩ argsL.toArray v B ∧
      ∀ target, Steps p.tables e below (B.U.setTop { g with pc := g.pc + 3, stack := v.toList ++ rest }) target → Steps p.tables e below (T.setTop g) target := by
  obtain ⟨mk, methM, cM, hnamed, hmethM, -, -, -, -, -, -, hsigM⟩ := Cond.codeWith_spec hcode
  have hstatic : methM.isStatic = true := Cond.static_spec hnamed hmethM hstat
  obtain ⟨kP, hkP, -⟩ := className_of_methodNamed hnamed
  have hinitP : kP.init = .initialized := Cond.initialized_spec (findClass_of_methodNamed hnamed) hkP hinit
  obtain ⟨vm₁, X₁, hstep₁⟩ := X.invokestatic hexec hown hlink hnamed hmethM hstatic hkP hinitP hy (g := g) hg (argsL := argsL) (rest := rest) (hlen _ hsigM) hstack hdg
  obtain ⟨v, B, X', hpost, hsteps⟩ := hK m meth c ⟨T.setVm vm₁, locs, cells, slots⟩ { g with stack := rest } (.invokestatic index) mk argsL.toArray X₁ hg hsize hdg hW (X₁.named hnamed) (hpre vm₁ X₁.warmed)
  exact ⟨v, vm₁, B, X₁.warmed, X', hpost, fun target h => hstep₁ _ fun acts => by rw [doInvoke_state]; exact hsteps.trans h⟩
theorem nx_runSW {nL index maxL mc ms n : Nat} {own : String} {y : MethodName} {bytes : ByteArray} {ret : Option FieldType} {hh : List (Nat × Nat × Nat × Nat)} {Ts ws ws' : List Cond} {rm : Room} {Pc : Array Value → State → Prop} {Qc : Array Value → State → Outcome → State → Prop} {free : Addr → Prop} {As : List Value} {g : JFrame} (S : CallFix p m c cc nL s args Ts own) (hM : Met l y ws rm Pc Qc mc ms free)
    (hw : ws = Cond.codeWith y bytes maxL ret hh :: ws') (hG : GoodIn Ts ws) (hrc : rm.cells = mc) (hrs : rm.slots = ms) (hl : (Cond.methodLink own index y).before args s = true) (hstt : (Cond.static y).before args s = true) (hini : (Cond.initialized y.cls).before args s = true)
    (hd : y.cls ≠ "java/lang/invoke/MethodHandle" ∧ y.cls ≠ "java/lang/invoke/VarHandle" ∧ (parseMethodDescriptor y.desc).map (fun d => d.parameters.length) = some n) (hR : rm.frames + 1 ≤ R.frames ∧ 8 + (maxL + 11) + rm.locals ≤ R.locals) (hp : PreS s H Pc As)
    (hg : g.method = m) (hn : As.length = n) (hsize : g.locals.size = nL) (hstack : g.stack = As.reverse ++ rest) (hW : 2 * g.monitorRoom + (rest.map fun v => v.category).sum ≤ 8) (hdg : decode cc g.pc = .ok (.invokestatic index, 3)) (hf : cells + mc ≤ R.cells ∧ slots + ms ≤ R.slots) :
    va_Run p l e R s m args below meth c H locs cells slots mc ms g rest (Qc As.toArray) (free) := by
  obtain ⟨hx, hb, hml, ho, ht⟩ := S
  have hc : Cond.codeWith y bytes maxL ret hh ∈ ws := by rw [hw]; exact List.mem_cons_self
  have hK : Back l R p e below s args y 3 8 (PreOf R mc ms Pc) (PostOf Qc mc ms free) := va_backW (hh := hh) (bytes := bytes) (maxL := maxL) (ret := ret) hM hp.1 hrc hrs hR.1 hR.2 (pay_in ht hG) hc (fun a' U hW => word_at hW (Or.inl (by first | rfl | simp [Cond.onTables, Cond.keeps, Cond.steady])) hini)
  intro T hT X
  obtain ⟨v, vm₁, ⟨U', l2, c2, s2⟩, hW₁, X', ⟨g', mk, t, L, e1, e2, hq, h1, hL, h2, h3⟩, st⟩ := nx_callSW X hx (bytes := bytes) (maxL := maxL) (ret := ret) ho hl hstt hini (ht _ (hG _ hc).1) ⟨hd.1, hd.2.1⟩ hK hg (hsize.trans hml.symm) (argsL := As) (rest := rest) (fun sig h => by
      have h2 := hd.2.2
      rw [h] at h2
      exact hn.trans (Option.some.inj h2).symm) hstack hW (by rw [hb]; exact hdg)
    (fun vm₁ hW₁ => ⟨hf.1, hf.2, hp.2 (T.setVm vm₁) hT hW₁⟩)
  dsimp only [Pt.U, Pt.locs, Pt.cells, Pt.slots] at X' e1 e2 h1 h2 h3 st
  subst h1; subst h2; subst h3
  exact ⟨v, (T.setVm vm₁).calling g' mk As.toArray, t, U', L, hT, X', hL, e1, e2, hq, st⟩
end NXC
theorem nx_prewV {s : State} {H H0 : Heap} {locs : List Loc} {D : va_G} {cl : List vw_C} {tys tys' : List (ClassId × FieldType)} {ws wc : va_W} {A : Nat → Prop} {As : List Value} {b q0 ci : Nat} {q : vw_C} {fs : List Value} (hok : nx_ok A s H) (hFc : ∀ z, va_A wc H.size z → A z) (hK : va_K D cl tys s) (hP : va_P D cl ws H) (hD : va_D A ws) (isC isT : List Nat) (hn : va_nd isC = true) (hC : isC.map (fun i => ws[i]?) = wc.map some) (hT : isT.filterMap (fun i => tys[i]?) = tys') (hc : cl[ci]? = some q) (he : ws[q0]? = some (b, .inr (ci, fs))) : PreV s H q.1 b (nx_Pw (.ref b :: As) D cl tys' wc H.size) As := by
  have h0 := nw_prewS (As := .ref b :: As) hK hP hD isC isT hn hC hT
  exact ⟨nx_Pw.blind, va_recv hK hP hc he, fun U hU hW => ⟨(h0.2 U hU hW).1, (h0.2 U hU hW).2.1, (h0.2 U hU hW).2.2.1, (h0.2 U hU hW).2.2.2.1, (h0.2 U hU hW).2.2.2.2, by rw [hU]; exact (hok.narrow hFc).moved hW⟩⟩
theorem nx_prewS {s : State} {H H0 : Heap} {locs : List Loc} {D : va_G} {cl : List vw_C} {tys tys' : List (ClassId × FieldType)} {ws wc : va_W} {A : Nat → Prop} {As : List Value} (hok : nx_ok A s H) (hFc : ∀ z, va_A wc H.size z → A z) (hK : va_K D cl tys s) (hP : va_P D cl ws H) (hD : va_D A ws) (isC isT : List Nat) (hn : va_nd isC = true) (hC : isC.map (fun i => ws[i]?) = wc.map some) (hT : isT.filterMap (fun i => tys[i]?) = tys') : PreS s H (nx_Pw As D cl tys' wc H.size) As := by
  have h0 := nw_prewS (As := As) hK hP hD isC isT hn hC hT
  exact ⟨nx_Pw.blind, fun U hU hW => ⟨(h0.2 U hU hW).1, (h0.2 U hU hW).2.1, (h0.2 U hU hW).2.2.1, (h0.2 U hU hW).2.2.2.1, (h0.2 U hU hW).2.2.2.2, by rw [hU]; exact (hok.narrow hFc).moved hW⟩⟩
