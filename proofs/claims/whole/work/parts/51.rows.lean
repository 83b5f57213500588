section NWG2
variable {p : Program} {l : Launch} {e : Env} {R : Room} {s : State} {m : MethodId} {args : Array Value} {below : List Frame} {meth : Method} {c : Code} {H : Heap} {locs : List Loc} {cells slots : Nat} {Q : State → Prop}
variable {cc : ByteArray} {pc : Nat} {ls : Array Slot} {rest : List Value} {D : va_G} {cl : List vw_C} {A : Nat → Prop} {tys : List (ClassId × FieldType)} {X pl : va_W} {H0 : Heap}
/-- System.arraycopy into a row of the grid -/
theorem nw_copyrb (hexec : p.tables.exec = Jvm.exec) (hb : c.code = cc) (hml : c.maxLocals = ls.size) {own : String} {index : Nat} (hown : s.vm.findClass own = some m.cls) (hlink : (Cond.methodLink own index arraycopyName).before args s = true) (hnat : (Cond.native arraycopyName).before args s = true) (hstat : (Cond.static arraycopyName).before args s = true) (hini : (Cond.initialized "java/lang/System").before args s = true)
    (hK : va_K D cl tys s) {ng k w : Nat} {cA : ClassId} {ry : Nat → Nat} {M : Nat → Nat → Nat} (hP : va_P D cl (X ++ (nw_rb ng cA w ry M ++ pl)) H) (hD : va_D A (X ++ (nw_rb ng cA w ry M ++ pl))) (hS : va_S A H0 H locs) (q0 t0 t1 : Nat) {a0 : Nat} {c0 : ClassId} {n0 : Nat} {f : Nat → Nat} (ha0 : (X ++ (nw_rb ng cA w ry M ++ pl))[q0]? = some (a0, nw_ai c0 n0 f)) (hk : k < ng) (ht0 : tys[t0]? = some (c0, .byte)) (ht1 : tys[t1]? = some (cA, .byte))
    {sp dp n : Nat} (h4 : sp + n ≤ n0) (h5 : dp + n ≤ w) (hs0 : n0 < 2 ^ 31) (hs1 : w < 2 ^ 31) (hfit : ∀ i, i < n → f (sp + i) < 128)
    (hframes : 1 ≤ R.frames) (hlocals : (rest.map fun v => v.category).sum + 18 ≤ R.locals) (hdg : decode cc pc = .ok (.invokestatic index, 3))
    (kk : ∀ (H1 : Heap) (locs1 : List Loc), va_P D cl (X ++ (nw_rb ng cA w ry (va_up M k (va_cpy f (M k) sp dp n)) ++ pl)) H1 → va_D A (X ++ (nw_rb ng cA w ry (va_up M k (va_cpy f (M k) sp dp n)) ++ pl)) → va_S A H0 H1 locs1 → W p l e R s m args below meth c H1 locs1 cells slots Q (F0 m (pc + 3) ls rest)) : W p l e R s m args below meth c H locs cells slots Q (F0 m pc ls (.int (nI n) :: .int (nI dp) :: .ref (ry k) :: .int (nI sp) :: .ref a0 :: rest)) := by
  refine nw_copyb hexec hb hml hown hlink hnat hstat hini hK hP hD hS q0 (X.length + k) t0 t1 ha0 (nw_rb_at X pl hk) ht0 ht1 h4 h5 hs0 hs1 hfit hframes hlocals hdg ?_
  rw [nw_rb_set X pl hk]
  exact kk
end NWG2
/-- numbers that are kept among the class's rows -/
theorem nw_kp_c {sel : Nat → Prop} [DecidablePred sel] {dd : Nat → Nat} {n c : Nat} {C st RL RD : Nat → Nat} {M : Nat → Nat → Nat} (h : nw_kp sel dd n (fun i k => C (st i + k)) (fun i => st (i + 1) - st i) M RL RD) (hL : ∀ i, i < n + 1 → st (i + 1) - st i ≤ 60) (hc : nw_cnt sel n = c) {d : Nat} (hd : d = dd n) :
    nw_kp sel dd (n + 1) (fun i k => C (st i + k)) (fun i => st (i + 1) - st i) (va_up M c (va_cpy C (M c) (st n) 0 (st (n + 1) - st n))) (va_up RL c (st (n + 1) - st n)) (va_up RD c d) := by
  have hn := hL n (by omega)
  refine nw_kp_yes h (fun i hi => hL i (by omega)) hc (va_up_self _ _ _) ((va_up_self _ _ _).trans hd) (fun k hk => ?_) (fun j hj => va_up_ne _ _ (by omega)) (fun j hj => va_up_ne _ _ (by omega)) (fun j k hj hk => by rw [va_up_ne _ _ (by omega)])
  rw [va_up_self, pk_cpy_in (by omega) (by omega)]
  congr 1
