/-! Rows of a grid: n arrays of w places each, at addresses ry 0, ry 1 .., behind the fixed cells of a world; others pl behind them. -/
def nw_rl (n : Nat) (cA : ClassId) (w : Nat) (ry : Nat → Nat) (M : Nat → Nat → Nat) : va_W := (List.range n).map (fun k => (ry k, nw_al cA w (M k)))
def nw_rb (n : Nat) (cA : ClassId) (w : Nat) (ry : Nat → Nat) (M : Nat → Nat → Nat) : va_W := (List.range n).map (fun k => (ry k, nw_ai cA w (M k)))
theorem nw_mapAt {f : Nat → Nat × va_E} {n k : Nat} (hk : k < n) (X pl : va_W) : (X ++ ((List.range n).map f ++ pl))[X.length + k]? = some (f k) := by
  rw [List.getElem?_append_right (by omega), Nat.add_sub_cancel_left, List.getElem?_append_left (by simpa using hk), List.getElem?_map, List.getElem?_range hk]
  rfl
theorem nw_mapSet {f g : Nat → Nat × va_E} {n k : Nat} {e : Nat × va_E} (hk : k < n) (X pl : va_W) (h1 : g k = e) (h2 : ∀ j, j ≠ k → g j = f j) : (X ++ ((List.range n).map f ++ pl)).set (X.length + k) e = X ++ ((List.range n).map g ++ pl) := by
  rw [List.set_append_right _ _ (by omega), Nat.add_sub_cancel_left, List.set_append_left _ _ (by simpa using hk)]
  congr 2
  apply List.ext_getElem?
  intro j
  by_cases hj : j = k
  · subst hj
    rw [List.getElem?_set_self (by simpa using hk), List.getElem?_map, List.getElem?_range hk]
    simp [h1]
  · rw [List.getElem?_set_ne (Ne.symm hj), List.getElem?_map, List.getElem?_map]
    by_cases hjn : j < n
    · rw [List.getElem?_range hjn]; simp [h2 j hj]
    · rw [List.getElem?_eq_none (by simpa using hjn)]; rfl
theorem nw_rl_at {n k w : Nat} {cA : ClassId} {ry : Nat → Nat} {M : Nat → Nat → Nat} (X pl : va_W) (hk : k < n) : (X ++ (nw_rl n cA w ry M ++ pl))[X.length + k]? = some (ry k, nw_al cA w (M k)) := nw_mapAt hk X pl
theorem nw_rb_at {n k w : Nat} {cA : ClassId} {ry : Nat → Nat} {M : Nat → Nat → Nat} (X pl : va_W) (hk : k < n) : (X ++ (nw_rb n cA w ry M ++ pl))[X.length + k]? = some (ry k, nw_ai cA w (M k)) := nw_mapAt hk X pl
theorem nw_rl_set {n k w : Nat} {cA : ClassId} {ry : Nat → Nat} {M : Nat → Nat → Nat} {r : Nat → Nat} (X pl : va_W) (hk : k < n) : (X ++ (nw_rl n cA w ry M ++ pl)).set (X.length + k) (ry k, nw_al cA w r) = X ++ (nw_rl n cA w ry (va_up M k r) ++ pl) :=
  nw_mapSet hk X pl (by simp only [va_up_self]) (fun j hj => by simp only [va_up_ne _ _ hj])
theorem nw_rb_set {n k w : Nat} {cA : ClassId} {ry : Nat → Nat} {M : Nat → Nat → Nat} {r : Nat → Nat} (X pl : va_W) (hk : k < n) : (X ++ (nw_rb n cA w ry M ++ pl)).set (X.length + k) (ry k, nw_ai cA w r) = X ++ (nw_rb n cA w ry (va_up M k r) ++ pl) :=
  nw_mapSet hk X pl (by simp only [va_up_self]) (fun j hj => by simp only [va_up_ne _ _ hj])
section NWG
variable {p : Program} {l : Launch} {e : Env} {R : Room} {s : State} {m : MethodId} {args : Array Value} {below : List Frame} {meth : Method} {c : Code} {H : Heap} {locs : List Loc} {cells slots : Nat} {Q : State → Prop}
variable {cc : ByteArray} {pc : Nat} {ls : Array Slot} {rest : List Value} {D : va_G} {cl : List vw_C} {A : Nat → Prop} {tys : List (ClassId × FieldType)} {X pl : va_W} {H0 : Heap}
theorem nw_rlld (hexec : p.tables.exec = Jvm.exec) (hb : c.code = cc) (hK : va_K D cl tys s) {n k w d : Nat} {cA : ClassId} {ry : Nat → Nat} {M : Nat → Nat → Nat} (hP : va_P D cl (X ++ (nw_rl n cA w ry M ++ pl)) H) (t0 : Nat) (ht : tys[t0]? = some (cA, .long)) (hk : k < n) (hd : d < w) (hw : w < 2 ^ 31) (hdg : decode cc pc = .ok (.laload, 1))
    (kk : W p l e R s m args below meth c H locs cells slots Q (F0 m (pc + 1) ls (.long (lN (M k d)) :: rest))) : W p l e R s m args below meth c H locs cells slots Q (F0 m pc ls (.int (nI d) :: .ref (ry k) :: rest)) :=
  nw_lald hexec hb hK hP (X.length + k) t0 (nw_rl_at X pl hk) ht hd hw hdg kk
theorem nw_rbld (hexec : p.tables.exec = Jvm.exec) (hb : c.code = cc) (hK : va_K D cl tys s) {n k w d : Nat} {cA : ClassId} {ry : Nat → Nat} {M : Nat → Nat → Nat} (hP : va_P D cl (X ++ (nw_rb n cA w ry M ++ pl)) H) (t0 : Nat) (ht : tys[t0]? = some (cA, .byte)) (hk : k < n) (hd : d < w) (hw : w < 2 ^ 31) (hdg : decode cc pc = .ok (.baload, 1))
    (kk : W p l e R s m args below meth c H locs cells slots Q (F0 m (pc + 1) ls (.int (nI (M k d)) :: rest))) : W p l e R s m args below meth c H locs cells slots Q (F0 m pc ls (.int (nI d) :: .ref (ry k) :: rest)) :=
  nw_bald hexec hb hK hP (X.length + k) t0 (nw_rb_at X pl hk) ht hd hw hdg kk
theorem nw_rlst (hexec : p.tables.exec = Jvm.exec) (hb : c.code = cc) (hK : va_K D cl tys s) {n k w d v : Nat} {cA : ClassId} {ry : Nat → Nat} {M : Nat → Nat → Nat} (hP : va_P D cl (X ++ (nw_rl n cA w ry M ++ pl)) H) (hD : va_D A (X ++ (nw_rl n cA w ry M ++ pl))) (hS : va_S A H0 H locs) (t0 : Nat) (ht : tys[t0]? = some (cA, .long)) (hk : k < n) (hd : d < w) (hw : w < 2 ^ 31) (hdg : decode cc pc = .ok (.lastore, 1))
    (kk : ∀ (H1 : Heap) (locs1 : List Loc), va_P D cl (X ++ (nw_rl n cA w ry (va_up M k (va_up (M k) d v)) ++ pl)) H1 → va_D A (X ++ (nw_rl n cA w ry (va_up M k (va_up (M k) d v)) ++ pl)) → va_S A H0 H1 locs1 → W p l e R s m args below meth c H1 locs1 cells slots Q (F0 m (pc + 1) ls rest)) : W p l e R s m args below meth c H locs cells slots Q (F0 m pc ls (.long (lN v) :: .int (nI d) :: .ref (ry k) :: rest)) := by
  refine nw_last hexec hb hK hP hD hS (X.length + k) t0 (nw_rl_at X pl hk) ht hd hw hdg ?_
  rw [nw_rl_set X pl hk]
  exact kk
/-- calls where a pool lies behind the fixed cells: the callee has none of it -/
theorem nw_callvQ {S : Type} {post : S → Prop} {W1 : S → va_W} {wc wr : va_W} {mc ms : Nat} {st0 : List Value} {av : Array Value}
    (hP : va_P D cl (X ++ pl) H) (hD : va_D A (X ++ pl)) (hS : va_S A H0 H locs) (hA : ∀ q, H0.size ≤ q → A q) (isC isR : List Nat) (hC : isC.map (fun i => X[i]?) = wc.map some) (hR : isR.map (fun i => X[i]?) = wr.map some) (hn : va_nd isR = true) (hdis : ∀ i ∈ isR, i ∉ isC)
    (hr : va_Run p l e R s m args below meth c H locs cells slots mc ms (F0 m pc ls st0) rest (va_Qv post (nw_B D cl (va_A wc H.size) W1) (va_A wc H.size) av) (va_A wc H.size))
    (kk : ∀ (u : S) (H1 : Heap) (locs1 : List Loc), post u → va_P D cl ((wr ++ W1 u) ++ pl) H1 → va_D A ((wr ++ W1 u) ++ pl) → va_S A H0 H1 locs1 → W p l e R s m args below meth c H1 locs1 (cells + mc) (slots + ms) Q (F0 m (pc + 3) ls rest)) : W p l e R s m args below meth c H locs cells slots Q (F0 m pc ls st0) := by
  have hFc : ∀ q, va_A wc H.size q → A q := fun q h => by
    rcases h with ⟨k, e, h⟩ | h
    · obtain ⟨i, -, h2⟩ := va_in_of isC hC h
      have hl := (List.getElem?_eq_some_iff.mp h2).1
      exact hD.2 i (q, e) (by rw [List.getElem?_append_left hl]; exact h2)
    · exact hA q (Nat.le_trans hS.1 h)
  refine va_callv hr hS (fun q _ h => hFc q h) hFc (fun u t H1 locs1 ht hvm hw hB hz1 hk1 hS1 => ?_)
  obtain ⟨hP1, hD1⟩ := hB
  rw [ht] at hP1
  obtain ⟨hP2, hD2⟩ := va_joinQ hP hD isC isR hC hR hn hdis hk1 hFc hP1 hD1
  exact kk u H1 locs1 hw hP2 hD2 hS1
end NWG
