/-! Calls where a pool of rows lies behind the fixed cells. -/
theorem nw_preSP {s : State} {H : Heap} {D : va_G} {cl : List vw_C} {tys tys' : List (ClassId × FieldType)} {X pl wc : va_W} {As : List Value} (hK : va_K D cl tys s) (hP : va_P D cl (X ++ pl) H) (isC isT : List Nat) (hC : isC.map (fun i => X[i]?) = wc.map some) (hT : isT.filterMap (fun i => tys[i]?) = tys') : PreS s H (nw_Pr As D cl tys' (wc ++ pl)) As :=
  ⟨nw_Pr.blind, fun U hU hW => ⟨rfl, by rw [hU]; exact hP.part isC hC, va_K.moved hW.alike (hK.sub isT hT)⟩⟩
theorem nw_preVP {s : State} {H : Heap} {D : va_G} {cl : List vw_C} {tys tys' : List (ClassId × FieldType)} {X pl wc : va_W} {As : List Value} {b q0 ci : Nat} {q : vw_C} {fs : List Value} (hK : va_K D cl tys s) (hP : va_P D cl (X ++ pl) H) (isC isT : List Nat) (hC : isC.map (fun i => X[i]?) = wc.map some) (hT : isT.filterMap (fun i => tys[i]?) = tys') (hc : cl[ci]? = some q) (he : (X ++ pl)[q0]? = some (b, .inr (ci, fs))) : PreV s H q.1 b (nw_Pr (.ref b :: As) D cl tys' (wc ++ pl)) As :=
  ⟨nw_Pr.blind, va_recv hK hP hc he, fun U hU hW => ⟨rfl, by rw [hU]; exact hP.part isC hC, va_K.moved hW.alike (hK.sub isT hT)⟩⟩
theorem nw_prewSP {s : State} {H : Heap} {D : va_G} {cl : List vw_C} {tys tys' : List (ClassId × FieldType)} {X pl wc : va_W} {A : Nat → Prop} {As : List Value} (hK : va_K D cl tys s) (hP : va_P D cl (X ++ pl) H) (hD : va_D A (X ++ pl)) (isC isT : List Nat) (hn : va_nd isC = true) (hC : isC.map (fun i => X[i]?) = wc.map some) (hT : isT.filterMap (fun i => tys[i]?) = tys') : PreS s H (nw_Pw As D cl tys' (wc ++ pl) H.size) As :=
  ⟨nw_Pw.blind, fun U hU hW => ⟨rfl, by rw [hU], by rw [hU]; exact hP.part isC hC, va_K.moved hW.alike (hK.sub isT hT), (hD.part isC hn hC).weaken (fun _ _ _ _ => trivial)⟩⟩
theorem nw_prewVP {s : State} {H : Heap} {D : va_G} {cl : List vw_C} {tys tys' : List (ClassId × FieldType)} {X pl wc : va_W} {A : Nat → Prop} {As : List Value} {b q0 ci : Nat} {q : vw_C} {fs : List Value} (hK : va_K D cl tys s) (hP : va_P D cl (X ++ pl) H) (hD : va_D A (X ++ pl)) (isC isT : List Nat) (hn : va_nd isC = true) (hC : isC.map (fun i => X[i]?) = wc.map some) (hT : isT.filterMap (fun i => tys[i]?) = tys') (hc : cl[ci]? = some q) (he : (X ++ pl)[q0]? = some (b, .inr (ci, fs))) : PreV s H q.1 b (nw_Pw (.ref b :: As) D cl tys' (wc ++ pl) H.size) As :=
  ⟨nw_Pw.blind, va_recv hK hP hc he, (nw_prewSP (As := .ref b :: As) hK hP hD isC isT hn hC hT).2⟩
theorem nw_Psw {D : va_G} {cl : List vw_C} {X a b : va_W} {H : Heap} (h : va_P D cl (X ++ (a ++ b)) H) : va_P D cl (X ++ (b ++ a)) H := by
  rw [← List.append_assoc] at h ⊢
  exact h.swap
theorem nw_Dsw {A : Nat → Prop} {X a b : va_W} (h : va_D A (X ++ (a ++ b))) : va_D A (X ++ (b ++ a)) := by
  rw [← List.append_assoc] at h ⊢
  exact h.swap
/-- the world behind a method that answers with a cell -/
def nw_Br {S : Type} (D : va_G) (cl : List vw_C) (A : Nat → Prop) (W1 : S → va_W) (f : S → Nat) : S → Nat → State → Prop := fun u a t => a = f u ∧ va_P D cl (W1 u) t.heap ∧ va_D A (W1 u)
section NWP
variable {p : Program} {l : Launch} {e : Env} {R : Room} {s : State} {m : MethodId} {args : Array Value} {below : List Frame} {meth : Method} {c : Code} {H : Heap} {locs : List Loc} {cells slots : Nat} {Q : State → Prop}
variable {pc : Nat} {ls : Array Slot} {rest : List Value} {D : va_G} {cl : List vw_C} {A : Nat → Prop} {X pl : va_W} {H0 : Heap}
theorem nw_freeQ {wc : va_W} (hD : va_D A (X ++ pl)) (hS : va_S A H0 H locs) (hA : ∀ q, H0.size ≤ q → A q) (isC : List Nat) (hC : isC.map (fun i => X[i]?) = wc.map some) : ∀ q, va_A wc H.size q → A q := fun q h => by
  rcases h with ⟨k, e, h⟩ | h
  · obtain ⟨i, -, h2⟩ := va_in_of isC hC h
    have hl := (List.getElem?_eq_some_iff.mp h2).1
    exact hD.2 i (q, e) (by rw [List.getElem?_append_left hl]; exact h2)
  · exact hA q (Nat.le_trans hS.1 h)
theorem nw_calliQ {S : Type} {post : Int32 → S → Prop} {W1 : S → va_W} {wc wr : va_W} {mc ms : Nat} {st0 : List Value} {av : Array Value}
    (hP : va_P D cl (X ++ pl) H) (hD : va_D A (X ++ pl)) (hS : va_S A H0 H locs) (hA : ∀ q, H0.size ≤ q → A q) (isC isR : List Nat) (hC : isC.map (fun i => X[i]?) = wc.map some) (hR : isR.map (fun i => X[i]?) = wr.map some) (hn : va_nd isR = true) (hdis : ∀ i ∈ isR, i ∉ isC)
    (hr : va_Run p l e R s m args below meth c H locs cells slots mc ms (F0 m pc ls st0) rest (va_Qi post (nw_B D cl (va_A wc H.size) W1) (va_A wc H.size) av) (va_A wc H.size))
    (kk : ∀ (r : Int32) (u : S) (H1 : Heap) (locs1 : List Loc), post r u → va_P D cl ((wr ++ W1 u) ++ pl) H1 → va_D A ((wr ++ W1 u) ++ pl) → va_S A H0 H1 locs1 → W p l e R s m args below meth c H1 locs1 (cells + mc) (slots + ms) Q (F0 m (pc + 3) ls (.int r :: rest))) : W p l e R s m args below meth c H locs cells slots Q (F0 m pc ls st0) := by
  have hFc := nw_freeQ (wc := wc) hD hS hA isC hC
  refine va_calli hr hS (fun q _ h => hFc q h) hFc (fun r u t H1 locs1 ht hvm hw hB hz1 hk1 hS1 => ?_)
  obtain ⟨hP1, hD1⟩ := hB
  rw [ht] at hP1
  obtain ⟨hP2, hD2⟩ := va_joinQ hP hD isC isR hC hR hn hdis hk1 hFc hP1 hD1
  exact kk r u H1 locs1 hw hP2 hD2 hS1
theorem nw_callrQ {S : Type} {post : S → Prop} {W1 : S → va_W} {f : S → Nat} {wc wr : va_W} {mc ms : Nat} {st0 : List Value} {av : Array Value}
    (hP : va_P D cl (X ++ pl) H) (hD : va_D A (X ++ pl)) (hS : va_S A H0 H locs) (hA : ∀ q, H0.size ≤ q → A q) (isC isR : List Nat) (hC : isC.map (fun i => X[i]?) = wc.map some) (hR : isR.map (fun i => X[i]?) = wr.map some) (hn : va_nd isR = true) (hdis : ∀ i ∈ isR, i ∉ isC)
    (hr : va_Run p l e R s m args below meth c H locs cells slots mc ms (F0 m pc ls st0) rest (va_Qr post (nw_Br D cl (va_A wc H.size) W1 f) (va_A wc H.size) av) (va_A wc H.size))
    (kk : ∀ (r : Nat) (u : S) (H1 : Heap) (locs1 : List Loc), r = f u → va_P D cl ((wr ++ W1 u) ++ pl) H1 → va_D A ((wr ++ W1 u) ++ pl) → va_S A H0 H1 locs1 → W p l e R s m args below meth c H1 locs1 (cells + mc) (slots + ms) Q (F0 m (pc + 3) ls (.ref r :: rest))) : W p l e R s m args below meth c H locs cells slots Q (F0 m pc ls st0) := by
  have hFc := nw_freeQ (wc := wc) hD hS hA isC hC
  refine va_callr hr hS (fun q _ h => hFc q h) hFc (fun u r t H1 locs1 ht hvm hw hB hz1 hk1 hS1 => ?_)
  obtain ⟨hra, hP1, hD1⟩ := hB
  rw [ht] at hP1
  obtain ⟨hP2, hD2⟩ := va_joinQ hP hD isC isR hC hR hn hdis hk1 hFc hP1 hD1
  exact kk r u H1 locs1 hra hP2 hD2 hS1
theorem nw_callvP {S : Type} {post : S → Prop} {W1 P1 : S → va_W} {wc wr : va_W} {mc ms : Nat} {st0 : List Value} {av : Array Value}
    (hP : va_P D cl (X ++ pl) H) (hD : va_D A (X ++ pl)) (hS : va_S A H0 H locs) (hA : ∀ q, H0.size ≤ q → A q) (isC isR : List Nat) (hC : isC.map (fun i => X[i]?) = wc.map some) (hR : isR.map (fun i => X[i]?) = wr.map some) (hn : va_nd isR = true) (hdis : ∀ i ∈ isR, i ∉ isC)
    (hr : va_Run p l e R s m args below meth c H locs cells slots mc ms (F0 m pc ls st0) rest (va_Qv post (nw_B D cl (va_A (wc ++ pl) H.size) (fun u => W1 u ++ P1 u)) (va_A (wc ++ pl) H.size) av) (va_A (wc ++ pl) H.size))
    (kk : ∀ (u : S) (H1 : Heap) (locs1 : List Loc), post u → va_P D cl ((wr ++ W1 u) ++ P1 u) H1 → va_D A ((wr ++ W1 u) ++ P1 u) → va_S A H0 H1 locs1 → W p l e R s m args below meth c H1 locs1 (cells + mc) (slots + ms) Q (F0 m (pc + 3) ls rest)) : W p l e R s m args below meth c H locs cells slots Q (F0 m pc ls st0) := by
  have hFc := va_freeP (cx := wc) hD hS hA isC hC
  refine va_callv hr hS (fun q _ h => hFc q h) hFc (fun u t H1 locs1 ht hvm hw hB hz1 hk1 hS1 => ?_)
  obtain ⟨hP1, hD1⟩ := hB
  rw [ht] at hP1
  obtain ⟨hP2, hD2⟩ := va_joinP hP hD isC isR hC hR hn hdis hk1 hFc hP1 hD1
  exact kk u H1 locs1 hw hP2 hD2 hS1
theorem nw_calliP {S : Type} {post : Int32 → S → Prop} {W1 P1 : S → va_W} {wc wr : va_W} {mc ms : Nat} {st0 : List Value} {av : Array Value}
    (hP : va_P D cl (X ++ pl) H) (hD : va_D A (X ++ pl)) (hS : va_S A H0 H locs) (hA : ∀ q, H0.size ≤ q → A q) (isC isR : List Nat) (hC : isC.map (fun i => X[i]?) = wc.map some) (hR : isR.map (fun i => X[i]?) = wr.map some) (hn : va_nd isR = true) (hdis : ∀ i ∈ isR, i ∉ isC)
    (hr : va_Run p l e R s m args below meth c H locs cells slots mc ms (F0 m pc ls st0) rest (va_Qi post (nw_B D cl (va_A (wc ++ pl) H.size) (fun u => W1 u ++ P1 u)) (va_A (wc ++ pl) H.size) av) (va_A (wc ++ pl) H.size))
    (kk : ∀ (r : Int32) (u : S) (H1 : Heap) (locs1 : List Loc), post r u → va_P D cl ((wr ++ W1 u) ++ P1 u) H1 → va_D A ((wr ++ W1 u) ++ P1 u) → va_S A H0 H1 locs1 → W p l e R s m args below meth c H1 locs1 (cells + mc) (slots + ms) Q (F0 m (pc + 3) ls (.int r :: rest))) : W p l e R s m args below meth c H locs cells slots Q (F0 m pc ls st0) := by
  have hFc := va_freeP (cx := wc) hD hS hA isC hC
  refine va_calli hr hS (fun q _ h => hFc q h) hFc (fun r u t H1 locs1 ht hvm hw hB hz1 hk1 hS1 => ?_)
  obtain ⟨hP1, hD1⟩ := hB
  rw [ht] at hP1
  obtain ⟨hP2, hD2⟩ := va_joinP hP hD isC isR hC hR hn hdis hk1 hFc hP1 hD1
  exact kk r u H1 locs1 hw hP2 hD2 hS1
end NWP
