/-! Arrays of bytes that may be -1; how the class shares its room. -/
abbrev nw_aw (cA : ClassId) (n : Nat) (f : Nat → Int32) : va_E := .inl (cA, n, .inl f)
section NWW
variable {p : Program} {l : Launch} {e : Env} {R : Room} {s : State} {m : MethodId} {args : Array Value} {below : List Frame} {meth : Method} {c : Code} {H : Heap} {locs : List Loc} {cells slots : Nat} {Q : State → Prop}
variable {cc : ByteArray} {pc : Nat} {ls : Array Slot} {rest : List Value} {D : va_G} {cl : List vw_C} {A : Nat → Prop} {a : Nat} {tys : List (ClassId × FieldType)} {ws : va_W} {H0 : Heap}
theorem nw_bawd (hexec : p.tables.exec = Jvm.exec) (hb : c.code = cc) (hK : va_K D cl tys s) (hP : va_P D cl ws H) (q0 t0 : Nat) {cA : ClassId} {n k : Nat} {f : Nat → Int32} (ha : ws[q0]? = some (a, nw_aw cA n f)) (ht : tys[t0]? = some (cA, .byte)) (hk : k < n) (hn : n < 2 ^ 31) (hdg : decode cc pc = .ok (.baload, 1))
    (kk : W p l e R s m args below meth c H locs cells slots Q (F0 m (pc + 1) ls (.int (f k) :: rest))) : W p l e R s m args below meth c H locs cells slots Q (F0 m pc ls (.int (nI k) :: .ref a :: rest)) := by
  refine va_bald hexec hb hK hP q0 t0 ha ht (vp_in_nI hk hn) hdg ?_
  rw [nI_clamp (by omega)]
  exact kk
theorem nw_bawst (hexec : p.tables.exec = Jvm.exec) (hb : c.code = cc) (hK : va_K D cl tys s) (hP : va_P D cl ws H) (hD : va_D A ws) (hS : va_S A H0 H locs) (q0 t0 : Nat) {cA : ClassId} {n k : Nat} {v : Int32} {f : Nat → Int32} (ha : ws[q0]? = some (a, nw_aw cA n f)) (ht : tys[t0]? = some (cA, .byte)) (hk : k < n) (hn : n < 2 ^ 31) (hv : v.toInt8.toInt32 = v) (hdg : decode cc pc = .ok (.bastore, 1))
    (kk : ∀ (H1 : Heap) (locs1 : List Loc), va_P D cl (ws.set q0 (a, nw_aw cA n (upd f k v))) H1 → va_D A (ws.set q0 (a, nw_aw cA n (upd f k v))) → va_S A H0 H1 locs1 → W p l e R s m args below meth c H1 locs1 cells slots Q (F0 m (pc + 1) ls rest)) : W p l e R s m args below meth c H locs cells slots Q (F0 m pc ls (.int v :: .int (nI k) :: .ref a :: rest)) := by
  refine va_bast hexec hb hK hP hD hS q0 t0 ha ht (vp_in_nI hk hn) hdg ?_
  rw [nI_clamp (by omega), vp_nar_byte, hv]
  exact kk
end NWW
/-- a distance as the class keeps it -/
def nw_sv (e : Nat) : Int32 := if e ≤ 3 then nI e else -1
theorem nw_sv_y {e : Nat} (h : e ≤ 3) : nw_sv e = nI e := by unfold nw_sv; rw [if_pos h]
theorem nw_sv_n {e : Nat} (h : ¬ e ≤ 3) : nw_sv e = -1 := by unfold nw_sv; rw [if_neg h]
theorem nw_sr_E {D n L ms : Nat} (hms : ms ≤ 3) (hn : 1 ≤ n) (hL : 1 ≤ L) : nw_sr D (min ms (min n L - 1)) = nw_sv (nw_E D n L ms) := by
  unfold nw_sr nw_E
  by_cases h : D ≤ ms ∧ D < n ∧ D < L
  · rw [if_pos h, if_pos (by omega), nw_sv_y (by omega)]
  · rw [if_neg h, if_neg (by omega), nw_sv_n (by decide)]
/-- what is left for distance d when the first i words have been looked at -/
def nw_lf (E : Nat → Nat) (N d i : Nat) : Nat := min (nw_cnt (fun j => E j = d) N) (50 - nw_sm (fun d' => nw_cnt (fun j => E j = d') N) d) - min (nw_cnt (fun j => E j = d) i) (50 - nw_sm (fun d' => nw_cnt (fun j => E j = d') N) d)
theorem nw_lf_other {E : Nat → Nat} {N d i : Nat} (h : ¬ E i = d) : nw_lf E N d (i + 1) = nw_lf E N d i := by
  unfold nw_lf; rw [nw_cnt_neg (f := fun j => E j = d) h]
theorem nw_lf_pos {E : Nat → Nat} {N i : Nat} (hi : i < N) : 0 < nw_lf E N (E i) i ↔ nw_T E N (E i) i < 50 := by
  have h1 := nw_cnt_lt (f := fun j => E j = E i) hi rfl
  unfold nw_lf nw_T
  omega
theorem nw_lf_dec {E : Nat → Nat} {N i : Nat} (hi : i < N) (h : 0 < nw_lf E N (E i) i) : nw_lf E N (E i) (i + 1) = nw_lf E N (E i) i - 1 := by
  have h1 := nw_cnt_lt (f := fun j => E j = E i) hi rfl
  have h2 := nw_cnt_pos (f := fun j => E j = E i) (n := i) rfl
  unfold nw_lf at h ⊢
  omega
theorem nw_lf_same {E : Nat → Nat} {N i : Nat} (hi : i < N) (h : ¬ 0 < nw_lf E N (E i) i) : nw_lf E N (E i) (i + 1) = nw_lf E N (E i) i := by
  have h1 := nw_cnt_lt (f := fun j => E j = E i) hi rfl
  have h2 := nw_cnt_pos (f := fun j => E j = E i) (n := i) rfl
  unfold nw_lf at h ⊢
  omega
theorem nw_sm_le {f : Nat → Nat} {b : Nat} (h : ∀ j, f j ≤ b) (d : Nat) : nw_sm f d ≤ d * b := by
  induction d with
  | zero => exact Nat.zero_le _
  | succ d ih =>
    show nw_sm f d + f d ≤ _
    have := h d
    rw [Nat.succ_mul]; omega
theorem nw_b3 : ∀ d, d ≤ 3 → (nI d).toInt8.toInt32 = nI d := by decide +kernel
