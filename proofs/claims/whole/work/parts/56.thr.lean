/-! Contracts of methods that throw; the bytes of a long from its highest on. -/
def nx_Pw (av : List Value) (D : va_G) (cl : List vw_C) (tys : List (ClassId × FieldType)) (ws : va_W) (sz : Nat) : Array Value → State → Prop := va_Pc av (fun U => U.heap.size = sz ∧ va_P D cl ws U.heap ∧ va_K D cl tys U ∧ va_D (fun _ => True) ws ∧ nx_ok (va_A ws sz) U U.heap)
theorem nx_Pw.blind {av : List Value} {D : va_G} {cl : List vw_C} {tys : List (ClassId × FieldType)} {ws : va_W} {sz : Nat} : FrameBlind (nx_Pw av D cl tys ws sz) := fun a U g mk q => ⟨q.1, q.2.1, q.2.2.1, va_K.moved (u := U) (U := U.calling g mk a) (Vm.Alike.refl U.vm) q.2.2.2.1, q.2.2.2.2.1, nx_ok.same (u := U) (U := U.calling g mk a) (H := U.heap) rfl q.2.2.2.2.2⟩
def nx_Qx (E : String) (D : va_G) (cl : List vw_C) (A : Nat → Prop) (post : va_W) : Array Value → State → Addr → State → Prop := fun _ st q t => (∃ ce : Cell, t.heap[q]? = some ce ∧ ce.vm = .none ∧ t.vm.findClass E = some ce.cls) ∧ va_P D cl post t.heap ∧ va_D A post ∧ va_F A st t
theorem nx_thq {E : String} {D : va_G} {cl : List vw_C} {A : Nat → Prop} {post : va_W} {args : Array Value} {s : State} {H : Heap} {locs : List Loc} (hP : va_P D cl post H) (hD : va_D A post) (hS : va_S A s.heap H locs) :
    ∀ (t : State) (ce : Cell), s.WarmedH t.vm → t.heap[H.size]? = some ce → ce.vm = .none → s.vm.findClass E = some ce.cls → H.size < t.heap.size → (∀ q : Nat, q < H.size → t.heap[q]? = H[q]?) → nx_Qx E D cl A post args s H.size t := fun t ce hW h1 h2 h3 h4 h5 =>
  ⟨⟨ce, h1, h2, by rw [hW.alike.findClass]; exact h3⟩, hP.kept (fun k q hk => h5 _ (hP k q hk).lt), hD, Nat.le_trans hS.1 (Nat.le_of_lt h4), fun q hq hA => (h5 q (Nat.lt_of_lt_of_le hq hS.1)).trans (hS.2.1 q hq hA)⟩
/-- byte k of x, the highest first -/
def nw_bk (x : Int64) (k : Nat) : Nat := nw_by x (56 - 8 * k)
theorem nw_bk_lt (x : Int64) (k : Nat) : nw_bk x k < 256 := nw_by_lt _ _
def nw_bad (b : Nat) : Prop := b ≠ 0 ∧ (b < 33 ∨ 126 < b)
theorem nw_s8 {k : Nat} (h : k ≤ 8) : nI (64 - 8 * k) - nI 8 < 0 ↔ k = 8 := by
  rw [Int32.lt_iff_toInt_lt, pk_sub_toInt (by omega) (by decide)]
  show (_ : Int) < 0 ↔ _
  omega
theorem nw_s8n {k : Nat} (h : k < 8) : nI (64 - 8 * k) - nI 8 = nI (56 - 8 * k) := by
  rw [pk_sub (by omega)]; congr 1; omega
theorem nw_s8d {k : Nat} (h : k < 8) : nI (56 - 8 * k) + Int32.ofInt (-8) = nI (64 - 8 * (k + 1)) - nI 8 := by
  rw [show 64 - 8 * (k + 1) = 56 - 8 * k by omega, Int32.sub_eq_add_neg]
  congr 1
theorem nw_cnt_add (f : Nat → Prop) [DecidablePred f] (m n : Nat) : nw_cnt f (m + n) = nw_cnt f m + nw_cnt (fun j => f (m + j)) n := by
  induction n with
  | zero => rfl
  | succ n ih =>
    show nw_cnt f (m + n) + (if f (m + n) then 1 else 0) = nw_cnt f m + (nw_cnt (fun j => f (m + j)) n + if f (m + n) then 1 else 0)
    rw [ih]; omega
section NWCR
variable {p : Program} {l : Launch} {e : Env} {R : Room} {s : State} {m : MethodId} {args : Array Value} {below : List Frame} {meth : Method} {c : Code} {H : Heap} {locs : List Loc} {cells slots : Nat} {Q : State → Prop}
variable {pc : Nat} {ls : Array Slot} {rest : List Value} {D : va_G} {cl : List vw_C} {A : Nat → Prop} {ws : va_W} {H0 : Heap}
theorem nw_callr {S : Type} {post : S → Prop} {W1 : S → va_W} {f : S → Nat} {wc wr : va_W} {mc ms : Nat} {st0 : List Value} {av : Array Value}
    (hP : va_P D cl ws H) (hD : va_D A ws) (hS : va_S A H0 H locs) (hA : ∀ q, H0.size ≤ q → A q) (isC isR : List Nat) (hC : isC.map (fun i => ws[i]?) = wc.map some) (hR : isR.map (fun i => ws[i]?) = wr.map some) (hn : va_nd isR = true) (hdis : ∀ i ∈ isR, i ∉ isC)
    (hr : va_Run p l e R s m args below meth c H locs cells slots mc ms (F0 m pc ls st0) rest (va_Qr post (nw_Br D cl (va_A wc H.size) W1 f) (va_A wc H.size) av) (va_A wc H.size))
    (kk : ∀ (r : Nat) (u : S) (H1 : Heap) (locs1 : List Loc), r = f u → va_P D cl (wr ++ W1 u) H1 → va_D A (wr ++ W1 u) → va_S A H0 H1 locs1 → W p l e R s m args below meth c H1 locs1 (cells + mc) (slots + ms) Q (F0 m (pc + 3) ls (.ref r :: rest))) : W p l e R s m args below meth c H locs cells slots Q (F0 m pc ls st0) := by
  have hFc := va_free (wc := wc) hD hS hA isC hC
  refine va_callr hr hS (fun q _ h => hFc q h) hFc (fun u r t H1 locs1 ht hvm hw hB hz1 hk1 hS1 => ?_)
  obtain ⟨hra, hP1, hD1⟩ := hB
  rw [ht] at hP1
  obtain ⟨hP2, hD2⟩ := va_join hP hD isC isR hC hR hn hdis hk1 hFc hP1 hD1
  exact kk r u H1 locs1 hra hP2 hD2 hS1
end NWCR
