section NWL
variable {p : Program} {l : Launch} {e : Env} {R : Room} {s : State} {m : MethodId} {args : Array Value} {below : List Frame} {meth : Method} {c : Code} {H : Heap} {locs : List Loc} {cells slots : Nat} {Q : State → Prop}
variable {pc nL : Nat} {D : va_G} {cl : List vw_C} {A : Nat → Prop} {H0 : Heap} {σ : Type}
/-- a loop that writes nothing: its head pc; its state σ with an invariant, its locals, a measure that falls -/
theorem nw_loopR (I : σ → Prop) (L : σ → List (Nat × Value)) (μ : σ → Nat)
    (step : ∀ x : σ, I x → (∀ y : σ, I y → μ y < μ x → ∀ ls : Array Slot, lv_has ls nL (L y) → W p l e R s m args below meth c H locs cells slots Q (F0 m pc ls [])) → ∀ ls : Array Slot, lv_has ls nL (L x) → W p l e R s m args below meth c H locs cells slots Q (F0 m pc ls []))
    (x : σ) (h : I x) {ls : Array Slot} (hl : lv_has ls nL (L x)) : W p l e R s m args below meth c H locs cells slots Q (F0 m pc ls []) := by
  have key : ∀ (n : Nat) (x : σ), μ x < n → I x → ∀ ls : Array Slot, lv_has ls nL (L x) → W p l e R s m args below meth c H locs cells slots Q (F0 m pc ls []) := by
    intro n
    induction n with
    | zero => intro x hx; exact absurd hx (Nat.not_lt_zero _)
    | succ n ih => intro x hx hI ls hl; exact step x hI (fun y hy hm => ih y (by omega) hy) ls hl
  exact key (μ x + 1) x (Nat.lt_succ_self _) h ls hl
/-- .. that writes its world -/
theorem nw_loopW (I : σ → Prop) (L : σ → List (Nat × Value)) (Wd : σ → va_W) (μ : σ → Nat)
    (step : ∀ x : σ, I x → (∀ y : σ, I y → μ y < μ x → ∀ (ls : Array Slot) (H : Heap) (locs : List Loc), lv_has ls nL (L y) → va_P D cl (Wd y) H → va_D A (Wd y) → va_S A H0 H locs → W p l e R s m args below meth c H locs cells slots Q (F0 m pc ls [])) →
      ∀ (ls : Array Slot) (H : Heap) (locs : List Loc), lv_has ls nL (L x) → va_P D cl (Wd x) H → va_D A (Wd x) → va_S A H0 H locs → W p l e R s m args below meth c H locs cells slots Q (F0 m pc ls []))
    (x : σ) (h : I x) {ls : Array Slot} (hl : lv_has ls nL (L x)) (hP : va_P D cl (Wd x) H) (hD : va_D A (Wd x)) (hS : va_S A H0 H locs) : W p l e R s m args below meth c H locs cells slots Q (F0 m pc ls []) := by
  have key : ∀ (n : Nat) (x : σ), μ x < n → I x → ∀ (ls : Array Slot) (H : Heap) (locs : List Loc), lv_has ls nL (L x) → va_P D cl (Wd x) H → va_D A (Wd x) → va_S A H0 H locs → W p l e R s m args below meth c H locs cells slots Q (F0 m pc ls []) := by
    intro n
    induction n with
    | zero => intro x hx; exact absurd hx (Nat.not_lt_zero _)
    | succ n ih => intro x hx hI ls H locs hl hP hD hS; exact step x hI (fun y hy hm => ih y (by omega) hy) ls H locs hl hP hD hS
  exact key (μ x + 1) x (Nat.lt_succ_self _) h ls H locs hl hP hD hS
end NWL
