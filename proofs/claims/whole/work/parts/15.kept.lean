/-! Pure: which words come into the result, in their order; how many of them stand ahead of one. -/
theorem nw_cnt_mono (f : Nat → Prop) [DecidablePred f] {i j : Nat} (h : i ≤ j) : nw_cnt f i ≤ nw_cnt f j := by
  induction j with
  | zero => rw [show i = 0 by omega]; exact Nat.le_refl _
  | succ j ih =>
    by_cases e : i = j + 1
    · rw [e]; exact Nat.le_refl _
    · exact Nat.le_trans (ih (by omega)) (Nat.le_add_right _ _)
theorem nw_cnt_pos {f : Nat → Prop} [DecidablePred f] {n : Nat} (h : f n) : nw_cnt f (n + 1) = nw_cnt f n + 1 := by
  show nw_cnt f n + (if f n then 1 else 0) = _
  rw [if_pos h]
theorem nw_cnt_neg {f : Nat → Prop} [DecidablePred f] {n : Nat} (h : ¬ f n) : nw_cnt f (n + 1) = nw_cnt f n := by
  show nw_cnt f n + (if f n then 1 else 0) = _
  rw [if_neg h]; rfl
theorem nw_cnt_lt {f : Nat → Prop} [DecidablePred f] {i n : Nat} (h : i < n) (hs : f i) : nw_cnt f i < nw_cnt f n := by
  have h1 := nw_cnt_pos hs
  have h2 := nw_cnt_mono f (i := i + 1) (j := n) (by omega)
  omega
theorem nw_cnt_ex {f : Nat → Prop} [DecidablePred f] {n r : Nat} (h : r < nw_cnt f n) : ∃ i, i < n ∧ f i ∧ nw_cnt f i = r := by
  induction n with
  | zero => exact absurd h (Nat.not_lt_zero _)
  | succ n ih =>
    by_cases e : r < nw_cnt f n
    · obtain ⟨i, h1, h2, h3⟩ := ih e
      exact ⟨i, by omega, h2, h3⟩
    · by_cases s : f n
      · rw [nw_cnt_pos s] at h
        exact ⟨n, by omega, s, by omega⟩
      · rw [nw_cnt_neg s] at h
        exact absurd h e
theorem nw_cnt_congr {f g : Nat → Prop} [DecidablePred f] [DecidablePred g] {n : Nat} (h : ∀ i, i < n → (f i ↔ g i)) : nw_cnt f n = nw_cnt g n := by
  induction n with
  | zero => rfl
  | succ n ih =>
    have h1 := ih (fun i hi => h i (by omega))
    by_cases s : f n
    · rw [nw_cnt_pos s, nw_cnt_pos ((h n (by omega)).mp s), h1]
    · rw [nw_cnt_neg s, nw_cnt_neg (fun q => s ((h n (by omega)).mpr q)), h1]
/-- of the first n words those with sel, as long as there is room for 50, lie in the result: their lengths, their distances, their numbers -/
def nw_kp (sel : Nat → Prop) [DecidablePred sel] (dd : Nat → Nat) (n : Nat) (wd : Nat → Nat → Nat) (ln : Nat → Nat) (rs : Nat → Nat → Nat) (RL RD : Nat → Nat) : Prop :=
  ∀ i, i < n → sel i → nw_cnt sel i < 50 → RL (nw_cnt sel i) = ln i ∧ RD (nw_cnt sel i) = dd i ∧ ∀ k, k < ln i → rs (nw_cnt sel i) k = wd i k
theorem nw_kp_0 {sel : Nat → Prop} [DecidablePred sel] {dd : Nat → Nat} {wd : Nat → Nat → Nat} {ln : Nat → Nat} {rs : Nat → Nat → Nat} {RL RD : Nat → Nat} : nw_kp sel dd 0 wd ln rs RL RD := fun i h => absurd h (Nat.not_lt_zero i)
theorem nw_kp_no {sel : Nat → Prop} [DecidablePred sel] {dd : Nat → Nat} {n : Nat} {wd : Nat → Nat → Nat} {ln : Nat → Nat} {rs : Nat → Nat → Nat} {RL RD : Nat → Nat} (h : nw_kp sel dd n wd ln rs RL RD) (hn : ¬ sel n) : nw_kp sel dd (n + 1) wd ln rs RL RD := fun i hi hs hc => by
  by_cases e : i = n
  · rw [e] at hs; exact absurd hs hn
  · exact h i (by omega) hs hc
theorem nw_kp_full {sel : Nat → Prop} [DecidablePred sel] {dd : Nat → Nat} {n : Nat} {wd : Nat → Nat → Nat} {ln : Nat → Nat} {rs : Nat → Nat → Nat} {RL RD : Nat → Nat} (h : nw_kp sel dd n wd ln rs RL RD) (hf : 50 ≤ nw_cnt sel n) : nw_kp sel dd (n + 1) wd ln rs RL RD := fun i hi hs hc => by
  by_cases e : i = n
  · rw [e] at hc; omega
  · exact h i (by omega) hs hc
theorem nw_kp_yes {sel : Nat → Prop} [DecidablePred sel] {dd : Nat → Nat} {n c : Nat} {wd : Nat → Nat → Nat} {ln : Nat → Nat} {rs rs' : Nat → Nat → Nat} {RL RD RL' RD' : Nat → Nat} (h : nw_kp sel dd n wd ln rs RL RD) (hL : ∀ i, i < n → ln i ≤ 60) (hc : nw_cnt sel n = c)
    (h1 : RL' c = ln n) (h2 : RD' c = dd n) (h3 : ∀ k, k < ln n → rs' c k = wd n k) (o1 : ∀ j, j < c → RL' j = RL j) (o2 : ∀ j, j < c → RD' j = RD j) (o3 : ∀ j k, j < c → k < 60 → rs' j k = rs j k) : nw_kp sel dd (n + 1) wd ln rs' RL' RD' := fun i hi hs hcc => by
  by_cases e : i = n
  · rw [e, hc]; exact ⟨h1, h2, h3⟩
  · have hi2 : i < n := by omega
    have hlt := nw_cnt_lt hi2 hs
    obtain ⟨g1, g2, g3⟩ := h i hi2 hs hcc
    refine ⟨by rw [o1 _ (by omega)]; exact g1, by rw [o2 _ (by omega)]; exact g2, fun k hk => ?_⟩
    have := hL i hi2
    rw [o3 _ _ (by omega) (by omega)]; exact g3 k hk
/-- .. of the reference's form of the arrays -/
theorem nw_kp_m {sel : Nat → Prop} [DecidablePred sel] {dd : Nat → Nat} {n c : Nat} {X Ln Y RL RD : Nat → Nat} (h : nw_kp sel dd n (fun i k => X (i * 60 + k)) Ln (fun r k => Y (r * 60 + k)) RL RD) (hL : ∀ i, i < n + 1 → Ln i ≤ 60) (hc : nw_cnt sel n = c) {d : Nat} (hd : d = dd n) :
    nw_kp sel dd (n + 1) (fun i k => X (i * 60 + k)) Ln (fun r k => va_cpy X Y (n * 60) (c * 60) (Ln n) (r * 60 + k)) (va_up RL c (Ln n)) (va_up RD c d) := by
  have hn := hL n (by omega)
  refine nw_kp_yes h (fun i hi => hL i (by omega)) hc (va_up_self _ _ _) ((va_up_self _ _ _).trans hd) (fun k hk => ?_) (fun j hj => va_up_ne _ _ (by omega)) (fun j hj => va_up_ne _ _ (by omega)) (fun j k hj hk => ?_)
  · show va_cpy X Y (n * 60) (c * 60) (Ln n) (c * 60 + k) = X (n * 60 + k)
    rw [pk_cpy_in (by omega) (by omega)]
    congr 1; omega
  · exact pk_cpy_out (by omega)
theorem nw_cpy_lt {f g : Nat → Nat} {sp dp n : Nat} (hf : ∀ j, f j < 128) (hg : ∀ j, g j < 128) : ∀ j, va_cpy f g sp dp n j < 128 := fun j => by
  by_cases e : dp ≤ j ∧ j < dp + n
  · rw [pk_cpy_in e.1 e.2]; exact hf _
  · rw [pk_cpy_out (by omega)]; exact hg _
