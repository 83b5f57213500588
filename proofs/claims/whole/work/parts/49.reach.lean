/-! Pure: the meter's bit sets. -/
def nw_PL (y : Nat → Nat) (n ch r : Nat) : Prop := r < 2 ^ 60 ∧ ∀ t, r.testBit t = decide (t < n ∧ y t = ch)
def nw_RW (x y : Nat → Nat) (n k d r : Nat) : Prop := r < 2 ^ 61 ∧ ∀ p, p ≤ n → r.testBit p = decide (nw_D x y k p ≤ d)
theorem nw_PL_0 {y : Nat → Nat} {ch : Nat} : nw_PL y 0 ch 0 := ⟨by decide, fun t => by rw [Nat.zero_testBit]; simp⟩
theorem nw_PL_s {y g : Nat → Nat} {p : Nat} (hp : p < 60) (h : ∀ ch, ch < 127 → nw_PL y p ch (g ch)) : ∀ ch, ch < 127 → nw_PL y (p + 1) ch (va_up g (y p) (g (y p) ||| 2 ^ p) ch) := fun ch hc => by
  by_cases e : ch = y p
  · subst e
    rw [va_up_self]
    obtain ⟨h1, h2⟩ := h _ hc
    refine ⟨Nat.or_lt_two_pow h1 (Nat.pow_lt_pow_right (by decide) hp), fun t => ?_⟩
    rw [nw_tb_or, h2 t]
    by_cases e : t = p
    · subst e; simp
    · have : ¬ p = t := fun q => e q.symm
      simp [this, show (t < p + 1) = (t < p) from propext (by omega)]
  · rw [va_up_ne _ _ e]
    obtain ⟨h1, h2⟩ := h ch hc
    refine ⟨h1, fun t => ?_⟩
    rw [h2 t]
    by_cases e2 : t = p
    · subst e2
      have : ¬ y t = ch := fun q => e q.symm
      simp [this]
    · simp [show (t < p + 1) = (t < p) from propext (by omega)]
theorem nw_RW_0 {x y : Nat → Nat} {n d : Nat} (hd : d ≤ 3) : nw_RW x y n 0 d (2 ^ (d + 1) - 1) := by
  refine ⟨?_, fun p hp => ?_⟩
  · have : (2 : Nat) ^ (d + 1) ≤ 2 ^ 4 := Nat.pow_le_pow_right (by decide) (by omega)
    have h2 : (2 : Nat) ^ 4 < 2 ^ 61 := by decide
    omega
  · rw [Nat.testBit_two_pow_sub_one, nw_D_0]
    by_cases h : p ≤ d
    · simp [h, show p < d + 1 by omega]
    · simp [h, show ¬ p < d + 1 by omega]
theorem nw_sl2 {x n : Nat} (h : x < 2 ^ n) : x * 2 ^ 1 < 2 ^ (n + 1) := by
  have e : (2 : Nat) ^ (n + 1) = 2 ^ n * 2 := Nat.pow_succ 2 n
  rw [e]; omega
theorem nw_RW_z {x y : Nat → Nat} {n k r S : Nat} (h : nw_RW x y n k 0 r) (hS : nw_PL y n (x k) S) : nw_RW x y n (k + 1) 0 ((r &&& S) * 2 ^ 1) := by
  refine ⟨nw_sl2 (nw_and_lt hS.1), fun p hp => ?_⟩
  rw [nw_tb2, Nat.testBit_and]
  cases p with
  | zero => rw [nw_D_s0]; simp
  | succ p =>
    rw [Nat.add_sub_cancel, h.2 p (by omega), hS.2 p]
    have := nw_D_le x y k p 0
    by_cases e : nw_D x y (k + 1) (p + 1) ≤ 0
    · rcases this.mp e with ⟨q, -⟩ | ⟨q, -⟩ | ⟨q, -⟩ | ⟨q1, q2⟩ | ⟨q, -⟩
      · omega
      · omega
      · omega
      · simp only [e, decide_true]
        simp [show nw_D x y k p = 0 by omega, show p < n by omega, q1]
      · omega
    · have e2 : ¬ (x k = y p ∧ nw_D x y k p ≤ 0) := fun q => e (this.mpr (Or.inr (Or.inr (Or.inr (Or.inl q)))))
      simp only [e, decide_false]
      by_cases a : nw_D x y k p ≤ 0
      · have b : ¬ y p = x k := fun q => e2 ⟨q.symm, a⟩
        simp [b]
      · simp [show ¬ nw_D x y k p = 0 by omega]
/-- what two that change places reach -/
def nw_SWP (x y : Nat → Nat) (n k d s : Nat) : Prop := s < 2 ^ 62 ∧ ∀ p, p ≤ n → s.testBit p = decide (1 ≤ k ∧ 2 ≤ p ∧ x k = y (p - 2) ∧ x (k - 1) = y (p - 1) ∧ nw_D x y (k - 1) (p - 2) ≤ d)
theorem nw_SWP_0 {x y : Nat → Nat} {n d : Nat} : nw_SWP x y n 0 d 0 := ⟨by decide, fun p hp => by rw [Nat.zero_testBit]; simp⟩
theorem nw_SWP_s {x y : Nat → Nat} {n k d r S La : Nat} (h : nw_RW x y n k d r) (hS : nw_PL y n (x (k + 1)) S) (hL : nw_PL y n (x k) La) : nw_SWP x y n (k + 1) d (((r &&& S) * 2 ^ 1 &&& La) * 2 ^ 1) := by
  refine ⟨Nat.lt_trans (nw_sl2 (nw_and_lt hL.1)) (by decide), fun p hp => ?_⟩
  rw [nw_tb2, Nat.testBit_and, nw_tb2, Nat.testBit_and, hL.2]
  by_cases p2 : 2 ≤ p
  · rw [show p - 1 - 1 = p - 2 by omega, h.2 (p - 2) (by omega), hS.2 (p - 2), Nat.add_sub_cancel]
    simp only [show 1 ≤ p by omega, show 1 ≤ p - 1 by omega, show p - 2 < n by omega, show p - 1 < n by omega, p2, decide_true, Bool.true_and, true_and, show 1 ≤ k + 1 by omega]
    rw [Bool.eq_iff_iff]
    simp only [Bool.and_eq_true, decide_eq_true_eq]
    constructor
    · rintro ⟨⟨a, b⟩, c⟩; exact ⟨b.symm, c.symm, a⟩
    · rintro ⟨b, c, a⟩; exact ⟨⟨a, b.symm⟩, c.symm⟩
  · simp only [p2, false_and, and_false, decide_false]
    by_cases p1 : p = 1
    · subst p1; simp
    · have : p = 0 := by omega
      subst this; simp
theorem nw_RW_s {x y : Nat → Nat} {n k d r1 r2 r3 s S : Nat} (hn : n ≤ 60) (h1 : nw_RW x y n k (d + 1) r1) (h2 : nw_RW x y n k d r2) (h3 : nw_RW x y n (k + 1) d r3) (hS : nw_PL y n (x k) S) (hs : nw_SWP x y n k d s) : nw_RW x y n (k + 1) (d + 1) ((((((r1 &&& S) * 2 ^ 1 ||| r2) ||| r3 * 2 ^ 1) ||| r2 * 2 ^ 1) ||| s) &&& (2 ^ (n + 1) - 1)) := by
  refine ⟨?_, fun p hp => ?_⟩
  · have g1 : (2 : Nat) ^ (n + 1) ≤ 2 ^ 61 := Nat.pow_le_pow_right (by decide) (by omega)
    have g2 : 0 < (2 : Nat) ^ (n + 1) := Nat.pow_pos (by decide)
    exact nw_and_lt (by omega)
  · rw [Nat.testBit_and, Nat.testBit_two_pow_sub_one, Nat.testBit_or, Nat.testBit_or, Nat.testBit_or, Nat.testBit_or, nw_tb2, nw_tb2, nw_tb2, Nat.testBit_and, h2.2 p hp, hs.2 p hp]
    cases p with
    | zero =>
      rw [nw_D_s0, nw_D_i0]
      by_cases a : k ≤ d
      · simp [a]
      · simp [a]
    | succ p =>
      rw [Nat.add_sub_cancel, h1.2 p (by omega), h2.2 p (by omega), h3.2 p (by omega), hS.2 p]
      have key := nw_D_le x y k p (d + 1)
      rw [Nat.add_sub_cancel] at key
      have e1 : (decide (1 ≤ k ∧ 2 ≤ p + 1 ∧ x k = y (p + 1 - 2) ∧ x (k - 1) = y p ∧ nw_D x y (k - 1) (p + 1 - 2) ≤ d)) = decide (1 ≤ k ∧ 1 ≤ p ∧ x k = y (p - 1) ∧ x (k - 1) = y p ∧ nw_D x y (k - 1) (p - 1) ≤ d) := by
        rw [show p + 1 - 2 = p - 1 by omega]
        exact decide_eq_decide.mpr ⟨fun h => ⟨h.1, by omega, h.2.2⟩, fun h => ⟨h.1, by omega, h.2.2⟩⟩
      rw [e1, Bool.eq_iff_iff]
      simp only [Bool.and_eq_true, Bool.or_eq_true, decide_eq_true_eq]
      rw [key]
      constructor
      · rintro ⟨(((⟨-, q1, q2⟩ | q) | ⟨-, q⟩) | ⟨-, q⟩) | q, -⟩
        · exact Or.inr (Or.inr (Or.inr (Or.inl ⟨q2.2.symm, q1⟩)))
        · exact Or.inl ⟨by omega, q⟩
        · exact Or.inr (Or.inl ⟨by omega, q⟩)
        · exact Or.inr (Or.inr (Or.inl ⟨by omega, q⟩))
        · exact Or.inr (Or.inr (Or.inr (Or.inr ⟨by omega, q⟩)))
      · intro q
        refine ⟨?_, by omega⟩
        rcases q with ⟨-, q⟩ | ⟨-, q⟩ | ⟨-, q⟩ | ⟨q1, q2⟩ | ⟨-, q⟩
        · exact Or.inl (Or.inl (Or.inl (Or.inr q)))
        · exact Or.inl (Or.inl (Or.inr ⟨by omega, q⟩))
        · exact Or.inl (Or.inr ⟨by omega, q⟩)
        · exact Or.inl (Or.inl (Or.inl (Or.inl ⟨by omega, q2, by omega, q1.symm⟩)))
        · exact Or.inr q
/-- what stepsTo answers -/
def nw_sr (D most : Nat) : Int32 := if D ≤ most then nI D else -1
theorem nw_iabs {a b : Nat} (ha : a < 2 ^ 30) (hb : b < 2 ^ 30) : (if 0 ≤ nI a - nI b then nI a - nI b else 0 - (nI a - nI b)) = nI (a - b + (b - a)) := by
  have h0 : (0 ≤ nI a - nI b) ↔ b ≤ a := by
    rw [Int32.le_iff_toInt_le, pk_sub_toInt ha hb]
    show (0 : Int) ≤ _ ↔ _
    omega
  by_cases h : b ≤ a
  · rw [if_pos (h0.mpr h), pk_sub h]; congr 1; omega
  · rw [if_neg (fun q => h (h0.mp q))]
    have e : nI a - nI b = -(nI b - nI a) := by rw [Int32.neg_sub]
    rw [e, Int32.sub_neg, Int32.zero_add, pk_sub (by omega)]
    congr 1; omega
/-- the masks -/
theorem nw_lbL {b : Nat} (h : b < 64) : lN 1 <<< ((nI b).toInt64 &&& 63) - lN 1 = lN (2 ^ b - 1) := by
  rw [nw_sh1 h]
  exact lN_sub (Nat.pow_pos (by decide))
theorem nw_swL {r S La : Nat} (hr : r < 2 ^ 61) (hS : S < 2 ^ 60) (hL : La < 2 ^ 60) : (((lN r &&& lN S) <<< ((nI 1).toInt64 &&& 63)) &&& lN La) <<< ((nI 1).toInt64 &&& 63) = lN (((r &&& S) * 2 ^ 1 &&& La) * 2 ^ 1) := by
  have h60 : (2 : Nat) ^ 61 = 2 ^ 60 * 2 := by decide
  have h64 := nw_64
  have g1 : r &&& S < 2 ^ 60 := nw_and_lt hS
  rw [wb_and (by omega) (by omega), wb_shl _ (by decide), wb_and (by omega) (by omega), wb_shl _ (by decide)]
theorem nw_keL {r S : Nat} (hr : r < 2 ^ 61) (hS : S < 2 ^ 60) : (lN r &&& lN S) <<< ((nI 1).toInt64 &&& 63) = lN ((r &&& S) * 2 ^ 1) := by
  have h64 := nw_64
  have h60 : (2 : Nat) ^ 61 = 2 ^ 60 * 2 := by decide
  rw [wb_and (by omega) (by omega), wb_shl _ (by decide)]
theorem nw_exL {a b c d s m : Nat} (ha : a < 2 ^ 64) (hb : b < 2 ^ 64) (hc : c < 2 ^ 64) (hd : d < 2 ^ 64) (hs : s < 2 ^ 64) (hm : m < 2 ^ 64) : ((((lN a ||| lN b) ||| lN c) ||| lN d) ||| lN s) &&& lN m = lN (((((a ||| b) ||| c) ||| d) ||| s) &&& m) := by
  rw [wb_or ha hb, wb_or (Nat.or_lt_two_pow ha hb) hc, wb_or (Nat.or_lt_two_pow (Nat.or_lt_two_pow ha hb) hc) hd, wb_or (Nat.or_lt_two_pow (Nat.or_lt_two_pow (Nat.or_lt_two_pow ha hb) hc) hd) hs, wb_and (Nat.or_lt_two_pow (Nat.or_lt_two_pow (Nat.or_lt_two_pow (Nat.or_lt_two_pow ha hb) hc) hd) hs) hm]
theorem nw_up2 (M : Nat → Nat → Nat) (k : Nat) (R : Nat → Nat) (d v : Nat) : va_up (va_up M k R) k (va_up ((va_up M k R) k) d v) = va_up M k (va_up R d v) := by
  rw [va_up_self]
  funext j
  by_cases e : j = k
  · subst e; rw [va_up_self, va_up_self]
  · rw [va_up_ne _ _ e, va_up_ne _ _ e, va_up_ne _ _ e]
/-- some fixed cells and one row of the grid -/
theorem nw_Prow {D : va_G} {cl : List vw_C} {X pl wc : va_W} {H : Heap} {n k w : Nat} {cA : ClassId} {ry : Nat → Nat} {M : Nat → Nat → Nat} (hP : va_P D cl (X ++ (nw_rl n cA w ry M ++ pl)) H) (isC : List Nat) (hC : isC.map (fun i => X[i]?) = wc.map some) (hk : k < n) : va_P D cl (wc ++ [(ry k, nw_al cA w (M k))]) H := fun j q hj => by
  by_cases h : j < wc.length
  · rw [List.getElem?_append_left h] at hj
    obtain ⟨i, -, h2⟩ := va_in_of isC hC hj
    have hl := (List.getElem?_eq_some_iff.mp h2).1
    exact hP i q (by rw [List.getElem?_append_left hl]; exact h2)
  · rw [List.getElem?_append_right (by omega)] at hj
    have e0 : j - wc.length = 0 := by
      rcases Nat.eq_zero_or_pos (j - wc.length) with e | e
      · exact e
      · rw [List.getElem?_eq_none (by simp; omega)] at hj; cases hj
    rw [e0] at hj
    have e1 : (ry k, nw_al cA w (M k)) = q := by simpa using hj
    rw [← e1]; exact hP (X.length + k) _ (nw_rl_at X pl hk)
