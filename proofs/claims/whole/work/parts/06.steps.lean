/-! Pure: how many steps lead from the first i numbers of x to the first j of y; what a row of bit sets says of it. -/
def nw_D (x y : Nat → Nat) : Nat → Nat → Nat
  | 0, j => j
  | i + 1, 0 => i + 1
  | i + 1, j + 1 =>
    if 1 ≤ i ∧ 1 ≤ j ∧ x i = y (j - 1) ∧ x (i - 1) = y j then
      min (min (min (nw_D x y i (j + 1)) (nw_D x y (i + 1) j) + 1) (nw_D x y i j + if x i = y j then 0 else 1)) (nw_D x y (i - 1) (j - 1) + 1)
    else min (min (nw_D x y i (j + 1)) (nw_D x y (i + 1) j) + 1) (nw_D x y i j + if x i = y j then 0 else 1)
  termination_by i j => i + j
theorem nw_D_0 (x y : Nat → Nat) (j : Nat) : nw_D x y 0 j = j := by rw [nw_D]
theorem nw_D_s0 (x y : Nat → Nat) (i : Nat) : nw_D x y (i + 1) 0 = i + 1 := by rw [nw_D]
theorem nw_D_i0 (x y : Nat → Nat) (i : Nat) : nw_D x y i 0 = i := by
  cases i with
  | zero => exact nw_D_0 x y 0
  | succ i => exact nw_D_s0 x y i
/-- the number is at most d just where one of the five roads says so -/
theorem nw_D_le (x y : Nat → Nat) (i j d : Nat) : nw_D x y (i + 1) (j + 1) ≤ d ↔ ((1 ≤ d ∧ nw_D x y i (j + 1) ≤ d - 1) ∨ (1 ≤ d ∧ nw_D x y (i + 1) j ≤ d - 1) ∨ (1 ≤ d ∧ nw_D x y i j ≤ d - 1) ∨ (x i = y j ∧ nw_D x y i j ≤ d) ∨ (1 ≤ d ∧ 1 ≤ i ∧ 1 ≤ j ∧ x i = y (j - 1) ∧ x (i - 1) = y j ∧ nw_D x y (i - 1) (j - 1) ≤ d - 1)) := by
  rw [nw_D]
  by_cases hs : 1 ≤ i ∧ 1 ≤ j ∧ x i = y (j - 1) ∧ x (i - 1) = y j
  · rw [if_pos hs]
    by_cases he : x i = y j
    · rw [if_pos he]
      constructor
      · intro h
        by_cases h1 : nw_D x y i (j + 1) + 1 ≤ d
        · exact Or.inl ⟨by omega, by omega⟩
        · by_cases h2 : nw_D x y (i + 1) j + 1 ≤ d
          · exact Or.inr (Or.inl ⟨by omega, by omega⟩)
          · by_cases h3 : nw_D x y i j ≤ d
            · exact Or.inr (Or.inr (Or.inr (Or.inl ⟨he, h3⟩)))
            · exact Or.inr (Or.inr (Or.inr (Or.inr ⟨by omega, hs.1, hs.2.1, hs.2.2.1, hs.2.2.2, by omega⟩)))
      · intro h
        rcases h with h | h | h | h | h
        · omega
        · omega
        · omega
        · have := h.2; omega
        · have := h.2.2.2.2.2; omega
    · rw [if_neg he]
      constructor
      · intro h
        by_cases h1 : nw_D x y i (j + 1) + 1 ≤ d
        · exact Or.inl ⟨by omega, by omega⟩
        · by_cases h2 : nw_D x y (i + 1) j + 1 ≤ d
          · exact Or.inr (Or.inl ⟨by omega, by omega⟩)
          · by_cases h3 : nw_D x y i j + 1 ≤ d
            · exact Or.inr (Or.inr (Or.inl ⟨by omega, by omega⟩))
            · exact Or.inr (Or.inr (Or.inr (Or.inr ⟨by omega, hs.1, hs.2.1, hs.2.2.1, hs.2.2.2, by omega⟩)))
      · intro h
        rcases h with h | h | h | h | h
        · omega
        · omega
        · omega
        · exact absurd h.1 he
        · have := h.2.2.2.2.2; omega
  · rw [if_neg hs]
    by_cases he : x i = y j
    · rw [if_pos he]
      constructor
      · intro h
        by_cases h1 : nw_D x y i (j + 1) + 1 ≤ d
        · exact Or.inl ⟨by omega, by omega⟩
        · by_cases h2 : nw_D x y (i + 1) j + 1 ≤ d
          · exact Or.inr (Or.inl ⟨by omega, by omega⟩)
          · exact Or.inr (Or.inr (Or.inr (Or.inl ⟨he, by omega⟩)))
      · intro h
        rcases h with h | h | h | h | h
        · omega
        · omega
        · omega
        · have := h.2; omega
        · exact absurd ⟨h.2.1, h.2.2.1, h.2.2.2.1, h.2.2.2.2.1⟩ hs
    · rw [if_neg he]
      constructor
      · intro h
        by_cases h1 : nw_D x y i (j + 1) + 1 ≤ d
        · exact Or.inl ⟨by omega, by omega⟩
        · by_cases h2 : nw_D x y (i + 1) j + 1 ≤ d
          · exact Or.inr (Or.inl ⟨by omega, by omega⟩)
          · exact Or.inr (Or.inr (Or.inl ⟨by omega, by omega⟩))
      · intro h
        rcases h with h | h | h | h | h
        · omega
        · omega
        · omega
        · exact absurd h.1 he
        · exact absurd ⟨h.2.1, h.2.2.1, h.2.2.2.1, h.2.2.2.2.1⟩ hs
/-- one more of x: at most one step more -/
theorem nw_D_up (x y : Nat → Nat) (i j : Nat) : nw_D x y (i + 1) j ≤ nw_D x y i j + 1 := by
  cases j with
  | zero => rw [nw_D_i0, nw_D_i0]; omega
  | succ j => exact (nw_D_le x y i j _).mpr (Or.inl ⟨by omega, by omega⟩)
/-- never fewer steps than the lengths differ by -/
theorem nw_D_gap (x y : Nat → Nat) : ∀ n i j : Nat, i + j < n → i ≤ nw_D x y i j + j ∧ j ≤ nw_D x y i j + i := by
  intro n
  induction n with
  | zero => intro i j h; exact absurd h (Nat.not_lt_zero _)
  | succ n ih =>
    intro i j h
    cases i with
    | zero => rw [nw_D_0]; omega
    | succ i =>
      cases j with
      | zero => rw [nw_D_s0]; omega
      | succ j =>
        have h1 := ih i (j + 1) (by omega)
        have h2 := ih (i + 1) j (by omega)
        have h3 := ih i j (by omega)
        have h4 := ih (i - 1) (j - 1) (by omega)
        have k := (nw_D_le x y i j (nw_D x y (i + 1) (j + 1))).mp (Nat.le_refl _)
        rcases k with k | k | k | k | k
        · omega
        · omega
        · omega
        · have := k.2; omega
        · have := k.2.2.2.2.2; omega
/-- a row that lies beyond b keeps all later rows beyond it -/
theorem nw_D_dead (x y : Nat → Nat) {k b n : Nat} (h : ∀ p, p ≤ n → b < nw_D x y k p) : ∀ k2, k ≤ k2 → ∀ p, p ≤ n → b < nw_D x y k2 p := by
  intro k2 hk
  induction k2 with
  | zero =>
    intro p hp
    have : k = 0 := by omega
    rw [← this]; exact h p hp
  | succ k2 ih =>
    by_cases e : k = k2 + 1
    · rw [← e]; exact h
    · have ih := ih (by omega)
      intro p
      induction p with
      | zero =>
        intro hp
        have := ih 0 (by omega)
        rw [nw_D_i0] at this ⊢
        omega
      | succ p ihp =>
        intro hp
        have h1 := ih (p + 1) hp
        have h2 := ihp (by omega)
        have h3 := ih p (by omega)
        apply Nat.lt_of_not_le
        intro q
        rcases (nw_D_le x y k2 p b).mp q with q | q | q | q | q
        · omega
        · omega
        · omega
        · have := q.2; omega
        · obtain ⟨q1, q2, q3, -, -, q6⟩ := q
          have h4 := ih (p - 1) (by omega)
          have h5 := nw_D_up x y (k2 - 1) (p - 1)
          rw [show k2 - 1 + 1 = k2 by omega] at h5
          omega
theorem nw_D_add (x y : Nat → Nat) (i j : Nat) : nw_D x y i j ≤ i + j := by
  induction i with
  | zero => rw [nw_D_0]; omega
  | succ i ih => have := nw_D_up x y i j; omega
/-- the table's rule -/
theorem nw_D_rec (x y : Nat → Nat) {a b : Nat} (ha : 1 ≤ a) (hb : 1 ≤ b) : nw_D x y a b =
    if 2 ≤ a ∧ 2 ≤ b ∧ x (a - 1) = y (b - 2) ∧ x (a - 2) = y (b - 1) then
      min (min (min (nw_D x y (a - 1) b) (nw_D x y a (b - 1)) + 1) (nw_D x y (a - 1) (b - 1) + if x (a - 1) = y (b - 1) then 0 else 1)) (nw_D x y (a - 2) (b - 2) + 1)
    else min (min (nw_D x y (a - 1) b) (nw_D x y a (b - 1)) + 1) (nw_D x y (a - 1) (b - 1) + if x (a - 1) = y (b - 1) then 0 else 1) := by
  obtain ⟨i, rfl⟩ : ∃ i, a = i + 1 := ⟨a - 1, by omega⟩
  obtain ⟨j, rfl⟩ : ∃ j, b = j + 1 := ⟨b - 1, by omega⟩
  rw [nw_D]
  have e1 : i + 1 - 2 = i - 1 := by omega
  have e2 : j + 1 - 2 = j - 1 := by omega
  simp only [Nat.add_sub_cancel, e1, e2, show (2 ≤ i + 1) = (1 ≤ i) from propext (by omega), show (2 ≤ j + 1) = (1 ≤ j) from propext (by omega)]
