section
/-! Pure: rows of characters (numbers), their order; no machine here. -/
/-- what both sides answer when they compare a row a of la numbers with a row b of lb numbers, from place k on, f places ahead -/
def nw_cmp (a b : Nat → Nat) (la lb : Nat) : Nat → Nat → Int32
  | 0, _ => nI la - nI lb
  | f + 1, k => if a k = b k then nw_cmp a b la lb f (k + 1) else nI (a k) - nI (b k)
/-- a stands before b -/
def nw_Lt (a : Nat → Nat) (la : Nat) (b : Nat → Nat) (lb : Nat) : Prop := ∃ k, (∀ j, j < k → a j = b j) ∧ k ≤ la ∧ k < lb ∧ (k = la ∨ a k < b k)
/-- one row -/
def nw_Eq (a : Nat → Nat) (la : Nat) (b : Nat → Nat) (lb : Nat) : Prop := la = lb ∧ ∀ j, j < la → a j = b j
theorem nw_Lt.asymm {a b : Nat → Nat} {la lb : Nat} (h : nw_Lt a la b lb) (g : nw_Lt b lb a la) : False := by
  obtain ⟨k, h1, h2, h3, h4⟩ := h
  obtain ⟨j, g1, g2, g3, g4⟩ := g
  rcases Nat.lt_trichotomy k j with x | x | x
  · have := g1 k x
    rcases h4 with h4 | h4 <;> omega
  · subst x
    rcases h4 with h4 | h4 <;> rcases g4 with g4 | g4 <;> omega
  · have := h1 j x
    rcases g4 with g4 | g4 <;> omega
theorem nw_Lt.ne {a b : Nat → Nat} {la lb : Nat} (h : nw_Lt a la b lb) (g : nw_Eq a la b lb) : False := by
  obtain ⟨k, h1, h2, h3, h4⟩ := h
  obtain ⟨g1, g2⟩ := g
  rcases h4 with h4 | h4
  · omega
  · have := g2 k (by omega)
    omega
theorem nw_Lt.trans {a b c : Nat → Nat} {la lb lc : Nat} (h : nw_Lt a la b lb) (g : nw_Lt b lb c lc) : nw_Lt a la c lc := by
  obtain ⟨k, h1, h2, h3, h4⟩ := h
  obtain ⟨j, g1, g2, g3, g4⟩ := g
  rcases Nat.lt_trichotomy k j with x | x | x
  · refine ⟨k, fun i hi => ?_, h2, by omega, ?_⟩
    · rw [h1 i hi, g1 i (by omega)]
    · rcases h4 with h4 | h4
      · exact Or.inl h4
      · right; rw [← g1 k x]; exact h4
  · subst x
    refine ⟨k, fun i hi => ?_, h2, g3, ?_⟩
    · rw [h1 i hi, g1 i hi]
    · rcases h4 with h4 | h4
      · exact Or.inl h4
      · rcases g4 with g4 | g4
        · omega
        · right; omega
  · refine ⟨j, fun i hi => ?_, by omega, g3, ?_⟩
    · rw [h1 i (by omega), g1 i hi]
    · rcases g4 with g4 | g4
      · omega
      · right; rw [h1 j x]; exact g4
theorem nw_Lt.eqR {a b c : Nat → Nat} {la lb lc : Nat} (h : nw_Lt a la b lb) (g : nw_Eq b lb c lc) : nw_Lt a la c lc := by
  obtain ⟨k, h1, h2, h3, h4⟩ := h
  obtain ⟨g1, g2⟩ := g
  refine ⟨k, fun i hi => ?_, h2, by omega, ?_⟩
  · rw [h1 i hi, g2 i (by omega)]
  · rcases h4 with h4 | h4
    · exact Or.inl h4
    · right; rw [← g2 k (by omega)]; exact h4
theorem nw_Lt.eqL {a b c : Nat → Nat} {la lb lc : Nat} (h : nw_Eq a la b lb) (g : nw_Lt b lb c lc) : nw_Lt a la c lc := by
  obtain ⟨k, h1, h2, h3, h4⟩ := g
  obtain ⟨g1, g2⟩ := h
  refine ⟨k, fun i hi => ?_, by omega, h3, ?_⟩
  · rw [g2 i (by omega), h1 i hi]
  · rcases h4 with h4 | h4
    · exact Or.inl (by omega)
    · by_cases hk : k = la
      · exact Or.inl hk
      · right; rw [g2 k (by omega)]; exact h4
theorem nw_Eq.symm {a b : Nat → Nat} {la lb : Nat} (h : nw_Eq a la b lb) : nw_Eq b lb a la := ⟨h.1.symm, fun j hj => (h.2 j (by rw [h.1]; exact hj)).symm⟩
/-- what the number says -/
theorem nw_cmp_at {a b : Nat → Nat} {la lb : Nat} (ha : la < 1000) (hb : lb < 1000) (ca : ∀ j, j < la → a j < 1000) (cb : ∀ j, j < lb → b j < 1000) : ∀ (f k : Nat), k + f = min la lb → (∀ j, j < k → a j = b j) →
    ((nw_cmp a b la lb f k < 0 ∧ nw_Lt a la b lb) ∨ (nw_cmp a b la lb f k = 0 ∧ nw_Eq a la b lb) ∨ (0 < nw_cmp a b la lb f k ∧ nw_Lt b lb a la)) := by
  have sgn : ∀ x y : Nat, x < 1000 → y < 1000 → ((nI x - nI y < 0 ↔ x < y) ∧ (nI x - nI y = 0 ↔ x = y) ∧ (0 < nI x - nI y ↔ y < x)) := by
    intro x y hx hy
    have e := pk_sub_toInt (a := x) (b := y) (by omega) (by omega)
    have z : (0 : Int32).toInt = 0 := by decide
    refine ⟨?_, ?_, ?_⟩
    · rw [Int32.lt_iff_toInt_lt, e, z]; omega
    · rw [← Int32.toInt_inj, e, z]; omega
    · rw [Int32.lt_iff_toInt_lt, e, z]; omega
  intro f
  induction f with
  | zero =>
    intro k hk hj
    obtain ⟨s1, s2, s3⟩ := sgn la lb ha hb
    have hk' : k = min la lb := by omega
    show ((nI la - nI lb < 0 ∧ _) ∨ (nI la - nI lb = 0 ∧ _) ∨ (0 < nI la - nI lb ∧ _))
    rw [s1, s2, s3]
    rcases Nat.lt_trichotomy la lb with x | x | x
    · exact Or.inl ⟨x, la, fun j h => hj j (by omega), Nat.le_refl _, x, Or.inl rfl⟩
    · exact Or.inr (Or.inl ⟨x, x, fun j h => hj j (by omega)⟩)
    · exact Or.inr (Or.inr ⟨x, lb, fun j h => (hj j (by omega)).symm, Nat.le_refl _, x, Or.inl rfl⟩)
  | succ f ih =>
    intro k hk hj
    by_cases e : a k = b k
    · have h := ih (k + 1) (by omega) (fun j h => by
        by_cases q : j = k
        · rw [q]; exact e
        · exact hj j (by omega))
      simpa [nw_cmp, e] using h
    · obtain ⟨s1, s2, s3⟩ := sgn (a k) (b k) (ca k (by omega)) (cb k (by omega))
      have e2 : nw_cmp a b la lb (f + 1) k = nI (a k) - nI (b k) := by simp [nw_cmp, e]
      rw [e2, s1, s2, s3]
      rcases Nat.lt_trichotomy (a k) (b k) with x | x | x
      · exact Or.inl ⟨x, k, hj, by omega, by omega, Or.inr x⟩
      · exact absurd x e
      · exact Or.inr (Or.inr ⟨x, k, fun j h => (hj j h).symm, by omega, by omega, Or.inr x⟩)
/-- the number of the whole comparison -/
def nw_cm (a : Nat → Nat) (la : Nat) (b : Nat → Nat) (lb : Nat) : Int32 := nw_cmp a b la lb (min la lb) 0
theorem nw_cm_lt {a b : Nat → Nat} {la lb : Nat} (ha : la < 1000) (hb : lb < 1000) (ca : ∀ j, j < la → a j < 1000) (cb : ∀ j, j < lb → b j < 1000) : nw_cm a la b lb < 0 ↔ nw_Lt a la b lb := by
  rcases nw_cmp_at ha hb ca cb (min la lb) 0 (by omega) (fun j h => absurd h (Nat.not_lt_zero j)) with ⟨h1, h2⟩ | ⟨h1, h2⟩ | ⟨h1, h2⟩
  · exact ⟨fun _ => h2, fun _ => h1⟩
  · refine ⟨fun h => ?_, fun h => (h.ne h2).elim⟩
    unfold nw_cm at h; rw [h1] at h; exact absurd h (by decide)
  · refine ⟨fun h => ?_, fun h => (h.asymm h2).elim⟩
    unfold nw_cm at h
    rw [Int32.lt_iff_toInt_lt] at h h1; omega
theorem nw_cm_eq {a b : Nat → Nat} {la lb : Nat} (ha : la < 1000) (hb : lb < 1000) (ca : ∀ j, j < la → a j < 1000) (cb : ∀ j, j < lb → b j < 1000) : nw_cm a la b lb = 0 ↔ nw_Eq a la b lb := by
  rcases nw_cmp_at ha hb ca cb (min la lb) 0 (by omega) (fun j h => absurd h (Nat.not_lt_zero j)) with ⟨h1, h2⟩ | ⟨h1, h2⟩ | ⟨h1, h2⟩
  · refine ⟨fun h => ?_, fun h => (h2.ne h).elim⟩
    unfold nw_cm at h; rw [h] at h1; exact absurd h1 (by decide)
  · exact ⟨fun _ => h2, fun _ => h1⟩
  · refine ⟨fun h => ?_, fun h => (h2.ne h.symm).elim⟩
    unfold nw_cm at h; rw [h] at h1; exact absurd h1 (by decide)
theorem nw_total {a b : Nat → Nat} {la lb : Nat} (ha : la < 1000) (hb : lb < 1000) (ca : ∀ j, j < la → a j < 1000) (cb : ∀ j, j < lb → b j < 1000) : nw_Lt a la b lb ∨ nw_Eq a la b lb ∨ nw_Lt b lb a la := by
  rcases nw_cmp_at ha hb ca cb (min la lb) 0 (by omega) (fun j h => absurd h (Nat.not_lt_zero j)) with ⟨h1, h2⟩ | ⟨h1, h2⟩ | ⟨h1, h2⟩
  · exact Or.inl h2
  · exact Or.inr (Or.inl h2)
  · exact Or.inr (Or.inr h2)
/-- one step of a comparison -/
theorem nw_cmp_step {a b : Nat → Nat} {la lb k : Nat} (h : k < min la lb) (e : a k = b k) : nw_cmp a b la lb (min la lb - k) k = nw_cmp a b la lb (min la lb - (k + 1)) (k + 1) := by
  obtain ⟨f, hf⟩ : ∃ f, min la lb - k = f + 1 := ⟨min la lb - k - 1, by omega⟩
  rw [hf, show min la lb - (k + 1) = f by omega]
  simp [nw_cmp, e]
theorem nw_cmp_stop {a b : Nat → Nat} {la lb k : Nat} (h : k < min la lb) (e : ¬ a k = b k) : nw_cmp a b la lb (min la lb - k) k = nI (a k) - nI (b k) := by
  obtain ⟨f, hf⟩ : ∃ f, min la lb - k = f + 1 := ⟨min la lb - k - 1, by omega⟩
  rw [hf]
  simp [nw_cmp, e]
theorem nw_cmp_end {a b : Nat → Nat} {la lb k : Nat} (h : min la lb ≤ k) : nw_cmp a b la lb (min la lb - k) k = nI la - nI lb := by
  rw [show min la lb - k = 0 by omega]
  rfl
end
section
/-! Pure: how many steps lead from the first i numbers of x to the first j of y; what a row of bit sets says of it. -/
def nw_D (x y : Nat → Nat) : Nat → Nat → Nat
  | 0, j => j
  | i + 1, 0 => i + 1
  | i + 1, j + 1 =>
    if 1 ≤ i ∧ 1 ≤ j ∧ x i = y (j - 1) ∧ x (i - 1) = y j then
      min (min (min (nw_D x y i (j + 1)) (nw_D x y (i + 1) j) + 1) (nw_D x y i j + if x i = y j then 0 else 1)) (nw_D x y (i - 1) (j - 1) + 1)
    else min (min (nw_D x y i (j + 1)) (nw_D x y (i + 1) j) + 1) (nw_D x y i j + if x i = y j then 0 else 1)
  termination_by i j => i + j
theorem nw_D_0 (x y : Nat → Nat) (j : Nat) : nw_D x y 0 j = j := by rw [nw_D]
theorem nw_D_s0 (x y : Nat → Nat) (i : Nat) : nw_D x y (i + 1) 0 = i + 1 := by rw [nw_D]
theorem nw_D_i0 (x y : Nat → Nat) (i : Nat) : nw_D x y i 0 = i := by
  cases i with
  | zero => exact nw_D_0 x y 0
  | succ i => exact nw_D_s0 x y i
/-- the number is at most d just where one of the five roads says so -/
theorem nw_D_le (x y : Nat → Nat) (i j d : Nat) : nw_D x y (i + 1) (j + 1) ≤ d ↔ ((1 ≤ d ∧ nw_D x y i (j + 1) ≤ d - 1) ∨ (1 ≤ d ∧ nw_D x y (i + 1) j ≤ d - 1) ∨ (1 ≤ d ∧ nw_D x y i j ≤ d - 1) ∨ (x i = y j ∧ nw_D x y i j ≤ d) ∨ (1 ≤ d ∧ 1 ≤ i ∧ 1 ≤ j ∧ x i = y (j - 1) ∧ x (i - 1) = y j ∧ nw_D x y (i - 1) (j - 1) ≤ d - 1)) := by
  rw [nw_D]
  by_cases hs : 1 ≤ i ∧ 1 ≤ j ∧ x i = y (j - 1) ∧ x (i - 1) = y j
  · rw [if_pos hs]
    by_cases he : x i = y j
    · rw [if_pos he]
      constructor
      · intro h
        by_cases h1 : nw_D x y i (j + 1) + 1 ≤ d
        · exact Or.inl ⟨by omega, by omega⟩
        · by_cases h2 : nw_D x y (i + 1) j + 1 ≤ d
          · exact Or.inr (Or.inl ⟨by omega, by omega⟩)
          · by_cases h3 : nw_D x y i j ≤ d
            · exact Or.inr (Or.inr (Or.inr (Or.inl ⟨he, h3⟩)))
            · exact Or.inr (Or.inr (Or.inr (Or.inr ⟨by omega, hs.1, hs.2.1, hs.2.2.1, hs.2.2.2, by omega⟩)))
      · intro h
        rcases h with h | h | h | h | h
        · omega
        · omega
        · omega
        · have := h.2; omega
        · have := h.2.2.2.2.2; omega
    · rw [if_neg he]
      constructor
      · intro h
        by_cases h1 : nw_D x y i (j + 1) + 1 ≤ d
        · exact Or.inl ⟨by omega, by omega⟩
        · by_cases h2 : nw_D x y (i + 1) j + 1 ≤ d
          · exact Or.inr (Or.inl ⟨by omega, by omega⟩)
          · by_cases h3 : nw_D x y i j + 1 ≤ d
            · exact Or.inr (Or.inr (Or.inl ⟨by omega, by omega⟩))
            · exact Or.inr (Or.inr (Or.inr (Or.inr ⟨by omega, hs.1, hs.2.1, hs.2.2.1, hs.2.2.2, by omega⟩)))
      · intro h
        rcases h with h | h | h | h | h
        · omega
        · omega
        · omega
        · exact absurd h.1 he
        · have := h.2.2.2.2.2; omega
  · rw [if_neg hs]
    by_cases he : x i = y j
    · rw [if_pos he]
      constructor
      · intro h
        by_cases h1 : nw_D x y i (j + 1) + 1 ≤ d
        · exact Or.inl ⟨by omega, by omega⟩
        · by_cases h2 : nw_D x y (i + 1) j + 1 ≤ d
          · exact Or.inr (Or.inl ⟨by omega, by omega⟩)
          · exact Or.inr (Or.inr (Or.inr (Or.inl ⟨he, by omega⟩)))
      · intro h
        rcases h with h | h | h | h | h
        · omega
        · omega
        · omega
        · have := h.2; omega
        · exact absurd ⟨h.2.1, h.2.2.1, h.2.2.2.1, h.2.2.2.2.1⟩ hs
    · rw [if_neg he]
      constructor
      · intro h
        by_cases h1 : nw_D x y i (j + 1) + 1 ≤ d
        · exact Or.inl ⟨by omega, by omega⟩
        · by_cases h2 : nw_D x y (i + 1) j + 1 ≤ d
          · exact Or.inr (Or.inl ⟨by omega, by omega⟩)
          · exact Or.inr (Or.inr (Or.inl ⟨by omega, by omega⟩))
      · intro h
        rcases h with h | h | h | h | h
        · omega
        · omega
        · omega
        · exact absurd h.1 he
        · exact absurd ⟨h.2.1, h.2.2.1, h.2.2.2.1, h.2.2.2.2.1⟩ hs
/-- one more of x: at most one step more -/
theorem nw_D_up (x y : Nat → Nat) (i j : Nat) : nw_D x y (i + 1) j ≤ nw_D x y i j + 1 := by
  cases j with
  | zero => rw [nw_D_i0, nw_D_i0]; omega
  | succ j => exact (nw_D_le x y i j _).mpr (Or.inl ⟨by omega, by omega⟩)
/-- never fewer steps than the lengths differ by -/
theorem nw_D_gap (x y : Nat → Nat) : ∀ n i j : Nat, i + j < n → i ≤ nw_D x y i j + j ∧ j ≤ nw_D x y i j + i := by
  intro n
  induction n with
  | zero => intro i j h; exact absurd h (Nat.not_lt_zero _)
  | succ n ih =>
    intro i j h
    cases i with
    | zero => rw [nw_D_0]; omega
    | succ i =>
      cases j with
      | zero => rw [nw_D_s0]; omega
      | succ j =>
        have h1 := ih i (j + 1) (by omega)
        have h2 := ih (i + 1) j (by omega)
        have h3 := ih i j (by omega)
        have h4 := ih (i - 1) (j - 1) (by omega)
        have k := (nw_D_le x y i j (nw_D x y (i + 1) (j + 1))).mp (Nat.le_refl _)
        rcases k with k | k | k | k | k
        · omega
        · omega
        · omega
        · have := k.2; omega
        · have := k.2.2.2.2.2; omega
/-- a row that lies beyond b keeps all later rows beyond it -/
theorem nw_D_dead (x y : Nat → Nat) {k b n : Nat} (h : ∀ p, p ≤ n → b < nw_D x y k p) : ∀ k2, k ≤ k2 → ∀ p, p ≤ n → b < nw_D x y k2 p := by
  intro k2 hk
  induction k2 with
  | zero =>
    intro p hp
    have : k = 0 := by omega
    rw [← this]; exact h p hp
  | succ k2 ih =>
    by_cases e : k = k2 + 1
    · rw [← e]; exact h
    · have ih := ih (by omega)
      intro p
      induction p with
      | zero =>
        intro hp
        have := ih 0 (by omega)
        rw [nw_D_i0] at this ⊢
        omega
      | succ p ihp =>
        intro hp
        have h1 := ih (p + 1) hp
        have h2 := ihp (by omega)
        have h3 := ih p (by omega)
        apply Nat.lt_of_not_le
        intro q
        rcases (nw_D_le x y k2 p b).mp q with q | q | q | q | q
        · omega
        · omega
        · omega
        · have := q.2; omega
        · obtain ⟨q1, q2, q3, -, -, q6⟩ := q
          have h4 := ih (p - 1) (by omega)
          have h5 := nw_D_up x y (k2 - 1) (p - 1)
          rw [show k2 - 1 + 1 = k2 by omega] at h5
          omega
theorem nw_D_add (x y : Nat → Nat) (i j : Nat) : nw_D x y i j ≤ i + j := by
  induction i with
  | zero => rw [nw_D_0]; omega
  | succ i ih => have := nw_D_up x y i j; omega
/-- the table's rule -/
theorem nw_D_rec (x y : Nat → Nat) {a b : Nat} (ha : 1 ≤ a) (hb : 1 ≤ b) : nw_D x y a b =
    if 2 ≤ a ∧ 2 ≤ b ∧ x (a - 1) = y (b - 2) ∧ x (a - 2) = y (b - 1) then
      min (min (min (nw_D x y (a - 1) b) (nw_D x y a (b - 1)) + 1) (nw_D x y (a - 1) (b - 1) + if x (a - 1) = y (b - 1) then 0 else 1)) (nw_D x y (a - 2) (b - 2) + 1)
    else min (min (nw_D x y (a - 1) b) (nw_D x y a (b - 1)) + 1) (nw_D x y (a - 1) (b - 1) + if x (a - 1) = y (b - 1) then 0 else 1) := by
  obtain ⟨i, rfl⟩ : ∃ i, a = i + 1 := ⟨a - 1, by omega⟩
  obtain ⟨j, rfl⟩ : ∃ j, b = j + 1 := ⟨b - 1, by omega⟩
  rw [nw_D]
  have e1 : i + 1 - 2 = i - 1 := by omega
  have e2 : j + 1 - 2 = j - 1 := by omega
  simp only [Nat.add_sub_cancel, e1, e2, show (2 ≤ i + 1) = (1 ≤ i) from propext (by omega), show (2 ≤ j + 1) = (1 ≤ j) from propext (by omega)]
end
section
/-! Pure: does the pattern p (its first j parts) stand for the first i numbers of w; the same by sets of places. 42 is the star, 63 the question mark. -/
def nw_M (p w : Nat → Nat) : Nat → Nat → Bool
  | 0, 0 => true
  | 0, j + 1 => nw_M p w 0 j && decide (p j = 42)
  | _ + 1, 0 => false
  | i + 1, j + 1 => if p j = 42 then nw_M p w (i + 1) j || nw_M p w i (j + 1) else nw_M p w i j && (decide (p j = 63) || decide (p j = w i))
  termination_by i j => i + j
theorem nw_M_00 (p w : Nat → Nat) : nw_M p w 0 0 = true := by rw [nw_M]
theorem nw_M_0s (p w : Nat → Nat) (j : Nat) : nw_M p w 0 (j + 1) = (nw_M p w 0 j && decide (p j = 42)) := by rw [nw_M]
theorem nw_M_s0 (p w : Nat → Nat) (i : Nat) : nw_M p w (i + 1) 0 = false := by rw [nw_M]
theorem nw_M_star {p w : Nat → Nat} {i j : Nat} (h : p j = 42) : nw_M p w (i + 1) (j + 1) = (nw_M p w (i + 1) j || nw_M p w i (j + 1)) := by rw [nw_M, if_pos h]
theorem nw_M_one {p w : Nat → Nat} {i j : Nat} (h : ¬ p j = 42) : nw_M p w (i + 1) (j + 1) = (nw_M p w i j && (decide (p j = 63) || decide (p j = w i))) := by rw [nw_M, if_neg h]
/-- a second star says nothing more -/
theorem nw_M_2 {p w : Nat → Nat} {j : Nat} (h1 : p j = 42) (h2 : p (j + 1) = 42) : ∀ i, nw_M p w i (j + 2) = nw_M p w i (j + 1) := by
  intro i
  induction i with
  | zero => rw [nw_M_0s, h2]; simp
  | succ i ih =>
    rw [nw_M_star h2, ih, nw_M_star h1]
    cases nw_M p w (i + 1) j <;> cases nw_M p w i (j + 1) <;> rfl
/-- the same parts, the same answer -/
theorem nw_M_congr {p q w v : Nat → Nat} {I J : Nat} (hp : ∀ j, j < J → p j = q j) (hw : ∀ i, i < I → w i = v i) : ∀ n i j, i + j < n → i ≤ I → j ≤ J → nw_M p w i j = nw_M q v i j := by
  intro n
  induction n with
  | zero => intro i j h; exact absurd h (Nat.not_lt_zero _)
  | succ n ih =>
    intro i j h hi hj
    cases i with
    | zero =>
      cases j with
      | zero => rw [nw_M_00, nw_M_00]
      | succ j => rw [nw_M_0s, nw_M_0s, ih 0 j (by omega) hi (by omega), hp j (by omega)]
    | succ i =>
      cases j with
      | zero => rw [nw_M_s0, nw_M_s0]
      | succ j =>
        by_cases e : p j = 42
        · have e2 : q j = 42 := by rw [← hp j (by omega)]; exact e
          rw [nw_M_star e, nw_M_star e2, ih (i + 1) j (by omega) hi (by omega), ih i (j + 1) (by omega) (by omega) hj]
        · have e2 : ¬ q j = 42 := by rw [← hp j (by omega)]; exact e
          rw [nw_M_one e, nw_M_one e2, ih i j (by omega) (by omega) (by omega), hp j (by omega), hw i (by omega)]
/-- a part is kept behind kept ones -/
theorem nw_M_keep {p q w : Nat → Nat} {k c : Nat} (h : ∀ i, nw_M p w i k = nw_M q w i c) (e : p k = q c) : ∀ i, nw_M p w i (k + 1) = nw_M q w i (c + 1) := by
  intro i
  induction i with
  | zero => rw [nw_M_0s, nw_M_0s, h 0, e]
  | succ i ih =>
    by_cases s : p k = 42
    · have s2 : q c = 42 := by rw [← e]; exact s
      rw [nw_M_star s, nw_M_star s2, h (i + 1), ih]
    · have s2 : ¬ q c = 42 := by rw [← e]; exact s
      rw [nw_M_one s, nw_M_one s2, h i, e]
/-- no star behind a star -/
def nw_ns (q : Nat → Nat) (L : Nat) : Prop := ∀ t, t + 1 < L → ¬ (q t = 42 ∧ q (t + 1) = 42)
/-- what bit t says of the first i numbers: the place before part t; behind it too, where that is a star -/
def nw_S (q w : Nat → Nat) (L i t : Nat) : Bool := if t < L ∧ q t = 42 then nw_M q w i (t + 1) else nw_M q w i t
theorem nw_M_0no {q w : Nat → Nat} {L : Nat} (hn : nw_ns q L) : ∀ t, t + 2 ≤ L → nw_M q w 0 (t + 2) = false := by
  intro t
  induction t with
  | zero =>
    intro h
    rw [nw_M_0s, nw_M_0s, nw_M_00]
    have := hn 0 (by omega)
    by_cases a : q 0 = 42
    · have b : ¬ q 1 = 42 := fun b => this ⟨a, b⟩
      simp [b]
    · simp [a]
  | succ t ih => intro h; rw [nw_M_0s, ih (by omega)]; rfl
/-- the first set -/
theorem nw_S_0 {q w : Nat → Nat} {L t : Nat} (hn : nw_ns q L) (ht : t ≤ L) : nw_S q w L 0 t = (decide (t = 0) || (decide (t = 1) && (decide (0 < L) && decide (q 0 = 42)))) := by
  unfold nw_S
  rcases Nat.lt_or_ge t 2 with h | h
  · rcases Nat.lt_or_ge t 1 with h1 | h1
    · have e : t = 0 := by omega
      subst e
      by_cases s : 0 < L ∧ q 0 = 42
      · rw [if_pos s, nw_M_0s, nw_M_00, s.2]; rfl
      · rw [if_neg s, nw_M_00]; rfl
    · have e : t = 1 := by omega
      subst e
      by_cases s : 1 < L ∧ q 1 = 42
      · rw [if_pos s, nw_M_0s, nw_M_0s, nw_M_00]
        have : ¬ q 0 = 42 := fun a => hn 0 (by omega) ⟨a, s.2⟩
        simp [this]
      · rw [if_neg s, nw_M_0s, nw_M_00]
        simp [show 0 < L by omega]
  · obtain ⟨u, rfl⟩ : ∃ u, t = u + 2 := ⟨t - 2, by omega⟩
    have e1 : decide (u + 2 = 0) = false := by simp
    have e2 : decide (u + 2 = 1) = false := by simp
    rw [e1, e2]
    by_cases s : u + 2 < L ∧ q (u + 2) = 42
    · rw [if_pos s, nw_M_0s, nw_M_0no hn u (by omega)]; rfl
    · rw [if_neg s, nw_M_0no hn u (by omega)]; rfl
/-- one number more: Z is what is reached ahead of the stars that stand for nothing -/
def nw_Z (q w : Nat → Nat) (L i t : Nat) : Bool := (decide (1 ≤ t) && (nw_S q w L i (t - 1) && (decide (¬ q (t - 1) = 42) && (decide (q (t - 1) = 63) || decide (q (t - 1) = w i))))) || (nw_S q w L i t && (decide (t < L) && decide (q t = 42)))
theorem nw_S_s {q w : Nat → Nat} {L i t : Nat} (hn : nw_ns q L) (ht : t ≤ L) : nw_S q w L (i + 1) t = (nw_Z q w L i t || (decide (1 ≤ t) && (nw_Z q w L i (t - 1) && decide (q (t - 1) = 42)))) := by
  have nostar : ∀ t, ¬ (t < L ∧ q t = 42) → nw_S q w L i t = nw_M q w i t := fun t h => by unfold nw_S; rw [if_neg h]
  have star : ∀ t, (t < L ∧ q t = 42) → nw_S q w L i t = nw_M q w i (t + 1) := fun t h => by unfold nw_S; rw [if_pos h]
  by_cases s : t < L ∧ q t = 42
  · have e0 : nw_S q w L (i + 1) t = nw_M q w (i + 1) (t + 1) := by unfold nw_S; rw [if_pos s]
    rw [e0, nw_M_star s.2]
    cases t with
    | zero =>
      rw [nw_M_s0]
      simp [nw_Z, star 0 s, s.1, s.2]
    | succ u =>
      have ns : ¬ q u = 42 := fun a => hn u (by omega) ⟨a, s.2⟩
      have e1 : nw_S q w L i u = nw_M q w i u := nostar u (fun a => ns a.2)
      rw [nw_M_one ns]
      simp [nw_Z, star (u + 1) s, s.1, s.2, ns, e1]
  · have e0 : nw_S q w L (i + 1) t = nw_M q w (i + 1) t := by unfold nw_S; rw [if_neg s]
    rw [e0]
    cases t with
    | zero =>
      rw [nw_M_s0]
      have z : (decide (0 < L) && decide (q 0 = 42)) = false := by
        by_cases a : 0 < L
        · by_cases b : q 0 = 42
          · exact absurd ⟨a, b⟩ s
          · simp [b]
        · simp [a]
      simp only [nw_Z]
      rw [z]
      simp
    | succ u =>
      have z : (decide (u + 1 < L) && decide (q (u + 1) = 42)) = false := by
        by_cases a : u + 1 < L
        · by_cases b : q (u + 1) = 42
          · exact absurd ⟨a, b⟩ s
          · simp [b]
        · simp [a]
      have hu : u < L := by omega
      by_cases b : q u = 42
      · rw [nw_M_star b]
        have e1 : nw_S q w L i u = nw_M q w i (u + 1) := star u ⟨hu, b⟩
        have zz : nw_Z q w L i u = (nw_M q w (i + 1) u || nw_M q w i (u + 1)) := by
          cases u with
          | zero => rw [nw_M_s0]; simp [nw_Z, e1, hu, b]
          | succ v =>
            have nv : ¬ q v = 42 := fun a => hn v (by omega) ⟨a, b⟩
            have e2 : nw_S q w L i v = nw_M q w i v := nostar v (fun a => nv a.2)
            rw [nw_M_one nv]
            simp [nw_Z, e1, e2, hu, b, nv]
        have zt : nw_Z q w L i (u + 1) = false := by
          simp only [nw_Z]
          rw [z]
          simp [b]
        rw [zt]
        simp [zz, b]
      · rw [nw_M_one b]
        have e1 : nw_S q w L i u = nw_M q w i u := nostar u (fun a => b a.2)
        simp only [nw_Z]
        rw [z]
        simp [e1, b]
theorem nw_bf {b : Bool} : b.toNat = 0 ↔ b = false := by cases b <;> simp
theorem nw_bt {b : Bool} : ¬ b.toNat = 0 ↔ b = true := by cases b <;> simp
theorem nw_b2 (b : Bool) : b.toNat < 2 := by cases b <;> decide
theorem nw_M_r0 (p w : Nat → Nat) {j : Nat} (h : 1 ≤ j) : nw_M p w 0 j = (nw_M p w 0 (j - 1) && decide (p (j - 1) = 42)) := by
  obtain ⟨k, rfl⟩ : ∃ k, j = k + 1 := ⟨j - 1, by omega⟩
  exact nw_M_0s p w k
theorem nw_M_rs {p w : Nat → Nat} {i j : Nat} (h : 1 ≤ j) (hs : p (j - 1) = 42) : nw_M p w (i + 1) j = (nw_M p w (i + 1) (j - 1) || nw_M p w i j) := by
  obtain ⟨k, rfl⟩ : ∃ k, j = k + 1 := ⟨j - 1, by omega⟩
  exact nw_M_star hs
theorem nw_M_rn {p w : Nat → Nat} {i j : Nat} (h : 1 ≤ j) (hs : ¬ p (j - 1) = 42) : nw_M p w (i + 1) j = (nw_M p w i (j - 1) && (decide (p (j - 1) = 63) || decide (p (j - 1) = w i))) := by
  obtain ⟨k, rfl⟩ : ∃ k, j = k + 1 := ⟨j - 1, by omega⟩
  exact nw_M_one hs
theorem nw_zb (b : Bool) : narrow .boolean (.int (nI b.toNat)) = .int (nI b.toNat) := by cases b <;> rfl
end
section
/-! Bits of longs (the wb family of kit/laws/BITS.to-paste, pasted), and our own over them. -/
theorem wb_tb (n : Nat) : (lN n).toBitVec = BitVec.ofNat 64 n := rfl
theorem wb_inj {a b : Int64} (h : a.toBitVec = b.toBitVec) : a = b := Int64.toBitVec_inj.mp h
theorem wb_tn {n : Nat} (h : n < 2 ^ 64) : (lN n).toBitVec.toNat = n := by rw [wb_tb, BitVec.toNat_ofNat, Nat.mod_eq_of_lt h]
theorem wb_of (x : Int64) : ∃ n, n < 2 ^ 64 ∧ x = lN n := ⟨x.toBitVec.toNat, x.toBitVec.isLt, wb_inj (by rw [wb_tb]; simp)⟩
theorem wb_of32 (x : Int32) : ∃ n, n < 2 ^ 32 ∧ x = nI n := ⟨x.toBitVec.toNat, x.toBitVec.isLt, Int32.toBitVec_inj.mp (by show _ = BitVec.ofNat 32 _; simp)⟩
theorem wb_c : ∀ k, k < 64 → ((nI k).toInt64 &&& 63) = lN k := by decide +kernel
theorem wb_cu : ∀ k, k < 64 → ((nI k).toInt64.toUInt64 &&& Int64.toUInt64 63) = UInt64.ofNat k := by decide +kernel
theorem wb_sm : ∀ k, k < 64 → (BitVec.ofNat 64 k).smod 64 = BitVec.ofNat 64 k := by decide +kernel
theorem wb_pw {a b : Nat} (h : a ≤ b) : 2 ^ b = 2 ^ a * 2 ^ (b - a) := by rw [← Nat.pow_add]; congr 1; omega
theorem wb_lt2 {a b : Nat} (h : a < b) : 2 ^ a < 2 ^ b := Nat.pow_lt_pow_right (by decide) h
theorem wb_mod (n : Nat) : lN n = lN (n % 2 ^ 64) := wb_inj (by rw [wb_tb, wb_tb]; apply BitVec.eq_of_toNat_eq; rw [BitVec.toNat_ofNat, BitVec.toNat_ofNat, Nat.mod_mod])
theorem wb_shr {n k : Nat} (hn : n < 2 ^ 64) (hk : k < 64) : ((lN n).toUInt64 >>> ((nI k).toInt64.toUInt64 &&& Int64.toUInt64 63)).toInt64 = lN (n / 2 ^ k) := by
  rw [wb_cu k hk]
  apply wb_inj
  apply BitVec.eq_of_toNat_eq
  show ((lN n).toUInt64 >>> UInt64.ofNat k).toNat = (BitVec.ofNat 64 _).toNat
  have h1 : (UInt64.ofNat k).toNat = k := by
    show (BitVec.ofNat 64 k).toNat = k
    rw [BitVec.toNat_ofNat, Nat.mod_eq_of_lt (by omega)]
  have h2 : (lN n).toUInt64.toNat = n := wb_tn hn
  rw [UInt64.toNat_shiftRight, h1, h2, Nat.mod_eq_of_lt hk, Nat.shiftRight_eq_div_pow, BitVec.toNat_ofNat, Nat.mod_eq_of_lt (Nat.lt_of_le_of_lt (Nat.div_le_self _ _) hn)]
theorem wb_shl (n : Nat) {k : Nat} (hk : k < 64) : lN n <<< ((nI k).toInt64 &&& 63) = lN (n * 2 ^ k) := by
  rw [wb_c k hk]
  apply wb_inj
  rw [Int64.toBitVec_shiftLeft, wb_tb, wb_tb, wb_tb, wb_sm k hk]
  apply BitVec.eq_of_toNat_eq
  rw [BitVec.shiftLeft_eq', BitVec.toNat_shiftLeft, BitVec.toNat_ofNat, BitVec.toNat_ofNat, BitVec.toNat_ofNat, Nat.mod_eq_of_lt (show k < 2 ^ 64 by omega), Nat.shiftLeft_eq, Nat.mul_mod, Nat.mod_mod, ← Nat.mul_mod]
theorem wb_and {a b : Nat} (ha : a < 2 ^ 64) (hb : b < 2 ^ 64) : lN a &&& lN b = lN (a &&& b) := by
  apply wb_inj
  rw [Int64.toBitVec_and, wb_tb, wb_tb, wb_tb]
  apply BitVec.eq_of_toNat_eq
  rw [BitVec.toNat_and, BitVec.toNat_ofNat, BitVec.toNat_ofNat, BitVec.toNat_ofNat, Nat.mod_eq_of_lt ha, Nat.mod_eq_of_lt hb, Nat.mod_eq_of_lt (Nat.and_lt_two_pow _ hb)]
theorem wb_or {a b : Nat} (ha : a < 2 ^ 64) (hb : b < 2 ^ 64) : lN a ||| lN b = lN (a ||| b) := by
  apply wb_inj
  rw [Int64.toBitVec_or, wb_tb, wb_tb, wb_tb]
  apply BitVec.eq_of_toNat_eq
  rw [BitVec.toNat_or, BitVec.toNat_ofNat, BitVec.toNat_ofNat, BitVec.toNat_ofNat, Nat.mod_eq_of_lt ha, Nat.mod_eq_of_lt hb, Nat.mod_eq_of_lt (Nat.or_lt_two_pow ha hb)]
theorem wb_mask {n k : Nat} (hn : n < 2 ^ 64) (hk : k < 64) : lN n &&& lN (2 ^ k - 1) = lN (n % 2 ^ k) := by
  rw [wb_and hn (by have := wb_lt2 hk; omega), Nat.and_two_pow_sub_one_eq_mod]
theorem wb_a1 {n : Nat} (hn : n < 2 ^ 64) : lN n &&& 1 = lN (n % 2) := wb_mask (k := 1) hn (by decide)
theorem wb_bit {n k : Nat} (hn : n < 2 ^ 64) (hk : k < 64) : ((lN n).toUInt64 >>> ((nI k).toInt64.toUInt64 &&& Int64.toUInt64 63)).toInt64 &&& 1 = lN (n / 2 ^ k % 2) := by
  rw [wb_shr hn hk, wb_a1 (Nat.lt_of_le_of_lt (Nat.div_le_self _ _) hn)]
/-- the byte of x that stands sh bits up -/
def nw_by (x : Int64) (sh : Nat) : Nat := x.toBitVec.toNat / 2 ^ sh % 256
theorem nw_by_lt (x : Int64) (sh : Nat) : nw_by x sh < 256 := Nat.mod_lt _ (by decide)
theorem nw_byte (x : Int64) {sh : Nat} (h : sh < 64) : (x.toUInt64 >>> ((nI sh).toInt64.toUInt64 &&& Int64.toUInt64 63)).toInt64.toInt32 &&& nI 255 = nI (nw_by x sh) := by
  obtain ⟨n, hn, rfl⟩ := wb_of x
  unfold nw_by
  rw [wb_shr hn h, lN_i, pk_and _ 8 (by decide), wb_tn hn]
  congr 1
  show (n / 2 ^ sh) % 2 ^ 32 % 2 ^ 8 = n / 2 ^ sh % 256
  omega
end
section
/-! Rows of our own over the kit's: arrays whose contents are numbers (nI of naturals, lN of naturals), contracts of one shape, calls in one line. -/
abbrev nw_ai (cA : ClassId) (n : Nat) (f : Nat → Nat) : va_E := .inl (cA, n, .inl (fun j => nI (f j)))
abbrev nw_al (cA : ClassId) (n : Nat) (f : Nat → Nat) : va_E := .inl (cA, n, .inr (.inl (fun j => lN (f j))))
abbrev nw_ar (cA : ClassId) (n : Nat) (f : Nat → Option Nat) : va_E := .inl (cA, n, .inr (.inr (.inr (.inr f))))
theorem nw_upd (f : Nat → Nat) (k v : Nat) : upd (fun j => nI (f j)) k (nI v) = fun j => nI (va_up f k v j) := by
  funext j
  by_cases h : j = k <;> simp [upd, va_up, h]
theorem nw_updL (f : Nat → Nat) (k v : Nat) : vp_updL (fun j => lN (f j)) k (lN v) = fun j => lN (va_up f k v j) := by
  funext j
  by_cases h : j = k <;> simp [vp_updL, va_up, h]
theorem nw_cpy (f g : Nat → Nat) (sp dp n : Nat) : va_cpy (fun j => nI (f j)) (fun j => nI (g j)) sp dp n = fun j => nI (va_cpy f g sp dp n j) := by
  funext j
  by_cases h : dp ≤ j ∧ j < dp + n <;> simp [va_cpy, h]
theorem nw_nb : ∀ v, v < 128 → (nI v).toInt8.toInt32 = nI v := by decide +kernel
theorem nw_nz : ∀ v, v < 2 → vp_nar .boolean (nI v) = nI v := by decide +kernel
theorem nw_fb : ∀ v, v < 128 → fits .byte (.int (nI v)) = true := by decide +kernel
/-- a contract's start: read only -/
def nw_Pr (av : List Value) (D : va_G) (cl : List vw_C) (tys : List (ClassId × FieldType)) (ws : va_W) : Array Value → State → Prop := va_Pc av (fun U => va_P D cl ws U.heap ∧ va_K D cl tys U)
/-- a contract's start: it may write its world -/
def nw_Pw (av : List Value) (D : va_G) (cl : List vw_C) (tys : List (ClassId × FieldType)) (ws : va_W) (sz : Nat) : Array Value → State → Prop := va_Pc av (fun U => U.heap.size = sz ∧ va_P D cl ws U.heap ∧ va_K D cl tys U ∧ va_D (fun _ => True) ws)
/-- the world behind a method -/
def nw_B {S : Type} (D : va_G) (cl : List vw_C) (A : Nat → Prop) (W1 : S → va_W) : S → State → Prop := fun u t => va_P D cl (W1 u) t.heap ∧ va_D A (W1 u)
theorem nw_Pr.blind {av : List Value} {D : va_G} {cl : List vw_C} {tys : List (ClassId × FieldType)} {ws : va_W} : FrameBlind (nw_Pr av D cl tys ws) := fun a U g mk q => ⟨q.1, q.2.1, va_K.moved (u := U) (U := U.calling g mk a) (Vm.Alike.refl U.vm) q.2.2⟩
theorem nw_Pw.blind {av : List Value} {D : va_G} {cl : List vw_C} {tys : List (ClassId × FieldType)} {ws : va_W} {sz : Nat} : FrameBlind (nw_Pw av D cl tys ws sz) := fun a U g mk q => ⟨q.1, q.2.1, q.2.2.1, va_K.moved (u := U) (U := U.calling g mk a) (Vm.Alike.refl U.vm) q.2.2.2.1, q.2.2.2.2⟩
theorem nw_preS {s : State} {H : Heap} {D : va_G} {cl : List vw_C} {tys tys' : List (ClassId × FieldType)} {ws wc : va_W} {As : List Value} (hK : va_K D cl tys s) (hP : va_P D cl ws H) (isC isT : List Nat) (hC : isC.filterMap (fun i => ws[i]?) = wc) (hT : isT.filterMap (fun i => tys[i]?) = tys') : PreS s H (nw_Pr As D cl tys' wc) As :=
  ⟨nw_Pr.blind, fun U hU hW => ⟨rfl, by rw [hU]; exact hP.sub isC hC, va_K.moved hW.alike (hK.sub isT hT)⟩⟩
theorem nw_preV {s : State} {H : Heap} {D : va_G} {cl : List vw_C} {tys tys' : List (ClassId × FieldType)} {ws wc : va_W} {As : List Value} {b q0 ci : Nat} {q : vw_C} {fs : List Value} (hK : va_K D cl tys s) (hP : va_P D cl ws H) (isC isT : List Nat) (hC : isC.filterMap (fun i => ws[i]?) = wc) (hT : isT.filterMap (fun i => tys[i]?) = tys') (hc : cl[ci]? = some q) (he : ws[q0]? = some (b, .inr (ci, fs))) : PreV s H q.1 b (nw_Pr (.ref b :: As) D cl tys' wc) As :=
  ⟨nw_Pr.blind, va_recv hK hP hc he, fun U hU hW => ⟨rfl, by rw [hU]; exact hP.sub isC hC, va_K.moved hW.alike (hK.sub isT hT)⟩⟩
theorem nw_prewS {s : State} {H : Heap} {D : va_G} {cl : List vw_C} {tys tys' : List (ClassId × FieldType)} {ws wc : va_W} {A : Nat → Prop} {As : List Value} (hK : va_K D cl tys s) (hP : va_P D cl ws H) (hD : va_D A ws) (isC isT : List Nat) (hn : va_nd isC = true) (hC : isC.map (fun i => ws[i]?) = wc.map some) (hT : isT.filterMap (fun i => tys[i]?) = tys') : PreS s H (nw_Pw As D cl tys' wc H.size) As := by
  have hC2 : isC.filterMap (fun i => ws[i]?) = wc := by
    have h1 : (isC.map (fun i => ws[i]?)).filterMap id = isC.filterMap (fun i => ws[i]?) := by rw [List.filterMap_map]; rfl
    rw [← h1, hC, List.filterMap_map]
    exact List.filterMap_some
  exact ⟨nw_Pw.blind, fun U hU hW => ⟨rfl, by rw [hU], by rw [hU]; exact hP.sub isC hC2, va_K.moved hW.alike (hK.sub isT hT), (hD.sub isC hn hC).weaken (fun _ _ _ _ => trivial)⟩⟩
theorem nw_prewV {s : State} {H : Heap} {D : va_G} {cl : List vw_C} {tys tys' : List (ClassId × FieldType)} {ws wc : va_W} {A : Nat → Prop} {As : List Value} {b q0 ci : Nat} {q : vw_C} {fs : List Value} (hK : va_K D cl tys s) (hP : va_P D cl ws H) (hD : va_D A ws) (isC isT : List Nat) (hn : va_nd isC = true) (hC : isC.map (fun i => ws[i]?) = wc.map some) (hT : isT.filterMap (fun i => tys[i]?) = tys') (hc : cl[ci]? = some q) (he : ws[q0]? = some (b, .inr (ci, fs))) : PreV s H q.1 b (nw_Pw (.ref b :: As) D cl tys' wc H.size) As :=
  ⟨nw_Pw.blind, va_recv hK hP hc he, (nw_prewS (As := .ref b :: As) hK hP hD isC isT hn hC hT).2⟩
theorem nw_eq0 {n : Nat} (h : n < 2 ^ 31) : nI n = 0 ↔ n = 0 := by
  have := nI_eq (a := n) (b := 0) h (by decide)
  rw [nI_0] at this
  exact this
theorem nw_le0 {n : Nat} (h : n < 2 ^ 31) : nI n ≤ 0 ↔ n = 0 := by
  have := nI_leI (a := n) (b := 0) h (by decide)
  rw [nI_0] at this
  rw [this]; omega
theorem nw_lt0 {n : Nat} (h : n < 2 ^ 31) : nI n < 0 ↔ n < 0 := by
  have := nI_ltI (a := n) (b := 0) h (by decide)
  rw [nI_0] at this
  exact this
theorem nw_0lt {n : Nat} (h : n < 2 ^ 31) : 0 < nI n ↔ 0 < n := by
  have := nI_ltI (a := 0) (b := n) (by decide) h
  rw [nI_0] at this
  exact this
theorem nw_0le {n : Nat} (h : n < 2 ^ 31) : 0 ≤ nI n ↔ 0 ≤ n := by
  have := nI_leI (a := 0) (b := n) (by decide) h
  rw [nI_0] at this
  exact this
theorem nw_dec {n : Nat} (k : Nat) (h : k ≤ n) : nI n + Int32.ofInt (-(k : Int)) = nI (n - k) := by
  rw [← pk_sub h, Int32.ofInt_neg, Int32.sub_eq_add_neg]
  rfl
theorem nw_big {n : Nat} (h : n < 128) : n < 2 ^ 31 := by omega
theorem nw_imax {x y : Nat} (hx : x < 2 ^ 31) (hy : y < 2 ^ 31) : (if nI x < nI y then nI y else nI x) = nI (max x y) := by
  by_cases h : x < y
  · rw [if_pos ((nI_ltI hx hy).mpr h), Nat.max_eq_right (by omega)]
  · rw [if_neg (fun q => h ((nI_ltI hx hy).mp q)), Nat.max_eq_left (by omega)]
theorem nw_imin {x y : Nat} (hx : x < 2 ^ 31) (hy : y < 2 ^ 31) : (if nI y < nI x then nI y else nI x) = nI (min x y) := by
  by_cases h : y < x
  · rw [if_pos ((nI_ltI hy hx).mpr h), Nat.min_eq_right (by omega)]
  · rw [if_neg (fun q => h ((nI_ltI hy hx).mp q)), Nat.min_eq_left (by omega)]
/-- the greatest of f 0 .. f (n - 1) -/
def nw_mx (f : Nat → Nat) : Nat → Nat
  | 0 => 0
  | n + 1 => max (nw_mx f n) (f n)
theorem nw_mx_lt {f : Nat → Nat} {n b : Nat} (hb : 0 < b) (h : ∀ i, i < n → f i < b) : nw_mx f n < b := by
  induction n with
  | zero => exact hb
  | succ n ih =>
    have h1 := ih (fun i hi => h i (by omega))
    have h2 := h n (by omega)
    show max (nw_mx f n) (f n) < b
    omega
theorem nw_mx_congr {f g : Nat → Nat} {n : Nat} (h : ∀ i, i < n → f i = g i) : nw_mx f n = nw_mx g n := by
  induction n with
  | zero => rfl
  | succ n ih =>
    show max (nw_mx f n) (f n) = max (nw_mx g n) (g n)
    rw [ih (fun i hi => h i (by omega)), h n (by omega)]
/-- the starts when a word of len numbers has come in at place pl of n -/
def nw_ins (st : Nat → Nat) (pl n len : Nat) : Nat → Nat := fun x => if pl < x ∧ x ≤ n + 1 then st (x - 1) + len else st x
/-- .. when the word of len numbers at place pl of n has gone -/
def nw_del (st : Nat → Nat) (pl n len : Nat) : Nat → Nat := fun x => if pl ≤ x ∧ x < n then st (x + 1) - len else st x
theorem nw_j1 (j : Nat) : nI j - nI 1 + nI 1 = nI j := by rw [Int32.sub_eq_add_neg, Int32.add_assoc, Int32.add_comm (-nI 1), ← Int32.sub_eq_add_neg, Int32.sub_self, Int32.add_zero]
theorem nw_jlt {j p : Nat} (hj : j < 2 ^ 30) (hp : p < 2 ^ 30) : nI j - nI 1 < nI p ↔ j ≤ p := by
  rw [Int32.lt_iff_toInt_lt, pk_sub_toInt hj (by decide), nI_toInt (by omega)]
  omega
theorem nw_jdec (j : Nat) (h : 1 ≤ j) : (nI j - nI 1) + Int32.ofInt (-1) = nI (j - 1) - nI 1 := by
  rw [pk_sub h, Int32.sub_eq_add_neg]
  congr 1
/-- how many of 0 .. n - 1 have it -/
def nw_cnt (f : Nat → Prop) [DecidablePred f] : Nat → Nat
  | 0 => 0
  | n + 1 => nw_cnt f n + if f n then 1 else 0
theorem nw_cnt_le (f : Nat → Prop) [DecidablePred f] (n : Nat) : nw_cnt f n ≤ n := by
  induction n with
  | zero => exact Nat.le_refl _
  | succ n ih =>
    show nw_cnt f n + (if f n then 1 else 0) ≤ n + 1
    split <;> omega
/-- where those that have it stand ahead of the others, they are as many as the place where they end -/
theorem nw_cnt_cut {f : Nat → Prop} [DecidablePred f] {n p : Nat} (hp : p ≤ n) (h1 : ∀ i, i < p → f i) (h2 : ∀ i, p ≤ i → i < n → ¬ f i) : nw_cnt f n = p := by
  induction n with
  | zero => show 0 = p; omega
  | succ n ih =>
    show nw_cnt f n + (if f n then 1 else 0) = p
    by_cases e : p = n + 1
    · have : nw_cnt f n = n := by
        clear ih h2
        have key : ∀ k, k ≤ n → nw_cnt f k = k := by
          intro k
          induction k with
          | zero => intro _; rfl
          | succ k ih => intro hk; show nw_cnt f k + (if f k then 1 else 0) = k + 1; rw [ih (by omega), if_pos (h1 k (by omega))]
        exact key n (Nat.le_refl _)
      rw [this, if_pos (h1 n (by omega)), e]
    · rw [ih (by omega) (fun i h3 h4 => h2 i h3 (by omega)), if_neg (h2 n (by omega) (by omega))]
      omega
/-- what count answers -/
def nw_sw (q : Int32) (a b c d e : Nat) : Int32 := if q.toInt = 0 then nI a else if q.toInt = 1 then nI b else if q.toInt = 2 then nI c else if q.toInt = 3 then nI d else if q.toInt = 4 then nI e else -1
theorem nw_cpy_0 {α : Type} (f g : Nat → α) (sp dp : Nat) (x : Nat) : va_cpy f g sp dp 0 x = g x := pk_cpy_out (by omega)
/-- one place more -/
theorem nw_cpy_s {f g h : Nat → Nat} {sp dp k v : Nat} (hh : ∀ x, h x = va_cpy f g sp dp k x) (hv : v = f (sp + k)) : ∀ x, va_up h (dp + k) v x = va_cpy f g sp dp (k + 1) x := by
  intro x
  by_cases e : x = dp + k
  · rw [e, va_up_self, pk_cpy_in (by omega) (by omega), hv]
    congr 1
    omega
  · rw [va_up_ne _ _ e, hh x]
    by_cases i : dp ≤ x ∧ x < dp + k
    · rw [pk_cpy_in i.1 i.2, pk_cpy_in i.1 (by omega)]
    · rw [pk_cpy_out (by omega), pk_cpy_out (by omega)]
end
section
section NWR
variable {p : Program} {l : Launch} {e : Env} {R : Room} {s : State} {m : MethodId} {args : Array Value} {below : List Frame} {meth : Method} {c : Code} {H : Heap} {locs : List Loc} {cells slots : Nat} {Q : State → Prop}
variable {cc : ByteArray} {pc : Nat} {ls : Array Slot} {rest : List Value} {D : va_G} {cl : List vw_C} {A : Nat → Prop} {a : Nat} {tys : List (ClassId × FieldType)} {ws : va_W} {H0 : Heap}
theorem nw_ti {x y : Int32} (h : x = y) (k : W p l e R s m args below meth c H locs cells slots Q (F0 m pc ls (.int y :: rest))) : W p l e R s m args below meth c H locs cells slots Q (F0 m pc ls (.int x :: rest)) := h ▸ k
theorem nw_tl {x y : Int64} (h : x = y) (k : W p l e R s m args below meth c H locs cells slots Q (F0 m pc ls (.long y :: rest))) : W p l e R s m args below meth c H locs cells slots Q (F0 m pc ls (.long x :: rest)) := h ▸ k
theorem nw_iald (hexec : p.tables.exec = Jvm.exec) (hb : c.code = cc) (hK : va_K D cl tys s) (hP : va_P D cl ws H) (q0 t0 : Nat) {cA : ClassId} {n k : Nat} {f : Nat → Nat} (ha : ws[q0]? = some (a, nw_ai cA n f)) (ht : tys[t0]? = some (cA, .int)) (hk : k < n) (hn : n < 2 ^ 31) (hdg : decode cc pc = .ok (.iaload, 1))
    (kk : W p l e R s m args below meth c H locs cells slots Q (F0 m (pc + 1) ls (.int (nI (f k)) :: rest))) : W p l e R s m args below meth c H locs cells slots Q (F0 m pc ls (.int (nI k) :: .ref a :: rest)) := by
  refine va_iald hexec hb hK hP q0 t0 ha ht (vp_in_nI hk hn) hdg ?_
  rw [nI_clamp (by omega)]
  exact kk
theorem nw_bald (hexec : p.tables.exec = Jvm.exec) (hb : c.code = cc) (hK : va_K D cl tys s) (hP : va_P D cl ws H) (q0 t0 : Nat) {cA : ClassId} {n k : Nat} {f : Nat → Nat} (ha : ws[q0]? = some (a, nw_ai cA n f)) (ht : tys[t0]? = some (cA, .byte)) (hk : k < n) (hn : n < 2 ^ 31) (hdg : decode cc pc = .ok (.baload, 1))
    (kk : W p l e R s m args below meth c H locs cells slots Q (F0 m (pc + 1) ls (.int (nI (f k)) :: rest))) : W p l e R s m args below meth c H locs cells slots Q (F0 m pc ls (.int (nI k) :: .ref a :: rest)) := by
  refine va_bald hexec hb hK hP q0 t0 ha ht (vp_in_nI hk hn) hdg ?_
  rw [nI_clamp (by omega)]
  exact kk
theorem nw_zald (hexec : p.tables.exec = Jvm.exec) (hb : c.code = cc) (hK : va_K D cl tys s) (hP : va_P D cl ws H) (q0 t0 : Nat) {cA : ClassId} {n k : Nat} {f : Nat → Nat} (ha : ws[q0]? = some (a, nw_ai cA n f)) (ht : tys[t0]? = some (cA, .boolean)) (hk : k < n) (hn : n < 2 ^ 31) (hdg : decode cc pc = .ok (.baload, 1))
    (kk : W p l e R s m args below meth c H locs cells slots Q (F0 m (pc + 1) ls (.int (nI (f k)) :: rest))) : W p l e R s m args below meth c H locs cells slots Q (F0 m pc ls (.int (nI k) :: .ref a :: rest)) := by
  refine va_zald hexec hb hK hP q0 t0 ha ht (vp_in_nI hk hn) hdg ?_
  rw [nI_clamp (by omega)]
  exact kk
theorem nw_lald (hexec : p.tables.exec = Jvm.exec) (hb : c.code = cc) (hK : va_K D cl tys s) (hP : va_P D cl ws H) (q0 t0 : Nat) {cA : ClassId} {n k : Nat} {f : Nat → Nat} (ha : ws[q0]? = some (a, nw_al cA n f)) (ht : tys[t0]? = some (cA, .long)) (hk : k < n) (hn : n < 2 ^ 31) (hdg : decode cc pc = .ok (.laload, 1))
    (kk : W p l e R s m args below meth c H locs cells slots Q (F0 m (pc + 1) ls (.long (lN (f k)) :: rest))) : W p l e R s m args below meth c H locs cells slots Q (F0 m pc ls (.int (nI k) :: .ref a :: rest)) := by
  refine va_lald hexec hb hK hP q0 t0 ha ht (vp_in_nI hk hn) hdg ?_
  rw [nI_clamp (by omega)]
  exact kk
/-- an array of arrays is read -/
theorem nw_aald (hexec : p.tables.exec = Jvm.exec) (hb : c.code = cc) (hK : va_K D cl tys s) (hP : va_P D cl ws H) (q0 t0 : Nat) {cA : ClassId} {n k y : Nat} {f : Nat → Option Nat} {ty : FieldType} (ha : ws[q0]? = some (a, nw_ar cA n f)) (ht : tys[t0]? = some (cA, .array ty)) (hk : k < n) (hn : n < 2 ^ 31) (hy : f k = some y) (hdg : decode cc pc = .ok (.aaload, 1))
    (kk : W p l e R s m args below meth c H locs cells slots Q (F0 m (pc + 1) ls (.ref y :: rest))) : W p l e R s m args below meth c H locs cells slots Q (F0 m pc ls (.int (nI k) :: .ref a :: rest)) := by
  have hin := vp_in_nI hk hn
  have e : (nI k).toNatClampNeg = k := nI_clamp (by omega)
  exact W.aald (v := .ref y) (ty := .array ty) hexec hb (hP q0 _ ha) ((hK.2 t0 _ ht).1 n (fun j => va_rf (f j))) rfl (fun q => by cases q) (by show ¬ (nI k < 0 ∨ (arrV _ _ _).slots.size ≤ _); rw [arrV_size]; exact hin) (by show (arrV _ _ _).slots[_]? = _; rw [e, arrV_read _ _ hk, hy]; rfl) rfl rfl hdg kk
theorem nw_iast (hexec : p.tables.exec = Jvm.exec) (hb : c.code = cc) (hK : va_K D cl tys s) (hP : va_P D cl ws H) (hD : va_D A ws) (hS : va_S A H0 H locs) (q0 t0 : Nat) {cA : ClassId} {n k v : Nat} {f : Nat → Nat} (ha : ws[q0]? = some (a, nw_ai cA n f)) (ht : tys[t0]? = some (cA, .int)) (hk : k < n) (hn : n < 2 ^ 31) (hdg : decode cc pc = .ok (.iastore, 1))
    (kk : ∀ (H1 : Heap) (locs1 : List Loc), va_P D cl (ws.set q0 (a, nw_ai cA n (va_up f k v))) H1 → va_D A (ws.set q0 (a, nw_ai cA n (va_up f k v))) → va_S A H0 H1 locs1 → W p l e R s m args below meth c H1 locs1 cells slots Q (F0 m (pc + 1) ls rest)) : W p l e R s m args below meth c H locs cells slots Q (F0 m pc ls (.int (nI v) :: .int (nI k) :: .ref a :: rest)) := by
  refine va_iast hexec hb hK hP hD hS q0 t0 ha ht (vp_in_nI hk hn) hdg ?_
  rw [nI_clamp (by omega), nw_upd]
  exact kk
theorem nw_bast (hexec : p.tables.exec = Jvm.exec) (hb : c.code = cc) (hK : va_K D cl tys s) (hP : va_P D cl ws H) (hD : va_D A ws) (hS : va_S A H0 H locs) (q0 t0 : Nat) {cA : ClassId} {n k v : Nat} {f : Nat → Nat} (ha : ws[q0]? = some (a, nw_ai cA n f)) (ht : tys[t0]? = some (cA, .byte)) (hk : k < n) (hn : n < 2 ^ 31) (hv : v < 128) (hdg : decode cc pc = .ok (.bastore, 1))
    (kk : ∀ (H1 : Heap) (locs1 : List Loc), va_P D cl (ws.set q0 (a, nw_ai cA n (va_up f k v))) H1 → va_D A (ws.set q0 (a, nw_ai cA n (va_up f k v))) → va_S A H0 H1 locs1 → W p l e R s m args below meth c H1 locs1 cells slots Q (F0 m (pc + 1) ls rest)) : W p l e R s m args below meth c H locs cells slots Q (F0 m pc ls (.int (nI v) :: .int (nI k) :: .ref a :: rest)) := by
  refine va_bast hexec hb hK hP hD hS q0 t0 ha ht (vp_in_nI hk hn) hdg ?_
  rw [nI_clamp (by omega), vp_nar_byte, nw_nb v hv, nw_upd]
  exact kk
theorem nw_zast (hexec : p.tables.exec = Jvm.exec) (hb : c.code = cc) (hK : va_K D cl tys s) (hP : va_P D cl ws H) (hD : va_D A ws) (hS : va_S A H0 H locs) (q0 t0 : Nat) {cA : ClassId} {n k v : Nat} {f : Nat → Nat} (ha : ws[q0]? = some (a, nw_ai cA n f)) (ht : tys[t0]? = some (cA, .boolean)) (hk : k < n) (hn : n < 2 ^ 31) (hv : v < 2) (hdg : decode cc pc = .ok (.bastore, 1))
    (kk : ∀ (H1 : Heap) (locs1 : List Loc), va_P D cl (ws.set q0 (a, nw_ai cA n (va_up f k v))) H1 → va_D A (ws.set q0 (a, nw_ai cA n (va_up f k v))) → va_S A H0 H1 locs1 → W p l e R s m args below meth c H1 locs1 cells slots Q (F0 m (pc + 1) ls rest)) : W p l e R s m args below meth c H locs cells slots Q (F0 m pc ls (.int (nI v) :: .int (nI k) :: .ref a :: rest)) := by
  refine va_zast hexec hb hK hP hD hS q0 t0 ha ht (vp_in_nI hk hn) hdg ?_
  rw [nI_clamp (by omega), nw_nz v hv, nw_upd]
  exact kk
theorem nw_last (hexec : p.tables.exec = Jvm.exec) (hb : c.code = cc) (hK : va_K D cl tys s) (hP : va_P D cl ws H) (hD : va_D A ws) (hS : va_S A H0 H locs) (q0 t0 : Nat) {cA : ClassId} {n k v : Nat} {f : Nat → Nat} (ha : ws[q0]? = some (a, nw_al cA n f)) (ht : tys[t0]? = some (cA, .long)) (hk : k < n) (hn : n < 2 ^ 31) (hdg : decode cc pc = .ok (.lastore, 1))
    (kk : ∀ (H1 : Heap) (locs1 : List Loc), va_P D cl (ws.set q0 (a, nw_al cA n (va_up f k v))) H1 → va_D A (ws.set q0 (a, nw_al cA n (va_up f k v))) → va_S A H0 H1 locs1 → W p l e R s m args below meth c H1 locs1 cells slots Q (F0 m (pc + 1) ls rest)) : W p l e R s m args below meth c H locs cells slots Q (F0 m pc ls (.long (lN v) :: .int (nI k) :: .ref a :: rest)) := by
  refine va_last hexec hb hK hP hD hS q0 t0 ha ht (vp_in_nI hk hn) hdg ?_
  rw [nI_clamp (by omega), nw_updL]
  exact kk
/-- a call that writes: the caller's other cells, then what the callee leaves -/
theorem nw_callv {S : Type} {post : S → Prop} {W1 : S → va_W} {wc wr : va_W} {mc ms : Nat} {st0 : List Value} {av : Array Value}
    (hP : va_P D cl ws H) (hD : va_D A ws) (hS : va_S A H0 H locs) (hA : ∀ q, H0.size ≤ q → A q) (isC isR : List Nat) (hC : isC.map (fun i => ws[i]?) = wc.map some) (hR : isR.map (fun i => ws[i]?) = wr.map some) (hn : va_nd isR = true) (hdis : ∀ i ∈ isR, i ∉ isC)
    (hr : va_Run p l e R s m args below meth c H locs cells slots mc ms (F0 m pc ls st0) rest (va_Qv post (nw_B D cl (va_A wc H.size) W1) (va_A wc H.size) av) (va_A wc H.size))
    (kk : ∀ (u : S) (H1 : Heap) (locs1 : List Loc), post u → va_P D cl (wr ++ W1 u) H1 → va_D A (wr ++ W1 u) → va_S A H0 H1 locs1 → W p l e R s m args below meth c H1 locs1 (cells + mc) (slots + ms) Q (F0 m (pc + 3) ls rest)) : W p l e R s m args below meth c H locs cells slots Q (F0 m pc ls st0) := by
  have hFc := va_free (wc := wc) hD hS hA isC hC
  refine va_callv hr hS (fun q _ h => hFc q h) hFc (fun u t H1 locs1 ht hvm hw hB hz1 hk1 hS1 => ?_)
  obtain ⟨hP1, hD1⟩ := hB
  rw [ht] at hP1
  obtain ⟨hP2, hD2⟩ := va_join hP hD isC isR hC hR hn hdis hk1 hFc hP1 hD1
  exact kk u H1 locs1 hw hP2 hD2 hS1
theorem nw_calli {S : Type} {post : Int32 → S → Prop} {W1 : S → va_W} {wc wr : va_W} {mc ms : Nat} {st0 : List Value} {av : Array Value}
    (hP : va_P D cl ws H) (hD : va_D A ws) (hS : va_S A H0 H locs) (hA : ∀ q, H0.size ≤ q → A q) (isC isR : List Nat) (hC : isC.map (fun i => ws[i]?) = wc.map some) (hR : isR.map (fun i => ws[i]?) = wr.map some) (hn : va_nd isR = true) (hdis : ∀ i ∈ isR, i ∉ isC)
    (hr : va_Run p l e R s m args below meth c H locs cells slots mc ms (F0 m pc ls st0) rest (va_Qi post (nw_B D cl (va_A wc H.size) W1) (va_A wc H.size) av) (va_A wc H.size))
    (kk : ∀ (r : Int32) (u : S) (H1 : Heap) (locs1 : List Loc), post r u → va_P D cl (wr ++ W1 u) H1 → va_D A (wr ++ W1 u) → va_S A H0 H1 locs1 → W p l e R s m args below meth c H1 locs1 (cells + mc) (slots + ms) Q (F0 m (pc + 3) ls (.int r :: rest))) : W p l e R s m args below meth c H locs cells slots Q (F0 m pc ls st0) := by
  have hFc := va_free (wc := wc) hD hS hA isC hC
  refine va_calli hr hS (fun q _ h => hFc q h) hFc (fun r u t H1 locs1 ht hvm hw hB hz1 hk1 hS1 => ?_)
  obtain ⟨hP1, hD1⟩ := hB
  rw [ht] at hP1
  obtain ⟨hP2, hD2⟩ := va_join hP hD isC isR hC hR hn hdis hk1 hFc hP1 hD1
  exact kk r u H1 locs1 hw hP2 hD2 hS1
end NWR
section NWR2
variable {p : Program} {l : Launch} {e : Env} {R : Room} {s : State} {m : MethodId} {args : Array Value} {below : List Frame} {meth : Method} {c : Code} {H : Heap} {locs : List Loc} {cells slots : Nat} {Q : State → Prop}
variable {cc : ByteArray} {pc : Nat} {ls : Array Slot} {rest : List Value} {D : va_G} {cl : List vw_C} {A : Nat → Prop} {a : Nat} {tys : List (ClassId × FieldType)} {ws : va_W} {H0 : Heap}
/-- System.arraycopy of bytes that are numbers below 128 -/
theorem nw_copyb (hexec : p.tables.exec = Jvm.exec) (hb : c.code = cc) (hml : c.maxLocals = ls.size) {own : String} {index : Nat} (hown : s.vm.findClass own = some m.cls) (hlink : (Cond.methodLink own index arraycopyName).before args s = true) (hnat : (Cond.native arraycopyName).before args s = true) (hstat : (Cond.static arraycopyName).before args s = true) (hini : (Cond.initialized "java/lang/System").before args s = true)
    (hK : va_K D cl tys s) (hP : va_P D cl ws H) (hD : va_D A ws) (hS : va_S A H0 H locs) (q0 q1 t0 t1 : Nat) {a0 : Nat} {c0 c1 : ClassId} {n0 n1 : Nat} {f g : Nat → Nat} (ha0 : ws[q0]? = some (a0, nw_ai c0 n0 f)) (ha1 : ws[q1]? = some (a, nw_ai c1 n1 g)) (ht0 : tys[t0]? = some (c0, .byte)) (ht1 : tys[t1]? = some (c1, .byte))
    {sp dp n : Nat} (h4 : sp + n ≤ n0) (h5 : dp + n ≤ n1) (hs0 : n0 < 2 ^ 31) (hs1 : n1 < 2 ^ 31) (hfit : ∀ i, i < n → f (sp + i) < 128)
    (hframes : 1 ≤ R.frames) (hlocals : (rest.map fun v => v.category).sum + 18 ≤ R.locals) (hdg : decode cc pc = .ok (.invokestatic index, 3))
    (kk : ∀ (H1 : Heap) (locs1 : List Loc), va_P D cl (ws.set q1 (a, nw_ai c1 n1 (va_cpy f g sp dp n))) H1 → va_D A (ws.set q1 (a, nw_ai c1 n1 (va_cpy f g sp dp n))) → va_S A H0 H1 locs1 → W p l e R s m args below meth c H1 locs1 cells slots Q (F0 m (pc + 3) ls rest)) : W p l e R s m args below meth c H locs cells slots Q (F0 m pc ls (.int (nI n) :: .int (nI dp) :: .ref a :: .int (nI sp) :: .ref a0 :: rest)) := by
  have e1 : (nI sp).toNatClampNeg = sp := nI_clamp (by omega)
  have e2 : (nI dp).toNatClampNeg = dp := nI_clamp (by omega)
  have e3 : (nI n).toNatClampNeg = n := nI_clamp (by omega)
  refine va_copyi hexec hb hml hown hlink hnat hstat hini hK hP hD hS q0 q1 t0 t1 ha0 ha1 ht0 ht1 rfl (nI_pos (by omega)) (nI_pos (by omega)) (nI_pos (by omega)) (by rw [e1, e3]; exact h4) (by rw [e2, e3]; exact h5) (fun i hi => ?_) hframes (by
    have z : nativeFrameWords "java/lang/System" "arraycopy" 5 = 7 := by decide
    rw [z]; omega) hdg ?_
  · rw [e3] at hi
    rw [e1]
    exact nw_fb _ (hfit i hi)
  · rw [e1, e2, e3, nw_cpy]
    exact kk
end NWR2
end
section
section NWL
variable {p : Program} {l : Launch} {e : Env} {R : Room} {s : State} {m : MethodId} {args : Array Value} {below : List Frame} {meth : Method} {c : Code} {H : Heap} {locs : List Loc} {cells slots : Nat} {Q : State → Prop}
variable {pc nL : Nat} {D : va_G} {cl : List vw_C} {A : Nat → Prop} {H0 : Heap} {σ : Type}
/-- a loop that writes nothing: its head pc; its state σ with an invariant, its locals, a measure that falls -/
theorem nw_loopR (I : σ → Prop) (L : σ → List (Nat × Value)) (μ : σ → Nat)
    (step : ∀ x : σ, I x → (∀ y : σ, I y → μ y < μ x → ∀ ls : Array Slot, lv_has ls nL (L y) → W p l e R s m args below meth c H locs cells slots Q (F0 m pc ls [])) → ∀ ls : Array Slot, lv_has ls nL (L x) → W p l e R s m args below meth c H locs cells slots Q (F0 m pc ls []))
    (x : σ) (h : I x) {ls : Array Slot} (hl : lv_has ls nL (L x)) : W p l e R s m args below meth c H locs cells slots Q (F0 m pc ls []) := by
  have key : ∀ (n : Nat) (x : σ), μ x < n → I x → ∀ ls : Array Slot, lv_has ls nL (L x) → W p l e R s m args below meth c H locs cells slots Q (F0 m pc ls []) := by
    intro n
    induction n with
    | zero => intro x hx; exact absurd hx (Nat.not_lt_zero _)
    | succ n ih => intro x hx hI ls hl; exact step x hI (fun y hy hm => ih y (by omega) hy) ls hl
  exact key (μ x + 1) x (Nat.lt_succ_self _) h ls hl
/-- .. that writes its world -/
theorem nw_loopW (I : σ → Prop) (L : σ → List (Nat × Value)) (Wd : σ → va_W) (μ : σ → Nat)
    (step : ∀ x : σ, I x → (∀ y : σ, I y → μ y < μ x → ∀ (ls : Array Slot) (H : Heap) (locs : List Loc), lv_has ls nL (L y) → va_P D cl (Wd y) H → va_D A (Wd y) → va_S A H0 H locs → W p l e R s m args below meth c H locs cells slots Q (F0 m pc ls [])) →
      ∀ (ls : Array Slot) (H : Heap) (locs : List Loc), lv_has ls nL (L x) → va_P D cl (Wd x) H → va_D A (Wd x) → va_S A H0 H locs → W p l e R s m args below meth c H locs cells slots Q (F0 m pc ls []))
    (x : σ) (h : I x) {ls : Array Slot} (hl : lv_has ls nL (L x)) (hP : va_P D cl (Wd x) H) (hD : va_D A (Wd x)) (hS : va_S A H0 H locs) : W p l e R s m args below meth c H locs cells slots Q (F0 m pc ls []) := by
  have key : ∀ (n : Nat) (x : σ), μ x < n → I x → ∀ (ls : Array Slot) (H : Heap) (locs : List Loc), lv_has ls nL (L x) → va_P D cl (Wd x) H → va_D A (Wd x) → va_S A H0 H locs → W p l e R s m args below meth c H locs cells slots Q (F0 m pc ls []) := by
    intro n
    induction n with
    | zero => intro x hx; exact absurd hx (Nat.not_lt_zero _)
    | succ n ih => intro x hx hI ls H locs hl hP hD hS; exact step x hI (fun y hy hm => ih y (by omega) hy) ls H locs hl hP hD hS
  exact key (μ x + 1) x (Nat.lt_succ_self _) h ls H locs hl hP hD hS
end NWL
end
section
/-! Methods that throw, and the catching of what they throw: over the library's laws, launches without stack traces. -/
/-- a method that throws at every start that Pc allows -/
def nx_Thr (l : Launch) (y : MethodName) (ws : List Cond) (rm : Room) (Pc : Array Value → State → Prop) (Qx : Array Value → State → Addr → State → Prop) (mc ms : Nat) (free : Addr → Prop) : Prop :=
  MetFree l y (headSpec ws rm) Pc (fun _ _ _ _ _ => True) (fun a st o t => ∃ q, o = Outcome.threw q ∧ Qx a st q t ∧ ∃ L, (st.WarmedH t.vm ∧ st.sameButNew ({ t with vm := st.vm } : State) L mc ms) ∧ ∀ z ∈ L, free z.base)
def nx_MQ (below : List Frame) (Qx : Array Value → State → Addr → State → Prop) (a : Array Value) (s : State) (mc ms : Nat) (free : Addr → Prop) : State → Prop := fun t =>
  ∃ q, t.status = .running ∧ Ended t below (.threw q) ∧ Qx a s q t ∧ ∃ L, (s.WarmedH t.vm ∧ s.sameButNew ({ t with vm := s.vm } : State) L mc ms) ∧ ∀ z ∈ L, free z.base
theorem nx_ofW {l : Launch} {y : MethodName} {ws ws' : List Cond} {rm : Room} {Pc : Array Value → State → Prop} {Qx : Array Value → State → Addr → State → Prop} {mc ms : Nat} {free : Addr → Prop} {cc : ByteArray} {maxL : Nat} {ret : Option FieldType}
    (hy : plainName y.cls = true) (hw : ws = Cond.code y cc maxL ret :: ws')
    (body : ∀ p e s m args below meth c s₁, BodyLoose p l y (headSpec ws rm) cc maxL ret e s m args below meth c s₁ → c.maxLocals = maxL → c.exceptionTable.isEmpty = true → Pc args s →
      W p l e (headSpec ws rm).room s m args below meth c s.heap [] 0 0 (nx_MQ below Qx args s mc ms free) (entryFrame m args maxL)) : nx_Thr l y ws rm Pc Qx mc ms free := by
  refine MetFree.of_bodyS (code := cc) (maxLocals := maxL) (ret := ret) hy ?_ ?_
  · intro args s m h hn
    obtain ⟨meth, c, h1, h2, h3, h4, h5, h6, -, -⟩ := Cond.code_spec hn (atoms_spec (ws := ws) h _ (by rw [hw]; exact List.mem_cons_self))
    exact ⟨meth, c, h1, h2, h3, h4, h5, h6⟩
  · intro p e s m args below meth c s₁ B hml hP _
    have hh0 : s₁.heap = s.heap := by rw [B.state]; rfl
    have hnh := B.noHandlers (atoms_spec (ws := ws) B.pre _ (by rw [hw]; exact List.mem_cons_self))
    obtain ⟨t, a1, q, b1, b2, b3, b4⟩ := body p e s m args below meth c s₁ B hml hnh hP s₁ hh0 (Stand.of_body B)
    exact ⟨t, .threw q, a1, b1, b2, ⟨q, rfl, b3, b4⟩⟩
section NX
variable {p : Program} {l : Launch} {e : Env} {R : Room} {s : State} {m : MethodId} {args : Array Value} {below : List Frame} {meth : Method} {c : Code} {H : Heap} {locs : List Loc} {cells slots : Nat} {Q : State → Prop} {T : State}
/-- the walk, begun anew at where it stands -/
theorem nx_rebase (X : Stand p l e R s m args below meth c T locs cells slots) {R' : Room} (hf : R'.frames ≤ R.frames) (hl : R'.locals ≤ R.locals) (hc : cells + R'.cells ≤ R.cells) (hs : slots + R'.slots ≤ R.slots) :
    Stand p l e R' ((T.setVm s.vm).setFrames (.invoking m args :: below)) m args below meth c T [] 0 0 := by
  obtain ⟨g₀, hfr⟩ := X.frames_eq
  have hcur : T.cur < T.threads.size := State.cur_lt_of_frames hfr
  have hcur' : (T.setVm s.vm).cur < (T.setVm s.vm).threads.size := hcur
  have hF : ((T.setVm s.vm).setFrames (.invoking m args :: below)).frames = .invoking m args :: below := State.frames_setFrames _ hcur'
  have hlim : e.platform.stackLimits ((T.setVm s.vm).setFrames (.invoking m args :: below)).me = e.platform.stackLimits T.me := State.stackLimits_setFrames ..
  have hby : ((T.setVm s.vm).setFrames (.invoking m args :: below)).me.stackBytes = T.me.stackBytes := State.stackBytes_setFrames ..
  have hroom : ((T.setVm s.vm).setFrames (.invoking m args :: below)).hasRoom e.platform R' = true := by
    have h0 := X.room
    have hc1 := X.cellsAbove hc
    have hs1 := X.slotsAbove hs
    have hbk := X.book
    have e1 := State.localsInUse_invoking (s := s) X.frames X.method X.code
    have e2 := State.localsInUse_invoking (s := (T.setVm s.vm).setFrames (.invoking m args :: below)) hF (meth := meth) (c := c) X.method X.code
    simp only [State.hasRoom, Bool.and_eq_true, decide_eq_true_eq] at h0 ⊢
    obtain ⟨⟨⟨⟨r1, r2, r3, r4, r5, r6⟩, -⟩, -⟩, -⟩ := h0
    rw [X.frames] at r2 r3
    rw [e1] at r1 r4 r5
    rw [e2, hF, hlim, hby, X.limits, X.bytes]
    refine ⟨⟨⟨⟨by omega, by omega, by omega, by omega, by omega, r6⟩, hc1⟩, hs1⟩, hbk⟩
  obtain ⟨t, ht, -⟩ := State.frames_cons hF
  refine ⟨X.admits, X.cas, X.clock, hF, hroom, ?_, X.method, X.code, X.here, X.tail, ?_, hlim.symm, hby.symm, ?_⟩
  · have := X.hears
    cases below with
    | nil => exact this
    | cons f r => cases f <;> exact this
  · exact X.warmed
  · have h := (State.sameButNew.refl _ ht).setFrames T.frames (Array.getElem?_eq_some_iff.mp ht).1
    rw [State.setFrames_setFrames] at h
    obtain ⟨t2, ht2, -⟩ := State.frames_cons (s := T.setVm s.vm) (show (T.setVm s.vm).frames = .java g₀ :: below from hfr)
    have e3 : (T.setVm s.vm).setFrames T.frames = T.setVm s.vm := State.setFrames_self ht2
    rw [e3] at h
    exact h
/-- .. and what is known of its end, said of the first start -/
theorem nx_back (X : Stand p l e R s m args below meth c T locs cells slots) {U : State} {k n : Nat} (h : ((T.setVm s.vm).setFrames (.invoking m args :: below)).sameButNew ({ U with vm := s.vm } : State) [] k n) : s.sameButNew ({ U with vm := s.vm } : State) locs (cells + k) (slots + n) := by
  have h2 : (T.setVm s.vm).sameButNew ({ U with vm := s.vm } : State) [] k n := by
    unfold State.sameButNew at h ⊢
    rw [State.setFrames_setFrames] at h
    exact h
  have h3 := X.same.trans h2
  rw [List.append_nil] at h3
  exact h3
end NX
section NX2
variable {p : Program} {l : Launch} {e : Env} {R : Room} {s : State} {m : MethodId} {args : Array Value} {below : List Frame} {meth : Method} {c : Code} {H : Heap} {locs : List Loc} {cells slots : Nat} {Q : State → Prop}
/-- the words of 'new E(); throw' that hold of the tables alone, and the two statics of Throwable that the heap holds -/
def nx_st (w : Cond) : Bool := decide (w = .isRef (.static Bundle.tN "UNASSIGNED_STACK" Bundle.steD)) || decide (w = .isRef (.static Bundle.tN "SUPPRESSED_SENTINEL" Bundle.listD)) || decide (w = .laysStatic Bundle.tN "UNASSIGNED_STACK" Bundle.steD) || decide (w = .laysStatic Bundle.tN "SUPPRESSED_SENTINEL" Bundle.listD)
/-- 'throw new E()' where no handler lies: the method throws a new object of E; all that was there stays -/
theorem nx_throw {cc : ByteArray} {pc : Nat} {ls : Array Slot} {rest : List Value} (hexec : p.tables.exec = Jvm.exec) (hb : c.code = cc) (hl : l.stackTraces = false) {own cls : String} {names : List String} {ik ic mc ms : Nat} {Qx : Array Value → State → Addr → State → Prop} {free : Addr → Prop}
    (hown : s.vm.findClass own = some m.cls) (hcls : Bundle.fit cls = true) (hnames : ∀ n ∈ names, Bundle.fit n = true)
    (hk : ∀ U : State, U.vm = s.vm → (Cond.classLink own ik cls).before args U = true) (hini : ∀ U : State, U.vm = s.vm → (Cond.initialized cls).before args U = true)
    (hat : ∀ U : State, U.vm = s.vm → U.heap = H → ∀ w ∈ Bundle.ownAtoms0 own ic cls names, w.before args U = true)
    (hlocks : meth.locks = false) (hnh : c.exceptionTable.isEmpty = true) (hsize : ls.size = c.maxLocals)
    (d0 : decode cc pc = .ok (.new ik, 3)) (d3 : decode cc (pc + 3) = .ok (.dup, 1)) (d4 : decode cc (pc + 4) = .ok (.invokespecial ic, 3)) (d7 : decode cc (pc + 7) = .ok (.athrow, 1))
    (hRframes : names.length + 3 < R.frames) (hRlocals : (rest.map fun v => v.category).sum + (13 * (names.length + 1) + 42) ≤ R.locals) (hRcells : cells + 1 ≤ R.cells) (hRslots : slots + 6 ≤ R.slots) (hmc : cells + 1 ≤ mc) (hms : slots + 6 ≤ ms) (hf : ∀ z ∈ locs, free z.base)
    (hq : ∀ (t : State) (ce : Cell), s.WarmedH t.vm → t.heap[H.size]? = some ce → ce.vm = .none → s.vm.findClass cls = some ce.cls → H.size < t.heap.size → (∀ q : Nat, q < H.size → t.heap[q]? = H[q]?) → Qx args s H.size t) :
    W p l e R s m args below meth c H locs cells slots (nx_MQ below Qx args s mc ms free) (F0 m pc ls rest) := by
  intro T hT X
  subst hT
  have htr : e.platform.stackTraces = false := (show e.platform.stackTraces = l.stackTraces by rw [X.admits.platform]).trans hl
  have Y := nx_rebase X (R' := { frames := R.frames, locals := R.locals, cells := 1, slots := 6 }) (Nat.le_refl _) (Nat.le_refl _) hRcells hRslots
  generalize hs' : (T.setVm s.vm).setFrames (.invoking m args :: below) = s' at Y
  have hvm : s'.vm = s.vm := by rw [← hs']; rfl
  have hhp : s'.heap = T.heap := by rw [← hs']; rfl
  have h := hat s' hvm hhp
  have hown' : s'.vm.findClass own = some m.cls := by rw [hvm]; exact hown
  have hins : (Cond.instantiable cls 6).before args s' = true := h _ (by simp [Bundle.ownAtoms0])
  obtain ⟨vm₁, cX, kX, hfX, hkX, -, -, X₁, st1⟩ := Y.newCold hexec (own := own) (C := cls) (index := ik) (n := 6) hown' (hk s' hvm) hins (hini s' hvm) (g := F0 m pc ls rest) rfl (by rw [hb]; exact d0) (Nat.le_refl _) (Nat.le_refl _)
  generalize hT1 : (T.setVm vm₁).pushCell { cls := cX, slots := kX.instanceTypes.map defaultValue, vm := .none } = T1 at X₁ st1
  have hcellA : T1.heap[T.heap.size]? = some (freshCell cX kX) := by rw [← hT1]; exact State.heap_pushCell_size _ _
  have d3' : decode c.code (pc + 3) = .ok (.dup, 1) := by rw [hb]; exact d3
  obtain ⟨U, hsteps, hrun, hend, hWU, hsame, ce, hce, hown9⟩ := X₁.ctorThrow0 hexec htr (own := own) (cls := cls) (names := names) (ic := ic) hown' hcls hnames h (fun x hx => nomatch hx) hfX hkX hcellA (by rw [hhp]; exact Nat.le_refl _)
    (g := { method := m, pc := pc + 4, locals := ls, stack := .ref T.heap.size :: .ref T.heap.size :: rest, locked := none }) rfl hsize rfl rfl (rest := rest) rfl (by rw [hb]; exact d4) (by rw [hb]; exact d7)
    (fun x hx => by
      have := Array.isEmpty_iff.mp hnh
      rw [this] at hx
      cases hx) hRframes (by
      show 2 * 0 + _ + _ ≤ _
      simp only [List.map_cons, List.sum_cons]
      show 2 * 0 + (1 + _) + _ ≤ R.locals
      omega) hlocks
  subst hs'
  have hold : ∀ q : Nat, q < T.heap.size → U.heap[q]? = T.heap[q]? := by
    intro q hq1
    have hs1 : (T.setVm s.vm).setFrames (.invoking m args :: below) |>.heap[q]? = T.heap[q]? := rfl
    cases hc9 : T.heap[q]? with
    | none => exact absurd (Array.getElem?_eq_none_iff.mp hc9) (by omega)
    | some cq => exact State.sameButNew.old_cell hsame (a := q) (c := cq) hc9
  refine ⟨U, st1 _ ?_, T.heap.size, hrun, hend, hq U ce hWU hce hown9.vm hown9.cls (Array.getElem?_eq_some_iff.mp hce).1 hold, locs, ⟨hWU, (nx_back X hsame).mono hmc hms⟩, hf⟩
  show Steps p.tables e below (T1.setTop { method := m, pc := pc + 3, locals := ls, stack := .ref T.heap.size :: rest, locked := none }) _
  jvm_step X₁.here [X₁.here.top, hexec, d3', Value.category]
  exact hsteps
end NX2
section NX3
variable {p : Program} {l : Launch} {e : Env} {R : Room} {s : State} {m : MethodId} {args : Array Value} {below : List Frame} {meth : Method} {c : Code} {locs : List Loc} {cells slots : Nat} {T : State}
/-- a call of a method that throws: the caller's frame, and the note of what is thrown above it -/
theorem nx_callV (X : Stand p l e R s m args below meth c T locs cells slots) (hexec : p.tables.exec = Jvm.exec) {own C : String} {index n : Nat} {y : MethodName} {bytes : ByteArray} {maxL mc ms : Nat} {ret : Option FieldType} {ws : List Cond} {rm : Room} {Pc : Array Value → State → Prop} {Qx : Array Value → State → Addr → State → Prop} {free : Addr → Prop}
    (hown : s.vm.findClass own = some m.cls) (cw : CallW R s args own C index y bytes maxL ret ws rm mc ms n) (hM : nx_Thr l y ws rm Pc Qx mc ms free)
    {b : Addr} {As rest : List Value} (hp : PreV s T.heap C b Pc As) {g : JFrame} (hg : g.method = m) (hn : As.length = n) (hsize : g.locals.size = c.maxLocals)
    (hstack : g.stack = As.reverse ++ .ref b :: rest) (hW : 2 * g.monitorRoom + (rest.map fun v => v.category).sum ≤ 8) (hdg : decode c.code g.pc = .ok (.invokevirtual index, 3)) (hf : cells + mc ≤ R.cells ∧ slots + ms ≤ R.slots) :
    ∃ (q : Addr) (st₀ t T' : State) (L : List Loc), st₀.heap = T.heap ∧ Stand p l e R s m args below meth c T' (locs ++ L) (cells + mc) (slots + ms) ∧ (∀ z ∈ L, free z.base) ∧ T'.heap = t.heap ∧ T'.vm = t.vm ∧ Qx (Value.ref b :: As).toArray st₀ q t ∧
      Steps p.tables e below (T.setTop g) ((T'.setTop { g with stack := rest }).pushFrame (.throwing q)) := by
  obtain ⟨⟨hrc, hrs, hfr, hlo, hws, hcw, hcode, hini, hy, hlen, hlink⟩, hinst, hsel⟩ := cw
  obtain ⟨hblind, ⟨cellB, hcell, hobj, hcls⟩, hPc⟩ := hp
  obtain ⟨mk, methM, hnamed, hmethM, hstM, habM⟩ := Cond.instanceMethod_spec hinst
  obtain ⟨methM', cM, hmethM', -, -, -, -, -, -, hsigM⟩ := Cond.code_spec hnamed hcode
  cases hmethM.symm.trans hmethM'
  obtain ⟨c2, r2, m2, q1, q2, q3, q4, kP, hkP, hkPi⟩ := Cond.selects_spec hsel
  cases hcls.symm.trans q1
  cases (State.methodFound?_of_named hnamed hy).symm.trans q2
  cases hnamed.symm.trans q3
  have hselP : selectMethod e.platform s.vm cellB.cls mk = .method mk := by rw [Launch.admits_selectMethod X.admits]; exact q4
  obtain ⟨vm₁, X₁, hstep₁⟩ := X.invokevirtual hexec hown hlink hnamed hmethM hstM hkP hkPi hy (a := b) (cell := cellB) hcell
    (fun z h => by rw [h] at hobj; cases hobj) hselP hmethM habM hkP hkPi (g := g) hg (argsL := As) (rest := rest) (hn.trans (hlen _ hsigM)) hstack hdg
  have hn1 := X₁.named hnamed
  have hc1 := hws _ hcw (Value.ref b :: As).toArray (T.setVm vm₁) X₁.warmed
  obtain ⟨methY, cY, hmY, hcY, -, hlY, -, -, -, -⟩ := Cond.code_spec hn1 hc1
  obtain ⟨kY, hkY, -⟩ := className_of_methodNamed hn1
  have hinitY : kY.init = .initialized := Cond.initialized_spec (findClass_of_methodNamed hn1) hkY (word_at (a' := (Value.ref b :: As).toArray) X₁.warmed (Or.inl (by first | rfl | simp [Cond.onTables, Cond.keeps, Cond.steady])) hini)
  have hat : At (T.setVm vm₁) ({ g with stack := rest } : JFrame).method c below := by show At _ g.method c below; rw [hg]; exact X₁.here
  have happ : (headSpec ws rm).appliesLoose y e.platform ((T.setVm vm₁).calling { g with stack := rest } mk (Value.ref b :: As).toArray) = true :=
    Spec.appliesLoose_calling (g := { g with stack := rest }) hat hdg hn1 hkY hinitY
      (X₁.room_calling (g := { g with stack := rest }) (R' := (headSpec ws rm).room) hsize hmY hcY hfr (by
        show 2 * g.monitorRoom + (rest.map fun v => v.category).sum + (cY.maxLocals + 11) + rm.locals ≤ R.locals
        rw [hlY]; omega) (by show cells + rm.cells ≤ R.cells; rw [hrc]; exact hf.1) (by show slots + rm.slots ≤ R.slots; rw [hrs]; exact hf.2))
      (atoms_intro fun w hw => hws w hw _ _ X₁.warmed)
  obtain ⟨mid, hmid⟩ := hat.above
  have hfrm : ((T.setVm vm₁).setTop { g with stack := rest }).frames = (.java { g with stack := rest } :: mid) ++ below := by rw [State.frames_setTop' _ hat.top, hmid]; rfl
  obtain ⟨o, s₂, hsteps, -, hend, hq⟩ := Steps.callFree hM p X.admits X.cas X.clock (acts := []) hfrm happ (hblind _ _ { g with stack := rest } mk (hPc (T.setVm vm₁) rfl X₁.warmed)) trivial
  obtain ⟨q, rfl, hQ, L, ⟨hWt, hst⟩, hL⟩ := hq
  rw [State.frames_setTop' _ hat.top, X₁.tail] at hend
  obtain ⟨T', X', hW', hsame', ht⟩ := X₁.outOfThrown (g := { g with stack := rest }) hg hend hWt hst
  refine ⟨q, (T.setVm vm₁).calling { g with stack := rest } mk (Value.ref b :: As).toArray, s₂, T', L, rfl, X', hL, ?_, ?_, hQ, ?_⟩
  · rw [ht, Stand.throwing_heap]
  · rw [ht, Stand.throwing_vm]
  · rw [← ht]
    exact hstep₁ _ fun acts => by rw [doInvoke_state]; exact hsteps
end NX3
/-- what the search for a handler gives, and the tables that it leaves -/
def nx_FT (e : Env) (s : State) (f : JFrame) (a : Addr) (h : Handler) (vm' : Vm) : Prop := ∀ (Q : Handler → Pre) (E : CtlPost) (d : Bool) (acts : List Action), wp (findHandler f a) Q E e d acts s ↔ Q h d acts (s.setVm vm')
/-- a covering entry whose class links: caught, or passed -/
theorem nx_go {Q : Handler → Pre} {E : CtlPost} {e : Env} {d : Bool} {acts : List Action} {s : State} {f : JFrame} {a : Addr} {x : ExceptionTableEntry} {t : List ExceptionTableEntry} {c : ClassId} {cell : Cell} (hx : covers x f.pc = true) (h0 : x.catchType ≠ 0)
    (hl : s.vm.ClassLinks e.platform f.method.cls x.catchType c) (hcell : s.heap[a]? = some cell) (hobj : ∀ k, cell.vm ≠ .statics k) (hk : ∃ k, s.vm.classes[cell.cls]? = some k) (hc : ∃ k, s.vm.classes[c]? = some k) :
    wp (findHandler.go f a (x :: t)) Q E e d acts s ↔ if s.vm.assignable cell.cls c = true then Q (.found x.handlerPc) d acts (s.setVm (s.vm.noted f.method.cls x.catchType (.cls c))) else wp (findHandler.go f a t) Q E e d acts (s.setVm (s.vm.noted f.method.cls x.catchType (.cls c))) := by
  simp only [covers] at hx
  obtain ⟨ha, ht⟩ := (resolveClass_links e.toSetting hl).op (op := VmOp.resolveClass f.method.cls x.catchType) rfl
  have hal : s.vm.Alike (s.vm.noted f.method.cls x.catchType (.cls c)) := (Vm.Alike.refl s.vm).noted _ _ _
  obtain ⟨k1, hk1⟩ := hk
  obtain ⟨k2, hk2⟩ := hc
  obtain ⟨k1', hk1', -⟩ := hal.2.2 _ _ hk1
  obtain ⟨k2', hk2', -⟩ := hal.2.2 _ _ hk2
  have hfe : (s.vm.noted f.method.cls x.catchType (.cls c)).assignable cell.cls c = s.vm.assignable cell.cls c := by rw [hal.assignable]
  cases hfit : s.vm.assignable cell.cls c <;> simp [findHandler.go, hx, h0, ha, ht, hcell, hobj, hk1', hk2', hfe, hfit, VmOp.dirties, VmOp.acts]
theorem nx_caught {tb : Tables} {e : Env} {s target : State} {g : JFrame} {c : Code} {below : List Frame} {a : Addr} (h : At s g.method c below) {pc : Nat} {vm' : Vm}
    (hfind : nx_FT e ((s.setTop g).pushFrame (.throwing a)) g a (.found pc) vm') (hrest : Steps tb e below ((s.setVm vm').setTop { g with pc := pc, stack := [.ref a] }) target) : Steps tb e below ((s.setTop g).pushFrame (.throwing a)) target := by
  obtain ⟨hgo, hw⟩ := h.throwing a
  refine Steps.head hgo hw ?_
  have hstep : (stepThrowing e ((s.setTop g).pushFrame (.throwing a)) a (.java g :: s.frames.tail)).Is ((((s.setTop g).pushFrame (.throwing a)).setVm vm').setFrames (.java { g with pc := pc, stack := [.ref a] } :: s.frames.tail)) [] := by
    simp only [stepThrowing, searchFrame, vmDo]
    generalize hr : Sem.go _ e false [] ((s.setTop g).pushFrame (.throwing a)) = res
    obtain ⟨as, rfl, ha⟩ := Sem.eq_ok_of hr (a := Handler.found pc) (s' := ((s.setTop g).pushFrame (.throwing a)).setVm vm') (acts' := []) (by simp [hfind _ _ _ _])
    exact ⟨rfl, ha⟩
  rw [stepThread_throwing (frames_entered h.top _), hstep.1]
  obtain ⟨g₀, hg⟩ := Option.isSome_iff_exists.mp h.top
  obtain ⟨r, hr⟩ := State.topJava?_eq_some.mp hg
  have hr' : (s.setVm vm').frames = .java g₀ :: r := hr
  rw [State.setTop_of_frames _ hr'] at hrest
  have e1 : ∀ (u : State) (F G : List Frame), ((u.setFrames F).setVm vm').setFrames G = (u.setVm vm').setFrames G := fun u F G => by
    show ((u.setVm vm').setFrames F).setFrames G = _
    rw [State.setFrames_setFrames]
  rw [hr, List.tail_cons, State.pushFrame, e1, State.setTop_of_frames _ hr, e1]
  exact hrest
end
section
/-! Rows of a grid: n arrays of w places each, at addresses ry 0, ry 1 .., behind the fixed cells of a world; others pl behind them. -/
def nw_rl (n : Nat) (cA : ClassId) (w : Nat) (ry : Nat → Nat) (M : Nat → Nat → Nat) : va_W := (List.range n).map (fun k => (ry k, nw_al cA w (M k)))
def nw_rb (n : Nat) (cA : ClassId) (w : Nat) (ry : Nat → Nat) (M : Nat → Nat → Nat) : va_W := (List.range n).map (fun k => (ry k, nw_ai cA w (M k)))
theorem nw_mapAt {f : Nat → Nat × va_E} {n k : Nat} (hk : k < n) (X pl : va_W) : (X ++ ((List.range n).map f ++ pl))[X.length + k]? = some (f k) := by
  rw [List.getElem?_append_right (by omega), Nat.add_sub_cancel_left, List.getElem?_append_left (by simpa using hk), List.getElem?_map, List.getElem?_range hk]
  rfl
theorem nw_mapSet {f g : Nat → Nat × va_E} {n k : Nat} {e : Nat × va_E} (hk : k < n) (X pl : va_W) (h1 : g k = e) (h2 : ∀ j, j ≠ k → g j = f j) : (X ++ ((List.range n).map f ++ pl)).set (X.length + k) e = X ++ ((List.range n).map g ++ pl) := by
  rw [List.set_append_right _ _ (by omega), Nat.add_sub_cancel_left, List.set_append_left _ _ (by simpa using hk)]
  congr 2
  apply List.ext_getElem?
  intro j
  by_cases hj : j = k
  · subst hj
    rw [List.getElem?_set_self (by simpa using hk), List.getElem?_map, List.getElem?_range hk]
    simp [h1]
  · rw [List.getElem?_set_ne (Ne.symm hj), List.getElem?_map, List.getElem?_map]
    by_cases hjn : j < n
    · rw [List.getElem?_range hjn]; simp [h2 j hj]
    · rw [List.getElem?_eq_none (by simpa using hjn)]; rfl
theorem nw_rl_at {n k w : Nat} {cA : ClassId} {ry : Nat → Nat} {M : Nat → Nat → Nat} (X pl : va_W) (hk : k < n) : (X ++ (nw_rl n cA w ry M ++ pl))[X.length + k]? = some (ry k, nw_al cA w (M k)) := nw_mapAt hk X pl
theorem nw_rb_at {n k w : Nat} {cA : ClassId} {ry : Nat → Nat} {M : Nat → Nat → Nat} (X pl : va_W) (hk : k < n) : (X ++ (nw_rb n cA w ry M ++ pl))[X.length + k]? = some (ry k, nw_ai cA w (M k)) := nw_mapAt hk X pl
theorem nw_rl_set {n k w : Nat} {cA : ClassId} {ry : Nat → Nat} {M : Nat → Nat → Nat} {r : Nat → Nat} (X pl : va_W) (hk : k < n) : (X ++ (nw_rl n cA w ry M ++ pl)).set (X.length + k) (ry k, nw_al cA w r) = X ++ (nw_rl n cA w ry (va_up M k r) ++ pl) :=
  nw_mapSet hk X pl (by simp only [va_up_self]) (fun j hj => by simp only [va_up_ne _ _ hj])
theorem nw_rb_set {n k w : Nat} {cA : ClassId} {ry : Nat → Nat} {M : Nat → Nat → Nat} {r : Nat → Nat} (X pl : va_W) (hk : k < n) : (X ++ (nw_rb n cA w ry M ++ pl)).set (X.length + k) (ry k, nw_ai cA w r) = X ++ (nw_rb n cA w ry (va_up M k r) ++ pl) :=
  nw_mapSet hk X pl (by simp only [va_up_self]) (fun j hj => by simp only [va_up_ne _ _ hj])
section NWG
variable {p : Program} {l : Launch} {e : Env} {R : Room} {s : State} {m : MethodId} {args : Array Value} {below : List Frame} {meth : Method} {c : Code} {H : Heap} {locs : List Loc} {cells slots : Nat} {Q : State → Prop}
variable {cc : ByteArray} {pc : Nat} {ls : Array Slot} {rest : List Value} {D : va_G} {cl : List vw_C} {A : Nat → Prop} {tys : List (ClassId × FieldType)} {X pl : va_W} {H0 : Heap}
theorem nw_rlld (hexec : p.tables.exec = Jvm.exec) (hb : c.code = cc) (hK : va_K D cl tys s) {n k w d : Nat} {cA : ClassId} {ry : Nat → Nat} {M : Nat → Nat → Nat} (hP : va_P D cl (X ++ (nw_rl n cA w ry M ++ pl)) H) (t0 : Nat) (ht : tys[t0]? = some (cA, .long)) (hk : k < n) (hd : d < w) (hw : w < 2 ^ 31) (hdg : decode cc pc = .ok (.laload, 1))
    (kk : W p l e R s m args below meth c H locs cells slots Q (F0 m (pc + 1) ls (.long (lN (M k d)) :: rest))) : W p l e R s m args below meth c H locs cells slots Q (F0 m pc ls (.int (nI d) :: .ref (ry k) :: rest)) :=
  nw_lald hexec hb hK hP (X.length + k) t0 (nw_rl_at X pl hk) ht hd hw hdg kk
theorem nw_rbld (hexec : p.tables.exec = Jvm.exec) (hb : c.code = cc) (hK : va_K D cl tys s) {n k w d : Nat} {cA : ClassId} {ry : Nat → Nat} {M : Nat → Nat → Nat} (hP : va_P D cl (X ++ (nw_rb n cA w ry M ++ pl)) H) (t0 : Nat) (ht : tys[t0]? = some (cA, .byte)) (hk : k < n) (hd : d < w) (hw : w < 2 ^ 31) (hdg : decode cc pc = .ok (.baload, 1))
    (kk : W p l e R s m args below meth c H locs cells slots Q (F0 m (pc + 1) ls (.int (nI (M k d)) :: rest))) : W p l e R s m args below meth c H locs cells slots Q (F0 m pc ls (.int (nI d) :: .ref (ry k) :: rest)) :=
  nw_bald hexec hb hK hP (X.length + k) t0 (nw_rb_at X pl hk) ht hd hw hdg kk
theorem nw_rlst (hexec : p.tables.exec = Jvm.exec) (hb : c.code = cc) (hK : va_K D cl tys s) {n k w d v : Nat} {cA : ClassId} {ry : Nat → Nat} {M : Nat → Nat → Nat} (hP : va_P D cl (X ++ (nw_rl n cA w ry M ++ pl)) H) (hD : va_D A (X ++ (nw_rl n cA w ry M ++ pl))) (hS : va_S A H0 H locs) (t0 : Nat) (ht : tys[t0]? = some (cA, .long)) (hk : k < n) (hd : d < w) (hw : w < 2 ^ 31) (hdg : decode cc pc = .ok (.lastore, 1))
    (kk : ∀ (H1 : Heap) (locs1 : List Loc), va_P D cl (X ++ (nw_rl n cA w ry (va_up M k (va_up (M k) d v)) ++ pl)) H1 → va_D A (X ++ (nw_rl n cA w ry (va_up M k (va_up (M k) d v)) ++ pl)) → va_S A H0 H1 locs1 → W p l e R s m args below meth c H1 locs1 cells slots Q (F0 m (pc + 1) ls rest)) : W p l e R s m args below meth c H locs cells slots Q (F0 m pc ls (.long (lN v) :: .int (nI d) :: .ref (ry k) :: rest)) := by
  refine nw_last hexec hb hK hP hD hS (X.length + k) t0 (nw_rl_at X pl hk) ht hd hw hdg ?_
  rw [nw_rl_set X pl hk]
  exact kk
/-- calls where a pool lies behind the fixed cells: the callee has none of it -/
theorem nw_callvQ {S : Type} {post : S → Prop} {W1 : S → va_W} {wc wr : va_W} {mc ms : Nat} {st0 : List Value} {av : Array Value}
    (hP : va_P D cl (X ++ pl) H) (hD : va_D A (X ++ pl)) (hS : va_S A H0 H locs) (hA : ∀ q, H0.size ≤ q → A q) (isC isR : List Nat) (hC : isC.map (fun i => X[i]?) = wc.map some) (hR : isR.map (fun i => X[i]?) = wr.map some) (hn : va_nd isR = true) (hdis : ∀ i ∈ isR, i ∉ isC)
    (hr : va_Run p l e R s m args below meth c H locs cells slots mc ms (F0 m pc ls st0) rest (va_Qv post (nw_B D cl (va_A wc H.size) W1) (va_A wc H.size) av) (va_A wc H.size))
    (kk : ∀ (u : S) (H1 : Heap) (locs1 : List Loc), post u → va_P D cl ((wr ++ W1 u) ++ pl) H1 → va_D A ((wr ++ W1 u) ++ pl) → va_S A H0 H1 locs1 → W p l e R s m args below meth c H1 locs1 (cells + mc) (slots + ms) Q (F0 m (pc + 3) ls rest)) : W p l e R s m args below meth c H locs cells slots Q (F0 m pc ls st0) := by
  have hFc : ∀ q, va_A wc H.size q → A q := fun q h => by
    rcases h with ⟨k, e, h⟩ | h
    · obtain ⟨i, -, h2⟩ := va_in_of isC hC h
      have hl := (List.getElem?_eq_some_iff.mp h2).1
      exact hD.2 i (q, e) (by rw [List.getElem?_append_left hl]; exact h2)
    · exact hA q (Nat.le_trans hS.1 h)
  refine va_callv hr hS (fun q _ h => hFc q h) hFc (fun u t H1 locs1 ht hvm hw hB hz1 hk1 hS1 => ?_)
  obtain ⟨hP1, hD1⟩ := hB
  rw [ht] at hP1
  obtain ⟨hP2, hD2⟩ := va_joinQ hP hD isC isR hC hR hn hdis hk1 hFc hP1 hD1
  exact kk u H1 locs1 hw hP2 hD2 hS1
end NWG
end
section
/-! Pure: which words come into the result, in their order; how many of them stand ahead of one. -/
theorem nw_cnt_mono (f : Nat → Prop) [DecidablePred f] {i j : Nat} (h : i ≤ j) : nw_cnt f i ≤ nw_cnt f j := by
  induction j with
  | zero => rw [show i = 0 by omega]; exact Nat.le_refl _
  | succ j ih =>
    by_cases e : i = j + 1
    · rw [e]; exact Nat.le_refl _
    · exact Nat.le_trans (ih (by omega)) (Nat.le_add_right _ _)
theorem nw_cnt_pos {f : Nat → Prop} [DecidablePred f] {n : Nat} (h : f n) : nw_cnt f (n + 1) = nw_cnt f n + 1 := by
  show nw_cnt f n + (if f n then 1 else 0) = _
  rw [if_pos h]
theorem nw_cnt_neg {f : Nat → Prop} [DecidablePred f] {n : Nat} (h : ¬ f n) : nw_cnt f (n + 1) = nw_cnt f n := by
  show nw_cnt f n + (if f n then 1 else 0) = _
  rw [if_neg h]; rfl
theorem nw_cnt_lt {f : Nat → Prop} [DecidablePred f] {i n : Nat} (h : i < n) (hs : f i) : nw_cnt f i < nw_cnt f n := by
  have h1 := nw_cnt_pos hs
  have h2 := nw_cnt_mono f (i := i + 1) (j := n) (by omega)
  omega
theorem nw_cnt_ex {f : Nat → Prop} [DecidablePred f] {n r : Nat} (h : r < nw_cnt f n) : ∃ i, i < n ∧ f i ∧ nw_cnt f i = r := by
  induction n with
  | zero => exact absurd h (Nat.not_lt_zero _)
  | succ n ih =>
    by_cases e : r < nw_cnt f n
    · obtain ⟨i, h1, h2, h3⟩ := ih e
      exact ⟨i, by omega, h2, h3⟩
    · by_cases s : f n
      · rw [nw_cnt_pos s] at h
        exact ⟨n, by omega, s, by omega⟩
      · rw [nw_cnt_neg s] at h
        exact absurd h e
theorem nw_cnt_congr {f g : Nat → Prop} [DecidablePred f] [DecidablePred g] {n : Nat} (h : ∀ i, i < n → (f i ↔ g i)) : nw_cnt f n = nw_cnt g n := by
  induction n with
  | zero => rfl
  | succ n ih =>
    have h1 := ih (fun i hi => h i (by omega))
    by_cases s : f n
    · rw [nw_cnt_pos s, nw_cnt_pos ((h n (by omega)).mp s), h1]
    · rw [nw_cnt_neg s, nw_cnt_neg (fun q => s ((h n (by omega)).mpr q)), h1]
/-- of the first n words those with sel, as long as there is room for 50, lie in the result: their lengths, their distances, their numbers -/
def nw_kp (sel : Nat → Prop) [DecidablePred sel] (dd : Nat → Nat) (n : Nat) (wd : Nat → Nat → Nat) (ln : Nat → Nat) (rs : Nat → Nat → Nat) (RL RD : Nat → Nat) : Prop :=
  ∀ i, i < n → sel i → nw_cnt sel i < 50 → RL (nw_cnt sel i) = ln i ∧ RD (nw_cnt sel i) = dd i ∧ ∀ k, k < ln i → rs (nw_cnt sel i) k = wd i k
theorem nw_kp_0 {sel : Nat → Prop} [DecidablePred sel] {dd : Nat → Nat} {wd : Nat → Nat → Nat} {ln : Nat → Nat} {rs : Nat → Nat → Nat} {RL RD : Nat → Nat} : nw_kp sel dd 0 wd ln rs RL RD := fun i h => absurd h (Nat.not_lt_zero i)
theorem nw_kp_no {sel : Nat → Prop} [DecidablePred sel] {dd : Nat → Nat} {n : Nat} {wd : Nat → Nat → Nat} {ln : Nat → Nat} {rs : Nat → Nat → Nat} {RL RD : Nat → Nat} (h : nw_kp sel dd n wd ln rs RL RD) (hn : ¬ sel n) : nw_kp sel dd (n + 1) wd ln rs RL RD := fun i hi hs hc => by
  by_cases e : i = n
  · rw [e] at hs; exact absurd hs hn
  · exact h i (by omega) hs hc
theorem nw_kp_full {sel : Nat → Prop} [DecidablePred sel] {dd : Nat → Nat} {n : Nat} {wd : Nat → Nat → Nat} {ln : Nat → Nat} {rs : Nat → Nat → Nat} {RL RD : Nat → Nat} (h : nw_kp sel dd n wd ln rs RL RD) (hf : 50 ≤ nw_cnt sel n) : nw_kp sel dd (n + 1) wd ln rs RL RD := fun i hi hs hc => by
  by_cases e : i = n
  · rw [e] at hc; omega
  · exact h i (by omega) hs hc
theorem nw_kp_yes {sel : Nat → Prop} [DecidablePred sel] {dd : Nat → Nat} {n c : Nat} {wd : Nat → Nat → Nat} {ln : Nat → Nat} {rs rs' : Nat → Nat → Nat} {RL RD RL' RD' : Nat → Nat} (h : nw_kp sel dd n wd ln rs RL RD) (hL : ∀ i, i < n → ln i ≤ 60) (hc : nw_cnt sel n = c)
    (h1 : RL' c = ln n) (h2 : RD' c = dd n) (h3 : ∀ k, k < ln n → rs' c k = wd n k) (o1 : ∀ j, j < c → RL' j = RL j) (o2 : ∀ j, j < c → RD' j = RD j) (o3 : ∀ j k, j < c → k < 60 → rs' j k = rs j k) : nw_kp sel dd (n + 1) wd ln rs' RL' RD' := fun i hi hs hcc => by
  by_cases e : i = n
  · rw [e, hc]; exact ⟨h1, h2, h3⟩
  · have hi2 : i < n := by omega
    have hlt := nw_cnt_lt hi2 hs
    obtain ⟨g1, g2, g3⟩ := h i hi2 hs hcc
    refine ⟨by rw [o1 _ (by omega)]; exact g1, by rw [o2 _ (by omega)]; exact g2, fun k hk => ?_⟩
    have := hL i hi2
    rw [o3 _ _ (by omega) (by omega)]; exact g3 k hk
/-- .. of the reference's form of the arrays -/
theorem nw_kp_m {sel : Nat → Prop} [DecidablePred sel] {dd : Nat → Nat} {n c : Nat} {X Ln Y RL RD : Nat → Nat} (h : nw_kp sel dd n (fun i k => X (i * 60 + k)) Ln (fun r k => Y (r * 60 + k)) RL RD) (hL : ∀ i, i < n + 1 → Ln i ≤ 60) (hc : nw_cnt sel n = c) {d : Nat} (hd : d = dd n) :
    nw_kp sel dd (n + 1) (fun i k => X (i * 60 + k)) Ln (fun r k => va_cpy X Y (n * 60) (c * 60) (Ln n) (r * 60 + k)) (va_up RL c (Ln n)) (va_up RD c d) := by
  have hn := hL n (by omega)
  refine nw_kp_yes h (fun i hi => hL i (by omega)) hc (va_up_self _ _ _) ((va_up_self _ _ _).trans hd) (fun k hk => ?_) (fun j hj => va_up_ne _ _ (by omega)) (fun j hj => va_up_ne _ _ (by omega)) (fun j k hj hk => ?_)
  · show va_cpy X Y (n * 60) (c * 60) (Ln n) (c * 60 + k) = X (n * 60 + k)
    rw [pk_cpy_in (by omega) (by omega)]
    congr 1; omega
  · exact pk_cpy_out (by omega)
theorem nw_cpy_lt {f g : Nat → Nat} {sp dp n : Nat} (hf : ∀ j, f j < 128) (hg : ∀ j, g j < 128) : ∀ j, va_cpy f g sp dp n j < 128 := fun j => by
  by_cases e : dp ≤ j ∧ j < dp + n
  · rw [pk_cpy_in e.1 e.2]; exact hf _
  · rw [pk_cpy_out (by omega)]; exact hg _
end
section
/-! Pure: which words are the nearest: E i is the distance of word i, or more than is asked for; those with the smaller distance go first, among one distance those ahead in the order; 50 in all. -/
def nw_E (D n L ms : Nat) : Nat := if D ≤ ms ∧ D < n ∧ D < L then D else 4
theorem nw_E_eq {D n L ms d : Nat} (hd : d ≤ ms) (hm : ms ≤ 3) : nw_E D n L ms = d ↔ D = d ∧ d < n ∧ d < L := by
  unfold nw_E
  by_cases h : D ≤ ms ∧ D < n ∧ D < L
  · rw [if_pos h]
    constructor
    · intro e; exact ⟨e, by omega, by omega⟩
    · intro e; exact e.1
  · rw [if_neg h]
    constructor
    · intro e; omega
    · intro e; exact absurd ⟨by omega, by omega, by omega⟩ h
def nw_sm (f : Nat → Nat) : Nat → Nat
  | 0 => 0
  | n + 1 => nw_sm f n + f n
/-- how many stand ahead of word w of distance d, N words in all -/
def nw_T (E : Nat → Nat) (N d w : Nat) : Nat := nw_sm (fun d' => nw_cnt (fun i => E i = d') N) d + nw_cnt (fun i => E i = d) w
abbrev nw_sl (E : Nat → Nat) (N ms : Nat) (i : Nat) : Prop := E i ≤ ms ∧ nw_T E N (E i) i < 50
theorem nw_T_0 (E : Nat → Nat) (N d : Nat) : nw_T E N (d + 1) 0 = nw_T E N d N := rfl
theorem nw_T_pos {E : Nat → Nat} {N d w : Nat} (h : E w = d) : nw_T E N d (w + 1) = nw_T E N d w + 1 := by
  unfold nw_T
  rw [nw_cnt_pos (f := fun i => E i = d) h]; omega
theorem nw_T_neg {E : Nat → Nat} {N d w : Nat} (h : ¬ E w = d) : nw_T E N d (w + 1) = nw_T E N d w := by
  unfold nw_T
  rw [nw_cnt_neg (f := fun i => E i = d) h]
theorem nw_T_mono (E : Nat → Nat) (N d : Nat) {i j : Nat} (h : i ≤ j) : nw_T E N d i ≤ nw_T E N d j := by
  unfold nw_T
  have := nw_cnt_mono (fun i => E i = d) h
  omega
/-- of one distance: those that find room -/
theorem nw_T_cut (E : Nat → Nat) (S d w : Nat) : nw_cnt (fun i => E i = d ∧ S + nw_cnt (fun j => E j = d) i < 50) w = min (nw_cnt (fun j => E j = d) w) (50 - S) := by
  induction w with
  | zero => show 0 = min 0 (50 - S); omega
  | succ w ih =>
    by_cases h : E w = d
    · rw [nw_cnt_pos (f := fun j => E j = d) h]
      by_cases g : S + nw_cnt (fun j => E j = d) w < 50
      · rw [nw_cnt_pos (f := fun i => E i = d ∧ S + nw_cnt (fun j => E j = d) i < 50) ⟨h, g⟩, ih]; omega
      · rw [nw_cnt_neg (f := fun i => E i = d ∧ S + nw_cnt (fun j => E j = d) i < 50) (fun q => g q.2), ih]; omega
    · rw [nw_cnt_neg (f := fun j => E j = d) h, nw_cnt_neg (f := fun i => E i = d ∧ S + nw_cnt (fun j => E j = d) i < 50) (fun q => h q.1), ih]
theorem nw_sm_one {f g : Nat → Nat} {n d : Nat} (hd : d < n) (h1 : g d = f d + 1) (h2 : ∀ j, j ≠ d → g j = f j) : nw_sm g n = nw_sm f n + 1 := by
  have same : ∀ k, k ≤ d → nw_sm g k = nw_sm f k := by
    intro k
    induction k with
    | zero => intro _; rfl
    | succ k ih => intro hk; show nw_sm g k + g k = nw_sm f k + f k; rw [ih (by omega), h2 k (by omega)]
  have more : ∀ k, d < k → nw_sm g k = nw_sm f k + 1 := by
    intro k
    induction k with
    | zero => intro h; omega
    | succ k ih =>
      intro hk
      show nw_sm g k + g k = nw_sm f k + f k + 1
      by_cases e : k = d
      · rw [e, same d (Nat.le_refl _), h1]; omega
      · rw [ih (by omega), h2 k e]; omega
  exact more n hd
theorem nw_sm_congr {f g : Nat → Nat} {n : Nat} (h : ∀ j, j < n → g j = f j) : nw_sm g n = nw_sm f n := by
  induction n with
  | zero => rfl
  | succ n ih => show nw_sm g n + g n = nw_sm f n + f n; rw [ih (fun j hj => h j (by omega)), h n (by omega)]
theorem nw_sl_sum (E : Nat → Nat) (N ms w : Nat) : nw_cnt (nw_sl E N ms) w = nw_sm (fun d => nw_cnt (fun i => E i = d ∧ nw_T E N d i < 50) w) (ms + 1) := by
  induction w with
  | zero =>
    show 0 = _
    have : ∀ k, nw_sm (fun d => nw_cnt (fun i => E i = d ∧ nw_T E N d i < 50) 0) k = 0 := by
      intro k
      induction k with
      | zero => rfl
      | succ k ih => show _ + 0 = 0; rw [ih]
    exact (this _).symm
  | succ w ih =>
    by_cases h : nw_sl E N ms w
    · rw [nw_cnt_pos h, ih]
      refine (nw_sm_one (d := E w) (by have := h.1; omega) ?_ (fun j hj => ?_)).symm
      · exact nw_cnt_pos (f := fun i => E i = E w ∧ nw_T E N (E w) i < 50) ⟨rfl, h.2⟩
      · exact nw_cnt_neg (f := fun i => E i = j ∧ nw_T E N j i < 50) (fun q => hj q.1.symm)
    · rw [nw_cnt_neg h, ih]
      refine (nw_sm_congr (fun j hj => ?_)).symm
      exact nw_cnt_neg (f := fun i => E i = j ∧ nw_T E N j i < 50) (fun q => h ⟨by rw [q.1]; omega, by rw [q.1]; exact q.2⟩)
/-- 50 in all -/
theorem nw_sl_all (E : Nat → Nat) (N ms : Nat) : nw_cnt (nw_sl E N ms) N = min 50 (nw_sm (fun d => nw_cnt (fun i => E i = d) N) (ms + 1)) := by
  rw [nw_sl_sum]
  have key : ∀ k, nw_sm (fun d => nw_cnt (fun i => E i = d ∧ nw_T E N d i < 50) N) k = min 50 (nw_sm (fun d => nw_cnt (fun i => E i = d) N) k) := by
    intro k
    induction k with
    | zero => rfl
    | succ k ih =>
      show _ + nw_cnt (fun i => E i = k ∧ nw_T E N k i < 50) N = min 50 (nw_sm (fun d => nw_cnt (fun i => E i = d) N) k + nw_cnt (fun i => E i = k) N)
      have e := nw_T_cut E (nw_sm (fun d => nw_cnt (fun i => E i = d) N) k) k N
      rw [ih]
      show _ + nw_cnt (fun i => E i = k ∧ nw_sm (fun d => nw_cnt (fun i => E i = d) N) k + nw_cnt (fun j => E j = k) i < 50) N = _
      rw [e]; omega
  exact key _
theorem nw_sl_le (E : Nat → Nat) (N ms : Nat) : nw_cnt (nw_sl E N ms) N ≤ 50 := by rw [nw_sl_all]; omega
theorem nw_sm_mono (f : Nat → Nat) {i j : Nat} (h : i ≤ j) : nw_sm f i ≤ nw_sm f j := by
  induction j with
  | zero => rw [show i = 0 by omega]; exact Nat.le_refl _
  | succ j ih =>
    by_cases e : i = j + 1
    · rw [e]; exact Nat.le_refl _
    · exact Nat.le_trans (ih (by omega)) (Nat.le_add_right _ _)
theorem nw_T_lt {E : Nat → Nat} {N i j : Nat} (hi : i < N) (h : E i < E j) : nw_T E N (E i) i < nw_T E N (E j) j := by
  have h1 : nw_T E N (E i) (i + 1) = nw_T E N (E i) i + 1 := nw_T_pos rfl
  have h2 := nw_T_mono E N (E i) (i := i + 1) (j := N) (by omega)
  have h3 : nw_T E N (E i) N = nw_sm (fun d' => nw_cnt (fun i => E i = d') N) (E i + 1) := rfl
  have h4 := nw_sm_mono (fun d' => nw_cnt (fun i => E i = d') N) (i := E i + 1) (j := E j) (by omega)
  have h5 : nw_sm (fun d' => nw_cnt (fun i => E i = d') N) (E j) ≤ nw_T E N (E j) j := Nat.le_add_right _ _
  omega
theorem nw_T_inj {E : Nat → Nat} {N i j : Nat} (hi : i < N) (hj : j < N) (h : nw_T E N (E i) i = nw_T E N (E j) j) : i = j := by
  rcases Nat.lt_trichotomy (E i) (E j) with e | e | e
  · have := nw_T_lt hi e; omega
  · rcases Nat.lt_trichotomy i j with q | q | q
    · have h1 : nw_T E N (E i) (i + 1) = nw_T E N (E i) i + 1 := nw_T_pos rfl
      have h2 := nw_T_mono E N (E i) (i := i + 1) (j := j) (by omega)
      rw [e] at h1 h2 h; omega
    · exact q
    · have h1 : nw_T E N (E j) (j + 1) = nw_T E N (E j) j + 1 := nw_T_pos rfl
      have h2 := nw_T_mono E N (E j) (i := j + 1) (j := i) (by omega)
      rw [e] at h; omega
  · have := nw_T_lt hj e; omega
end
section
section NWN
variable {p : Program} {l : Launch} {e : Env} {R : Room} {s : State} {m : MethodId} {args : Array Value} {below : List Frame} {meth : Method} {c : Code} {H : Heap} {locs : List Loc} {cells slots : Nat} {Q : State → Prop}
variable {cc : ByteArray} {pc : Nat} {ls : Array Slot} {rest : List Value} {D : va_G} {cl : List vw_C} {A : Nat → Prop} {tys : List (ClassId × FieldType)} {ws : va_W} {H0 : Heap}
/-- a new array of numbers, its class one that is known -/
theorem nw_newa (hexec : p.tables.exec = Jvm.exec) (hb : c.code = cc) {atype : ArrayType} {ty : FieldType} (harr : (Cond.arrayClass ty).before args s = true) (hty : newarray.typeOf atype = ty) (hK : va_K D cl tys s) (hP : va_P D cl ws H) (hD : va_D A ws) (hS : va_S A H0 H locs) (hA : ∀ q, H0.size ≤ q → A q) (t0 : Nat) {cB : ClassId} (ht : tys[t0]? = some (cB, ty)) (hpr : (match ty with | .object _ => false | _ => true) = true)
    {n : Nat} (hn : n < 2 ^ 31) {a0 : vp_A} (ha : ∀ cA : ClassId, vp_cell cA a0 = arrV cA n (fun _ => defaultValue ty)) (hbytes : n * componentBytes ty ≤ 536870912) (hcells : cells + 1 ≤ R.cells) (hslots : slots + n ≤ R.slots) (hdg : decode cc pc = .ok (.newarray atype, 2))
    (kk : ∀ (q : Nat) (H1 : Heap), va_P D cl (ws ++ [(q, .inl (cB, a0))]) H1 → va_D A (ws ++ [(q, .inl (cB, a0))]) → va_S A H0 H1 locs → W p l e R s m args below meth c H1 locs (cells + 1) (slots + n) Q (F0 m (pc + 2) ls (.ref q :: rest))) : W p l e R s m args below meth c H locs cells slots Q (F0 m pc ls (.int (nI n) :: rest)) := by
  refine va_newa hexec hb (by rw [hty]; exact harr) hty hK hP hD hS hA ha (nI_pos hn) (nI_clamp hn) hbytes hcells hslots hdg (fun q cA H1 hK1 hP1 hD1 hS1 => ?_)
  have h1 := (hK.2 t0 _ ht).2
  have h2 := (hK1.2 tys.length (cA, ty) (by simp)).2
  have e : cA = cB := by
    cases ty with
    | object C => simp at hpr
    | _ => exact Option.some.inj (h2.symm.trans h1)
  subst e
  exact kk q H1 hP1 hD1 hS1
end NWN
/-- the first n places hold v -/
def nw_fl (n v : Nat) (f : Nat → Nat) : Nat → Nat := fun x => if x < n then v else f x
end
section
/-! Names: classes, their fields, methods, what each instruction decodes to (written by wip/whole/gen/names.py) -/
def R_NW : String := "NearWords"
def F_NW : u_T := fun k => match k with
  | 0 => ("NearWords", "input", "LNearWords$Row;", false)
  | 1 => ("NearWords", "taken", "LNearWords$Row;", false)
  | 2 => ("NearWords", "words", "LNearWords$WordList;", true)
  | 3 => ("NearWords", "result", "LNearWords$Result;", true)
  | 4 => ("NearWords", "pattern", "LNearWords$Pattern;", true)
  | 5 => ("NearWords", "meter", "LNearWords$Meter;", true)
  | _ => ("NearWords", "nearest", "LNearWords$Nearest;", true)
def t_NW : Nat → FieldType := fun k => match k with
  | 0 => (.object "NearWords$Row")
  | 1 => (.object "NearWords$Row")
  | 2 => (.object "NearWords$WordList")
  | 3 => (.object "NearWords$Result")
  | 4 => (.object "NearWords$Pattern")
  | 5 => (.object "NearWords$Meter")
  | _ => (.object "NearWords$Nearest")
theorem n_NW : ∀ a, a < 7 → ∀ b, b < 7 → a ≠ b → (F_NW a).2.1 ≠ (F_NW b).2.1 := by decide +kernel
theorem t_NW_ok : ∀ k, k < 7 → parseFieldDescriptor (F_NW k).2.2.1 = some (t_NW k) := by decide +kernel
def R_Mod : String := "NearWordsModel"
def F_Mod : u_T := fun k => match k with
  | 0 => ("NearWordsModel", "input", "[B", true)
  | 1 => ("NearWordsModel", "word", "[B", true)
  | 2 => ("NearWordsModel", "result", "[B", true)
  | 3 => ("NearWordsModel", "length", "[I", true)
  | 4 => ("NearWordsModel", "resultLength", "[I", true)
  | 5 => ("NearWordsModel", "resultDistance", "[I", true)
  | 6 => ("NearWordsModel", "chosen", "[I", true)
  | 7 => ("NearWordsModel", "far", "[I", true)
  | 8 => ("NearWordsModel", "step", "[I", true)
  | 9 => ("NearWordsModel", "now", "[Z", true)
  | 10 => ("NearWordsModel", "next", "[Z", true)
  | 11 => ("NearWordsModel", "inputSize", "I", false)
  | 12 => ("NearWordsModel", "words", "I", false)
  | 13 => ("NearWordsModel", "characters", "I", false)
  | 14 => ("NearWordsModel", "results", "I", false)
  | _ => ("NearWordsModel", "thrown", "I", false)
def t_Mod : Nat → FieldType := fun k => match k with
  | 0 => (.array .byte)
  | 1 => (.array .byte)
  | 2 => (.array .byte)
  | 3 => (.array .int)
  | 4 => (.array .int)
  | 5 => (.array .int)
  | 6 => (.array .int)
  | 7 => (.array .int)
  | 8 => (.array .int)
  | 9 => (.array .boolean)
  | 10 => (.array .boolean)
  | 11 => .int
  | 12 => .int
  | 13 => .int
  | 14 => .int
  | _ => .int
theorem n_Mod : ∀ a, a < 16 → ∀ b, b < 16 → a ≠ b → (F_Mod a).2.1 ≠ (F_Mod b).2.1 := by decide +kernel
theorem t_Mod_ok : ∀ k, k < 16 → parseFieldDescriptor (F_Mod k).2.2.1 = some (t_Mod k) := by decide +kernel
def R_Met : String := "NearWords$Meter"
def F_Met : u_T := fun k => match k with
  | 0 => ("NearWords$Meter", "placesOf", "[J", true)
  | 1 => ("NearWords$Meter", "reach", "[[J", true)
  | _ => ("NearWords$Meter", "aimLength", "I", false)
def t_Met : Nat → FieldType := fun k => match k with
  | 0 => (.array .long)
  | 1 => (.array (.array .long))
  | _ => .int
theorem n_Met : ∀ a, a < 3 → ∀ b, b < 3 → a ≠ b → (F_Met a).2.1 ≠ (F_Met b).2.1 := by decide +kernel
theorem t_Met_ok : ∀ k, k < 3 → parseFieldDescriptor (F_Met k).2.2.1 = some (t_Met k) := by decide +kernel
def R_Near : String := "NearWords$Nearest"
def F_Near : u_T := fun k => match k with
  | 0 => ("NearWords$Nearest", "steps", "[B", true)
  | _ => ("NearWords$Nearest", "withSteps", "[I", true)
def t_Near : Nat → FieldType := fun k => match k with
  | 0 => (.array .byte)
  | _ => (.array .int)
theorem n_Near : ∀ a, a < 2 → ∀ b, b < 2 → a ≠ b → (F_Near a).2.1 ≠ (F_Near b).2.1 := by decide +kernel
theorem t_Near_ok : ∀ k, k < 2 → parseFieldDescriptor (F_Near k).2.2.1 = some (t_Near k) := by decide +kernel
def R_Pat : String := "NearWords$Pattern"
def F_Pat : u_T := fun k => match k with
  | 0 => ("NearWords$Pattern", "placesOf", "[J", true)
  | 1 => ("NearWords$Pattern", "anyRow", "J", false)
  | 2 => ("NearWords$Pattern", "anyOne", "J", false)
  | _ => ("NearWords$Pattern", "length", "I", false)
def t_Pat : Nat → FieldType := fun k => match k with
  | 0 => (.array .long)
  | 1 => .long
  | 2 => .long
  | _ => .int
theorem n_Pat : ∀ a, a < 4 → ∀ b, b < 4 → a ≠ b → (F_Pat a).2.1 ≠ (F_Pat b).2.1 := by decide +kernel
theorem t_Pat_ok : ∀ k, k < 4 → parseFieldDescriptor (F_Pat k).2.2.1 = some (t_Pat k) := by decide +kernel
def R_Res : String := "NearWords$Result"
def F_Res : u_T := fun k => match k with
  | 0 => ("NearWords$Result", "characters", "[[B", true)
  | 1 => ("NearWords$Result", "lengths", "[I", true)
  | 2 => ("NearWords$Result", "steps", "[I", true)
  | _ => ("NearWords$Result", "size", "I", false)
def t_Res : Nat → FieldType := fun k => match k with
  | 0 => (.array (.array .byte))
  | 1 => (.array .int)
  | 2 => (.array .int)
  | _ => .int
theorem n_Res : ∀ a, a < 4 → ∀ b, b < 4 → a ≠ b → (F_Res a).2.1 ≠ (F_Res b).2.1 := by decide +kernel
theorem t_Res_ok : ∀ k, k < 4 → parseFieldDescriptor (F_Res k).2.2.1 = some (t_Res k) := by decide +kernel
def R_Row : String := "NearWords$Row"
def F_Row : u_T := fun k => match k with
  | 0 => ("NearWords$Row", "characters", "[B", true)
  | _ => ("NearWords$Row", "length", "I", false)
def t_Row : Nat → FieldType := fun k => match k with
  | 0 => (.array .byte)
  | _ => .int
theorem n_Row : ∀ a, a < 2 → ∀ b, b < 2 → a ≠ b → (F_Row a).2.1 ≠ (F_Row b).2.1 := by decide +kernel
theorem t_Row_ok : ∀ k, k < 2 → parseFieldDescriptor (F_Row k).2.2.1 = some (t_Row k) := by decide +kernel
def R_WL : String := "NearWords$WordList"
def F_WL : u_T := fun k => match k with
  | 0 => ("NearWords$WordList", "characters", "[B", true)
  | 1 => ("NearWords$WordList", "starts", "[I", true)
  | _ => ("NearWords$WordList", "size", "I", false)
def t_WL : Nat → FieldType := fun k => match k with
  | 0 => (.array .byte)
  | 1 => (.array .int)
  | _ => .int
theorem n_WL : ∀ a, a < 3 → ∀ b, b < 3 → a ≠ b → (F_WL a).2.1 ≠ (F_WL b).2.1 := by decide +kernel
theorem t_WL_ok : ∀ k, k < 3 → parseFieldDescriptor (F_WL k).2.2.1 = some (t_WL k) := by decide +kernel
def R_Law : String := "NearWordsLaw"
def R_Arr : String := "java/util/Arrays"
abbrev nw_cls : List vw_C := [(R_NW, F_NW, 7), (R_Mod, F_Mod, 16), (R_Met, F_Met, 3), (R_Near, F_Near, 2), (R_Pat, F_Pat, 4), (R_Res, F_Res, 4), (R_Row, F_Row, 2), (R_WL, F_WL, 3)]
abbrev b_Row_length : ByteArray := prog_6_method_2_code
def y_Row_length : MethodName := ⟨R_Row, "length", "()I"⟩
abbrev b_Row_isEmpty : ByteArray := prog_6_method_3_code
def y_Row_isEmpty : MethodName := ⟨R_Row, "isEmpty", "()Z"⟩
abbrev b_Row_at : ByteArray := prog_6_method_4_code
def y_Row_at : MethodName := ⟨R_Row, "at", "(I)I"⟩
abbrev b_Row_clear : ByteArray := prog_6_method_5_code
def y_Row_clear : MethodName := ⟨R_Row, "clear", "()V"⟩
abbrev b_Row_append : ByteArray := prog_6_method_6_code
def y_Row_append : MethodName := ⟨R_Row, "append", "(I)V"⟩
abbrev b_Row_copyTo : ByteArray := prog_6_method_7_code
def y_Row_copyTo : MethodName := ⟨R_Row, "copyTo", "([BI)V"⟩
abbrev b_WL_size : ByteArray := prog_7_method_2_code
def y_WL_size : MethodName := ⟨R_WL, "size", "()I"⟩
abbrev b_WL_characters : ByteArray := prog_7_method_3_code
def y_WL_characters : MethodName := ⟨R_WL, "characters", "()I"⟩
abbrev b_WL_lengthOf : ByteArray := prog_7_method_4_code
def y_WL_lengthOf : MethodName := ⟨R_WL, "lengthOf", "(I)I"⟩
abbrev b_WL_at : ByteArray := prog_7_method_5_code
def y_WL_at : MethodName := ⟨R_WL, "at", "(II)I"⟩
abbrev b_WL_longest : ByteArray := prog_7_method_6_code
def y_WL_longest : MethodName := ⟨R_WL, "longest", "()I"⟩
abbrev b_WL_compare : ByteArray := prog_7_method_13_code
def y_WL_compare : MethodName := ⟨R_WL, "compare", "(ILNearWords$Row;)I"⟩
abbrev b_WL_placeOf : ByteArray := prog_7_method_7_code
def y_WL_placeOf : MethodName := ⟨R_WL, "placeOf", "(LNearWords$Row;)I"⟩
abbrev b_WL_isAt : ByteArray := prog_7_method_8_code
def y_WL_isAt : MethodName := ⟨R_WL, "isAt", "(ILNearWords$Row;)Z"⟩
abbrev b_WL_hasRoomFor : ByteArray := prog_7_method_9_code
def y_WL_hasRoomFor : MethodName := ⟨R_WL, "hasRoomFor", "(LNearWords$Row;)Z"⟩
abbrev b_WL_insertAt : ByteArray := prog_7_method_10_code
def y_WL_insertAt : MethodName := ⟨R_WL, "insertAt", "(ILNearWords$Row;)V"⟩
abbrev b_WL_deleteAt : ByteArray := prog_7_method_11_code
def y_WL_deleteAt : MethodName := ⟨R_WL, "deleteAt", "(I)V"⟩
abbrev b_Arr_fillJ : ByteArray := prog_17_method_101_code
def y_Arr_fillJ : MethodName := ⟨R_Arr, "fill", "([JJ)V"⟩
abbrev b_Arr_fillI : ByteArray := prog_17_method_103_code
def y_Arr_fillI : MethodName := ⟨R_Arr, "fill", "([II)V"⟩
abbrev b_Row_init : ByteArray := prog_6_method_1_code
def y_Row_init : MethodName := ⟨R_Row, "<init>", "()V"⟩
abbrev b_WL_init : ByteArray := prog_7_method_1_code
def y_WL_init : MethodName := ⟨R_WL, "<init>", "()V"⟩
abbrev b_Pat_init : ByteArray := prog_4_method_1_code
def y_Pat_init : MethodName := ⟨R_Pat, "<init>", "()V"⟩
abbrev b_Near_init : ByteArray := prog_3_method_1_code
def y_Near_init : MethodName := ⟨R_Near, "<init>", "()V"⟩
abbrev b_Mod_thrown : ByteArray := prog_9_method_2_code
def y_Mod_thrown : MethodName := ⟨R_Mod, "thrown", "()I"⟩
abbrev b_Mod_least : ByteArray := prog_9_method_4_code
def y_Mod_least : MethodName := ⟨R_Mod, "least", "(II)I"⟩
abbrev b_Mod_take : ByteArray := prog_9_method_5_code
def y_Mod_take : MethodName := ⟨R_Mod, "take", "()I"⟩
abbrev b_Mod_order : ByteArray := prog_9_method_6_code
def y_Mod_order : MethodName := ⟨R_Mod, "order", "(II)I"⟩
abbrev b_Mod_standing : ByteArray := prog_9_method_7_code
def y_Mod_standing : MethodName := ⟨R_Mod, "standing", "(I)I"⟩
abbrev b_Mod_before : ByteArray := prog_9_method_16_code
def y_Mod_before : MethodName := ⟨R_Mod, "before", "()I"⟩
abbrev b_Mod_count : ByteArray := prog_9_method_19_code
def y_Mod_count : MethodName := ⟨R_Mod, "count", "(I)I"⟩
abbrev b_Mod_letter : ByteArray := prog_9_method_17_code
def y_Mod_letter : MethodName := ⟨R_Mod, "letter", "(II)I"⟩
abbrev b_Mod_distance : ByteArray := prog_9_method_18_code
def y_Mod_distance : MethodName := ⟨R_Mod, "distance", "(I)I"⟩
abbrev b_Mod_shift : ByteArray := prog_9_method_8_code
def y_Mod_shift : MethodName := ⟨R_Mod, "shift", "(III)V"⟩
abbrev b_Mod_keep : ByteArray := prog_9_method_12_code
def y_Mod_keep : MethodName := ⟨R_Mod, "keep", "(III)V"⟩
abbrev b_Mod_steps : ByteArray := prog_9_method_11_code
def y_Mod_steps : MethodName := ⟨R_Mod, "steps", "(II)I"⟩
abbrev b_Mod_fits : ByteArray := prog_9_method_14_code
def y_Mod_fits : MethodName := ⟨R_Mod, "fits", "(II)Z"⟩
abbrev b_Mod_add : ByteArray := prog_9_method_9_code
def y_Mod_add : MethodName := ⟨R_Mod, "add", "()I"⟩
abbrev b_Mod_remove : ByteArray := prog_9_method_10_code
def y_Mod_remove : MethodName := ⟨R_Mod, "remove", "()I"⟩
abbrev b_Mod_like : ByteArray := prog_9_method_15_code
def y_Mod_like : MethodName := ⟨R_Mod, "like", "()I"⟩
abbrev b_Mod_near : ByteArray := prog_9_method_13_code
def y_Mod_near : MethodName := ⟨R_Mod, "near", "(I)I"⟩
abbrev b_Mod_type : ByteArray := prog_9_method_3_code
def y_Mod_type : MethodName := ⟨R_Mod, "type", "(JJ)I"⟩
abbrev b_Mod_init : ByteArray := prog_9_method_1_code
def y_Mod_init : MethodName := ⟨R_Mod, "<init>", "()V"⟩
end
section
theorem d_Row_length_0 : decode b_Row_length 0 = .ok (.aload_n 0, 1) := by decide +kernel
theorem d_Row_length_1 : decode b_Row_length 1 = .ok (.getfield 15, 3) := by decide +kernel
theorem d_Row_length_4 : decode b_Row_length 4 = .ok (.ireturn, 1) := by decide +kernel
theorem d_Row_isEmpty_0 : decode b_Row_isEmpty 0 = .ok (.aload_n 0, 1) := by decide +kernel
theorem d_Row_isEmpty_1 : decode b_Row_isEmpty 1 = .ok (.getfield 15, 3) := by decide +kernel
theorem d_Row_isEmpty_4 : decode b_Row_isEmpty 4 = .ok (.ifCond .ne 7, 3) := by decide +kernel
theorem d_Row_isEmpty_7 : decode b_Row_isEmpty 7 = .ok (.iconst 1, 1) := by decide +kernel
theorem d_Row_isEmpty_8 : decode b_Row_isEmpty 8 = .ok (.goto 4, 3) := by decide +kernel
theorem d_Row_isEmpty_11 : decode b_Row_isEmpty 11 = .ok (.iconst 0, 1) := by decide +kernel
theorem d_Row_isEmpty_12 : decode b_Row_isEmpty 12 = .ok (.ireturn, 1) := by decide +kernel
theorem d_Row_at_0 : decode b_Row_at 0 = .ok (.aload_n 0, 1) := by decide +kernel
theorem d_Row_at_1 : decode b_Row_at 1 = .ok (.getfield 9, 3) := by decide +kernel
theorem d_Row_at_4 : decode b_Row_at 4 = .ok (.iload_n 1, 1) := by decide +kernel
theorem d_Row_at_5 : decode b_Row_at 5 = .ok (.baload, 1) := by decide +kernel
theorem d_Row_at_6 : decode b_Row_at 6 = .ok (.ireturn, 1) := by decide +kernel
theorem d_Row_clear_0 : decode b_Row_clear 0 = .ok (.aload_n 0, 1) := by decide +kernel
theorem d_Row_clear_1 : decode b_Row_clear 1 = .ok (.iconst 0, 1) := by decide +kernel
theorem d_Row_clear_2 : decode b_Row_clear 2 = .ok (.putfield 15, 3) := by decide +kernel
theorem d_Row_clear_5 : decode b_Row_clear 5 = .ok (.return_, 1) := by decide +kernel
theorem d_Row_append_0 : decode b_Row_append 0 = .ok (.aload_n 0, 1) := by decide +kernel
theorem d_Row_append_1 : decode b_Row_append 1 = .ok (.getfield 15, 3) := by decide +kernel
theorem d_Row_append_4 : decode b_Row_append 4 = .ok (.bipush 60, 2) := by decide +kernel
theorem d_Row_append_6 : decode b_Row_append 6 = .ok (.if_icmp .ge 24, 3) := by decide +kernel
theorem d_Row_append_9 : decode b_Row_append 9 = .ok (.aload_n 0, 1) := by decide +kernel
theorem d_Row_append_10 : decode b_Row_append 10 = .ok (.getfield 9, 3) := by decide +kernel
theorem d_Row_append_13 : decode b_Row_append 13 = .ok (.aload_n 0, 1) := by decide +kernel
theorem d_Row_append_14 : decode b_Row_append 14 = .ok (.getfield 15, 3) := by decide +kernel
theorem d_Row_append_17 : decode b_Row_append 17 = .ok (.iload_n 1, 1) := by decide +kernel
theorem d_Row_append_18 : decode b_Row_append 18 = .ok (.i2b, 1) := by decide +kernel
theorem d_Row_append_19 : decode b_Row_append 19 = .ok (.bastore, 1) := by decide +kernel
theorem d_Row_append_20 : decode b_Row_append 20 = .ok (.aload_n 0, 1) := by decide +kernel
theorem d_Row_append_21 : decode b_Row_append 21 = .ok (.dup, 1) := by decide +kernel
theorem d_Row_append_22 : decode b_Row_append 22 = .ok (.getfield 15, 3) := by decide +kernel
theorem d_Row_append_25 : decode b_Row_append 25 = .ok (.iconst 1, 1) := by decide +kernel
theorem d_Row_append_26 : decode b_Row_append 26 = .ok (.iadd, 1) := by decide +kernel
theorem d_Row_append_27 : decode b_Row_append 27 = .ok (.putfield 15, 3) := by decide +kernel
theorem d_Row_append_30 : decode b_Row_append 30 = .ok (.return_, 1) := by decide +kernel
theorem d_Row_copyTo_0 : decode b_Row_copyTo 0 = .ok (.aload_n 0, 1) := by decide +kernel
theorem d_Row_copyTo_1 : decode b_Row_copyTo 1 = .ok (.getfield 9, 3) := by decide +kernel
theorem d_Row_copyTo_4 : decode b_Row_copyTo 4 = .ok (.iconst 0, 1) := by decide +kernel
theorem d_Row_copyTo_5 : decode b_Row_copyTo 5 = .ok (.aload_n 1, 1) := by decide +kernel
theorem d_Row_copyTo_6 : decode b_Row_copyTo 6 = .ok (.iload_n 2, 1) := by decide +kernel
theorem d_Row_copyTo_7 : decode b_Row_copyTo 7 = .ok (.aload_n 0, 1) := by decide +kernel
theorem d_Row_copyTo_8 : decode b_Row_copyTo 8 = .ok (.getfield 15, 3) := by decide +kernel
theorem d_Row_copyTo_11 : decode b_Row_copyTo 11 = .ok (.invokestatic 19, 3) := by decide +kernel
theorem d_Row_copyTo_14 : decode b_Row_copyTo 14 = .ok (.return_, 1) := by decide +kernel
theorem d_WL_size_0 : decode b_WL_size 0 = .ok (.aload_n 0, 1) := by decide +kernel
theorem d_WL_size_1 : decode b_WL_size 1 = .ok (.getfield 19, 3) := by decide +kernel
theorem d_WL_size_4 : decode b_WL_size 4 = .ok (.ireturn, 1) := by decide +kernel
theorem d_WL_characters_0 : decode b_WL_characters 0 = .ok (.aload_n 0, 1) := by decide +kernel
theorem d_WL_characters_1 : decode b_WL_characters 1 = .ok (.getfield 15, 3) := by decide +kernel
theorem d_WL_characters_4 : decode b_WL_characters 4 = .ok (.aload_n 0, 1) := by decide +kernel
theorem d_WL_characters_5 : decode b_WL_characters 5 = .ok (.getfield 19, 3) := by decide +kernel
theorem d_WL_characters_8 : decode b_WL_characters 8 = .ok (.iaload, 1) := by decide +kernel
theorem d_WL_characters_9 : decode b_WL_characters 9 = .ok (.ireturn, 1) := by decide +kernel
theorem d_WL_lengthOf_0 : decode b_WL_lengthOf 0 = .ok (.aload_n 0, 1) := by decide +kernel
theorem d_WL_lengthOf_1 : decode b_WL_lengthOf 1 = .ok (.getfield 15, 3) := by decide +kernel
theorem d_WL_lengthOf_4 : decode b_WL_lengthOf 4 = .ok (.iload_n 1, 1) := by decide +kernel
theorem d_WL_lengthOf_5 : decode b_WL_lengthOf 5 = .ok (.iconst 1, 1) := by decide +kernel
theorem d_WL_lengthOf_6 : decode b_WL_lengthOf 6 = .ok (.iadd, 1) := by decide +kernel
theorem d_WL_lengthOf_7 : decode b_WL_lengthOf 7 = .ok (.iaload, 1) := by decide +kernel
theorem d_WL_lengthOf_8 : decode b_WL_lengthOf 8 = .ok (.aload_n 0, 1) := by decide +kernel
theorem d_WL_lengthOf_9 : decode b_WL_lengthOf 9 = .ok (.getfield 15, 3) := by decide +kernel
theorem d_WL_lengthOf_12 : decode b_WL_lengthOf 12 = .ok (.iload_n 1, 1) := by decide +kernel
theorem d_WL_lengthOf_13 : decode b_WL_lengthOf 13 = .ok (.iaload, 1) := by decide +kernel
theorem d_WL_lengthOf_14 : decode b_WL_lengthOf 14 = .ok (.isub, 1) := by decide +kernel
theorem d_WL_lengthOf_15 : decode b_WL_lengthOf 15 = .ok (.ireturn, 1) := by decide +kernel
theorem d_WL_at_0 : decode b_WL_at 0 = .ok (.aload_n 0, 1) := by decide +kernel
theorem d_WL_at_1 : decode b_WL_at 1 = .ok (.getfield 9, 3) := by decide +kernel
theorem d_WL_at_4 : decode b_WL_at 4 = .ok (.aload_n 0, 1) := by decide +kernel
theorem d_WL_at_5 : decode b_WL_at 5 = .ok (.getfield 15, 3) := by decide +kernel
theorem d_WL_at_8 : decode b_WL_at 8 = .ok (.iload_n 1, 1) := by decide +kernel
theorem d_WL_at_9 : decode b_WL_at 9 = .ok (.iaload, 1) := by decide +kernel
theorem d_WL_at_10 : decode b_WL_at 10 = .ok (.iload_n 2, 1) := by decide +kernel
theorem d_WL_at_11 : decode b_WL_at 11 = .ok (.iadd, 1) := by decide +kernel
theorem d_WL_at_12 : decode b_WL_at 12 = .ok (.baload, 1) := by decide +kernel
theorem d_WL_at_13 : decode b_WL_at 13 = .ok (.ireturn, 1) := by decide +kernel
theorem d_WL_longest_0 : decode b_WL_longest 0 = .ok (.iconst 0, 1) := by decide +kernel
theorem d_WL_longest_1 : decode b_WL_longest 1 = .ok (.istore_n 1, 1) := by decide +kernel
theorem d_WL_longest_2 : decode b_WL_longest 2 = .ok (.iconst 0, 1) := by decide +kernel
theorem d_WL_longest_3 : decode b_WL_longest 3 = .ok (.istore_n 2, 1) := by decide +kernel
theorem d_WL_longest_4 : decode b_WL_longest 4 = .ok (.iload_n 2, 1) := by decide +kernel
theorem d_WL_longest_5 : decode b_WL_longest 5 = .ok (.aload_n 0, 1) := by decide +kernel
theorem d_WL_longest_6 : decode b_WL_longest 6 = .ok (.getfield 19, 3) := by decide +kernel
theorem d_WL_longest_9 : decode b_WL_longest 9 = .ok (.if_icmp .ge 19, 3) := by decide +kernel
theorem d_WL_longest_12 : decode b_WL_longest 12 = .ok (.iload_n 1, 1) := by decide +kernel
theorem d_WL_longest_13 : decode b_WL_longest 13 = .ok (.aload_n 0, 1) := by decide +kernel
theorem d_WL_longest_14 : decode b_WL_longest 14 = .ok (.iload_n 2, 1) := by decide +kernel
theorem d_WL_longest_15 : decode b_WL_longest 15 = .ok (.invokevirtual 23, 3) := by decide +kernel
theorem d_WL_longest_18 : decode b_WL_longest 18 = .ok (.invokestatic 27, 3) := by decide +kernel
theorem d_WL_longest_21 : decode b_WL_longest 21 = .ok (.istore_n 1, 1) := by decide +kernel
theorem d_WL_longest_22 : decode b_WL_longest 22 = .ok (.iinc 2 1, 3) := by decide +kernel
theorem d_WL_longest_25 : decode b_WL_longest 25 = .ok (.goto (-21), 3) := by decide +kernel
theorem d_WL_longest_28 : decode b_WL_longest 28 = .ok (.iload_n 1, 1) := by decide +kernel
theorem d_WL_longest_29 : decode b_WL_longest 29 = .ok (.ireturn, 1) := by decide +kernel
theorem d_WL_compare_0 : decode b_WL_compare 0 = .ok (.aload_n 0, 1) := by decide +kernel
theorem d_WL_compare_1 : decode b_WL_compare 1 = .ok (.iload_n 1, 1) := by decide +kernel
theorem d_WL_compare_2 : decode b_WL_compare 2 = .ok (.invokevirtual 23, 3) := by decide +kernel
theorem d_WL_compare_5 : decode b_WL_compare 5 = .ok (.istore_n 3, 1) := by decide +kernel
theorem d_WL_compare_6 : decode b_WL_compare 6 = .ok (.iload_n 3, 1) := by decide +kernel
theorem d_WL_compare_7 : decode b_WL_compare 7 = .ok (.aload_n 2, 1) := by decide +kernel
theorem d_WL_compare_8 : decode b_WL_compare 8 = .ok (.invokevirtual 40, 3) := by decide +kernel
theorem d_WL_compare_11 : decode b_WL_compare 11 = .ok (.invokestatic 55, 3) := by decide +kernel
theorem d_WL_compare_14 : decode b_WL_compare 14 = .ok (.istore 4, 2) := by decide +kernel
theorem d_WL_compare_16 : decode b_WL_compare 16 = .ok (.iconst 0, 1) := by decide +kernel
theorem d_WL_compare_17 : decode b_WL_compare 17 = .ok (.istore 5, 2) := by decide +kernel
theorem d_WL_compare_19 : decode b_WL_compare 19 = .ok (.iload 5, 2) := by decide +kernel
theorem d_WL_compare_21 : decode b_WL_compare 21 = .ok (.iload 4, 2) := by decide +kernel
theorem d_WL_compare_23 : decode b_WL_compare 23 = .ok (.if_icmp .ge 40, 3) := by decide +kernel
theorem d_WL_compare_26 : decode b_WL_compare 26 = .ok (.aload_n 0, 1) := by decide +kernel
theorem d_WL_compare_27 : decode b_WL_compare 27 = .ok (.iload_n 1, 1) := by decide +kernel
theorem d_WL_compare_28 : decode b_WL_compare 28 = .ok (.iload 5, 2) := by decide +kernel
theorem d_WL_compare_30 : decode b_WL_compare 30 = .ok (.invokevirtual 58, 3) := by decide +kernel
theorem d_WL_compare_33 : decode b_WL_compare 33 = .ok (.aload_n 2, 1) := by decide +kernel
theorem d_WL_compare_34 : decode b_WL_compare 34 = .ok (.iload 5, 2) := by decide +kernel
theorem d_WL_compare_36 : decode b_WL_compare 36 = .ok (.invokevirtual 61, 3) := by decide +kernel
theorem d_WL_compare_39 : decode b_WL_compare 39 = .ok (.if_icmp .eq 18, 3) := by decide +kernel
theorem d_WL_compare_42 : decode b_WL_compare 42 = .ok (.aload_n 0, 1) := by decide +kernel
theorem d_WL_compare_43 : decode b_WL_compare 43 = .ok (.iload_n 1, 1) := by decide +kernel
theorem d_WL_compare_44 : decode b_WL_compare 44 = .ok (.iload 5, 2) := by decide +kernel
theorem d_WL_compare_46 : decode b_WL_compare 46 = .ok (.invokevirtual 58, 3) := by decide +kernel
theorem d_WL_compare_49 : decode b_WL_compare 49 = .ok (.aload_n 2, 1) := by decide +kernel
theorem d_WL_compare_50 : decode b_WL_compare 50 = .ok (.iload 5, 2) := by decide +kernel
theorem d_WL_compare_52 : decode b_WL_compare 52 = .ok (.invokevirtual 61, 3) := by decide +kernel
theorem d_WL_compare_55 : decode b_WL_compare 55 = .ok (.isub, 1) := by decide +kernel
theorem d_WL_compare_56 : decode b_WL_compare 56 = .ok (.ireturn, 1) := by decide +kernel
theorem d_WL_compare_57 : decode b_WL_compare 57 = .ok (.iinc 5 1, 3) := by decide +kernel
theorem d_WL_compare_60 : decode b_WL_compare 60 = .ok (.goto (-41), 3) := by decide +kernel
theorem d_WL_compare_63 : decode b_WL_compare 63 = .ok (.iload_n 3, 1) := by decide +kernel
theorem d_WL_compare_64 : decode b_WL_compare 64 = .ok (.aload_n 2, 1) := by decide +kernel
theorem d_WL_compare_65 : decode b_WL_compare 65 = .ok (.invokevirtual 40, 3) := by decide +kernel
theorem d_WL_compare_68 : decode b_WL_compare 68 = .ok (.isub, 1) := by decide +kernel
theorem d_WL_compare_69 : decode b_WL_compare 69 = .ok (.ireturn, 1) := by decide +kernel
theorem d_WL_placeOf_0 : decode b_WL_placeOf 0 = .ok (.iconst 0, 1) := by decide +kernel
theorem d_WL_placeOf_1 : decode b_WL_placeOf 1 = .ok (.istore_n 2, 1) := by decide +kernel
theorem d_WL_placeOf_2 : decode b_WL_placeOf 2 = .ok (.sipush 512, 3) := by decide +kernel
theorem d_WL_placeOf_5 : decode b_WL_placeOf 5 = .ok (.istore_n 3, 1) := by decide +kernel
theorem d_WL_placeOf_6 : decode b_WL_placeOf 6 = .ok (.iload_n 3, 1) := by decide +kernel
theorem d_WL_placeOf_7 : decode b_WL_placeOf 7 = .ok (.ifCond .le 37, 3) := by decide +kernel
theorem d_WL_placeOf_10 : decode b_WL_placeOf 10 = .ok (.iload_n 2, 1) := by decide +kernel
theorem d_WL_placeOf_11 : decode b_WL_placeOf 11 = .ok (.iload_n 3, 1) := by decide +kernel
theorem d_WL_placeOf_12 : decode b_WL_placeOf 12 = .ok (.iadd, 1) := by decide +kernel
theorem d_WL_placeOf_13 : decode b_WL_placeOf 13 = .ok (.aload_n 0, 1) := by decide +kernel
theorem d_WL_placeOf_14 : decode b_WL_placeOf 14 = .ok (.getfield 19, 3) := by decide +kernel
theorem d_WL_placeOf_17 : decode b_WL_placeOf 17 = .ok (.if_icmp .gt 20, 3) := by decide +kernel
theorem d_WL_placeOf_20 : decode b_WL_placeOf 20 = .ok (.aload_n 0, 1) := by decide +kernel
theorem d_WL_placeOf_21 : decode b_WL_placeOf 21 = .ok (.iload_n 2, 1) := by decide +kernel
theorem d_WL_placeOf_22 : decode b_WL_placeOf 22 = .ok (.iload_n 3, 1) := by decide +kernel
theorem d_WL_placeOf_23 : decode b_WL_placeOf 23 = .ok (.iadd, 1) := by decide +kernel
theorem d_WL_placeOf_24 : decode b_WL_placeOf 24 = .ok (.iconst 1, 1) := by decide +kernel
theorem d_WL_placeOf_25 : decode b_WL_placeOf 25 = .ok (.isub, 1) := by decide +kernel
theorem d_WL_placeOf_26 : decode b_WL_placeOf 26 = .ok (.aload_n 1, 1) := by decide +kernel
theorem d_WL_placeOf_27 : decode b_WL_placeOf 27 = .ok (.invokevirtual 33, 3) := by decide +kernel
theorem d_WL_placeOf_30 : decode b_WL_placeOf 30 = .ok (.ifCond .ge 7, 3) := by decide +kernel
theorem d_WL_placeOf_33 : decode b_WL_placeOf 33 = .ok (.iload_n 2, 1) := by decide +kernel
theorem d_WL_placeOf_34 : decode b_WL_placeOf 34 = .ok (.iload_n 3, 1) := by decide +kernel
theorem d_WL_placeOf_35 : decode b_WL_placeOf 35 = .ok (.iadd, 1) := by decide +kernel
theorem d_WL_placeOf_36 : decode b_WL_placeOf 36 = .ok (.istore_n 2, 1) := by decide +kernel
theorem d_WL_placeOf_37 : decode b_WL_placeOf 37 = .ok (.iload_n 3, 1) := by decide +kernel
theorem d_WL_placeOf_38 : decode b_WL_placeOf 38 = .ok (.iconst 2, 1) := by decide +kernel
theorem d_WL_placeOf_39 : decode b_WL_placeOf 39 = .ok (.idiv, 1) := by decide +kernel
theorem d_WL_placeOf_40 : decode b_WL_placeOf 40 = .ok (.istore_n 3, 1) := by decide +kernel
theorem d_WL_placeOf_41 : decode b_WL_placeOf 41 = .ok (.goto (-35), 3) := by decide +kernel
theorem d_WL_placeOf_44 : decode b_WL_placeOf 44 = .ok (.iload_n 2, 1) := by decide +kernel
theorem d_WL_placeOf_45 : decode b_WL_placeOf 45 = .ok (.ireturn, 1) := by decide +kernel
theorem d_WL_isAt_0 : decode b_WL_isAt 0 = .ok (.iload_n 1, 1) := by decide +kernel
theorem d_WL_isAt_1 : decode b_WL_isAt 1 = .ok (.aload_n 0, 1) := by decide +kernel
theorem d_WL_isAt_2 : decode b_WL_isAt 2 = .ok (.getfield 19, 3) := by decide +kernel
theorem d_WL_isAt_5 : decode b_WL_isAt 5 = .ok (.if_icmp .ge 16, 3) := by decide +kernel
theorem d_WL_isAt_8 : decode b_WL_isAt 8 = .ok (.aload_n 0, 1) := by decide +kernel
theorem d_WL_isAt_9 : decode b_WL_isAt 9 = .ok (.iload_n 1, 1) := by decide +kernel
theorem d_WL_isAt_10 : decode b_WL_isAt 10 = .ok (.aload_n 2, 1) := by decide +kernel
theorem d_WL_isAt_11 : decode b_WL_isAt 11 = .ok (.invokevirtual 33, 3) := by decide +kernel
theorem d_WL_isAt_14 : decode b_WL_isAt 14 = .ok (.ifCond .ne 7, 3) := by decide +kernel
theorem d_WL_isAt_17 : decode b_WL_isAt 17 = .ok (.iconst 1, 1) := by decide +kernel
theorem d_WL_isAt_18 : decode b_WL_isAt 18 = .ok (.goto 4, 3) := by decide +kernel
theorem d_WL_isAt_21 : decode b_WL_isAt 21 = .ok (.iconst 0, 1) := by decide +kernel
theorem d_WL_isAt_22 : decode b_WL_isAt 22 = .ok (.ireturn, 1) := by decide +kernel
theorem d_WL_hasRoomFor_0 : decode b_WL_hasRoomFor 0 = .ok (.aload_n 0, 1) := by decide +kernel
theorem d_WL_hasRoomFor_1 : decode b_WL_hasRoomFor 1 = .ok (.getfield 19, 3) := by decide +kernel
theorem d_WL_hasRoomFor_4 : decode b_WL_hasRoomFor 4 = .ok (.sipush 1000, 3) := by decide +kernel
theorem d_WL_hasRoomFor_7 : decode b_WL_hasRoomFor 7 = .ok (.if_icmp .ge 22, 3) := by decide +kernel
theorem d_WL_hasRoomFor_10 : decode b_WL_hasRoomFor 10 = .ok (.aload_n 0, 1) := by decide +kernel
theorem d_WL_hasRoomFor_11 : decode b_WL_hasRoomFor 11 = .ok (.invokevirtual 37, 3) := by decide +kernel
theorem d_WL_hasRoomFor_14 : decode b_WL_hasRoomFor 14 = .ok (.aload_n 1, 1) := by decide +kernel
theorem d_WL_hasRoomFor_15 : decode b_WL_hasRoomFor 15 = .ok (.invokevirtual 40, 3) := by decide +kernel
theorem d_WL_hasRoomFor_18 : decode b_WL_hasRoomFor 18 = .ok (.iadd, 1) := by decide +kernel
theorem d_WL_hasRoomFor_19 : decode b_WL_hasRoomFor 19 = .ok (.sipush 12000, 3) := by decide +kernel
theorem d_WL_hasRoomFor_22 : decode b_WL_hasRoomFor 22 = .ok (.if_icmp .gt 7, 3) := by decide +kernel
theorem d_WL_hasRoomFor_25 : decode b_WL_hasRoomFor 25 = .ok (.iconst 1, 1) := by decide +kernel
theorem d_WL_hasRoomFor_26 : decode b_WL_hasRoomFor 26 = .ok (.goto 4, 3) := by decide +kernel
theorem d_WL_hasRoomFor_29 : decode b_WL_hasRoomFor 29 = .ok (.iconst 0, 1) := by decide +kernel
theorem d_WL_hasRoomFor_30 : decode b_WL_hasRoomFor 30 = .ok (.ireturn, 1) := by decide +kernel
theorem d_WL_insertAt_0 : decode b_WL_insertAt 0 = .ok (.aload_n 0, 1) := by decide +kernel
theorem d_WL_insertAt_1 : decode b_WL_insertAt 1 = .ok (.getfield 15, 3) := by decide +kernel
theorem d_WL_insertAt_4 : decode b_WL_insertAt 4 = .ok (.iload_n 1, 1) := by decide +kernel
theorem d_WL_insertAt_5 : decode b_WL_insertAt 5 = .ok (.iaload, 1) := by decide +kernel
theorem d_WL_insertAt_6 : decode b_WL_insertAt 6 = .ok (.istore_n 3, 1) := by decide +kernel
theorem d_WL_insertAt_7 : decode b_WL_insertAt 7 = .ok (.aload_n 2, 1) := by decide +kernel
theorem d_WL_insertAt_8 : decode b_WL_insertAt 8 = .ok (.invokevirtual 40, 3) := by decide +kernel
theorem d_WL_insertAt_11 : decode b_WL_insertAt 11 = .ok (.istore 4, 2) := by decide +kernel
theorem d_WL_insertAt_13 : decode b_WL_insertAt 13 = .ok (.aload_n 0, 1) := by decide +kernel
theorem d_WL_insertAt_14 : decode b_WL_insertAt 14 = .ok (.getfield 9, 3) := by decide +kernel
theorem d_WL_insertAt_17 : decode b_WL_insertAt 17 = .ok (.iload_n 3, 1) := by decide +kernel
theorem d_WL_insertAt_18 : decode b_WL_insertAt 18 = .ok (.aload_n 0, 1) := by decide +kernel
theorem d_WL_insertAt_19 : decode b_WL_insertAt 19 = .ok (.getfield 9, 3) := by decide +kernel
theorem d_WL_insertAt_22 : decode b_WL_insertAt 22 = .ok (.iload_n 3, 1) := by decide +kernel
theorem d_WL_insertAt_23 : decode b_WL_insertAt 23 = .ok (.iload 4, 2) := by decide +kernel
theorem d_WL_insertAt_25 : decode b_WL_insertAt 25 = .ok (.iadd, 1) := by decide +kernel
theorem d_WL_insertAt_26 : decode b_WL_insertAt 26 = .ok (.aload_n 0, 1) := by decide +kernel
theorem d_WL_insertAt_27 : decode b_WL_insertAt 27 = .ok (.invokevirtual 37, 3) := by decide +kernel
theorem d_WL_insertAt_30 : decode b_WL_insertAt 30 = .ok (.iload_n 3, 1) := by decide +kernel
theorem d_WL_insertAt_31 : decode b_WL_insertAt 31 = .ok (.isub, 1) := by decide +kernel
theorem d_WL_insertAt_32 : decode b_WL_insertAt 32 = .ok (.invokestatic 45, 3) := by decide +kernel
theorem d_WL_insertAt_35 : decode b_WL_insertAt 35 = .ok (.aload_n 2, 1) := by decide +kernel
theorem d_WL_insertAt_36 : decode b_WL_insertAt 36 = .ok (.aload_n 0, 1) := by decide +kernel
theorem d_WL_insertAt_37 : decode b_WL_insertAt 37 = .ok (.getfield 9, 3) := by decide +kernel
theorem d_WL_insertAt_40 : decode b_WL_insertAt 40 = .ok (.iload_n 3, 1) := by decide +kernel
theorem d_WL_insertAt_41 : decode b_WL_insertAt 41 = .ok (.invokevirtual 51, 3) := by decide +kernel
theorem d_WL_insertAt_44 : decode b_WL_insertAt 44 = .ok (.aload_n 0, 1) := by decide +kernel
theorem d_WL_insertAt_45 : decode b_WL_insertAt 45 = .ok (.getfield 19, 3) := by decide +kernel
theorem d_WL_insertAt_48 : decode b_WL_insertAt 48 = .ok (.istore 5, 2) := by decide +kernel
theorem d_WL_insertAt_50 : decode b_WL_insertAt 50 = .ok (.iload 5, 2) := by decide +kernel
theorem d_WL_insertAt_52 : decode b_WL_insertAt 52 = .ok (.iload_n 1, 1) := by decide +kernel
theorem d_WL_insertAt_53 : decode b_WL_insertAt 53 = .ok (.if_icmp .lt 28, 3) := by decide +kernel
theorem d_WL_insertAt_56 : decode b_WL_insertAt 56 = .ok (.aload_n 0, 1) := by decide +kernel
theorem d_WL_insertAt_57 : decode b_WL_insertAt 57 = .ok (.getfield 15, 3) := by decide +kernel
theorem d_WL_insertAt_60 : decode b_WL_insertAt 60 = .ok (.iload 5, 2) := by decide +kernel
theorem d_WL_insertAt_62 : decode b_WL_insertAt 62 = .ok (.iconst 1, 1) := by decide +kernel
theorem d_WL_insertAt_63 : decode b_WL_insertAt 63 = .ok (.iadd, 1) := by decide +kernel
theorem d_WL_insertAt_64 : decode b_WL_insertAt 64 = .ok (.aload_n 0, 1) := by decide +kernel
theorem d_WL_insertAt_65 : decode b_WL_insertAt 65 = .ok (.getfield 15, 3) := by decide +kernel
theorem d_WL_insertAt_68 : decode b_WL_insertAt 68 = .ok (.iload 5, 2) := by decide +kernel
theorem d_WL_insertAt_70 : decode b_WL_insertAt 70 = .ok (.iaload, 1) := by decide +kernel
theorem d_WL_insertAt_71 : decode b_WL_insertAt 71 = .ok (.iload 4, 2) := by decide +kernel
theorem d_WL_insertAt_73 : decode b_WL_insertAt 73 = .ok (.iadd, 1) := by decide +kernel
theorem d_WL_insertAt_74 : decode b_WL_insertAt 74 = .ok (.iastore, 1) := by decide +kernel
theorem d_WL_insertAt_75 : decode b_WL_insertAt 75 = .ok (.iinc 5 (-1), 3) := by decide +kernel
theorem d_WL_insertAt_78 : decode b_WL_insertAt 78 = .ok (.goto (-28), 3) := by decide +kernel
theorem d_WL_insertAt_81 : decode b_WL_insertAt 81 = .ok (.aload_n 0, 1) := by decide +kernel
theorem d_WL_insertAt_82 : decode b_WL_insertAt 82 = .ok (.dup, 1) := by decide +kernel
theorem d_WL_insertAt_83 : decode b_WL_insertAt 83 = .ok (.getfield 19, 3) := by decide +kernel
theorem d_WL_insertAt_86 : decode b_WL_insertAt 86 = .ok (.iconst 1, 1) := by decide +kernel
theorem d_WL_insertAt_87 : decode b_WL_insertAt 87 = .ok (.iadd, 1) := by decide +kernel
theorem d_WL_insertAt_88 : decode b_WL_insertAt 88 = .ok (.putfield 19, 3) := by decide +kernel
theorem d_WL_insertAt_91 : decode b_WL_insertAt 91 = .ok (.return_, 1) := by decide +kernel
theorem d_WL_deleteAt_0 : decode b_WL_deleteAt 0 = .ok (.aload_n 0, 1) := by decide +kernel
theorem d_WL_deleteAt_1 : decode b_WL_deleteAt 1 = .ok (.getfield 15, 3) := by decide +kernel
theorem d_WL_deleteAt_4 : decode b_WL_deleteAt 4 = .ok (.iload_n 1, 1) := by decide +kernel
theorem d_WL_deleteAt_5 : decode b_WL_deleteAt 5 = .ok (.iaload, 1) := by decide +kernel
theorem d_WL_deleteAt_6 : decode b_WL_deleteAt 6 = .ok (.istore_n 2, 1) := by decide +kernel
theorem d_WL_deleteAt_7 : decode b_WL_deleteAt 7 = .ok (.aload_n 0, 1) := by decide +kernel
theorem d_WL_deleteAt_8 : decode b_WL_deleteAt 8 = .ok (.getfield 15, 3) := by decide +kernel
theorem d_WL_deleteAt_11 : decode b_WL_deleteAt 11 = .ok (.iload_n 1, 1) := by decide +kernel
theorem d_WL_deleteAt_12 : decode b_WL_deleteAt 12 = .ok (.iconst 1, 1) := by decide +kernel
theorem d_WL_deleteAt_13 : decode b_WL_deleteAt 13 = .ok (.iadd, 1) := by decide +kernel
theorem d_WL_deleteAt_14 : decode b_WL_deleteAt 14 = .ok (.iaload, 1) := by decide +kernel
theorem d_WL_deleteAt_15 : decode b_WL_deleteAt 15 = .ok (.istore_n 3, 1) := by decide +kernel
theorem d_WL_deleteAt_16 : decode b_WL_deleteAt 16 = .ok (.aload_n 0, 1) := by decide +kernel
theorem d_WL_deleteAt_17 : decode b_WL_deleteAt 17 = .ok (.getfield 9, 3) := by decide +kernel
theorem d_WL_deleteAt_20 : decode b_WL_deleteAt 20 = .ok (.iload_n 3, 1) := by decide +kernel
theorem d_WL_deleteAt_21 : decode b_WL_deleteAt 21 = .ok (.aload_n 0, 1) := by decide +kernel
theorem d_WL_deleteAt_22 : decode b_WL_deleteAt 22 = .ok (.getfield 9, 3) := by decide +kernel
theorem d_WL_deleteAt_25 : decode b_WL_deleteAt 25 = .ok (.iload_n 2, 1) := by decide +kernel
theorem d_WL_deleteAt_26 : decode b_WL_deleteAt 26 = .ok (.aload_n 0, 1) := by decide +kernel
theorem d_WL_deleteAt_27 : decode b_WL_deleteAt 27 = .ok (.invokevirtual 37, 3) := by decide +kernel
theorem d_WL_deleteAt_30 : decode b_WL_deleteAt 30 = .ok (.iload_n 3, 1) := by decide +kernel
theorem d_WL_deleteAt_31 : decode b_WL_deleteAt 31 = .ok (.isub, 1) := by decide +kernel
theorem d_WL_deleteAt_32 : decode b_WL_deleteAt 32 = .ok (.invokestatic 45, 3) := by decide +kernel
theorem d_WL_deleteAt_35 : decode b_WL_deleteAt 35 = .ok (.iload_n 1, 1) := by decide +kernel
theorem d_WL_deleteAt_36 : decode b_WL_deleteAt 36 = .ok (.istore 4, 2) := by decide +kernel
theorem d_WL_deleteAt_38 : decode b_WL_deleteAt 38 = .ok (.iload 4, 2) := by decide +kernel
theorem d_WL_deleteAt_40 : decode b_WL_deleteAt 40 = .ok (.aload_n 0, 1) := by decide +kernel
theorem d_WL_deleteAt_41 : decode b_WL_deleteAt 41 = .ok (.getfield 19, 3) := by decide +kernel
theorem d_WL_deleteAt_44 : decode b_WL_deleteAt 44 = .ok (.if_icmp .ge 29, 3) := by decide +kernel
theorem d_WL_deleteAt_47 : decode b_WL_deleteAt 47 = .ok (.aload_n 0, 1) := by decide +kernel
theorem d_WL_deleteAt_48 : decode b_WL_deleteAt 48 = .ok (.getfield 15, 3) := by decide +kernel
theorem d_WL_deleteAt_51 : decode b_WL_deleteAt 51 = .ok (.iload 4, 2) := by decide +kernel
theorem d_WL_deleteAt_53 : decode b_WL_deleteAt 53 = .ok (.aload_n 0, 1) := by decide +kernel
theorem d_WL_deleteAt_54 : decode b_WL_deleteAt 54 = .ok (.getfield 15, 3) := by decide +kernel
theorem d_WL_deleteAt_57 : decode b_WL_deleteAt 57 = .ok (.iload 4, 2) := by decide +kernel
theorem d_WL_deleteAt_59 : decode b_WL_deleteAt 59 = .ok (.iconst 1, 1) := by decide +kernel
theorem d_WL_deleteAt_60 : decode b_WL_deleteAt 60 = .ok (.iadd, 1) := by decide +kernel
theorem d_WL_deleteAt_61 : decode b_WL_deleteAt 61 = .ok (.iaload, 1) := by decide +kernel
theorem d_WL_deleteAt_62 : decode b_WL_deleteAt 62 = .ok (.iload_n 3, 1) := by decide +kernel
theorem d_WL_deleteAt_63 : decode b_WL_deleteAt 63 = .ok (.iload_n 2, 1) := by decide +kernel
theorem d_WL_deleteAt_64 : decode b_WL_deleteAt 64 = .ok (.isub, 1) := by decide +kernel
theorem d_WL_deleteAt_65 : decode b_WL_deleteAt 65 = .ok (.isub, 1) := by decide +kernel
theorem d_WL_deleteAt_66 : decode b_WL_deleteAt 66 = .ok (.iastore, 1) := by decide +kernel
theorem d_WL_deleteAt_67 : decode b_WL_deleteAt 67 = .ok (.iinc 4 1, 3) := by decide +kernel
theorem d_WL_deleteAt_70 : decode b_WL_deleteAt 70 = .ok (.goto (-32), 3) := by decide +kernel
theorem d_WL_deleteAt_73 : decode b_WL_deleteAt 73 = .ok (.aload_n 0, 1) := by decide +kernel
theorem d_WL_deleteAt_74 : decode b_WL_deleteAt 74 = .ok (.dup, 1) := by decide +kernel
theorem d_WL_deleteAt_75 : decode b_WL_deleteAt 75 = .ok (.getfield 19, 3) := by decide +kernel
theorem d_WL_deleteAt_78 : decode b_WL_deleteAt 78 = .ok (.iconst 1, 1) := by decide +kernel
theorem d_WL_deleteAt_79 : decode b_WL_deleteAt 79 = .ok (.isub, 1) := by decide +kernel
theorem d_WL_deleteAt_80 : decode b_WL_deleteAt 80 = .ok (.putfield 19, 3) := by decide +kernel
theorem d_WL_deleteAt_83 : decode b_WL_deleteAt 83 = .ok (.return_, 1) := by decide +kernel
theorem d_Arr_fillJ_0 : decode b_Arr_fillJ 0 = .ok (.iconst 0, 1) := by decide +kernel
theorem d_Arr_fillJ_1 : decode b_Arr_fillJ 1 = .ok (.istore_n 3, 1) := by decide +kernel
theorem d_Arr_fillJ_2 : decode b_Arr_fillJ 2 = .ok (.aload_n 0, 1) := by decide +kernel
theorem d_Arr_fillJ_3 : decode b_Arr_fillJ 3 = .ok (.arraylength, 1) := by decide +kernel
theorem d_Arr_fillJ_4 : decode b_Arr_fillJ 4 = .ok (.istore 4, 2) := by decide +kernel
theorem d_Arr_fillJ_6 : decode b_Arr_fillJ 6 = .ok (.iload_n 3, 1) := by decide +kernel
theorem d_Arr_fillJ_7 : decode b_Arr_fillJ 7 = .ok (.iload 4, 2) := by decide +kernel
theorem d_Arr_fillJ_9 : decode b_Arr_fillJ 9 = .ok (.if_icmp .ge 13, 3) := by decide +kernel
theorem d_Arr_fillJ_12 : decode b_Arr_fillJ 12 = .ok (.aload_n 0, 1) := by decide +kernel
theorem d_Arr_fillJ_13 : decode b_Arr_fillJ 13 = .ok (.iload_n 3, 1) := by decide +kernel
theorem d_Arr_fillJ_14 : decode b_Arr_fillJ 14 = .ok (.lload_n 1, 1) := by decide +kernel
theorem d_Arr_fillJ_15 : decode b_Arr_fillJ 15 = .ok (.lastore, 1) := by decide +kernel
theorem d_Arr_fillJ_16 : decode b_Arr_fillJ 16 = .ok (.iinc 3 1, 3) := by decide +kernel
theorem d_Arr_fillJ_19 : decode b_Arr_fillJ 19 = .ok (.goto (-13), 3) := by decide +kernel
theorem d_Arr_fillJ_22 : decode b_Arr_fillJ 22 = .ok (.return_, 1) := by decide +kernel
theorem d_Arr_fillI_0 : decode b_Arr_fillI 0 = .ok (.iconst 0, 1) := by decide +kernel
theorem d_Arr_fillI_1 : decode b_Arr_fillI 1 = .ok (.istore_n 2, 1) := by decide +kernel
theorem d_Arr_fillI_2 : decode b_Arr_fillI 2 = .ok (.aload_n 0, 1) := by decide +kernel
theorem d_Arr_fillI_3 : decode b_Arr_fillI 3 = .ok (.arraylength, 1) := by decide +kernel
theorem d_Arr_fillI_4 : decode b_Arr_fillI 4 = .ok (.istore_n 3, 1) := by decide +kernel
theorem d_Arr_fillI_5 : decode b_Arr_fillI 5 = .ok (.iload_n 2, 1) := by decide +kernel
theorem d_Arr_fillI_6 : decode b_Arr_fillI 6 = .ok (.iload_n 3, 1) := by decide +kernel
theorem d_Arr_fillI_7 : decode b_Arr_fillI 7 = .ok (.if_icmp .ge 13, 3) := by decide +kernel
theorem d_Arr_fillI_10 : decode b_Arr_fillI 10 = .ok (.aload_n 0, 1) := by decide +kernel
theorem d_Arr_fillI_11 : decode b_Arr_fillI 11 = .ok (.iload_n 2, 1) := by decide +kernel
theorem d_Arr_fillI_12 : decode b_Arr_fillI 12 = .ok (.iload_n 1, 1) := by decide +kernel
theorem d_Arr_fillI_13 : decode b_Arr_fillI 13 = .ok (.iastore, 1) := by decide +kernel
theorem d_Arr_fillI_14 : decode b_Arr_fillI 14 = .ok (.iinc 2 1, 3) := by decide +kernel
theorem d_Arr_fillI_17 : decode b_Arr_fillI 17 = .ok (.goto (-12), 3) := by decide +kernel
theorem d_Arr_fillI_20 : decode b_Arr_fillI 20 = .ok (.return_, 1) := by decide +kernel
theorem d_Row_init_0 : decode b_Row_init 0 = .ok (.aload_n 0, 1) := by decide +kernel
theorem d_Row_init_1 : decode b_Row_init 1 = .ok (.invokespecial 3, 3) := by decide +kernel
theorem d_Row_init_4 : decode b_Row_init 4 = .ok (.aload_n 0, 1) := by decide +kernel
theorem d_Row_init_5 : decode b_Row_init 5 = .ok (.bipush 60, 2) := by decide +kernel
theorem d_Row_init_7 : decode b_Row_init 7 = .ok (.newarray .byte, 2) := by decide +kernel
theorem d_Row_init_9 : decode b_Row_init 9 = .ok (.putfield 9, 3) := by decide +kernel
theorem d_Row_init_12 : decode b_Row_init 12 = .ok (.aload_n 0, 1) := by decide +kernel
theorem d_Row_init_13 : decode b_Row_init 13 = .ok (.iconst 0, 1) := by decide +kernel
theorem d_Row_init_14 : decode b_Row_init 14 = .ok (.putfield 15, 3) := by decide +kernel
theorem d_Row_init_17 : decode b_Row_init 17 = .ok (.return_, 1) := by decide +kernel
theorem d_WL_init_0 : decode b_WL_init 0 = .ok (.aload_n 0, 1) := by decide +kernel
theorem d_WL_init_1 : decode b_WL_init 1 = .ok (.invokespecial 3, 3) := by decide +kernel
theorem d_WL_init_4 : decode b_WL_init 4 = .ok (.aload_n 0, 1) := by decide +kernel
theorem d_WL_init_5 : decode b_WL_init 5 = .ok (.sipush 12000, 3) := by decide +kernel
theorem d_WL_init_8 : decode b_WL_init 8 = .ok (.newarray .byte, 2) := by decide +kernel
theorem d_WL_init_10 : decode b_WL_init 10 = .ok (.putfield 9, 3) := by decide +kernel
theorem d_WL_init_13 : decode b_WL_init 13 = .ok (.aload_n 0, 1) := by decide +kernel
theorem d_WL_init_14 : decode b_WL_init 14 = .ok (.sipush 1001, 3) := by decide +kernel
theorem d_WL_init_17 : decode b_WL_init 17 = .ok (.newarray .int, 2) := by decide +kernel
theorem d_WL_init_19 : decode b_WL_init 19 = .ok (.putfield 15, 3) := by decide +kernel
theorem d_WL_init_22 : decode b_WL_init 22 = .ok (.aload_n 0, 1) := by decide +kernel
theorem d_WL_init_23 : decode b_WL_init 23 = .ok (.iconst 0, 1) := by decide +kernel
theorem d_WL_init_24 : decode b_WL_init 24 = .ok (.putfield 19, 3) := by decide +kernel
theorem d_WL_init_27 : decode b_WL_init 27 = .ok (.return_, 1) := by decide +kernel
theorem d_Pat_init_0 : decode b_Pat_init 0 = .ok (.aload_n 0, 1) := by decide +kernel
theorem d_Pat_init_1 : decode b_Pat_init 1 = .ok (.invokespecial 3, 3) := by decide +kernel
theorem d_Pat_init_4 : decode b_Pat_init 4 = .ok (.aload_n 0, 1) := by decide +kernel
theorem d_Pat_init_5 : decode b_Pat_init 5 = .ok (.bipush 127, 2) := by decide +kernel
theorem d_Pat_init_7 : decode b_Pat_init 7 = .ok (.newarray .long, 2) := by decide +kernel
theorem d_Pat_init_9 : decode b_Pat_init 9 = .ok (.putfield 9, 3) := by decide +kernel
theorem d_Pat_init_12 : decode b_Pat_init 12 = .ok (.aload_n 0, 1) := by decide +kernel
theorem d_Pat_init_13 : decode b_Pat_init 13 = .ok (.lconst 0, 1) := by decide +kernel
theorem d_Pat_init_14 : decode b_Pat_init 14 = .ok (.putfield 15, 3) := by decide +kernel
theorem d_Pat_init_17 : decode b_Pat_init 17 = .ok (.aload_n 0, 1) := by decide +kernel
theorem d_Pat_init_18 : decode b_Pat_init 18 = .ok (.lconst 0, 1) := by decide +kernel
theorem d_Pat_init_19 : decode b_Pat_init 19 = .ok (.putfield 19, 3) := by decide +kernel
theorem d_Pat_init_22 : decode b_Pat_init 22 = .ok (.aload_n 0, 1) := by decide +kernel
theorem d_Pat_init_23 : decode b_Pat_init 23 = .ok (.iconst 0, 1) := by decide +kernel
theorem d_Pat_init_24 : decode b_Pat_init 24 = .ok (.putfield 22, 3) := by decide +kernel
theorem d_Pat_init_27 : decode b_Pat_init 27 = .ok (.return_, 1) := by decide +kernel
theorem d_Near_init_0 : decode b_Near_init 0 = .ok (.aload_n 0, 1) := by decide +kernel
theorem d_Near_init_1 : decode b_Near_init 1 = .ok (.invokespecial 3, 3) := by decide +kernel
theorem d_Near_init_4 : decode b_Near_init 4 = .ok (.aload_n 0, 1) := by decide +kernel
theorem d_Near_init_5 : decode b_Near_init 5 = .ok (.sipush 1000, 3) := by decide +kernel
theorem d_Near_init_8 : decode b_Near_init 8 = .ok (.newarray .byte, 2) := by decide +kernel
theorem d_Near_init_10 : decode b_Near_init 10 = .ok (.putfield 9, 3) := by decide +kernel
theorem d_Near_init_13 : decode b_Near_init 13 = .ok (.aload_n 0, 1) := by decide +kernel
theorem d_Near_init_14 : decode b_Near_init 14 = .ok (.iconst 4, 1) := by decide +kernel
theorem d_Near_init_15 : decode b_Near_init 15 = .ok (.newarray .int, 2) := by decide +kernel
theorem d_Near_init_17 : decode b_Near_init 17 = .ok (.putfield 15, 3) := by decide +kernel
theorem d_Near_init_20 : decode b_Near_init 20 = .ok (.return_, 1) := by decide +kernel
theorem d_Mod_thrown_0 : decode b_Mod_thrown 0 = .ok (.aload_n 0, 1) := by decide +kernel
theorem d_Mod_thrown_1 : decode b_Mod_thrown 1 = .ok (.getfield 46, 3) := by decide +kernel
theorem d_Mod_thrown_4 : decode b_Mod_thrown 4 = .ok (.ireturn, 1) := by decide +kernel
theorem d_Mod_least_0 : decode b_Mod_least 0 = .ok (.iload_n 0, 1) := by decide +kernel
theorem d_Mod_least_1 : decode b_Mod_least 1 = .ok (.iload_n 1, 1) := by decide +kernel
theorem d_Mod_least_2 : decode b_Mod_least 2 = .ok (.if_icmp .ge 7, 3) := by decide +kernel
theorem d_Mod_least_5 : decode b_Mod_least 5 = .ok (.iload_n 0, 1) := by decide +kernel
theorem d_Mod_least_6 : decode b_Mod_least 6 = .ok (.goto 4, 3) := by decide +kernel
theorem d_Mod_least_9 : decode b_Mod_least 9 = .ok (.iload_n 1, 1) := by decide +kernel
theorem d_Mod_least_10 : decode b_Mod_least 10 = .ok (.ireturn, 1) := by decide +kernel
theorem d_Mod_take_0 : decode b_Mod_take 0 = .ok (.aload_n 0, 1) := by decide +kernel
theorem d_Mod_take_1 : decode b_Mod_take 1 = .ok (.getfield 50, 3) := by decide +kernel
theorem d_Mod_take_4 : decode b_Mod_take 4 = .ok (.istore_n 1, 1) := by decide +kernel
theorem d_Mod_take_5 : decode b_Mod_take 5 = .ok (.aload_n 0, 1) := by decide +kernel
theorem d_Mod_take_6 : decode b_Mod_take 6 = .ok (.iconst 0, 1) := by decide +kernel
theorem d_Mod_take_7 : decode b_Mod_take 7 = .ok (.putfield 50, 3) := by decide +kernel
theorem d_Mod_take_10 : decode b_Mod_take 10 = .ok (.iload_n 1, 1) := by decide +kernel
theorem d_Mod_take_11 : decode b_Mod_take 11 = .ok (.ireturn, 1) := by decide +kernel
theorem d_Mod_order_0 : decode b_Mod_order 0 = .ok (.iload_n 2, 1) := by decide +kernel
theorem d_Mod_order_1 : decode b_Mod_order 1 = .ok (.aload_n 0, 1) := by decide +kernel
theorem d_Mod_order_2 : decode b_Mod_order 2 = .ok (.getfield 20, 3) := by decide +kernel
theorem d_Mod_order_5 : decode b_Mod_order 5 = .ok (.iload_n 1, 1) := by decide +kernel
theorem d_Mod_order_6 : decode b_Mod_order 6 = .ok (.iaload, 1) := by decide +kernel
theorem d_Mod_order_7 : decode b_Mod_order 7 = .ok (.invokestatic 53, 3) := by decide +kernel
theorem d_Mod_order_10 : decode b_Mod_order 10 = .ok (.istore_n 3, 1) := by decide +kernel
theorem d_Mod_order_11 : decode b_Mod_order 11 = .ok (.iconst 0, 1) := by decide +kernel
theorem d_Mod_order_12 : decode b_Mod_order 12 = .ok (.istore 4, 2) := by decide +kernel
theorem d_Mod_order_14 : decode b_Mod_order 14 = .ok (.iload 4, 2) := by decide +kernel
theorem d_Mod_order_16 : decode b_Mod_order 16 = .ok (.iload_n 3, 1) := by decide +kernel
theorem d_Mod_order_17 : decode b_Mod_order 17 = .ok (.if_icmp .ge 52, 3) := by decide +kernel
theorem d_Mod_order_20 : decode b_Mod_order 20 = .ok (.aload_n 0, 1) := by decide +kernel
theorem d_Mod_order_21 : decode b_Mod_order 21 = .ok (.getfield 14, 3) := by decide +kernel
theorem d_Mod_order_24 : decode b_Mod_order 24 = .ok (.iload_n 1, 1) := by decide +kernel
theorem d_Mod_order_25 : decode b_Mod_order 25 = .ok (.bipush 60, 2) := by decide +kernel
theorem d_Mod_order_27 : decode b_Mod_order 27 = .ok (.imul, 1) := by decide +kernel
theorem d_Mod_order_28 : decode b_Mod_order 28 = .ok (.iload 4, 2) := by decide +kernel
theorem d_Mod_order_30 : decode b_Mod_order 30 = .ok (.iadd, 1) := by decide +kernel
theorem d_Mod_order_31 : decode b_Mod_order 31 = .ok (.baload, 1) := by decide +kernel
theorem d_Mod_order_32 : decode b_Mod_order 32 = .ok (.aload_n 0, 1) := by decide +kernel
theorem d_Mod_order_33 : decode b_Mod_order 33 = .ok (.getfield 7, 3) := by decide +kernel
theorem d_Mod_order_36 : decode b_Mod_order 36 = .ok (.iload 4, 2) := by decide +kernel
theorem d_Mod_order_38 : decode b_Mod_order 38 = .ok (.baload, 1) := by decide +kernel
theorem d_Mod_order_39 : decode b_Mod_order 39 = .ok (.if_icmp .eq 24, 3) := by decide +kernel
theorem d_Mod_order_42 : decode b_Mod_order 42 = .ok (.aload_n 0, 1) := by decide +kernel
theorem d_Mod_order_43 : decode b_Mod_order 43 = .ok (.getfield 14, 3) := by decide +kernel
theorem d_Mod_order_46 : decode b_Mod_order 46 = .ok (.iload_n 1, 1) := by decide +kernel
theorem d_Mod_order_47 : decode b_Mod_order 47 = .ok (.bipush 60, 2) := by decide +kernel
theorem d_Mod_order_49 : decode b_Mod_order 49 = .ok (.imul, 1) := by decide +kernel
theorem d_Mod_order_50 : decode b_Mod_order 50 = .ok (.iload 4, 2) := by decide +kernel
theorem d_Mod_order_52 : decode b_Mod_order 52 = .ok (.iadd, 1) := by decide +kernel
theorem d_Mod_order_53 : decode b_Mod_order 53 = .ok (.baload, 1) := by decide +kernel
theorem d_Mod_order_54 : decode b_Mod_order 54 = .ok (.aload_n 0, 1) := by decide +kernel
theorem d_Mod_order_55 : decode b_Mod_order 55 = .ok (.getfield 7, 3) := by decide +kernel
theorem d_Mod_order_58 : decode b_Mod_order 58 = .ok (.iload 4, 2) := by decide +kernel
theorem d_Mod_order_60 : decode b_Mod_order 60 = .ok (.baload, 1) := by decide +kernel
theorem d_Mod_order_61 : decode b_Mod_order 61 = .ok (.isub, 1) := by decide +kernel
theorem d_Mod_order_62 : decode b_Mod_order 62 = .ok (.ireturn, 1) := by decide +kernel
theorem d_Mod_order_63 : decode b_Mod_order 63 = .ok (.iinc 4 1, 3) := by decide +kernel
theorem d_Mod_order_66 : decode b_Mod_order 66 = .ok (.goto (-52), 3) := by decide +kernel
theorem d_Mod_order_69 : decode b_Mod_order 69 = .ok (.aload_n 0, 1) := by decide +kernel
theorem d_Mod_order_70 : decode b_Mod_order 70 = .ok (.getfield 20, 3) := by decide +kernel
theorem d_Mod_order_73 : decode b_Mod_order 73 = .ok (.iload_n 1, 1) := by decide +kernel
theorem d_Mod_order_74 : decode b_Mod_order 74 = .ok (.iaload, 1) := by decide +kernel
theorem d_Mod_order_75 : decode b_Mod_order 75 = .ok (.iload_n 2, 1) := by decide +kernel
theorem d_Mod_order_76 : decode b_Mod_order 76 = .ok (.isub, 1) := by decide +kernel
theorem d_Mod_order_77 : decode b_Mod_order 77 = .ok (.ireturn, 1) := by decide +kernel
theorem d_Mod_standing_0 : decode b_Mod_standing 0 = .ok (.iconst 0, 1) := by decide +kernel
theorem d_Mod_standing_1 : decode b_Mod_standing 1 = .ok (.istore_n 2, 1) := by decide +kernel
theorem d_Mod_standing_2 : decode b_Mod_standing 2 = .ok (.iconst 0, 1) := by decide +kernel
theorem d_Mod_standing_3 : decode b_Mod_standing 3 = .ok (.istore_n 3, 1) := by decide +kernel
theorem d_Mod_standing_4 : decode b_Mod_standing 4 = .ok (.iload_n 3, 1) := by decide +kernel
theorem d_Mod_standing_5 : decode b_Mod_standing 5 = .ok (.aload_n 0, 1) := by decide +kernel
theorem d_Mod_standing_6 : decode b_Mod_standing 6 = .ok (.getfield 57, 3) := by decide +kernel
theorem d_Mod_standing_9 : decode b_Mod_standing 9 = .ok (.if_icmp .ge 21, 3) := by decide +kernel
theorem d_Mod_standing_12 : decode b_Mod_standing 12 = .ok (.aload_n 0, 1) := by decide +kernel
theorem d_Mod_standing_13 : decode b_Mod_standing 13 = .ok (.iload_n 3, 1) := by decide +kernel
theorem d_Mod_standing_14 : decode b_Mod_standing 14 = .ok (.iload_n 1, 1) := by decide +kernel
theorem d_Mod_standing_15 : decode b_Mod_standing 15 = .ok (.invokevirtual 60, 3) := by decide +kernel
theorem d_Mod_standing_18 : decode b_Mod_standing 18 = .ok (.ifCond .ge 6, 3) := by decide +kernel
theorem d_Mod_standing_21 : decode b_Mod_standing 21 = .ok (.iinc 2 1, 3) := by decide +kernel
theorem d_Mod_standing_24 : decode b_Mod_standing 24 = .ok (.iinc 3 1, 3) := by decide +kernel
theorem d_Mod_standing_27 : decode b_Mod_standing 27 = .ok (.goto (-23), 3) := by decide +kernel
theorem d_Mod_standing_30 : decode b_Mod_standing 30 = .ok (.iload_n 2, 1) := by decide +kernel
theorem d_Mod_standing_31 : decode b_Mod_standing 31 = .ok (.ireturn, 1) := by decide +kernel
theorem d_Mod_before_0 : decode b_Mod_before 0 = .ok (.aload_n 0, 1) := by decide +kernel
theorem d_Mod_before_1 : decode b_Mod_before 1 = .ok (.iconst 0, 1) := by decide +kernel
theorem d_Mod_before_2 : decode b_Mod_before 2 = .ok (.putfield 46, 3) := by decide +kernel
theorem d_Mod_before_5 : decode b_Mod_before 5 = .ok (.aload_n 0, 1) := by decide +kernel
theorem d_Mod_before_6 : decode b_Mod_before 6 = .ok (.aload_n 0, 1) := by decide +kernel
theorem d_Mod_before_7 : decode b_Mod_before 7 = .ok (.invokevirtual 63, 3) := by decide +kernel
theorem d_Mod_before_10 : decode b_Mod_before 10 = .ok (.invokevirtual 67, 3) := by decide +kernel
theorem d_Mod_before_13 : decode b_Mod_before 13 = .ok (.ireturn, 1) := by decide +kernel
theorem d_Mod_count_0 : decode b_Mod_count 0 = .ok (.aload_n 0, 1) := by decide +kernel
theorem d_Mod_count_1 : decode b_Mod_count 1 = .ok (.iconst 0, 1) := by decide +kernel
theorem d_Mod_count_2 : decode b_Mod_count 2 = .ok (.putfield 46, 3) := by decide +kernel
theorem d_Mod_count_5 : decode b_Mod_count 5 = .ok (.iconst 0, 1) := by decide +kernel
theorem d_Mod_count_6 : decode b_Mod_count 6 = .ok (.istore_n 2, 1) := by decide +kernel
theorem d_Mod_count_7 : decode b_Mod_count 7 = .ok (.iconst 0, 1) := by decide +kernel
theorem d_Mod_count_8 : decode b_Mod_count 8 = .ok (.istore_n 3, 1) := by decide +kernel
theorem d_Mod_count_9 : decode b_Mod_count 9 = .ok (.iload_n 3, 1) := by decide +kernel
theorem d_Mod_count_10 : decode b_Mod_count 10 = .ok (.aload_n 0, 1) := by decide +kernel
theorem d_Mod_count_11 : decode b_Mod_count 11 = .ok (.getfield 57, 3) := by decide +kernel
theorem d_Mod_count_14 : decode b_Mod_count 14 = .ok (.if_icmp .ge 30, 3) := by decide +kernel
theorem d_Mod_count_17 : decode b_Mod_count 17 = .ok (.aload_n 0, 1) := by decide +kernel
theorem d_Mod_count_18 : decode b_Mod_count 18 = .ok (.getfield 20, 3) := by decide +kernel
theorem d_Mod_count_21 : decode b_Mod_count 21 = .ok (.iload_n 3, 1) := by decide +kernel
theorem d_Mod_count_22 : decode b_Mod_count 22 = .ok (.iaload, 1) := by decide +kernel
theorem d_Mod_count_23 : decode b_Mod_count 23 = .ok (.iload_n 2, 1) := by decide +kernel
theorem d_Mod_count_24 : decode b_Mod_count 24 = .ok (.if_icmp .le 12, 3) := by decide +kernel
theorem d_Mod_count_27 : decode b_Mod_count 27 = .ok (.aload_n 0, 1) := by decide +kernel
theorem d_Mod_count_28 : decode b_Mod_count 28 = .ok (.getfield 20, 3) := by decide +kernel
theorem d_Mod_count_31 : decode b_Mod_count 31 = .ok (.iload_n 3, 1) := by decide +kernel
theorem d_Mod_count_32 : decode b_Mod_count 32 = .ok (.iaload, 1) := by decide +kernel
theorem d_Mod_count_33 : decode b_Mod_count 33 = .ok (.goto 4, 3) := by decide +kernel
theorem d_Mod_count_36 : decode b_Mod_count 36 = .ok (.iload_n 2, 1) := by decide +kernel
theorem d_Mod_count_37 : decode b_Mod_count 37 = .ok (.istore_n 2, 1) := by decide +kernel
theorem d_Mod_count_38 : decode b_Mod_count 38 = .ok (.iinc 3 1, 3) := by decide +kernel
theorem d_Mod_count_41 : decode b_Mod_count 41 = .ok (.goto (-32), 3) := by decide +kernel
theorem d_Mod_count_44 : decode b_Mod_count 44 = .ok (.iload_n 1, 1) := by decide +kernel
theorem d_Mod_count_45 : decode b_Mod_count 45 = .ok (.tableswitch 57 0 4 #[35, 40, 45, 50, 55], 35) := by decide +kernel
theorem d_Mod_count_80 : decode b_Mod_count 80 = .ok (.aload_n 0, 1) := by decide +kernel
theorem d_Mod_count_81 : decode b_Mod_count 81 = .ok (.getfield 50, 3) := by decide +kernel
theorem d_Mod_count_84 : decode b_Mod_count 84 = .ok (.ireturn, 1) := by decide +kernel
theorem d_Mod_count_85 : decode b_Mod_count 85 = .ok (.aload_n 0, 1) := by decide +kernel
theorem d_Mod_count_86 : decode b_Mod_count 86 = .ok (.getfield 57, 3) := by decide +kernel
theorem d_Mod_count_89 : decode b_Mod_count 89 = .ok (.ireturn, 1) := by decide +kernel
theorem d_Mod_count_90 : decode b_Mod_count 90 = .ok (.aload_n 0, 1) := by decide +kernel
theorem d_Mod_count_91 : decode b_Mod_count 91 = .ok (.getfield 71, 3) := by decide +kernel
theorem d_Mod_count_94 : decode b_Mod_count 94 = .ok (.ireturn, 1) := by decide +kernel
theorem d_Mod_count_95 : decode b_Mod_count 95 = .ok (.aload_n 0, 1) := by decide +kernel
theorem d_Mod_count_96 : decode b_Mod_count 96 = .ok (.getfield 81, 3) := by decide +kernel
theorem d_Mod_count_99 : decode b_Mod_count 99 = .ok (.ireturn, 1) := by decide +kernel
theorem d_Mod_count_100 : decode b_Mod_count 100 = .ok (.iload_n 2, 1) := by decide +kernel
theorem d_Mod_count_101 : decode b_Mod_count 101 = .ok (.ireturn, 1) := by decide +kernel
theorem d_Mod_count_102 : decode b_Mod_count 102 = .ok (.iconst (-1), 1) := by decide +kernel
theorem d_Mod_count_103 : decode b_Mod_count 103 = .ok (.ireturn, 1) := by decide +kernel
theorem d_Mod_letter_0 : decode b_Mod_letter 0 = .ok (.aload_n 0, 1) := by decide +kernel
theorem d_Mod_letter_1 : decode b_Mod_letter 1 = .ok (.iload_n 1, 1) := by decide +kernel
theorem d_Mod_letter_2 : decode b_Mod_letter 2 = .ok (.ifCond .lt 15, 3) := by decide +kernel
theorem d_Mod_letter_5 : decode b_Mod_letter 5 = .ok (.iload_n 1, 1) := by decide +kernel
theorem d_Mod_letter_6 : decode b_Mod_letter 6 = .ok (.aload_n 0, 1) := by decide +kernel
theorem d_Mod_letter_7 : decode b_Mod_letter 7 = .ok (.getfield 81, 3) := by decide +kernel
theorem d_Mod_letter_10 : decode b_Mod_letter 10 = .ok (.if_icmp .ge 7, 3) := by decide +kernel
theorem d_Mod_letter_13 : decode b_Mod_letter 13 = .ok (.iload_n 2, 1) := by decide +kernel
theorem d_Mod_letter_14 : decode b_Mod_letter 14 = .ok (.ifCond .ge 7, 3) := by decide +kernel
theorem d_Mod_letter_17 : decode b_Mod_letter 17 = .ok (.iconst 1, 1) := by decide +kernel
theorem d_Mod_letter_18 : decode b_Mod_letter 18 = .ok (.goto 4, 3) := by decide +kernel
theorem d_Mod_letter_21 : decode b_Mod_letter 21 = .ok (.iconst 0, 1) := by decide +kernel
theorem d_Mod_letter_22 : decode b_Mod_letter 22 = .ok (.putfield 46, 3) := by decide +kernel
theorem d_Mod_letter_25 : decode b_Mod_letter 25 = .ok (.aload_n 0, 1) := by decide +kernel
theorem d_Mod_letter_26 : decode b_Mod_letter 26 = .ok (.getfield 46, 3) := by decide +kernel
theorem d_Mod_letter_29 : decode b_Mod_letter 29 = .ok (.ifCond .eq 5, 3) := by decide +kernel
theorem d_Mod_letter_32 : decode b_Mod_letter 32 = .ok (.iconst 0, 1) := by decide +kernel
theorem d_Mod_letter_33 : decode b_Mod_letter 33 = .ok (.ireturn, 1) := by decide +kernel
theorem d_Mod_letter_34 : decode b_Mod_letter 34 = .ok (.iload_n 2, 1) := by decide +kernel
theorem d_Mod_letter_35 : decode b_Mod_letter 35 = .ok (.aload_n 0, 1) := by decide +kernel
theorem d_Mod_letter_36 : decode b_Mod_letter 36 = .ok (.getfield 24, 3) := by decide +kernel
theorem d_Mod_letter_39 : decode b_Mod_letter 39 = .ok (.iload_n 1, 1) := by decide +kernel
theorem d_Mod_letter_40 : decode b_Mod_letter 40 = .ok (.iaload, 1) := by decide +kernel
theorem d_Mod_letter_41 : decode b_Mod_letter 41 = .ok (.if_icmp .ge 17, 3) := by decide +kernel
theorem d_Mod_letter_44 : decode b_Mod_letter 44 = .ok (.aload_n 0, 1) := by decide +kernel
theorem d_Mod_letter_45 : decode b_Mod_letter 45 = .ok (.getfield 17, 3) := by decide +kernel
theorem d_Mod_letter_48 : decode b_Mod_letter 48 = .ok (.iload_n 1, 1) := by decide +kernel
theorem d_Mod_letter_49 : decode b_Mod_letter 49 = .ok (.bipush 60, 2) := by decide +kernel
theorem d_Mod_letter_51 : decode b_Mod_letter 51 = .ok (.imul, 1) := by decide +kernel
theorem d_Mod_letter_52 : decode b_Mod_letter 52 = .ok (.iload_n 2, 1) := by decide +kernel
theorem d_Mod_letter_53 : decode b_Mod_letter 53 = .ok (.iadd, 1) := by decide +kernel
theorem d_Mod_letter_54 : decode b_Mod_letter 54 = .ok (.baload, 1) := by decide +kernel
theorem d_Mod_letter_55 : decode b_Mod_letter 55 = .ok (.goto 4, 3) := by decide +kernel
theorem d_Mod_letter_58 : decode b_Mod_letter 58 = .ok (.iconst 0, 1) := by decide +kernel
theorem d_Mod_letter_59 : decode b_Mod_letter 59 = .ok (.ireturn, 1) := by decide +kernel
theorem d_Mod_distance_0 : decode b_Mod_distance 0 = .ok (.aload_n 0, 1) := by decide +kernel
theorem d_Mod_distance_1 : decode b_Mod_distance 1 = .ok (.iload_n 1, 1) := by decide +kernel
theorem d_Mod_distance_2 : decode b_Mod_distance 2 = .ok (.ifCond .lt 11, 3) := by decide +kernel
theorem d_Mod_distance_5 : decode b_Mod_distance 5 = .ok (.iload_n 1, 1) := by decide +kernel
theorem d_Mod_distance_6 : decode b_Mod_distance 6 = .ok (.aload_n 0, 1) := by decide +kernel
theorem d_Mod_distance_7 : decode b_Mod_distance 7 = .ok (.getfield 81, 3) := by decide +kernel
theorem d_Mod_distance_10 : decode b_Mod_distance 10 = .ok (.if_icmp .lt 7, 3) := by decide +kernel
theorem d_Mod_distance_13 : decode b_Mod_distance 13 = .ok (.iconst 1, 1) := by decide +kernel
theorem d_Mod_distance_14 : decode b_Mod_distance 14 = .ok (.goto 4, 3) := by decide +kernel
theorem d_Mod_distance_17 : decode b_Mod_distance 17 = .ok (.iconst 0, 1) := by decide +kernel
theorem d_Mod_distance_18 : decode b_Mod_distance 18 = .ok (.putfield 46, 3) := by decide +kernel
theorem d_Mod_distance_21 : decode b_Mod_distance 21 = .ok (.aload_n 0, 1) := by decide +kernel
theorem d_Mod_distance_22 : decode b_Mod_distance 22 = .ok (.getfield 46, 3) := by decide +kernel
theorem d_Mod_distance_25 : decode b_Mod_distance 25 = .ok (.ifCond .eq 7, 3) := by decide +kernel
theorem d_Mod_distance_28 : decode b_Mod_distance 28 = .ok (.iconst 0, 1) := by decide +kernel
theorem d_Mod_distance_29 : decode b_Mod_distance 29 = .ok (.goto 9, 3) := by decide +kernel
theorem d_Mod_distance_32 : decode b_Mod_distance 32 = .ok (.aload_n 0, 1) := by decide +kernel
theorem d_Mod_distance_33 : decode b_Mod_distance 33 = .ok (.getfield 27, 3) := by decide +kernel
theorem d_Mod_distance_36 : decode b_Mod_distance 36 = .ok (.iload_n 1, 1) := by decide +kernel
theorem d_Mod_distance_37 : decode b_Mod_distance 37 = .ok (.iaload, 1) := by decide +kernel
theorem d_Mod_distance_38 : decode b_Mod_distance 38 = .ok (.ireturn, 1) := by decide +kernel
theorem d_Mod_shift_0 : decode b_Mod_shift 0 = .ok (.iconst 0, 1) := by decide +kernel
theorem d_Mod_shift_1 : decode b_Mod_shift 1 = .ok (.istore 4, 2) := by decide +kernel
theorem d_Mod_shift_3 : decode b_Mod_shift 3 = .ok (.iload 4, 2) := by decide +kernel
theorem d_Mod_shift_5 : decode b_Mod_shift 5 = .ok (.iload_n 3, 1) := by decide +kernel
theorem d_Mod_shift_6 : decode b_Mod_shift 6 = .ok (.if_icmp .ge 33, 3) := by decide +kernel
theorem d_Mod_shift_9 : decode b_Mod_shift 9 = .ok (.aload_n 0, 1) := by decide +kernel
theorem d_Mod_shift_10 : decode b_Mod_shift 10 = .ok (.getfield 14, 3) := by decide +kernel
theorem d_Mod_shift_13 : decode b_Mod_shift 13 = .ok (.iload_n 2, 1) := by decide +kernel
theorem d_Mod_shift_14 : decode b_Mod_shift 14 = .ok (.bipush 60, 2) := by decide +kernel
theorem d_Mod_shift_16 : decode b_Mod_shift 16 = .ok (.imul, 1) := by decide +kernel
theorem d_Mod_shift_17 : decode b_Mod_shift 17 = .ok (.iload 4, 2) := by decide +kernel
theorem d_Mod_shift_19 : decode b_Mod_shift 19 = .ok (.iadd, 1) := by decide +kernel
theorem d_Mod_shift_20 : decode b_Mod_shift 20 = .ok (.aload_n 0, 1) := by decide +kernel
theorem d_Mod_shift_21 : decode b_Mod_shift 21 = .ok (.getfield 14, 3) := by decide +kernel
theorem d_Mod_shift_24 : decode b_Mod_shift 24 = .ok (.iload_n 1, 1) := by decide +kernel
theorem d_Mod_shift_25 : decode b_Mod_shift 25 = .ok (.bipush 60, 2) := by decide +kernel
theorem d_Mod_shift_27 : decode b_Mod_shift 27 = .ok (.imul, 1) := by decide +kernel
theorem d_Mod_shift_28 : decode b_Mod_shift 28 = .ok (.iload 4, 2) := by decide +kernel
theorem d_Mod_shift_30 : decode b_Mod_shift 30 = .ok (.iadd, 1) := by decide +kernel
theorem d_Mod_shift_31 : decode b_Mod_shift 31 = .ok (.baload, 1) := by decide +kernel
theorem d_Mod_shift_32 : decode b_Mod_shift 32 = .ok (.bastore, 1) := by decide +kernel
theorem d_Mod_shift_33 : decode b_Mod_shift 33 = .ok (.iinc 4 1, 3) := by decide +kernel
theorem d_Mod_shift_36 : decode b_Mod_shift 36 = .ok (.goto (-33), 3) := by decide +kernel
theorem d_Mod_shift_39 : decode b_Mod_shift 39 = .ok (.aload_n 0, 1) := by decide +kernel
theorem d_Mod_shift_40 : decode b_Mod_shift 40 = .ok (.getfield 20, 3) := by decide +kernel
theorem d_Mod_shift_43 : decode b_Mod_shift 43 = .ok (.iload_n 2, 1) := by decide +kernel
theorem d_Mod_shift_44 : decode b_Mod_shift 44 = .ok (.iload_n 3, 1) := by decide +kernel
theorem d_Mod_shift_45 : decode b_Mod_shift 45 = .ok (.iastore, 1) := by decide +kernel
theorem d_Mod_shift_46 : decode b_Mod_shift 46 = .ok (.return_, 1) := by decide +kernel
theorem d_Mod_keep_0 : decode b_Mod_keep 0 = .ok (.iconst 0, 1) := by decide +kernel
theorem d_Mod_keep_1 : decode b_Mod_keep 1 = .ok (.istore 4, 2) := by decide +kernel
theorem d_Mod_keep_3 : decode b_Mod_keep 3 = .ok (.iload 4, 2) := by decide +kernel
theorem d_Mod_keep_5 : decode b_Mod_keep 5 = .ok (.aload_n 0, 1) := by decide +kernel
theorem d_Mod_keep_6 : decode b_Mod_keep 6 = .ok (.getfield 20, 3) := by decide +kernel
theorem d_Mod_keep_9 : decode b_Mod_keep 9 = .ok (.iload_n 2, 1) := by decide +kernel
theorem d_Mod_keep_10 : decode b_Mod_keep 10 = .ok (.iaload, 1) := by decide +kernel
theorem d_Mod_keep_11 : decode b_Mod_keep 11 = .ok (.if_icmp .ge 33, 3) := by decide +kernel
theorem d_Mod_keep_14 : decode b_Mod_keep 14 = .ok (.aload_n 0, 1) := by decide +kernel
theorem d_Mod_keep_15 : decode b_Mod_keep 15 = .ok (.getfield 17, 3) := by decide +kernel
theorem d_Mod_keep_18 : decode b_Mod_keep 18 = .ok (.iload_n 1, 1) := by decide +kernel
theorem d_Mod_keep_19 : decode b_Mod_keep 19 = .ok (.bipush 60, 2) := by decide +kernel
theorem d_Mod_keep_21 : decode b_Mod_keep 21 = .ok (.imul, 1) := by decide +kernel
theorem d_Mod_keep_22 : decode b_Mod_keep 22 = .ok (.iload 4, 2) := by decide +kernel
theorem d_Mod_keep_24 : decode b_Mod_keep 24 = .ok (.iadd, 1) := by decide +kernel
theorem d_Mod_keep_25 : decode b_Mod_keep 25 = .ok (.aload_n 0, 1) := by decide +kernel
theorem d_Mod_keep_26 : decode b_Mod_keep 26 = .ok (.getfield 14, 3) := by decide +kernel
theorem d_Mod_keep_29 : decode b_Mod_keep 29 = .ok (.iload_n 2, 1) := by decide +kernel
theorem d_Mod_keep_30 : decode b_Mod_keep 30 = .ok (.bipush 60, 2) := by decide +kernel
theorem d_Mod_keep_32 : decode b_Mod_keep 32 = .ok (.imul, 1) := by decide +kernel
theorem d_Mod_keep_33 : decode b_Mod_keep 33 = .ok (.iload 4, 2) := by decide +kernel
theorem d_Mod_keep_35 : decode b_Mod_keep 35 = .ok (.iadd, 1) := by decide +kernel
theorem d_Mod_keep_36 : decode b_Mod_keep 36 = .ok (.baload, 1) := by decide +kernel
theorem d_Mod_keep_37 : decode b_Mod_keep 37 = .ok (.bastore, 1) := by decide +kernel
theorem d_Mod_keep_38 : decode b_Mod_keep 38 = .ok (.iinc 4 1, 3) := by decide +kernel
theorem d_Mod_keep_41 : decode b_Mod_keep 41 = .ok (.goto (-38), 3) := by decide +kernel
theorem d_Mod_keep_44 : decode b_Mod_keep 44 = .ok (.aload_n 0, 1) := by decide +kernel
theorem d_Mod_keep_45 : decode b_Mod_keep 45 = .ok (.getfield 24, 3) := by decide +kernel
theorem d_Mod_keep_48 : decode b_Mod_keep 48 = .ok (.iload_n 1, 1) := by decide +kernel
theorem d_Mod_keep_49 : decode b_Mod_keep 49 = .ok (.aload_n 0, 1) := by decide +kernel
theorem d_Mod_keep_50 : decode b_Mod_keep 50 = .ok (.getfield 20, 3) := by decide +kernel
theorem d_Mod_keep_53 : decode b_Mod_keep 53 = .ok (.iload_n 2, 1) := by decide +kernel
theorem d_Mod_keep_54 : decode b_Mod_keep 54 = .ok (.iaload, 1) := by decide +kernel
theorem d_Mod_keep_55 : decode b_Mod_keep 55 = .ok (.iastore, 1) := by decide +kernel
theorem d_Mod_keep_56 : decode b_Mod_keep 56 = .ok (.aload_n 0, 1) := by decide +kernel
theorem d_Mod_keep_57 : decode b_Mod_keep 57 = .ok (.getfield 27, 3) := by decide +kernel
theorem d_Mod_keep_60 : decode b_Mod_keep 60 = .ok (.iload_n 1, 1) := by decide +kernel
theorem d_Mod_keep_61 : decode b_Mod_keep 61 = .ok (.iload_n 3, 1) := by decide +kernel
theorem d_Mod_keep_62 : decode b_Mod_keep 62 = .ok (.iastore, 1) := by decide +kernel
theorem d_Mod_keep_63 : decode b_Mod_keep 63 = .ok (.return_, 1) := by decide +kernel
theorem d_Mod_steps_0 : decode b_Mod_steps 0 = .ok (.aload_n 0, 1) := by decide +kernel
theorem d_Mod_steps_1 : decode b_Mod_steps 1 = .ok (.getfield 20, 3) := by decide +kernel
theorem d_Mod_steps_4 : decode b_Mod_steps 4 = .ok (.iload_n 1, 1) := by decide +kernel
theorem d_Mod_steps_5 : decode b_Mod_steps 5 = .ok (.iaload, 1) := by decide +kernel
theorem d_Mod_steps_6 : decode b_Mod_steps 6 = .ok (.istore_n 3, 1) := by decide +kernel
theorem d_Mod_steps_7 : decode b_Mod_steps 7 = .ok (.iconst 0, 1) := by decide +kernel
theorem d_Mod_steps_8 : decode b_Mod_steps 8 = .ok (.istore 4, 2) := by decide +kernel
theorem d_Mod_steps_10 : decode b_Mod_steps 10 = .ok (.iload 4, 2) := by decide +kernel
theorem d_Mod_steps_12 : decode b_Mod_steps 12 = .ok (.iload_n 3, 1) := by decide +kernel
theorem d_Mod_steps_13 : decode b_Mod_steps 13 = .ok (.if_icmp .gt 241, 3) := by decide +kernel
theorem d_Mod_steps_16 : decode b_Mod_steps 16 = .ok (.iconst 0, 1) := by decide +kernel
theorem d_Mod_steps_17 : decode b_Mod_steps 17 = .ok (.istore 5, 2) := by decide +kernel
theorem d_Mod_steps_19 : decode b_Mod_steps 19 = .ok (.iload 5, 2) := by decide +kernel
theorem d_Mod_steps_21 : decode b_Mod_steps 21 = .ok (.iload_n 2, 1) := by decide +kernel
theorem d_Mod_steps_22 : decode b_Mod_steps 22 = .ok (.if_icmp .gt 226, 3) := by decide +kernel
theorem d_Mod_steps_25 : decode b_Mod_steps 25 = .ok (.iload 4, 2) := by decide +kernel
theorem d_Mod_steps_27 : decode b_Mod_steps 27 = .ok (.ifCond .ne 8, 3) := by decide +kernel
theorem d_Mod_steps_30 : decode b_Mod_steps 30 = .ok (.iload 5, 2) := by decide +kernel
theorem d_Mod_steps_32 : decode b_Mod_steps 32 = .ok (.goto 48, 3) := by decide +kernel
theorem d_Mod_steps_35 : decode b_Mod_steps 35 = .ok (.iload 5, 2) := by decide +kernel
theorem d_Mod_steps_37 : decode b_Mod_steps 37 = .ok (.ifCond .ne 8, 3) := by decide +kernel
theorem d_Mod_steps_40 : decode b_Mod_steps 40 = .ok (.iload 4, 2) := by decide +kernel
theorem d_Mod_steps_42 : decode b_Mod_steps 42 = .ok (.goto 38, 3) := by decide +kernel
theorem d_Mod_steps_45 : decode b_Mod_steps 45 = .ok (.aload_n 0, 1) := by decide +kernel
theorem d_Mod_steps_46 : decode b_Mod_steps 46 = .ok (.getfield 36, 3) := by decide +kernel
theorem d_Mod_steps_49 : decode b_Mod_steps 49 = .ok (.iload 4, 2) := by decide +kernel
theorem d_Mod_steps_51 : decode b_Mod_steps 51 = .ok (.iconst 1, 1) := by decide +kernel
theorem d_Mod_steps_52 : decode b_Mod_steps 52 = .ok (.isub, 1) := by decide +kernel
theorem d_Mod_steps_53 : decode b_Mod_steps 53 = .ok (.bipush 61, 2) := by decide +kernel
theorem d_Mod_steps_55 : decode b_Mod_steps 55 = .ok (.imul, 1) := by decide +kernel
theorem d_Mod_steps_56 : decode b_Mod_steps 56 = .ok (.iload 5, 2) := by decide +kernel
theorem d_Mod_steps_58 : decode b_Mod_steps 58 = .ok (.iadd, 1) := by decide +kernel
theorem d_Mod_steps_59 : decode b_Mod_steps 59 = .ok (.iaload, 1) := by decide +kernel
theorem d_Mod_steps_60 : decode b_Mod_steps 60 = .ok (.aload_n 0, 1) := by decide +kernel
theorem d_Mod_steps_61 : decode b_Mod_steps 61 = .ok (.getfield 36, 3) := by decide +kernel
theorem d_Mod_steps_64 : decode b_Mod_steps 64 = .ok (.iload 4, 2) := by decide +kernel
theorem d_Mod_steps_66 : decode b_Mod_steps 66 = .ok (.bipush 61, 2) := by decide +kernel
theorem d_Mod_steps_68 : decode b_Mod_steps 68 = .ok (.imul, 1) := by decide +kernel
theorem d_Mod_steps_69 : decode b_Mod_steps 69 = .ok (.iload 5, 2) := by decide +kernel
theorem d_Mod_steps_71 : decode b_Mod_steps 71 = .ok (.iadd, 1) := by decide +kernel
theorem d_Mod_steps_72 : decode b_Mod_steps 72 = .ok (.iconst 1, 1) := by decide +kernel
theorem d_Mod_steps_73 : decode b_Mod_steps 73 = .ok (.isub, 1) := by decide +kernel
theorem d_Mod_steps_74 : decode b_Mod_steps 74 = .ok (.iaload, 1) := by decide +kernel
theorem d_Mod_steps_75 : decode b_Mod_steps 75 = .ok (.invokestatic 53, 3) := by decide +kernel
theorem d_Mod_steps_78 : decode b_Mod_steps 78 = .ok (.iconst 1, 1) := by decide +kernel
theorem d_Mod_steps_79 : decode b_Mod_steps 79 = .ok (.iadd, 1) := by decide +kernel
theorem d_Mod_steps_80 : decode b_Mod_steps 80 = .ok (.istore 6, 2) := by decide +kernel
theorem d_Mod_steps_82 : decode b_Mod_steps 82 = .ok (.iload 4, 2) := by decide +kernel
theorem d_Mod_steps_84 : decode b_Mod_steps 84 = .ok (.ifCond .le 143, 3) := by decide +kernel
theorem d_Mod_steps_87 : decode b_Mod_steps 87 = .ok (.iload 5, 2) := by decide +kernel
theorem d_Mod_steps_89 : decode b_Mod_steps 89 = .ok (.ifCond .le 138, 3) := by decide +kernel
theorem d_Mod_steps_92 : decode b_Mod_steps 92 = .ok (.aload_n 0, 1) := by decide +kernel
theorem d_Mod_steps_93 : decode b_Mod_steps 93 = .ok (.getfield 14, 3) := by decide +kernel
theorem d_Mod_steps_96 : decode b_Mod_steps 96 = .ok (.iload_n 1, 1) := by decide +kernel
theorem d_Mod_steps_97 : decode b_Mod_steps 97 = .ok (.bipush 60, 2) := by decide +kernel
theorem d_Mod_steps_99 : decode b_Mod_steps 99 = .ok (.imul, 1) := by decide +kernel
theorem d_Mod_steps_100 : decode b_Mod_steps 100 = .ok (.iload 4, 2) := by decide +kernel
theorem d_Mod_steps_102 : decode b_Mod_steps 102 = .ok (.iadd, 1) := by decide +kernel
theorem d_Mod_steps_103 : decode b_Mod_steps 103 = .ok (.iconst 1, 1) := by decide +kernel
theorem d_Mod_steps_104 : decode b_Mod_steps 104 = .ok (.isub, 1) := by decide +kernel
theorem d_Mod_steps_105 : decode b_Mod_steps 105 = .ok (.baload, 1) := by decide +kernel
theorem d_Mod_steps_106 : decode b_Mod_steps 106 = .ok (.istore 7, 2) := by decide +kernel
theorem d_Mod_steps_108 : decode b_Mod_steps 108 = .ok (.aload_n 0, 1) := by decide +kernel
theorem d_Mod_steps_109 : decode b_Mod_steps 109 = .ok (.getfield 7, 3) := by decide +kernel
theorem d_Mod_steps_112 : decode b_Mod_steps 112 = .ok (.iload 5, 2) := by decide +kernel
theorem d_Mod_steps_114 : decode b_Mod_steps 114 = .ok (.iconst 1, 1) := by decide +kernel
theorem d_Mod_steps_115 : decode b_Mod_steps 115 = .ok (.isub, 1) := by decide +kernel
theorem d_Mod_steps_116 : decode b_Mod_steps 116 = .ok (.baload, 1) := by decide +kernel
theorem d_Mod_steps_117 : decode b_Mod_steps 117 = .ok (.istore 8, 2) := by decide +kernel
theorem d_Mod_steps_119 : decode b_Mod_steps 119 = .ok (.iload 6, 2) := by decide +kernel
theorem d_Mod_steps_121 : decode b_Mod_steps 121 = .ok (.aload_n 0, 1) := by decide +kernel
theorem d_Mod_steps_122 : decode b_Mod_steps 122 = .ok (.getfield 36, 3) := by decide +kernel
theorem d_Mod_steps_125 : decode b_Mod_steps 125 = .ok (.iload 4, 2) := by decide +kernel
theorem d_Mod_steps_127 : decode b_Mod_steps 127 = .ok (.iconst 1, 1) := by decide +kernel
theorem d_Mod_steps_128 : decode b_Mod_steps 128 = .ok (.isub, 1) := by decide +kernel
theorem d_Mod_steps_129 : decode b_Mod_steps 129 = .ok (.bipush 61, 2) := by decide +kernel
theorem d_Mod_steps_131 : decode b_Mod_steps 131 = .ok (.imul, 1) := by decide +kernel
theorem d_Mod_steps_132 : decode b_Mod_steps 132 = .ok (.iload 5, 2) := by decide +kernel
theorem d_Mod_steps_134 : decode b_Mod_steps 134 = .ok (.iadd, 1) := by decide +kernel
theorem d_Mod_steps_135 : decode b_Mod_steps 135 = .ok (.iconst 1, 1) := by decide +kernel
theorem d_Mod_steps_136 : decode b_Mod_steps 136 = .ok (.isub, 1) := by decide +kernel
theorem d_Mod_steps_137 : decode b_Mod_steps 137 = .ok (.iaload, 1) := by decide +kernel
theorem d_Mod_steps_138 : decode b_Mod_steps 138 = .ok (.iload 7, 2) := by decide +kernel
theorem d_Mod_steps_140 : decode b_Mod_steps 140 = .ok (.iload 8, 2) := by decide +kernel
theorem d_Mod_steps_142 : decode b_Mod_steps 142 = .ok (.if_icmp .ne 7, 3) := by decide +kernel
theorem d_Mod_steps_145 : decode b_Mod_steps 145 = .ok (.iconst 0, 1) := by decide +kernel
theorem d_Mod_steps_146 : decode b_Mod_steps 146 = .ok (.goto 4, 3) := by decide +kernel
theorem d_Mod_steps_149 : decode b_Mod_steps 149 = .ok (.iconst 1, 1) := by decide +kernel
theorem d_Mod_steps_150 : decode b_Mod_steps 150 = .ok (.iadd, 1) := by decide +kernel
theorem d_Mod_steps_151 : decode b_Mod_steps 151 = .ok (.invokestatic 53, 3) := by decide +kernel
theorem d_Mod_steps_154 : decode b_Mod_steps 154 = .ok (.istore 6, 2) := by decide +kernel
theorem d_Mod_steps_156 : decode b_Mod_steps 156 = .ok (.iload 4, 2) := by decide +kernel
theorem d_Mod_steps_158 : decode b_Mod_steps 158 = .ok (.iconst 1, 1) := by decide +kernel
theorem d_Mod_steps_159 : decode b_Mod_steps 159 = .ok (.if_icmp .le 68, 3) := by decide +kernel
theorem d_Mod_steps_162 : decode b_Mod_steps 162 = .ok (.iload 5, 2) := by decide +kernel
theorem d_Mod_steps_164 : decode b_Mod_steps 164 = .ok (.iconst 1, 1) := by decide +kernel
theorem d_Mod_steps_165 : decode b_Mod_steps 165 = .ok (.if_icmp .le 62, 3) := by decide +kernel
theorem d_Mod_steps_168 : decode b_Mod_steps 168 = .ok (.iload 7, 2) := by decide +kernel
theorem d_Mod_steps_170 : decode b_Mod_steps 170 = .ok (.aload_n 0, 1) := by decide +kernel
theorem d_Mod_steps_171 : decode b_Mod_steps 171 = .ok (.getfield 7, 3) := by decide +kernel
theorem d_Mod_steps_174 : decode b_Mod_steps 174 = .ok (.iload 5, 2) := by decide +kernel
theorem d_Mod_steps_176 : decode b_Mod_steps 176 = .ok (.iconst 2, 1) := by decide +kernel
theorem d_Mod_steps_177 : decode b_Mod_steps 177 = .ok (.isub, 1) := by decide +kernel
theorem d_Mod_steps_178 : decode b_Mod_steps 178 = .ok (.baload, 1) := by decide +kernel
theorem d_Mod_steps_179 : decode b_Mod_steps 179 = .ok (.if_icmp .ne 48, 3) := by decide +kernel
theorem d_Mod_steps_182 : decode b_Mod_steps 182 = .ok (.aload_n 0, 1) := by decide +kernel
theorem d_Mod_steps_183 : decode b_Mod_steps 183 = .ok (.getfield 14, 3) := by decide +kernel
theorem d_Mod_steps_186 : decode b_Mod_steps 186 = .ok (.iload_n 1, 1) := by decide +kernel
theorem d_Mod_steps_187 : decode b_Mod_steps 187 = .ok (.bipush 60, 2) := by decide +kernel
theorem d_Mod_steps_189 : decode b_Mod_steps 189 = .ok (.imul, 1) := by decide +kernel
theorem d_Mod_steps_190 : decode b_Mod_steps 190 = .ok (.iload 4, 2) := by decide +kernel
theorem d_Mod_steps_192 : decode b_Mod_steps 192 = .ok (.iadd, 1) := by decide +kernel
theorem d_Mod_steps_193 : decode b_Mod_steps 193 = .ok (.iconst 2, 1) := by decide +kernel
theorem d_Mod_steps_194 : decode b_Mod_steps 194 = .ok (.isub, 1) := by decide +kernel
theorem d_Mod_steps_195 : decode b_Mod_steps 195 = .ok (.baload, 1) := by decide +kernel
theorem d_Mod_steps_196 : decode b_Mod_steps 196 = .ok (.iload 8, 2) := by decide +kernel
theorem d_Mod_steps_198 : decode b_Mod_steps 198 = .ok (.if_icmp .ne 29, 3) := by decide +kernel
theorem d_Mod_steps_201 : decode b_Mod_steps 201 = .ok (.iload 6, 2) := by decide +kernel
theorem d_Mod_steps_203 : decode b_Mod_steps 203 = .ok (.aload_n 0, 1) := by decide +kernel
theorem d_Mod_steps_204 : decode b_Mod_steps 204 = .ok (.getfield 36, 3) := by decide +kernel
theorem d_Mod_steps_207 : decode b_Mod_steps 207 = .ok (.iload 4, 2) := by decide +kernel
theorem d_Mod_steps_209 : decode b_Mod_steps 209 = .ok (.iconst 2, 1) := by decide +kernel
theorem d_Mod_steps_210 : decode b_Mod_steps 210 = .ok (.isub, 1) := by decide +kernel
theorem d_Mod_steps_211 : decode b_Mod_steps 211 = .ok (.bipush 61, 2) := by decide +kernel
theorem d_Mod_steps_213 : decode b_Mod_steps 213 = .ok (.imul, 1) := by decide +kernel
theorem d_Mod_steps_214 : decode b_Mod_steps 214 = .ok (.iload 5, 2) := by decide +kernel
theorem d_Mod_steps_216 : decode b_Mod_steps 216 = .ok (.iadd, 1) := by decide +kernel
theorem d_Mod_steps_217 : decode b_Mod_steps 217 = .ok (.iconst 2, 1) := by decide +kernel
theorem d_Mod_steps_218 : decode b_Mod_steps 218 = .ok (.isub, 1) := by decide +kernel
theorem d_Mod_steps_219 : decode b_Mod_steps 219 = .ok (.iaload, 1) := by decide +kernel
theorem d_Mod_steps_220 : decode b_Mod_steps 220 = .ok (.iconst 1, 1) := by decide +kernel
theorem d_Mod_steps_221 : decode b_Mod_steps 221 = .ok (.iadd, 1) := by decide +kernel
theorem d_Mod_steps_222 : decode b_Mod_steps 222 = .ok (.invokestatic 53, 3) := by decide +kernel
theorem d_Mod_steps_225 : decode b_Mod_steps 225 = .ok (.istore 6, 2) := by decide +kernel
theorem d_Mod_steps_227 : decode b_Mod_steps 227 = .ok (.aload_n 0, 1) := by decide +kernel
theorem d_Mod_steps_228 : decode b_Mod_steps 228 = .ok (.getfield 36, 3) := by decide +kernel
theorem d_Mod_steps_231 : decode b_Mod_steps 231 = .ok (.iload 4, 2) := by decide +kernel
theorem d_Mod_steps_233 : decode b_Mod_steps 233 = .ok (.bipush 61, 2) := by decide +kernel
theorem d_Mod_steps_235 : decode b_Mod_steps 235 = .ok (.imul, 1) := by decide +kernel
theorem d_Mod_steps_236 : decode b_Mod_steps 236 = .ok (.iload 5, 2) := by decide +kernel
theorem d_Mod_steps_238 : decode b_Mod_steps 238 = .ok (.iadd, 1) := by decide +kernel
theorem d_Mod_steps_239 : decode b_Mod_steps 239 = .ok (.iload 6, 2) := by decide +kernel
theorem d_Mod_steps_241 : decode b_Mod_steps 241 = .ok (.iastore, 1) := by decide +kernel
theorem d_Mod_steps_242 : decode b_Mod_steps 242 = .ok (.iinc 5 1, 3) := by decide +kernel
theorem d_Mod_steps_245 : decode b_Mod_steps 245 = .ok (.goto (-226), 3) := by decide +kernel
theorem d_Mod_steps_248 : decode b_Mod_steps 248 = .ok (.iinc 4 1, 3) := by decide +kernel
theorem d_Mod_steps_251 : decode b_Mod_steps 251 = .ok (.goto (-241), 3) := by decide +kernel
theorem d_Mod_steps_254 : decode b_Mod_steps 254 = .ok (.aload_n 0, 1) := by decide +kernel
theorem d_Mod_steps_255 : decode b_Mod_steps 255 = .ok (.getfield 36, 3) := by decide +kernel
theorem d_Mod_steps_258 : decode b_Mod_steps 258 = .ok (.iload_n 3, 1) := by decide +kernel
theorem d_Mod_steps_259 : decode b_Mod_steps 259 = .ok (.bipush 61, 2) := by decide +kernel
theorem d_Mod_steps_261 : decode b_Mod_steps 261 = .ok (.imul, 1) := by decide +kernel
theorem d_Mod_steps_262 : decode b_Mod_steps 262 = .ok (.iload_n 2, 1) := by decide +kernel
theorem d_Mod_steps_263 : decode b_Mod_steps 263 = .ok (.iadd, 1) := by decide +kernel
theorem d_Mod_steps_264 : decode b_Mod_steps 264 = .ok (.iaload, 1) := by decide +kernel
theorem d_Mod_steps_265 : decode b_Mod_steps 265 = .ok (.ireturn, 1) := by decide +kernel
theorem d_Mod_fits_0 : decode b_Mod_fits 0 = .ok (.aload_n 0, 1) := by decide +kernel
theorem d_Mod_fits_1 : decode b_Mod_fits 1 = .ok (.getfield 39, 3) := by decide +kernel
theorem d_Mod_fits_4 : decode b_Mod_fits 4 = .ok (.iconst 0, 1) := by decide +kernel
theorem d_Mod_fits_5 : decode b_Mod_fits 5 = .ok (.iconst 1, 1) := by decide +kernel
theorem d_Mod_fits_6 : decode b_Mod_fits 6 = .ok (.bastore, 1) := by decide +kernel
theorem d_Mod_fits_7 : decode b_Mod_fits 7 = .ok (.iconst 1, 1) := by decide +kernel
theorem d_Mod_fits_8 : decode b_Mod_fits 8 = .ok (.istore_n 3, 1) := by decide +kernel
theorem d_Mod_fits_9 : decode b_Mod_fits 9 = .ok (.iload_n 3, 1) := by decide +kernel
theorem d_Mod_fits_10 : decode b_Mod_fits 10 = .ok (.iload_n 2, 1) := by decide +kernel
theorem d_Mod_fits_11 : decode b_Mod_fits 11 = .ok (.if_icmp .gt 44, 3) := by decide +kernel
theorem d_Mod_fits_14 : decode b_Mod_fits 14 = .ok (.aload_n 0, 1) := by decide +kernel
theorem d_Mod_fits_15 : decode b_Mod_fits 15 = .ok (.getfield 39, 3) := by decide +kernel
theorem d_Mod_fits_18 : decode b_Mod_fits 18 = .ok (.iload_n 3, 1) := by decide +kernel
theorem d_Mod_fits_19 : decode b_Mod_fits 19 = .ok (.aload_n 0, 1) := by decide +kernel
theorem d_Mod_fits_20 : decode b_Mod_fits 20 = .ok (.getfield 39, 3) := by decide +kernel
theorem d_Mod_fits_23 : decode b_Mod_fits 23 = .ok (.iload_n 3, 1) := by decide +kernel
theorem d_Mod_fits_24 : decode b_Mod_fits 24 = .ok (.iconst 1, 1) := by decide +kernel
theorem d_Mod_fits_25 : decode b_Mod_fits 25 = .ok (.isub, 1) := by decide +kernel
theorem d_Mod_fits_26 : decode b_Mod_fits 26 = .ok (.baload, 1) := by decide +kernel
theorem d_Mod_fits_27 : decode b_Mod_fits 27 = .ok (.ifCond .eq 20, 3) := by decide +kernel
theorem d_Mod_fits_30 : decode b_Mod_fits 30 = .ok (.aload_n 0, 1) := by decide +kernel
theorem d_Mod_fits_31 : decode b_Mod_fits 31 = .ok (.getfield 7, 3) := by decide +kernel
theorem d_Mod_fits_34 : decode b_Mod_fits 34 = .ok (.iload_n 3, 1) := by decide +kernel
theorem d_Mod_fits_35 : decode b_Mod_fits 35 = .ok (.iconst 1, 1) := by decide +kernel
theorem d_Mod_fits_36 : decode b_Mod_fits 36 = .ok (.isub, 1) := by decide +kernel
theorem d_Mod_fits_37 : decode b_Mod_fits 37 = .ok (.baload, 1) := by decide +kernel
theorem d_Mod_fits_38 : decode b_Mod_fits 38 = .ok (.bipush 42, 2) := by decide +kernel
theorem d_Mod_fits_40 : decode b_Mod_fits 40 = .ok (.if_icmp .ne 7, 3) := by decide +kernel
theorem d_Mod_fits_43 : decode b_Mod_fits 43 = .ok (.iconst 1, 1) := by decide +kernel
theorem d_Mod_fits_44 : decode b_Mod_fits 44 = .ok (.goto 4, 3) := by decide +kernel
theorem d_Mod_fits_47 : decode b_Mod_fits 47 = .ok (.iconst 0, 1) := by decide +kernel
theorem d_Mod_fits_48 : decode b_Mod_fits 48 = .ok (.bastore, 1) := by decide +kernel
theorem d_Mod_fits_49 : decode b_Mod_fits 49 = .ok (.iinc 3 1, 3) := by decide +kernel
theorem d_Mod_fits_52 : decode b_Mod_fits 52 = .ok (.goto (-43), 3) := by decide +kernel
theorem d_Mod_fits_55 : decode b_Mod_fits 55 = .ok (.iconst 0, 1) := by decide +kernel
theorem d_Mod_fits_56 : decode b_Mod_fits 56 = .ok (.istore_n 3, 1) := by decide +kernel
theorem d_Mod_fits_57 : decode b_Mod_fits 57 = .ok (.iload_n 3, 1) := by decide +kernel
theorem d_Mod_fits_58 : decode b_Mod_fits 58 = .ok (.aload_n 0, 1) := by decide +kernel
theorem d_Mod_fits_59 : decode b_Mod_fits 59 = .ok (.getfield 20, 3) := by decide +kernel
theorem d_Mod_fits_62 : decode b_Mod_fits 62 = .ok (.iload_n 1, 1) := by decide +kernel
theorem d_Mod_fits_63 : decode b_Mod_fits 63 = .ok (.iaload, 1) := by decide +kernel
theorem d_Mod_fits_64 : decode b_Mod_fits 64 = .ok (.if_icmp .ge 159, 3) := by decide +kernel
theorem d_Mod_fits_67 : decode b_Mod_fits 67 = .ok (.aload_n 0, 1) := by decide +kernel
theorem d_Mod_fits_68 : decode b_Mod_fits 68 = .ok (.getfield 14, 3) := by decide +kernel
theorem d_Mod_fits_71 : decode b_Mod_fits 71 = .ok (.iload_n 1, 1) := by decide +kernel
theorem d_Mod_fits_72 : decode b_Mod_fits 72 = .ok (.bipush 60, 2) := by decide +kernel
theorem d_Mod_fits_74 : decode b_Mod_fits 74 = .ok (.imul, 1) := by decide +kernel
theorem d_Mod_fits_75 : decode b_Mod_fits 75 = .ok (.iload_n 3, 1) := by decide +kernel
theorem d_Mod_fits_76 : decode b_Mod_fits 76 = .ok (.iadd, 1) := by decide +kernel
theorem d_Mod_fits_77 : decode b_Mod_fits 77 = .ok (.baload, 1) := by decide +kernel
theorem d_Mod_fits_78 : decode b_Mod_fits 78 = .ok (.istore 4, 2) := by decide +kernel
theorem d_Mod_fits_80 : decode b_Mod_fits 80 = .ok (.aload_n 0, 1) := by decide +kernel
theorem d_Mod_fits_81 : decode b_Mod_fits 81 = .ok (.getfield 43, 3) := by decide +kernel
theorem d_Mod_fits_84 : decode b_Mod_fits 84 = .ok (.iconst 0, 1) := by decide +kernel
theorem d_Mod_fits_85 : decode b_Mod_fits 85 = .ok (.iconst 0, 1) := by decide +kernel
theorem d_Mod_fits_86 : decode b_Mod_fits 86 = .ok (.bastore, 1) := by decide +kernel
theorem d_Mod_fits_87 : decode b_Mod_fits 87 = .ok (.iconst 1, 1) := by decide +kernel
theorem d_Mod_fits_88 : decode b_Mod_fits 88 = .ok (.istore 5, 2) := by decide +kernel
theorem d_Mod_fits_90 : decode b_Mod_fits 90 = .ok (.iload 5, 2) := by decide +kernel
theorem d_Mod_fits_92 : decode b_Mod_fits 92 = .ok (.iload_n 2, 1) := by decide +kernel
theorem d_Mod_fits_93 : decode b_Mod_fits 93 = .ok (.if_icmp .gt 95, 3) := by decide +kernel
theorem d_Mod_fits_96 : decode b_Mod_fits 96 = .ok (.aload_n 0, 1) := by decide +kernel
theorem d_Mod_fits_97 : decode b_Mod_fits 97 = .ok (.getfield 7, 3) := by decide +kernel
theorem d_Mod_fits_100 : decode b_Mod_fits 100 = .ok (.iload 5, 2) := by decide +kernel
theorem d_Mod_fits_102 : decode b_Mod_fits 102 = .ok (.iconst 1, 1) := by decide +kernel
theorem d_Mod_fits_103 : decode b_Mod_fits 103 = .ok (.isub, 1) := by decide +kernel
theorem d_Mod_fits_104 : decode b_Mod_fits 104 = .ok (.baload, 1) := by decide +kernel
theorem d_Mod_fits_105 : decode b_Mod_fits 105 = .ok (.istore 6, 2) := by decide +kernel
theorem d_Mod_fits_107 : decode b_Mod_fits 107 = .ok (.aload_n 0, 1) := by decide +kernel
theorem d_Mod_fits_108 : decode b_Mod_fits 108 = .ok (.getfield 43, 3) := by decide +kernel
theorem d_Mod_fits_111 : decode b_Mod_fits 111 = .ok (.iload 5, 2) := by decide +kernel
theorem d_Mod_fits_113 : decode b_Mod_fits 113 = .ok (.iload 6, 2) := by decide +kernel
theorem d_Mod_fits_115 : decode b_Mod_fits 115 = .ok (.bipush 42, 2) := by decide +kernel
theorem d_Mod_fits_117 : decode b_Mod_fits 117 = .ok (.if_icmp .ne 33, 3) := by decide +kernel
theorem d_Mod_fits_120 : decode b_Mod_fits 120 = .ok (.aload_n 0, 1) := by decide +kernel
theorem d_Mod_fits_121 : decode b_Mod_fits 121 = .ok (.getfield 43, 3) := by decide +kernel
theorem d_Mod_fits_124 : decode b_Mod_fits 124 = .ok (.iload 5, 2) := by decide +kernel
theorem d_Mod_fits_126 : decode b_Mod_fits 126 = .ok (.iconst 1, 1) := by decide +kernel
theorem d_Mod_fits_127 : decode b_Mod_fits 127 = .ok (.isub, 1) := by decide +kernel
theorem d_Mod_fits_128 : decode b_Mod_fits 128 = .ok (.baload, 1) := by decide +kernel
theorem d_Mod_fits_129 : decode b_Mod_fits 129 = .ok (.ifCond .ne 13, 3) := by decide +kernel
theorem d_Mod_fits_132 : decode b_Mod_fits 132 = .ok (.aload_n 0, 1) := by decide +kernel
theorem d_Mod_fits_133 : decode b_Mod_fits 133 = .ok (.getfield 39, 3) := by decide +kernel
theorem d_Mod_fits_136 : decode b_Mod_fits 136 = .ok (.iload 5, 2) := by decide +kernel
theorem d_Mod_fits_138 : decode b_Mod_fits 138 = .ok (.baload, 1) := by decide +kernel
theorem d_Mod_fits_139 : decode b_Mod_fits 139 = .ok (.ifCond .eq 7, 3) := by decide +kernel
theorem d_Mod_fits_142 : decode b_Mod_fits 142 = .ok (.iconst 1, 1) := by decide +kernel
theorem d_Mod_fits_143 : decode b_Mod_fits 143 = .ok (.goto 38, 3) := by decide +kernel
theorem d_Mod_fits_146 : decode b_Mod_fits 146 = .ok (.iconst 0, 1) := by decide +kernel
theorem d_Mod_fits_147 : decode b_Mod_fits 147 = .ok (.goto 34, 3) := by decide +kernel
theorem d_Mod_fits_150 : decode b_Mod_fits 150 = .ok (.aload_n 0, 1) := by decide +kernel
theorem d_Mod_fits_151 : decode b_Mod_fits 151 = .ok (.getfield 39, 3) := by decide +kernel
theorem d_Mod_fits_154 : decode b_Mod_fits 154 = .ok (.iload 5, 2) := by decide +kernel
theorem d_Mod_fits_156 : decode b_Mod_fits 156 = .ok (.iconst 1, 1) := by decide +kernel
theorem d_Mod_fits_157 : decode b_Mod_fits 157 = .ok (.isub, 1) := by decide +kernel
theorem d_Mod_fits_158 : decode b_Mod_fits 158 = .ok (.baload, 1) := by decide +kernel
theorem d_Mod_fits_159 : decode b_Mod_fits 159 = .ok (.ifCond .eq 21, 3) := by decide +kernel
theorem d_Mod_fits_162 : decode b_Mod_fits 162 = .ok (.iload 6, 2) := by decide +kernel
theorem d_Mod_fits_164 : decode b_Mod_fits 164 = .ok (.bipush 63, 2) := by decide +kernel
theorem d_Mod_fits_166 : decode b_Mod_fits 166 = .ok (.if_icmp .eq 10, 3) := by decide +kernel
theorem d_Mod_fits_169 : decode b_Mod_fits 169 = .ok (.iload 6, 2) := by decide +kernel
theorem d_Mod_fits_171 : decode b_Mod_fits 171 = .ok (.iload 4, 2) := by decide +kernel
theorem d_Mod_fits_173 : decode b_Mod_fits 173 = .ok (.if_icmp .ne 7, 3) := by decide +kernel
theorem d_Mod_fits_176 : decode b_Mod_fits 176 = .ok (.iconst 1, 1) := by decide +kernel
theorem d_Mod_fits_177 : decode b_Mod_fits 177 = .ok (.goto 4, 3) := by decide +kernel
theorem d_Mod_fits_180 : decode b_Mod_fits 180 = .ok (.iconst 0, 1) := by decide +kernel
theorem d_Mod_fits_181 : decode b_Mod_fits 181 = .ok (.bastore, 1) := by decide +kernel
theorem d_Mod_fits_182 : decode b_Mod_fits 182 = .ok (.iinc 5 1, 3) := by decide +kernel
theorem d_Mod_fits_185 : decode b_Mod_fits 185 = .ok (.goto (-95), 3) := by decide +kernel
theorem d_Mod_fits_188 : decode b_Mod_fits 188 = .ok (.iconst 0, 1) := by decide +kernel
theorem d_Mod_fits_189 : decode b_Mod_fits 189 = .ok (.istore 5, 2) := by decide +kernel
theorem d_Mod_fits_191 : decode b_Mod_fits 191 = .ok (.iload 5, 2) := by decide +kernel
theorem d_Mod_fits_193 : decode b_Mod_fits 193 = .ok (.iload_n 2, 1) := by decide +kernel
theorem d_Mod_fits_194 : decode b_Mod_fits 194 = .ok (.if_icmp .gt 23, 3) := by decide +kernel
theorem d_Mod_fits_197 : decode b_Mod_fits 197 = .ok (.aload_n 0, 1) := by decide +kernel
theorem d_Mod_fits_198 : decode b_Mod_fits 198 = .ok (.getfield 39, 3) := by decide +kernel
theorem d_Mod_fits_201 : decode b_Mod_fits 201 = .ok (.iload 5, 2) := by decide +kernel
theorem d_Mod_fits_203 : decode b_Mod_fits 203 = .ok (.aload_n 0, 1) := by decide +kernel
theorem d_Mod_fits_204 : decode b_Mod_fits 204 = .ok (.getfield 43, 3) := by decide +kernel
theorem d_Mod_fits_207 : decode b_Mod_fits 207 = .ok (.iload 5, 2) := by decide +kernel
theorem d_Mod_fits_209 : decode b_Mod_fits 209 = .ok (.baload, 1) := by decide +kernel
theorem d_Mod_fits_210 : decode b_Mod_fits 210 = .ok (.bastore, 1) := by decide +kernel
theorem d_Mod_fits_211 : decode b_Mod_fits 211 = .ok (.iinc 5 1, 3) := by decide +kernel
theorem d_Mod_fits_214 : decode b_Mod_fits 214 = .ok (.goto (-23), 3) := by decide +kernel
theorem d_Mod_fits_217 : decode b_Mod_fits 217 = .ok (.iinc 3 1, 3) := by decide +kernel
theorem d_Mod_fits_220 : decode b_Mod_fits 220 = .ok (.goto (-163), 3) := by decide +kernel
theorem d_Mod_fits_223 : decode b_Mod_fits 223 = .ok (.aload_n 0, 1) := by decide +kernel
theorem d_Mod_fits_224 : decode b_Mod_fits 224 = .ok (.getfield 39, 3) := by decide +kernel
theorem d_Mod_fits_227 : decode b_Mod_fits 227 = .ok (.iload_n 2, 1) := by decide +kernel
theorem d_Mod_fits_228 : decode b_Mod_fits 228 = .ok (.baload, 1) := by decide +kernel
theorem d_Mod_fits_229 : decode b_Mod_fits 229 = .ok (.ireturn, 1) := by decide +kernel
theorem d_Mod_add_0 : decode b_Mod_add 0 = .ok (.aload_n 0, 1) := by decide +kernel
theorem d_Mod_add_1 : decode b_Mod_add 1 = .ok (.invokevirtual 63, 3) := by decide +kernel
theorem d_Mod_add_4 : decode b_Mod_add 4 = .ok (.istore_n 1, 1) := by decide +kernel
theorem d_Mod_add_5 : decode b_Mod_add 5 = .ok (.aload_n 0, 1) := by decide +kernel
theorem d_Mod_add_6 : decode b_Mod_add 6 = .ok (.iload_n 1, 1) := by decide +kernel
theorem d_Mod_add_7 : decode b_Mod_add 7 = .ok (.ifCond .ne 7, 3) := by decide +kernel
theorem d_Mod_add_10 : decode b_Mod_add 10 = .ok (.iconst 1, 1) := by decide +kernel
theorem d_Mod_add_11 : decode b_Mod_add 11 = .ok (.goto 4, 3) := by decide +kernel
theorem d_Mod_add_14 : decode b_Mod_add 14 = .ok (.iconst 0, 1) := by decide +kernel
theorem d_Mod_add_15 : decode b_Mod_add 15 = .ok (.putfield 46, 3) := by decide +kernel
theorem d_Mod_add_18 : decode b_Mod_add 18 = .ok (.iload_n 1, 1) := by decide +kernel
theorem d_Mod_add_19 : decode b_Mod_add 19 = .ok (.ifCond .ne 5, 3) := by decide +kernel
theorem d_Mod_add_22 : decode b_Mod_add 22 = .ok (.iconst 0, 1) := by decide +kernel
theorem d_Mod_add_23 : decode b_Mod_add 23 = .ok (.ireturn, 1) := by decide +kernel
theorem d_Mod_add_24 : decode b_Mod_add 24 = .ok (.aload_n 0, 1) := by decide +kernel
theorem d_Mod_add_25 : decode b_Mod_add 25 = .ok (.iload_n 1, 1) := by decide +kernel
theorem d_Mod_add_26 : decode b_Mod_add 26 = .ok (.invokevirtual 67, 3) := by decide +kernel
theorem d_Mod_add_29 : decode b_Mod_add 29 = .ok (.istore_n 2, 1) := by decide +kernel
theorem d_Mod_add_30 : decode b_Mod_add 30 = .ok (.iload_n 2, 1) := by decide +kernel
theorem d_Mod_add_31 : decode b_Mod_add 31 = .ok (.aload_n 0, 1) := by decide +kernel
theorem d_Mod_add_32 : decode b_Mod_add 32 = .ok (.getfield 57, 3) := by decide +kernel
theorem d_Mod_add_35 : decode b_Mod_add 35 = .ok (.if_icmp .ge 17, 3) := by decide +kernel
theorem d_Mod_add_38 : decode b_Mod_add 38 = .ok (.aload_n 0, 1) := by decide +kernel
theorem d_Mod_add_39 : decode b_Mod_add 39 = .ok (.iload_n 2, 1) := by decide +kernel
theorem d_Mod_add_40 : decode b_Mod_add 40 = .ok (.iload_n 1, 1) := by decide +kernel
theorem d_Mod_add_41 : decode b_Mod_add 41 = .ok (.invokevirtual 60, 3) := by decide +kernel
theorem d_Mod_add_44 : decode b_Mod_add 44 = .ok (.ifCond .ne 8, 3) := by decide +kernel
theorem d_Mod_add_47 : decode b_Mod_add 47 = .ok (.aload_n 0, 1) := by decide +kernel
theorem d_Mod_add_48 : decode b_Mod_add 48 = .ok (.getfield 57, 3) := by decide +kernel
theorem d_Mod_add_51 : decode b_Mod_add 51 = .ok (.ireturn, 1) := by decide +kernel
theorem d_Mod_add_52 : decode b_Mod_add 52 = .ok (.aload_n 0, 1) := by decide +kernel
theorem d_Mod_add_53 : decode b_Mod_add 53 = .ok (.getfield 57, 3) := by decide +kernel
theorem d_Mod_add_56 : decode b_Mod_add 56 = .ok (.sipush 1000, 3) := by decide +kernel
theorem d_Mod_add_59 : decode b_Mod_add 59 = .ok (.if_icmp .eq 15, 3) := by decide +kernel
theorem d_Mod_add_62 : decode b_Mod_add 62 = .ok (.aload_n 0, 1) := by decide +kernel
theorem d_Mod_add_63 : decode b_Mod_add 63 = .ok (.getfield 71, 3) := by decide +kernel
theorem d_Mod_add_66 : decode b_Mod_add 66 = .ok (.iload_n 1, 1) := by decide +kernel
theorem d_Mod_add_67 : decode b_Mod_add 67 = .ok (.iadd, 1) := by decide +kernel
theorem d_Mod_add_68 : decode b_Mod_add 68 = .ok (.sipush 12000, 3) := by decide +kernel
theorem d_Mod_add_71 : decode b_Mod_add 71 = .ok (.if_icmp .le 10, 3) := by decide +kernel
theorem d_Mod_add_74 : decode b_Mod_add 74 = .ok (.aload_n 0, 1) := by decide +kernel
theorem d_Mod_add_75 : decode b_Mod_add 75 = .ok (.iconst 2, 1) := by decide +kernel
theorem d_Mod_add_76 : decode b_Mod_add 76 = .ok (.putfield 46, 3) := by decide +kernel
theorem d_Mod_add_79 : decode b_Mod_add 79 = .ok (.iconst 0, 1) := by decide +kernel
theorem d_Mod_add_80 : decode b_Mod_add 80 = .ok (.ireturn, 1) := by decide +kernel
theorem d_Mod_add_81 : decode b_Mod_add 81 = .ok (.aload_n 0, 1) := by decide +kernel
theorem d_Mod_add_82 : decode b_Mod_add 82 = .ok (.getfield 57, 3) := by decide +kernel
theorem d_Mod_add_85 : decode b_Mod_add 85 = .ok (.istore_n 3, 1) := by decide +kernel
theorem d_Mod_add_86 : decode b_Mod_add 86 = .ok (.iload_n 3, 1) := by decide +kernel
theorem d_Mod_add_87 : decode b_Mod_add 87 = .ok (.iload_n 2, 1) := by decide +kernel
theorem d_Mod_add_88 : decode b_Mod_add 88 = .ok (.if_icmp .le 25, 3) := by decide +kernel
theorem d_Mod_add_91 : decode b_Mod_add 91 = .ok (.aload_n 0, 1) := by decide +kernel
theorem d_Mod_add_92 : decode b_Mod_add 92 = .ok (.iload_n 3, 1) := by decide +kernel
theorem d_Mod_add_93 : decode b_Mod_add 93 = .ok (.iconst 1, 1) := by decide +kernel
theorem d_Mod_add_94 : decode b_Mod_add 94 = .ok (.isub, 1) := by decide +kernel
theorem d_Mod_add_95 : decode b_Mod_add 95 = .ok (.iload_n 3, 1) := by decide +kernel
theorem d_Mod_add_96 : decode b_Mod_add 96 = .ok (.aload_n 0, 1) := by decide +kernel
theorem d_Mod_add_97 : decode b_Mod_add 97 = .ok (.getfield 20, 3) := by decide +kernel
theorem d_Mod_add_100 : decode b_Mod_add 100 = .ok (.iload_n 3, 1) := by decide +kernel
theorem d_Mod_add_101 : decode b_Mod_add 101 = .ok (.iconst 1, 1) := by decide +kernel
theorem d_Mod_add_102 : decode b_Mod_add 102 = .ok (.isub, 1) := by decide +kernel
theorem d_Mod_add_103 : decode b_Mod_add 103 = .ok (.iaload, 1) := by decide +kernel
theorem d_Mod_add_104 : decode b_Mod_add 104 = .ok (.invokevirtual 74, 3) := by decide +kernel
theorem d_Mod_add_107 : decode b_Mod_add 107 = .ok (.iinc 3 (-1), 3) := by decide +kernel
theorem d_Mod_add_110 : decode b_Mod_add 110 = .ok (.goto (-24), 3) := by decide +kernel
theorem d_Mod_add_113 : decode b_Mod_add 113 = .ok (.iconst 0, 1) := by decide +kernel
theorem d_Mod_add_114 : decode b_Mod_add 114 = .ok (.istore_n 3, 1) := by decide +kernel
theorem d_Mod_add_115 : decode b_Mod_add 115 = .ok (.iload_n 3, 1) := by decide +kernel
theorem d_Mod_add_116 : decode b_Mod_add 116 = .ok (.iload_n 1, 1) := by decide +kernel
theorem d_Mod_add_117 : decode b_Mod_add 117 = .ok (.if_icmp .ge 26, 3) := by decide +kernel
theorem d_Mod_add_120 : decode b_Mod_add 120 = .ok (.aload_n 0, 1) := by decide +kernel
theorem d_Mod_add_121 : decode b_Mod_add 121 = .ok (.getfield 14, 3) := by decide +kernel
theorem d_Mod_add_124 : decode b_Mod_add 124 = .ok (.iload_n 2, 1) := by decide +kernel
theorem d_Mod_add_125 : decode b_Mod_add 125 = .ok (.bipush 60, 2) := by decide +kernel
theorem d_Mod_add_127 : decode b_Mod_add 127 = .ok (.imul, 1) := by decide +kernel
theorem d_Mod_add_128 : decode b_Mod_add 128 = .ok (.iload_n 3, 1) := by decide +kernel
theorem d_Mod_add_129 : decode b_Mod_add 129 = .ok (.iadd, 1) := by decide +kernel
theorem d_Mod_add_130 : decode b_Mod_add 130 = .ok (.aload_n 0, 1) := by decide +kernel
theorem d_Mod_add_131 : decode b_Mod_add 131 = .ok (.getfield 7, 3) := by decide +kernel
theorem d_Mod_add_134 : decode b_Mod_add 134 = .ok (.iload_n 3, 1) := by decide +kernel
theorem d_Mod_add_135 : decode b_Mod_add 135 = .ok (.baload, 1) := by decide +kernel
theorem d_Mod_add_136 : decode b_Mod_add 136 = .ok (.bastore, 1) := by decide +kernel
theorem d_Mod_add_137 : decode b_Mod_add 137 = .ok (.iinc 3 1, 3) := by decide +kernel
theorem d_Mod_add_140 : decode b_Mod_add 140 = .ok (.goto (-25), 3) := by decide +kernel
theorem d_Mod_add_143 : decode b_Mod_add 143 = .ok (.aload_n 0, 1) := by decide +kernel
theorem d_Mod_add_144 : decode b_Mod_add 144 = .ok (.getfield 20, 3) := by decide +kernel
theorem d_Mod_add_147 : decode b_Mod_add 147 = .ok (.iload_n 2, 1) := by decide +kernel
theorem d_Mod_add_148 : decode b_Mod_add 148 = .ok (.iload_n 1, 1) := by decide +kernel
theorem d_Mod_add_149 : decode b_Mod_add 149 = .ok (.iastore, 1) := by decide +kernel
theorem d_Mod_add_150 : decode b_Mod_add 150 = .ok (.aload_n 0, 1) := by decide +kernel
theorem d_Mod_add_151 : decode b_Mod_add 151 = .ok (.dup, 1) := by decide +kernel
theorem d_Mod_add_152 : decode b_Mod_add 152 = .ok (.getfield 57, 3) := by decide +kernel
theorem d_Mod_add_155 : decode b_Mod_add 155 = .ok (.iconst 1, 1) := by decide +kernel
theorem d_Mod_add_156 : decode b_Mod_add 156 = .ok (.iadd, 1) := by decide +kernel
theorem d_Mod_add_157 : decode b_Mod_add 157 = .ok (.putfield 57, 3) := by decide +kernel
theorem d_Mod_add_160 : decode b_Mod_add 160 = .ok (.aload_n 0, 1) := by decide +kernel
theorem d_Mod_add_161 : decode b_Mod_add 161 = .ok (.dup, 1) := by decide +kernel
theorem d_Mod_add_162 : decode b_Mod_add 162 = .ok (.getfield 71, 3) := by decide +kernel
theorem d_Mod_add_165 : decode b_Mod_add 165 = .ok (.iload_n 1, 1) := by decide +kernel
theorem d_Mod_add_166 : decode b_Mod_add 166 = .ok (.iadd, 1) := by decide +kernel
theorem d_Mod_add_167 : decode b_Mod_add 167 = .ok (.putfield 71, 3) := by decide +kernel
theorem d_Mod_add_170 : decode b_Mod_add 170 = .ok (.aload_n 0, 1) := by decide +kernel
theorem d_Mod_add_171 : decode b_Mod_add 171 = .ok (.getfield 57, 3) := by decide +kernel
theorem d_Mod_add_174 : decode b_Mod_add 174 = .ok (.ireturn, 1) := by decide +kernel
theorem d_Mod_remove_0 : decode b_Mod_remove 0 = .ok (.aload_n 0, 1) := by decide +kernel
theorem d_Mod_remove_1 : decode b_Mod_remove 1 = .ok (.invokevirtual 63, 3) := by decide +kernel
theorem d_Mod_remove_4 : decode b_Mod_remove 4 = .ok (.istore_n 1, 1) := by decide +kernel
theorem d_Mod_remove_5 : decode b_Mod_remove 5 = .ok (.aload_n 0, 1) := by decide +kernel
theorem d_Mod_remove_6 : decode b_Mod_remove 6 = .ok (.iload_n 1, 1) := by decide +kernel
theorem d_Mod_remove_7 : decode b_Mod_remove 7 = .ok (.ifCond .ne 7, 3) := by decide +kernel
theorem d_Mod_remove_10 : decode b_Mod_remove 10 = .ok (.iconst 1, 1) := by decide +kernel
theorem d_Mod_remove_11 : decode b_Mod_remove 11 = .ok (.goto 4, 3) := by decide +kernel
theorem d_Mod_remove_14 : decode b_Mod_remove 14 = .ok (.iconst 0, 1) := by decide +kernel
theorem d_Mod_remove_15 : decode b_Mod_remove 15 = .ok (.putfield 46, 3) := by decide +kernel
theorem d_Mod_remove_18 : decode b_Mod_remove 18 = .ok (.iload_n 1, 1) := by decide +kernel
theorem d_Mod_remove_19 : decode b_Mod_remove 19 = .ok (.ifCond .ne 5, 3) := by decide +kernel
theorem d_Mod_remove_22 : decode b_Mod_remove 22 = .ok (.iconst 0, 1) := by decide +kernel
theorem d_Mod_remove_23 : decode b_Mod_remove 23 = .ok (.ireturn, 1) := by decide +kernel
theorem d_Mod_remove_24 : decode b_Mod_remove 24 = .ok (.aload_n 0, 1) := by decide +kernel
theorem d_Mod_remove_25 : decode b_Mod_remove 25 = .ok (.iload_n 1, 1) := by decide +kernel
theorem d_Mod_remove_26 : decode b_Mod_remove 26 = .ok (.invokevirtual 67, 3) := by decide +kernel
theorem d_Mod_remove_29 : decode b_Mod_remove 29 = .ok (.istore_n 2, 1) := by decide +kernel
theorem d_Mod_remove_30 : decode b_Mod_remove 30 = .ok (.iload_n 2, 1) := by decide +kernel
theorem d_Mod_remove_31 : decode b_Mod_remove 31 = .ok (.aload_n 0, 1) := by decide +kernel
theorem d_Mod_remove_32 : decode b_Mod_remove 32 = .ok (.getfield 57, 3) := by decide +kernel
theorem d_Mod_remove_35 : decode b_Mod_remove 35 = .ok (.if_icmp .eq 12, 3) := by decide +kernel
theorem d_Mod_remove_38 : decode b_Mod_remove 38 = .ok (.aload_n 0, 1) := by decide +kernel
theorem d_Mod_remove_39 : decode b_Mod_remove 39 = .ok (.iload_n 2, 1) := by decide +kernel
theorem d_Mod_remove_40 : decode b_Mod_remove 40 = .ok (.iload_n 1, 1) := by decide +kernel
theorem d_Mod_remove_41 : decode b_Mod_remove 41 = .ok (.invokevirtual 60, 3) := by decide +kernel
theorem d_Mod_remove_44 : decode b_Mod_remove 44 = .ok (.ifCond .eq 8, 3) := by decide +kernel
theorem d_Mod_remove_47 : decode b_Mod_remove 47 = .ok (.aload_n 0, 1) := by decide +kernel
theorem d_Mod_remove_48 : decode b_Mod_remove 48 = .ok (.getfield 57, 3) := by decide +kernel
theorem d_Mod_remove_51 : decode b_Mod_remove 51 = .ok (.ireturn, 1) := by decide +kernel
theorem d_Mod_remove_52 : decode b_Mod_remove 52 = .ok (.iload_n 2, 1) := by decide +kernel
theorem d_Mod_remove_53 : decode b_Mod_remove 53 = .ok (.istore_n 3, 1) := by decide +kernel
theorem d_Mod_remove_54 : decode b_Mod_remove 54 = .ok (.iload_n 3, 1) := by decide +kernel
theorem d_Mod_remove_55 : decode b_Mod_remove 55 = .ok (.iconst 1, 1) := by decide +kernel
theorem d_Mod_remove_56 : decode b_Mod_remove 56 = .ok (.iadd, 1) := by decide +kernel
theorem d_Mod_remove_57 : decode b_Mod_remove 57 = .ok (.aload_n 0, 1) := by decide +kernel
theorem d_Mod_remove_58 : decode b_Mod_remove 58 = .ok (.getfield 57, 3) := by decide +kernel
theorem d_Mod_remove_61 : decode b_Mod_remove 61 = .ok (.if_icmp .ge 25, 3) := by decide +kernel
theorem d_Mod_remove_64 : decode b_Mod_remove 64 = .ok (.aload_n 0, 1) := by decide +kernel
theorem d_Mod_remove_65 : decode b_Mod_remove 65 = .ok (.iload_n 3, 1) := by decide +kernel
theorem d_Mod_remove_66 : decode b_Mod_remove 66 = .ok (.iconst 1, 1) := by decide +kernel
theorem d_Mod_remove_67 : decode b_Mod_remove 67 = .ok (.iadd, 1) := by decide +kernel
theorem d_Mod_remove_68 : decode b_Mod_remove 68 = .ok (.iload_n 3, 1) := by decide +kernel
theorem d_Mod_remove_69 : decode b_Mod_remove 69 = .ok (.aload_n 0, 1) := by decide +kernel
theorem d_Mod_remove_70 : decode b_Mod_remove 70 = .ok (.getfield 20, 3) := by decide +kernel
theorem d_Mod_remove_73 : decode b_Mod_remove 73 = .ok (.iload_n 3, 1) := by decide +kernel
theorem d_Mod_remove_74 : decode b_Mod_remove 74 = .ok (.iconst 1, 1) := by decide +kernel
theorem d_Mod_remove_75 : decode b_Mod_remove 75 = .ok (.iadd, 1) := by decide +kernel
theorem d_Mod_remove_76 : decode b_Mod_remove 76 = .ok (.iaload, 1) := by decide +kernel
theorem d_Mod_remove_77 : decode b_Mod_remove 77 = .ok (.invokevirtual 74, 3) := by decide +kernel
theorem d_Mod_remove_80 : decode b_Mod_remove 80 = .ok (.iinc 3 1, 3) := by decide +kernel
theorem d_Mod_remove_83 : decode b_Mod_remove 83 = .ok (.goto (-29), 3) := by decide +kernel
theorem d_Mod_remove_86 : decode b_Mod_remove 86 = .ok (.aload_n 0, 1) := by decide +kernel
theorem d_Mod_remove_87 : decode b_Mod_remove 87 = .ok (.dup, 1) := by decide +kernel
theorem d_Mod_remove_88 : decode b_Mod_remove 88 = .ok (.getfield 57, 3) := by decide +kernel
theorem d_Mod_remove_91 : decode b_Mod_remove 91 = .ok (.iconst 1, 1) := by decide +kernel
theorem d_Mod_remove_92 : decode b_Mod_remove 92 = .ok (.isub, 1) := by decide +kernel
theorem d_Mod_remove_93 : decode b_Mod_remove 93 = .ok (.putfield 57, 3) := by decide +kernel
theorem d_Mod_remove_96 : decode b_Mod_remove 96 = .ok (.aload_n 0, 1) := by decide +kernel
theorem d_Mod_remove_97 : decode b_Mod_remove 97 = .ok (.dup, 1) := by decide +kernel
theorem d_Mod_remove_98 : decode b_Mod_remove 98 = .ok (.getfield 71, 3) := by decide +kernel
theorem d_Mod_remove_101 : decode b_Mod_remove 101 = .ok (.iload_n 1, 1) := by decide +kernel
theorem d_Mod_remove_102 : decode b_Mod_remove 102 = .ok (.isub, 1) := by decide +kernel
theorem d_Mod_remove_103 : decode b_Mod_remove 103 = .ok (.putfield 71, 3) := by decide +kernel
theorem d_Mod_remove_106 : decode b_Mod_remove 106 = .ok (.aload_n 0, 1) := by decide +kernel
theorem d_Mod_remove_107 : decode b_Mod_remove 107 = .ok (.getfield 57, 3) := by decide +kernel
theorem d_Mod_remove_110 : decode b_Mod_remove 110 = .ok (.ireturn, 1) := by decide +kernel
theorem d_Mod_like_0 : decode b_Mod_like 0 = .ok (.aload_n 0, 1) := by decide +kernel
theorem d_Mod_like_1 : decode b_Mod_like 1 = .ok (.invokevirtual 63, 3) := by decide +kernel
theorem d_Mod_like_4 : decode b_Mod_like 4 = .ok (.istore_n 1, 1) := by decide +kernel
theorem d_Mod_like_5 : decode b_Mod_like 5 = .ok (.aload_n 0, 1) := by decide +kernel
theorem d_Mod_like_6 : decode b_Mod_like 6 = .ok (.iconst 0, 1) := by decide +kernel
theorem d_Mod_like_7 : decode b_Mod_like 7 = .ok (.putfield 46, 3) := by decide +kernel
theorem d_Mod_like_10 : decode b_Mod_like 10 = .ok (.iconst 0, 1) := by decide +kernel
theorem d_Mod_like_11 : decode b_Mod_like 11 = .ok (.istore_n 2, 1) := by decide +kernel
theorem d_Mod_like_12 : decode b_Mod_like 12 = .ok (.iconst 0, 1) := by decide +kernel
theorem d_Mod_like_13 : decode b_Mod_like 13 = .ok (.istore_n 3, 1) := by decide +kernel
theorem d_Mod_like_14 : decode b_Mod_like 14 = .ok (.iload_n 3, 1) := by decide +kernel
theorem d_Mod_like_15 : decode b_Mod_like 15 = .ok (.aload_n 0, 1) := by decide +kernel
theorem d_Mod_like_16 : decode b_Mod_like 16 = .ok (.getfield 57, 3) := by decide +kernel
theorem d_Mod_like_19 : decode b_Mod_like 19 = .ok (.if_icmp .ge 37, 3) := by decide +kernel
theorem d_Mod_like_22 : decode b_Mod_like 22 = .ok (.aload_n 0, 1) := by decide +kernel
theorem d_Mod_like_23 : decode b_Mod_like 23 = .ok (.iload_n 3, 1) := by decide +kernel
theorem d_Mod_like_24 : decode b_Mod_like 24 = .ok (.iload_n 1, 1) := by decide +kernel
theorem d_Mod_like_25 : decode b_Mod_like 25 = .ok (.invokevirtual 87, 3) := by decide +kernel
theorem d_Mod_like_28 : decode b_Mod_like 28 = .ok (.ifCond .ne 6, 3) := by decide +kernel
theorem d_Mod_like_31 : decode b_Mod_like 31 = .ok (.goto 19, 3) := by decide +kernel
theorem d_Mod_like_34 : decode b_Mod_like 34 = .ok (.iload_n 2, 1) := by decide +kernel
theorem d_Mod_like_35 : decode b_Mod_like 35 = .ok (.bipush 50, 2) := by decide +kernel
theorem d_Mod_like_37 : decode b_Mod_like 37 = .ok (.if_icmp .ge 10, 3) := by decide +kernel
theorem d_Mod_like_40 : decode b_Mod_like 40 = .ok (.aload_n 0, 1) := by decide +kernel
theorem d_Mod_like_41 : decode b_Mod_like 41 = .ok (.iload_n 2, 1) := by decide +kernel
theorem d_Mod_like_42 : decode b_Mod_like 42 = .ok (.iload_n 3, 1) := by decide +kernel
theorem d_Mod_like_43 : decode b_Mod_like 43 = .ok (.iconst 0, 1) := by decide +kernel
theorem d_Mod_like_44 : decode b_Mod_like 44 = .ok (.invokevirtual 84, 3) := by decide +kernel
theorem d_Mod_like_47 : decode b_Mod_like 47 = .ok (.iinc 2 1, 3) := by decide +kernel
theorem d_Mod_like_50 : decode b_Mod_like 50 = .ok (.iinc 3 1, 3) := by decide +kernel
theorem d_Mod_like_53 : decode b_Mod_like 53 = .ok (.goto (-39), 3) := by decide +kernel
theorem d_Mod_like_56 : decode b_Mod_like 56 = .ok (.aload_n 0, 1) := by decide +kernel
theorem d_Mod_like_57 : decode b_Mod_like 57 = .ok (.iload_n 2, 1) := by decide +kernel
theorem d_Mod_like_58 : decode b_Mod_like 58 = .ok (.bipush 50, 2) := by decide +kernel
theorem d_Mod_like_60 : decode b_Mod_like 60 = .ok (.invokestatic 53, 3) := by decide +kernel
theorem d_Mod_like_63 : decode b_Mod_like 63 = .ok (.putfield 81, 3) := by decide +kernel
theorem d_Mod_like_66 : decode b_Mod_like 66 = .ok (.iload_n 2, 1) := by decide +kernel
theorem d_Mod_like_67 : decode b_Mod_like 67 = .ok (.ireturn, 1) := by decide +kernel
theorem d_Mod_near_0 : decode b_Mod_near 0 = .ok (.aload_n 0, 1) := by decide +kernel
theorem d_Mod_near_1 : decode b_Mod_near 1 = .ok (.invokevirtual 63, 3) := by decide +kernel
theorem d_Mod_near_4 : decode b_Mod_near 4 = .ok (.istore_n 2, 1) := by decide +kernel
theorem d_Mod_near_5 : decode b_Mod_near 5 = .ok (.aload_n 0, 1) := by decide +kernel
theorem d_Mod_near_6 : decode b_Mod_near 6 = .ok (.iload_n 1, 1) := by decide +kernel
theorem d_Mod_near_7 : decode b_Mod_near 7 = .ok (.ifCond .lt 12, 3) := by decide +kernel
theorem d_Mod_near_10 : decode b_Mod_near 10 = .ok (.iload_n 1, 1) := by decide +kernel
theorem d_Mod_near_11 : decode b_Mod_near 11 = .ok (.iconst 3, 1) := by decide +kernel
theorem d_Mod_near_12 : decode b_Mod_near 12 = .ok (.if_icmp .gt 7, 3) := by decide +kernel
theorem d_Mod_near_15 : decode b_Mod_near 15 = .ok (.iload_n 2, 1) := by decide +kernel
theorem d_Mod_near_16 : decode b_Mod_near 16 = .ok (.ifCond .ne 7, 3) := by decide +kernel
theorem d_Mod_near_19 : decode b_Mod_near 19 = .ok (.iconst 1, 1) := by decide +kernel
theorem d_Mod_near_20 : decode b_Mod_near 20 = .ok (.goto 4, 3) := by decide +kernel
theorem d_Mod_near_23 : decode b_Mod_near 23 = .ok (.iconst 0, 1) := by decide +kernel
theorem d_Mod_near_24 : decode b_Mod_near 24 = .ok (.putfield 46, 3) := by decide +kernel
theorem d_Mod_near_27 : decode b_Mod_near 27 = .ok (.aload_n 0, 1) := by decide +kernel
theorem d_Mod_near_28 : decode b_Mod_near 28 = .ok (.getfield 46, 3) := by decide +kernel
theorem d_Mod_near_31 : decode b_Mod_near 31 = .ok (.ifCond .eq 5, 3) := by decide +kernel
theorem d_Mod_near_34 : decode b_Mod_near 34 = .ok (.iconst 0, 1) := by decide +kernel
theorem d_Mod_near_35 : decode b_Mod_near 35 = .ok (.ireturn, 1) := by decide +kernel
theorem d_Mod_near_36 : decode b_Mod_near 36 = .ok (.iconst 0, 1) := by decide +kernel
theorem d_Mod_near_37 : decode b_Mod_near 37 = .ok (.istore_n 3, 1) := by decide +kernel
theorem d_Mod_near_38 : decode b_Mod_near 38 = .ok (.iconst 0, 1) := by decide +kernel
theorem d_Mod_near_39 : decode b_Mod_near 39 = .ok (.istore 4, 2) := by decide +kernel
theorem d_Mod_near_41 : decode b_Mod_near 41 = .ok (.iload 4, 2) := by decide +kernel
theorem d_Mod_near_43 : decode b_Mod_near 43 = .ok (.iload_n 1, 1) := by decide +kernel
theorem d_Mod_near_44 : decode b_Mod_near 44 = .ok (.if_icmp .gt 90, 3) := by decide +kernel
theorem d_Mod_near_47 : decode b_Mod_near 47 = .ok (.iconst 0, 1) := by decide +kernel
theorem d_Mod_near_48 : decode b_Mod_near 48 = .ok (.istore 5, 2) := by decide +kernel
theorem d_Mod_near_50 : decode b_Mod_near 50 = .ok (.iload 5, 2) := by decide +kernel
theorem d_Mod_near_52 : decode b_Mod_near 52 = .ok (.aload_n 0, 1) := by decide +kernel
theorem d_Mod_near_53 : decode b_Mod_near 53 = .ok (.getfield 57, 3) := by decide +kernel
theorem d_Mod_near_56 : decode b_Mod_near 56 = .ok (.if_icmp .ge 72, 3) := by decide +kernel
theorem d_Mod_near_59 : decode b_Mod_near 59 = .ok (.iload_n 3, 1) := by decide +kernel
theorem d_Mod_near_60 : decode b_Mod_near 60 = .ok (.bipush 50, 2) := by decide +kernel
theorem d_Mod_near_62 : decode b_Mod_near 62 = .ok (.if_icmp .ge 66, 3) := by decide +kernel
theorem d_Mod_near_65 : decode b_Mod_near 65 = .ok (.aload_n 0, 1) := by decide +kernel
theorem d_Mod_near_66 : decode b_Mod_near 66 = .ok (.iload 5, 2) := by decide +kernel
theorem d_Mod_near_68 : decode b_Mod_near 68 = .ok (.iload_n 2, 1) := by decide +kernel
theorem d_Mod_near_69 : decode b_Mod_near 69 = .ok (.invokevirtual 78, 3) := by decide +kernel
theorem d_Mod_near_72 : decode b_Mod_near 72 = .ok (.iload 4, 2) := by decide +kernel
theorem d_Mod_near_74 : decode b_Mod_near 74 = .ok (.if_icmp .ne 48, 3) := by decide +kernel
theorem d_Mod_near_77 : decode b_Mod_near 77 = .ok (.iload 4, 2) := by decide +kernel
theorem d_Mod_near_79 : decode b_Mod_near 79 = .ok (.ifCond .le 24, 3) := by decide +kernel
theorem d_Mod_near_82 : decode b_Mod_near 82 = .ok (.iload 4, 2) := by decide +kernel
theorem d_Mod_near_84 : decode b_Mod_near 84 = .ok (.iload_n 2, 1) := by decide +kernel
theorem d_Mod_near_85 : decode b_Mod_near 85 = .ok (.if_icmp .ge 37, 3) := by decide +kernel
theorem d_Mod_near_88 : decode b_Mod_near 88 = .ok (.iload 4, 2) := by decide +kernel
theorem d_Mod_near_90 : decode b_Mod_near 90 = .ok (.aload_n 0, 1) := by decide +kernel
theorem d_Mod_near_91 : decode b_Mod_near 91 = .ok (.getfield 20, 3) := by decide +kernel
theorem d_Mod_near_94 : decode b_Mod_near 94 = .ok (.iload 5, 2) := by decide +kernel
theorem d_Mod_near_96 : decode b_Mod_near 96 = .ok (.iaload, 1) := by decide +kernel
theorem d_Mod_near_97 : decode b_Mod_near 97 = .ok (.if_icmp .lt 6, 3) := by decide +kernel
theorem d_Mod_near_100 : decode b_Mod_near 100 = .ok (.goto 22, 3) := by decide +kernel
theorem d_Mod_near_103 : decode b_Mod_near 103 = .ok (.aload_n 0, 1) := by decide +kernel
theorem d_Mod_near_104 : decode b_Mod_near 104 = .ok (.getfield 30, 3) := by decide +kernel
theorem d_Mod_near_107 : decode b_Mod_near 107 = .ok (.iload_n 3, 1) := by decide +kernel
theorem d_Mod_near_108 : decode b_Mod_near 108 = .ok (.iload 5, 2) := by decide +kernel
theorem d_Mod_near_110 : decode b_Mod_near 110 = .ok (.iastore, 1) := by decide +kernel
theorem d_Mod_near_111 : decode b_Mod_near 111 = .ok (.aload_n 0, 1) := by decide +kernel
theorem d_Mod_near_112 : decode b_Mod_near 112 = .ok (.getfield 33, 3) := by decide +kernel
theorem d_Mod_near_115 : decode b_Mod_near 115 = .ok (.iload_n 3, 1) := by decide +kernel
theorem d_Mod_near_116 : decode b_Mod_near 116 = .ok (.iload 4, 2) := by decide +kernel
theorem d_Mod_near_118 : decode b_Mod_near 118 = .ok (.iastore, 1) := by decide +kernel
theorem d_Mod_near_119 : decode b_Mod_near 119 = .ok (.iinc 3 1, 3) := by decide +kernel
theorem d_Mod_near_122 : decode b_Mod_near 122 = .ok (.iinc 5 1, 3) := by decide +kernel
theorem d_Mod_near_125 : decode b_Mod_near 125 = .ok (.goto (-75), 3) := by decide +kernel
theorem d_Mod_near_128 : decode b_Mod_near 128 = .ok (.iinc 4 1, 3) := by decide +kernel
theorem d_Mod_near_131 : decode b_Mod_near 131 = .ok (.goto (-90), 3) := by decide +kernel
theorem d_Mod_near_134 : decode b_Mod_near 134 = .ok (.aload_n 0, 1) := by decide +kernel
theorem d_Mod_near_135 : decode b_Mod_near 135 = .ok (.iconst 0, 1) := by decide +kernel
theorem d_Mod_near_136 : decode b_Mod_near 136 = .ok (.putfield 81, 3) := by decide +kernel
theorem d_Mod_near_139 : decode b_Mod_near 139 = .ok (.iconst 0, 1) := by decide +kernel
theorem d_Mod_near_140 : decode b_Mod_near 140 = .ok (.istore 4, 2) := by decide +kernel
theorem d_Mod_near_142 : decode b_Mod_near 142 = .ok (.iload 4, 2) := by decide +kernel
theorem d_Mod_near_144 : decode b_Mod_near 144 = .ok (.aload_n 0, 1) := by decide +kernel
theorem d_Mod_near_145 : decode b_Mod_near 145 = .ok (.getfield 57, 3) := by decide +kernel
theorem d_Mod_near_148 : decode b_Mod_near 148 = .ok (.if_icmp .ge 66, 3) := by decide +kernel
theorem d_Mod_near_151 : decode b_Mod_near 151 = .ok (.iconst 0, 1) := by decide +kernel
theorem d_Mod_near_152 : decode b_Mod_near 152 = .ok (.istore 5, 2) := by decide +kernel
theorem d_Mod_near_154 : decode b_Mod_near 154 = .ok (.iload 5, 2) := by decide +kernel
theorem d_Mod_near_156 : decode b_Mod_near 156 = .ok (.iload_n 3, 1) := by decide +kernel
theorem d_Mod_near_157 : decode b_Mod_near 157 = .ok (.if_icmp .ge 51, 3) := by decide +kernel
theorem d_Mod_near_160 : decode b_Mod_near 160 = .ok (.aload_n 0, 1) := by decide +kernel
theorem d_Mod_near_161 : decode b_Mod_near 161 = .ok (.getfield 30, 3) := by decide +kernel
theorem d_Mod_near_164 : decode b_Mod_near 164 = .ok (.iload 5, 2) := by decide +kernel
theorem d_Mod_near_166 : decode b_Mod_near 166 = .ok (.iaload, 1) := by decide +kernel
theorem d_Mod_near_167 : decode b_Mod_near 167 = .ok (.iload 4, 2) := by decide +kernel
theorem d_Mod_near_169 : decode b_Mod_near 169 = .ok (.if_icmp .eq 6, 3) := by decide +kernel
theorem d_Mod_near_172 : decode b_Mod_near 172 = .ok (.goto 30, 3) := by decide +kernel
theorem d_Mod_near_175 : decode b_Mod_near 175 = .ok (.aload_n 0, 1) := by decide +kernel
theorem d_Mod_near_176 : decode b_Mod_near 176 = .ok (.aload_n 0, 1) := by decide +kernel
theorem d_Mod_near_177 : decode b_Mod_near 177 = .ok (.getfield 81, 3) := by decide +kernel
theorem d_Mod_near_180 : decode b_Mod_near 180 = .ok (.iload 4, 2) := by decide +kernel
theorem d_Mod_near_182 : decode b_Mod_near 182 = .ok (.aload_n 0, 1) := by decide +kernel
theorem d_Mod_near_183 : decode b_Mod_near 183 = .ok (.getfield 33, 3) := by decide +kernel
theorem d_Mod_near_186 : decode b_Mod_near 186 = .ok (.iload 5, 2) := by decide +kernel
theorem d_Mod_near_188 : decode b_Mod_near 188 = .ok (.iaload, 1) := by decide +kernel
theorem d_Mod_near_189 : decode b_Mod_near 189 = .ok (.invokevirtual 84, 3) := by decide +kernel
theorem d_Mod_near_192 : decode b_Mod_near 192 = .ok (.aload_n 0, 1) := by decide +kernel
theorem d_Mod_near_193 : decode b_Mod_near 193 = .ok (.dup, 1) := by decide +kernel
theorem d_Mod_near_194 : decode b_Mod_near 194 = .ok (.getfield 81, 3) := by decide +kernel
theorem d_Mod_near_197 : decode b_Mod_near 197 = .ok (.iconst 1, 1) := by decide +kernel
theorem d_Mod_near_198 : decode b_Mod_near 198 = .ok (.iadd, 1) := by decide +kernel
theorem d_Mod_near_199 : decode b_Mod_near 199 = .ok (.putfield 81, 3) := by decide +kernel
theorem d_Mod_near_202 : decode b_Mod_near 202 = .ok (.iinc 5 1, 3) := by decide +kernel
theorem d_Mod_near_205 : decode b_Mod_near 205 = .ok (.goto (-51), 3) := by decide +kernel
theorem d_Mod_near_208 : decode b_Mod_near 208 = .ok (.iinc 4 1, 3) := by decide +kernel
theorem d_Mod_near_211 : decode b_Mod_near 211 = .ok (.goto (-69), 3) := by decide +kernel
theorem d_Mod_near_214 : decode b_Mod_near 214 = .ok (.aload_n 0, 1) := by decide +kernel
theorem d_Mod_near_215 : decode b_Mod_near 215 = .ok (.getfield 81, 3) := by decide +kernel
theorem d_Mod_near_218 : decode b_Mod_near 218 = .ok (.ireturn, 1) := by decide +kernel
theorem d_Mod_type_0 : decode b_Mod_type 0 = .ok (.iconst 0, 1) := by decide +kernel
theorem d_Mod_type_1 : decode b_Mod_type 1 = .ok (.istore 5, 2) := by decide +kernel
theorem d_Mod_type_3 : decode b_Mod_type 3 = .ok (.aload_n 0, 1) := by decide +kernel
theorem d_Mod_type_4 : decode b_Mod_type 4 = .ok (.iconst 0, 1) := by decide +kernel
theorem d_Mod_type_5 : decode b_Mod_type 5 = .ok (.putfield 46, 3) := by decide +kernel
theorem d_Mod_type_8 : decode b_Mod_type 8 = .ok (.iconst 0, 1) := by decide +kernel
theorem d_Mod_type_9 : decode b_Mod_type 9 = .ok (.istore 6, 2) := by decide +kernel
theorem d_Mod_type_11 : decode b_Mod_type 11 = .ok (.iload 6, 2) := by decide +kernel
theorem d_Mod_type_13 : decode b_Mod_type 13 = .ok (.bipush 16, 2) := by decide +kernel
theorem d_Mod_type_15 : decode b_Mod_type 15 = .ok (.if_icmp .ge 72, 3) := by decide +kernel
theorem d_Mod_type_18 : decode b_Mod_type 18 = .ok (.iload 6, 2) := by decide +kernel
theorem d_Mod_type_20 : decode b_Mod_type 20 = .ok (.bipush 8, 2) := by decide +kernel
theorem d_Mod_type_22 : decode b_Mod_type 22 = .ok (.if_icmp .ge 7, 3) := by decide +kernel
theorem d_Mod_type_25 : decode b_Mod_type 25 = .ok (.lload_n 1, 1) := by decide +kernel
theorem d_Mod_type_26 : decode b_Mod_type 26 = .ok (.goto 4, 3) := by decide +kernel
theorem d_Mod_type_29 : decode b_Mod_type 29 = .ok (.lload_n 3, 1) := by decide +kernel
theorem d_Mod_type_30 : decode b_Mod_type 30 = .ok (.bipush 56, 2) := by decide +kernel
theorem d_Mod_type_32 : decode b_Mod_type 32 = .ok (.iload 6, 2) := by decide +kernel
theorem d_Mod_type_34 : decode b_Mod_type 34 = .ok (.bipush 8, 2) := by decide +kernel
theorem d_Mod_type_36 : decode b_Mod_type 36 = .ok (.irem, 1) := by decide +kernel
theorem d_Mod_type_37 : decode b_Mod_type 37 = .ok (.bipush 8, 2) := by decide +kernel
theorem d_Mod_type_39 : decode b_Mod_type 39 = .ok (.imul, 1) := by decide +kernel
theorem d_Mod_type_40 : decode b_Mod_type 40 = .ok (.isub, 1) := by decide +kernel
theorem d_Mod_type_41 : decode b_Mod_type 41 = .ok (.lushr, 1) := by decide +kernel
theorem d_Mod_type_42 : decode b_Mod_type 42 = .ok (.l2i, 1) := by decide +kernel
theorem d_Mod_type_43 : decode b_Mod_type 43 = .ok (.sipush 255, 3) := by decide +kernel
theorem d_Mod_type_46 : decode b_Mod_type 46 = .ok (.iand, 1) := by decide +kernel
theorem d_Mod_type_47 : decode b_Mod_type 47 = .ok (.istore 7, 2) := by decide +kernel
theorem d_Mod_type_49 : decode b_Mod_type 49 = .ok (.iload 7, 2) := by decide +kernel
theorem d_Mod_type_51 : decode b_Mod_type 51 = .ok (.ifCond .eq 22, 3) := by decide +kernel
theorem d_Mod_type_54 : decode b_Mod_type 54 = .ok (.iload 7, 2) := by decide +kernel
theorem d_Mod_type_56 : decode b_Mod_type 56 = .ok (.bipush 33, 2) := by decide +kernel
theorem d_Mod_type_58 : decode b_Mod_type 58 = .ok (.if_icmp .lt 10, 3) := by decide +kernel
theorem d_Mod_type_61 : decode b_Mod_type 61 = .ok (.iload 7, 2) := by decide +kernel
theorem d_Mod_type_63 : decode b_Mod_type 63 = .ok (.bipush 126, 2) := by decide +kernel
theorem d_Mod_type_65 : decode b_Mod_type 65 = .ok (.if_icmp .le 8, 3) := by decide +kernel
theorem d_Mod_type_68 : decode b_Mod_type 68 = .ok (.aload_n 0, 1) := by decide +kernel
theorem d_Mod_type_69 : decode b_Mod_type 69 = .ok (.iconst 1, 1) := by decide +kernel
theorem d_Mod_type_70 : decode b_Mod_type 70 = .ok (.putfield 46, 3) := by decide +kernel
theorem d_Mod_type_73 : decode b_Mod_type 73 = .ok (.iload 7, 2) := by decide +kernel
theorem d_Mod_type_75 : decode b_Mod_type 75 = .ok (.ifCond .eq 6, 3) := by decide +kernel
theorem d_Mod_type_78 : decode b_Mod_type 78 = .ok (.iinc 5 1, 3) := by decide +kernel
theorem d_Mod_type_81 : decode b_Mod_type 81 = .ok (.iinc 6 1, 3) := by decide +kernel
theorem d_Mod_type_84 : decode b_Mod_type 84 = .ok (.goto (-73), 3) := by decide +kernel
theorem d_Mod_type_87 : decode b_Mod_type 87 = .ok (.aload_n 0, 1) := by decide +kernel
theorem d_Mod_type_88 : decode b_Mod_type 88 = .ok (.getfield 46, 3) := by decide +kernel
theorem d_Mod_type_91 : decode b_Mod_type 91 = .ok (.ifCond .ne 20, 3) := by decide +kernel
theorem d_Mod_type_94 : decode b_Mod_type 94 = .ok (.aload_n 0, 1) := by decide +kernel
theorem d_Mod_type_95 : decode b_Mod_type 95 = .ok (.getfield 50, 3) := by decide +kernel
theorem d_Mod_type_98 : decode b_Mod_type 98 = .ok (.iload 5, 2) := by decide +kernel
theorem d_Mod_type_100 : decode b_Mod_type 100 = .ok (.iadd, 1) := by decide +kernel
theorem d_Mod_type_101 : decode b_Mod_type 101 = .ok (.bipush 60, 2) := by decide +kernel
theorem d_Mod_type_103 : decode b_Mod_type 103 = .ok (.if_icmp .le 8, 3) := by decide +kernel
theorem d_Mod_type_106 : decode b_Mod_type 106 = .ok (.aload_n 0, 1) := by decide +kernel
theorem d_Mod_type_107 : decode b_Mod_type 107 = .ok (.iconst 2, 1) := by decide +kernel
theorem d_Mod_type_108 : decode b_Mod_type 108 = .ok (.putfield 46, 3) := by decide +kernel
theorem d_Mod_type_111 : decode b_Mod_type 111 = .ok (.aload_n 0, 1) := by decide +kernel
theorem d_Mod_type_112 : decode b_Mod_type 112 = .ok (.getfield 46, 3) := by decide +kernel
theorem d_Mod_type_115 : decode b_Mod_type 115 = .ok (.ifCond .eq 5, 3) := by decide +kernel
theorem d_Mod_type_118 : decode b_Mod_type 118 = .ok (.iconst 0, 1) := by decide +kernel
theorem d_Mod_type_119 : decode b_Mod_type 119 = .ok (.ireturn, 1) := by decide +kernel
theorem d_Mod_type_120 : decode b_Mod_type 120 = .ok (.iconst 0, 1) := by decide +kernel
theorem d_Mod_type_121 : decode b_Mod_type 121 = .ok (.istore 6, 2) := by decide +kernel
theorem d_Mod_type_123 : decode b_Mod_type 123 = .ok (.iload 6, 2) := by decide +kernel
theorem d_Mod_type_125 : decode b_Mod_type 125 = .ok (.bipush 16, 2) := by decide +kernel
theorem d_Mod_type_127 : decode b_Mod_type 127 = .ok (.if_icmp .ge 70, 3) := by decide +kernel
theorem d_Mod_type_130 : decode b_Mod_type 130 = .ok (.iload 6, 2) := by decide +kernel
theorem d_Mod_type_132 : decode b_Mod_type 132 = .ok (.bipush 8, 2) := by decide +kernel
theorem d_Mod_type_134 : decode b_Mod_type 134 = .ok (.if_icmp .ge 7, 3) := by decide +kernel
theorem d_Mod_type_137 : decode b_Mod_type 137 = .ok (.lload_n 1, 1) := by decide +kernel
theorem d_Mod_type_138 : decode b_Mod_type 138 = .ok (.goto 4, 3) := by decide +kernel
theorem d_Mod_type_141 : decode b_Mod_type 141 = .ok (.lload_n 3, 1) := by decide +kernel
theorem d_Mod_type_142 : decode b_Mod_type 142 = .ok (.bipush 56, 2) := by decide +kernel
theorem d_Mod_type_144 : decode b_Mod_type 144 = .ok (.iload 6, 2) := by decide +kernel
theorem d_Mod_type_146 : decode b_Mod_type 146 = .ok (.bipush 8, 2) := by decide +kernel
theorem d_Mod_type_148 : decode b_Mod_type 148 = .ok (.irem, 1) := by decide +kernel
theorem d_Mod_type_149 : decode b_Mod_type 149 = .ok (.bipush 8, 2) := by decide +kernel
theorem d_Mod_type_151 : decode b_Mod_type 151 = .ok (.imul, 1) := by decide +kernel
theorem d_Mod_type_152 : decode b_Mod_type 152 = .ok (.isub, 1) := by decide +kernel
theorem d_Mod_type_153 : decode b_Mod_type 153 = .ok (.lushr, 1) := by decide +kernel
theorem d_Mod_type_154 : decode b_Mod_type 154 = .ok (.l2i, 1) := by decide +kernel
theorem d_Mod_type_155 : decode b_Mod_type 155 = .ok (.sipush 255, 3) := by decide +kernel
theorem d_Mod_type_158 : decode b_Mod_type 158 = .ok (.iand, 1) := by decide +kernel
theorem d_Mod_type_159 : decode b_Mod_type 159 = .ok (.istore 7, 2) := by decide +kernel
theorem d_Mod_type_161 : decode b_Mod_type 161 = .ok (.iload 7, 2) := by decide +kernel
theorem d_Mod_type_163 : decode b_Mod_type 163 = .ok (.ifCond .ne 6, 3) := by decide +kernel
theorem d_Mod_type_166 : decode b_Mod_type 166 = .ok (.goto 25, 3) := by decide +kernel
theorem d_Mod_type_169 : decode b_Mod_type 169 = .ok (.aload_n 0, 1) := by decide +kernel
theorem d_Mod_type_170 : decode b_Mod_type 170 = .ok (.getfield 7, 3) := by decide +kernel
theorem d_Mod_type_173 : decode b_Mod_type 173 = .ok (.aload_n 0, 1) := by decide +kernel
theorem d_Mod_type_174 : decode b_Mod_type 174 = .ok (.getfield 50, 3) := by decide +kernel
theorem d_Mod_type_177 : decode b_Mod_type 177 = .ok (.iload 7, 2) := by decide +kernel
theorem d_Mod_type_179 : decode b_Mod_type 179 = .ok (.i2b, 1) := by decide +kernel
theorem d_Mod_type_180 : decode b_Mod_type 180 = .ok (.bastore, 1) := by decide +kernel
theorem d_Mod_type_181 : decode b_Mod_type 181 = .ok (.aload_n 0, 1) := by decide +kernel
theorem d_Mod_type_182 : decode b_Mod_type 182 = .ok (.dup, 1) := by decide +kernel
theorem d_Mod_type_183 : decode b_Mod_type 183 = .ok (.getfield 50, 3) := by decide +kernel
theorem d_Mod_type_186 : decode b_Mod_type 186 = .ok (.iconst 1, 1) := by decide +kernel
theorem d_Mod_type_187 : decode b_Mod_type 187 = .ok (.iadd, 1) := by decide +kernel
theorem d_Mod_type_188 : decode b_Mod_type 188 = .ok (.putfield 50, 3) := by decide +kernel
theorem d_Mod_type_191 : decode b_Mod_type 191 = .ok (.iinc 6 1, 3) := by decide +kernel
theorem d_Mod_type_194 : decode b_Mod_type 194 = .ok (.goto (-71), 3) := by decide +kernel
theorem d_Mod_type_197 : decode b_Mod_type 197 = .ok (.aload_n 0, 1) := by decide +kernel
theorem d_Mod_type_198 : decode b_Mod_type 198 = .ok (.getfield 50, 3) := by decide +kernel
theorem d_Mod_type_201 : decode b_Mod_type 201 = .ok (.ireturn, 1) := by decide +kernel
theorem d_Mod_init_0 : decode b_Mod_init 0 = .ok (.aload_n 0, 1) := by decide +kernel
theorem d_Mod_init_1 : decode b_Mod_init 1 = .ok (.invokespecial 1, 3) := by decide +kernel
theorem d_Mod_init_4 : decode b_Mod_init 4 = .ok (.aload_n 0, 1) := by decide +kernel
theorem d_Mod_init_5 : decode b_Mod_init 5 = .ok (.bipush 60, 2) := by decide +kernel
theorem d_Mod_init_7 : decode b_Mod_init 7 = .ok (.newarray .byte, 2) := by decide +kernel
theorem d_Mod_init_9 : decode b_Mod_init 9 = .ok (.putfield 7, 3) := by decide +kernel
theorem d_Mod_init_12 : decode b_Mod_init 12 = .ok (.aload_n 0, 1) := by decide +kernel
theorem d_Mod_init_13 : decode b_Mod_init 13 = .ok (.ldc 13, 2) := by decide +kernel
theorem d_Mod_init_15 : decode b_Mod_init 15 = .ok (.newarray .byte, 2) := by decide +kernel
theorem d_Mod_init_17 : decode b_Mod_init 17 = .ok (.putfield 14, 3) := by decide +kernel
theorem d_Mod_init_20 : decode b_Mod_init 20 = .ok (.aload_n 0, 1) := by decide +kernel
theorem d_Mod_init_21 : decode b_Mod_init 21 = .ok (.sipush 3000, 3) := by decide +kernel
theorem d_Mod_init_24 : decode b_Mod_init 24 = .ok (.newarray .byte, 2) := by decide +kernel
theorem d_Mod_init_26 : decode b_Mod_init 26 = .ok (.putfield 17, 3) := by decide +kernel
theorem d_Mod_init_29 : decode b_Mod_init 29 = .ok (.aload_n 0, 1) := by decide +kernel
theorem d_Mod_init_30 : decode b_Mod_init 30 = .ok (.sipush 1000, 3) := by decide +kernel
theorem d_Mod_init_33 : decode b_Mod_init 33 = .ok (.newarray .int, 2) := by decide +kernel
theorem d_Mod_init_35 : decode b_Mod_init 35 = .ok (.putfield 20, 3) := by decide +kernel
theorem d_Mod_init_38 : decode b_Mod_init 38 = .ok (.aload_n 0, 1) := by decide +kernel
theorem d_Mod_init_39 : decode b_Mod_init 39 = .ok (.bipush 50, 2) := by decide +kernel
theorem d_Mod_init_41 : decode b_Mod_init 41 = .ok (.newarray .int, 2) := by decide +kernel
theorem d_Mod_init_43 : decode b_Mod_init 43 = .ok (.putfield 24, 3) := by decide +kernel
theorem d_Mod_init_46 : decode b_Mod_init 46 = .ok (.aload_n 0, 1) := by decide +kernel
theorem d_Mod_init_47 : decode b_Mod_init 47 = .ok (.bipush 50, 2) := by decide +kernel
theorem d_Mod_init_49 : decode b_Mod_init 49 = .ok (.newarray .int, 2) := by decide +kernel
theorem d_Mod_init_51 : decode b_Mod_init 51 = .ok (.putfield 27, 3) := by decide +kernel
theorem d_Mod_init_54 : decode b_Mod_init 54 = .ok (.aload_n 0, 1) := by decide +kernel
theorem d_Mod_init_55 : decode b_Mod_init 55 = .ok (.bipush 50, 2) := by decide +kernel
theorem d_Mod_init_57 : decode b_Mod_init 57 = .ok (.newarray .int, 2) := by decide +kernel
theorem d_Mod_init_59 : decode b_Mod_init 59 = .ok (.putfield 30, 3) := by decide +kernel
theorem d_Mod_init_62 : decode b_Mod_init 62 = .ok (.aload_n 0, 1) := by decide +kernel
theorem d_Mod_init_63 : decode b_Mod_init 63 = .ok (.bipush 50, 2) := by decide +kernel
theorem d_Mod_init_65 : decode b_Mod_init 65 = .ok (.newarray .int, 2) := by decide +kernel
theorem d_Mod_init_67 : decode b_Mod_init 67 = .ok (.putfield 33, 3) := by decide +kernel
theorem d_Mod_init_70 : decode b_Mod_init 70 = .ok (.aload_n 0, 1) := by decide +kernel
theorem d_Mod_init_71 : decode b_Mod_init 71 = .ok (.sipush 3721, 3) := by decide +kernel
theorem d_Mod_init_74 : decode b_Mod_init 74 = .ok (.newarray .int, 2) := by decide +kernel
theorem d_Mod_init_76 : decode b_Mod_init 76 = .ok (.putfield 36, 3) := by decide +kernel
theorem d_Mod_init_79 : decode b_Mod_init 79 = .ok (.aload_n 0, 1) := by decide +kernel
theorem d_Mod_init_80 : decode b_Mod_init 80 = .ok (.bipush 61, 2) := by decide +kernel
theorem d_Mod_init_82 : decode b_Mod_init 82 = .ok (.newarray .boolean, 2) := by decide +kernel
theorem d_Mod_init_84 : decode b_Mod_init 84 = .ok (.putfield 39, 3) := by decide +kernel
theorem d_Mod_init_87 : decode b_Mod_init 87 = .ok (.aload_n 0, 1) := by decide +kernel
theorem d_Mod_init_88 : decode b_Mod_init 88 = .ok (.bipush 61, 2) := by decide +kernel
theorem d_Mod_init_90 : decode b_Mod_init 90 = .ok (.newarray .boolean, 2) := by decide +kernel
theorem d_Mod_init_92 : decode b_Mod_init 92 = .ok (.putfield 43, 3) := by decide +kernel
theorem d_Mod_init_95 : decode b_Mod_init 95 = .ok (.return_, 1) := by decide +kernel
end
section
/-- the words of the tables that the methods need -/
def nw_tbl : List Cond := [.fieldLink R_Row 15 "NearWords$Row" "length" "I",
  .fieldLink R_Row 9 "NearWords$Row" "characters" "[B",
  .methodLink R_Row 19 arraycopyName,
  .native arraycopyName,
  .static arraycopyName,
  .initialized "java/lang/System",
  .fieldLink R_WL 19 "NearWords$WordList" "size" "I",
  .fieldLink R_WL 15 "NearWords$WordList" "starts" "[I",
  .fieldLink R_WL 9 "NearWords$WordList" "characters" "[B",
  .methodLink R_WL 23 y_WL_lengthOf,
  .instanceMethod y_WL_lengthOf,
  .selects R_WL y_WL_lengthOf y_WL_lengthOf,
  .initialized R_WL,
  .code y_WL_lengthOf b_WL_lengthOf 2 (some .int),
  .methodLink R_WL 27 Lib.Math.max.name,
  .static Lib.Math.max.name,
  .initialized "java/lang/Math",
  .code Lib.Math.max.name Lib.Math.max.code 2 (some .int),
  .methodLink R_WL 40 y_Row_length,
  .instanceMethod y_Row_length,
  .selects R_Row y_Row_length y_Row_length,
  .initialized R_Row,
  .code y_Row_length b_Row_length 1 (some .int),
  .methodLink R_WL 55 Lib.Math.min.name,
  .static Lib.Math.min.name,
  .code Lib.Math.min.name Lib.Math.min.code 2 (some .int),
  .methodLink R_WL 58 y_WL_at,
  .instanceMethod y_WL_at,
  .selects R_WL y_WL_at y_WL_at,
  .code y_WL_at b_WL_at 3 (some .int),
  .methodLink R_WL 61 y_Row_at,
  .instanceMethod y_Row_at,
  .selects R_Row y_Row_at y_Row_at,
  .code y_Row_at b_Row_at 2 (some .int),
  .methodLink R_WL 33 y_WL_compare,
  .instanceMethod y_WL_compare,
  .selects R_WL y_WL_compare y_WL_compare,
  .code y_WL_compare b_WL_compare 6 (some .int),
  .methodLink R_WL 37 y_WL_characters,
  .instanceMethod y_WL_characters,
  .selects R_WL y_WL_characters y_WL_characters,
  .code y_WL_characters b_WL_characters 1 (some .int),
  .methodLink R_WL 45 arraycopyName,
  .methodLink R_WL 51 y_Row_copyTo,
  .instanceMethod y_Row_copyTo,
  .selects R_Row y_Row_copyTo y_Row_copyTo,
  .code y_Row_copyTo b_Row_copyTo 3 none,
  .methodLink R_Row 3 objectInit,
  .instanceMethod objectInit,
  .code objectInit ⟨#[0xb1]⟩ 1 none,
  .arrayClass .byte,
  .methodLink R_WL 3 objectInit,
  .arrayClass .int,
  .methodLink R_Pat 3 objectInit,
  .arrayClass .long,
  .fieldLink R_Pat 9 "NearWords$Pattern" "placesOf" "[J",
  .fieldLink R_Pat 15 "NearWords$Pattern" "anyRow" "J",
  .fieldLink R_Pat 19 "NearWords$Pattern" "anyOne" "J",
  .fieldLink R_Pat 22 "NearWords$Pattern" "length" "I",
  .methodLink R_Near 3 objectInit,
  .fieldLink R_Near 9 "NearWords$Nearest" "steps" "[B",
  .fieldLink R_Near 15 "NearWords$Nearest" "withSteps" "[I",
  .fieldLink R_Mod 46 "NearWordsModel" "thrown" "I",
  .fieldLink R_Mod 50 "NearWordsModel" "inputSize" "I",
  .fieldLink R_Mod 20 "NearWordsModel" "length" "[I",
  .methodLink R_Mod 53 y_Mod_least,
  .static y_Mod_least,
  .initialized R_Mod,
  .code y_Mod_least b_Mod_least 2 (some .int),
  .fieldLink R_Mod 14 "NearWordsModel" "word" "[B",
  .fieldLink R_Mod 7 "NearWordsModel" "input" "[B",
  .fieldLink R_Mod 57 "NearWordsModel" "words" "I",
  .methodLink R_Mod 60 y_Mod_order,
  .instanceMethod y_Mod_order,
  .selects R_Mod y_Mod_order y_Mod_order,
  .code y_Mod_order b_Mod_order 5 (some .int),
  .methodLink R_Mod 63 y_Mod_take,
  .instanceMethod y_Mod_take,
  .selects R_Mod y_Mod_take y_Mod_take,
  .code y_Mod_take b_Mod_take 2 (some .int),
  .methodLink R_Mod 67 y_Mod_standing,
  .instanceMethod y_Mod_standing,
  .selects R_Mod y_Mod_standing y_Mod_standing,
  .code y_Mod_standing b_Mod_standing 4 (some .int),
  .fieldLink R_Mod 71 "NearWordsModel" "characters" "I",
  .fieldLink R_Mod 81 "NearWordsModel" "results" "I",
  .fieldLink R_Mod 24 "NearWordsModel" "resultLength" "[I",
  .fieldLink R_Mod 17 "NearWordsModel" "result" "[B",
  .fieldLink R_Mod 27 "NearWordsModel" "resultDistance" "[I",
  .fieldLink R_Mod 36 "NearWordsModel" "step" "[I",
  .fieldLink R_Mod 39 "NearWordsModel" "now" "[Z",
  .fieldLink R_Mod 43 "NearWordsModel" "next" "[Z",
  .methodLink R_Mod 74 y_Mod_shift,
  .instanceMethod y_Mod_shift,
  .selects R_Mod y_Mod_shift y_Mod_shift,
  .code y_Mod_shift b_Mod_shift 5 none,
  .methodLink R_Mod 87 y_Mod_fits,
  .instanceMethod y_Mod_fits,
  .selects R_Mod y_Mod_fits y_Mod_fits,
  .code y_Mod_fits b_Mod_fits 7 (some .boolean),
  .methodLink R_Mod 84 y_Mod_keep,
  .instanceMethod y_Mod_keep,
  .selects R_Mod y_Mod_keep y_Mod_keep,
  .code y_Mod_keep b_Mod_keep 5 none,
  .methodLink R_Mod 78 y_Mod_steps,
  .instanceMethod y_Mod_steps,
  .selects R_Mod y_Mod_steps y_Mod_steps,
  .code y_Mod_steps b_Mod_steps 9 (some .int),
  .fieldLink R_Mod 30 "NearWordsModel" "chosen" "[I",
  .fieldLink R_Mod 33 "NearWordsModel" "far" "[I",
  .methodLink R_Mod 1 objectInit,
  .constant R_Mod 13 60000,
  .arrayClass .boolean,
  .lays R_NW "NearWords" "input" "LNearWords$Row;",
  .lays R_NW "NearWords" "taken" "LNearWords$Row;",
  .laysFinal R_NW "NearWords" "words" "LNearWords$WordList;",
  .laysFinal R_NW "NearWords" "result" "LNearWords$Result;",
  .laysFinal R_NW "NearWords" "pattern" "LNearWords$Pattern;",
  .laysFinal R_NW "NearWords" "meter" "LNearWords$Meter;",
  .laysFinal R_NW "NearWords" "nearest" "LNearWords$Nearest;",
  .laysFinal R_Mod "NearWordsModel" "input" "[B",
  .laysFinal R_Mod "NearWordsModel" "word" "[B",
  .laysFinal R_Mod "NearWordsModel" "result" "[B",
  .laysFinal R_Mod "NearWordsModel" "length" "[I",
  .laysFinal R_Mod "NearWordsModel" "resultLength" "[I",
  .laysFinal R_Mod "NearWordsModel" "resultDistance" "[I",
  .laysFinal R_Mod "NearWordsModel" "chosen" "[I",
  .laysFinal R_Mod "NearWordsModel" "far" "[I",
  .laysFinal R_Mod "NearWordsModel" "step" "[I",
  .laysFinal R_Mod "NearWordsModel" "now" "[Z",
  .laysFinal R_Mod "NearWordsModel" "next" "[Z",
  .lays R_Mod "NearWordsModel" "inputSize" "I",
  .lays R_Mod "NearWordsModel" "words" "I",
  .lays R_Mod "NearWordsModel" "characters" "I",
  .lays R_Mod "NearWordsModel" "results" "I",
  .lays R_Mod "NearWordsModel" "thrown" "I",
  .laysFinal R_Met "NearWords$Meter" "placesOf" "[J",
  .laysFinal R_Met "NearWords$Meter" "reach" "[[J",
  .lays R_Met "NearWords$Meter" "aimLength" "I",
  .laysFinal R_Near "NearWords$Nearest" "steps" "[B",
  .laysFinal R_Near "NearWords$Nearest" "withSteps" "[I",
  .laysFinal R_Pat "NearWords$Pattern" "placesOf" "[J",
  .lays R_Pat "NearWords$Pattern" "anyRow" "J",
  .lays R_Pat "NearWords$Pattern" "anyOne" "J",
  .lays R_Pat "NearWords$Pattern" "length" "I",
  .laysFinal R_Res "NearWords$Result" "characters" "[[B",
  .laysFinal R_Res "NearWords$Result" "lengths" "[I",
  .laysFinal R_Res "NearWords$Result" "steps" "[I",
  .lays R_Res "NearWords$Result" "size" "I",
  .laysFinal R_Row "NearWords$Row" "characters" "[B",
  .lays R_Row "NearWords$Row" "length" "I",
  .laysFinal R_WL "NearWords$WordList" "characters" "[B",
  .laysFinal R_WL "NearWords$WordList" "starts" "[I",
  .lays R_WL "NearWords$WordList" "size" "I"]
theorem nw_m {w : Cond} (k : Nat) (h : nw_tbl[k]? = some w) : w ∈ nw_tbl := List.mem_of_getElem? h
theorem nw_mc {x w : Cond} (k : Nat) (h : nw_tbl[k]? = some w) : w ∈ x :: nw_tbl := List.mem_cons_of_mem _ (List.mem_of_getElem? h)
theorem nw_tbl_good : nw_tbl.all goodWord = true := by decide +kernel
theorem nw_good {w : Cond} (h : w ∈ nw_tbl) : (w.onTables && w.keeps) = true ∨ ∃ ty, w = .arrayClass ty := good_of_word (List.all_eq_true.mp nw_tbl_good w h)
theorem nw_GI {x y : Cond} (h : y ∈ nw_tbl) : GoodIn (x :: nw_tbl) (y :: nw_tbl) := fun w hw => by
  rcases List.mem_cons.mp hw with e | e
  · rw [e]; exact ⟨List.mem_cons_of_mem _ h, nw_good h⟩
  · exact ⟨List.mem_cons_of_mem _ e, nw_good e⟩
theorem nw_GV {x : Cond} {own C : String} {idx : Nat} {y : MethodName} {yc : Cond} (h1 : Cond.methodLink own idx y ∈ nw_tbl) (h2 : Cond.instanceMethod y ∈ nw_tbl) (h3 : Cond.selects C y y ∈ nw_tbl) (h4 : Cond.initialized C ∈ nw_tbl) (h : yc ∈ nw_tbl) : GoodIn (x :: nw_tbl) (wsV own idx C y (yc :: nw_tbl)) := fun w hw => by
  rcases List.mem_append.mp hw with e | e
  · have h9 : w ∈ nw_tbl := by
      simp only [List.mem_cons, List.not_mem_nil, or_false] at e
      rcases e with e | e | e | e <;> rw [e] <;> assumption
    exact ⟨List.mem_cons_of_mem _ h9, nw_good h9⟩
  · exact nw_GI h w e
theorem nw_GS {x : Cond} {own : String} {idx : Nat} {y : MethodName} {yc : Cond} (h1 : Cond.methodLink own idx y ∈ nw_tbl) (h2 : Cond.static y ∈ nw_tbl) (h4 : Cond.initialized own ∈ nw_tbl) (h : yc ∈ nw_tbl) : GoodIn (x :: nw_tbl) (wsS own idx y (yc :: nw_tbl)) := fun w hw => by
  rcases List.mem_append.mp hw with e | e
  · have h9 : w ∈ nw_tbl := by
      simp only [List.mem_cons, List.not_mem_nil, or_false] at e
      rcases e with e | e | e <;> rw [e] <;> assumption
    exact ⟨List.mem_cons_of_mem _ h9, nw_good h9⟩
  · exact nw_GI h w e
theorem nw_GT {x : Cond} {own : String} {idx : Nat} {y : MethodName} {yc : Cond} (h1 : Cond.methodLink own idx y ∈ nw_tbl) (h2 : Cond.static y ∈ nw_tbl) (h4 : Cond.initialized y.cls ∈ nw_tbl) (h : yc ∈ nw_tbl) : GoodIn (x :: nw_tbl) (va_wsS own idx y (yc :: nw_tbl)) := fun w hw => by
  rcases List.mem_append.mp hw with e | e
  · have h9 : w ∈ nw_tbl := by
      simp only [List.mem_cons, List.not_mem_nil, or_false] at e
      rcases e with e | e | e <;> rw [e] <;> assumption
    exact ⟨List.mem_cons_of_mem _ h9, nw_good h9⟩
  · exact nw_GI h w e
theorem hin_NW0 : ∀ w ∈ u_ws R_NW F_NW 7, w ∈ nw_tbl := by decide +kernel
theorem hin_NW {x : Cond} : ∀ w ∈ u_ws R_NW F_NW 7, w ∈ x :: nw_tbl := fun w h => List.mem_cons_of_mem _ (hin_NW0 w h)
theorem hin_Mod0 : ∀ w ∈ u_ws R_Mod F_Mod 16, w ∈ nw_tbl := by decide +kernel
theorem hin_Mod {x : Cond} : ∀ w ∈ u_ws R_Mod F_Mod 16, w ∈ x :: nw_tbl := fun w h => List.mem_cons_of_mem _ (hin_Mod0 w h)
theorem hin_Met0 : ∀ w ∈ u_ws R_Met F_Met 3, w ∈ nw_tbl := by decide +kernel
theorem hin_Met {x : Cond} : ∀ w ∈ u_ws R_Met F_Met 3, w ∈ x :: nw_tbl := fun w h => List.mem_cons_of_mem _ (hin_Met0 w h)
theorem hin_Near0 : ∀ w ∈ u_ws R_Near F_Near 2, w ∈ nw_tbl := by decide +kernel
theorem hin_Near {x : Cond} : ∀ w ∈ u_ws R_Near F_Near 2, w ∈ x :: nw_tbl := fun w h => List.mem_cons_of_mem _ (hin_Near0 w h)
theorem hin_Pat0 : ∀ w ∈ u_ws R_Pat F_Pat 4, w ∈ nw_tbl := by decide +kernel
theorem hin_Pat {x : Cond} : ∀ w ∈ u_ws R_Pat F_Pat 4, w ∈ x :: nw_tbl := fun w h => List.mem_cons_of_mem _ (hin_Pat0 w h)
theorem hin_Res0 : ∀ w ∈ u_ws R_Res F_Res 4, w ∈ nw_tbl := by decide +kernel
theorem hin_Res {x : Cond} : ∀ w ∈ u_ws R_Res F_Res 4, w ∈ x :: nw_tbl := fun w h => List.mem_cons_of_mem _ (hin_Res0 w h)
theorem hin_Row0 : ∀ w ∈ u_ws R_Row F_Row 2, w ∈ nw_tbl := by decide +kernel
theorem hin_Row {x : Cond} : ∀ w ∈ u_ws R_Row F_Row 2, w ∈ x :: nw_tbl := fun w h => List.mem_cons_of_mem _ (hin_Row0 w h)
theorem hin_WL0 : ∀ w ∈ u_ws R_WL F_WL 3, w ∈ nw_tbl := by decide +kernel
theorem hin_WL {x : Cond} : ∀ w ∈ u_ws R_WL F_WL 3, w ∈ x :: nw_tbl := fun w h => List.mem_cons_of_mem _ (hin_WL0 w h)
abbrev w_Row_length : List Cond := .code y_Row_length b_Row_length 1 (some .int) :: nw_tbl
abbrev w_Row_isEmpty : List Cond := .code y_Row_isEmpty b_Row_isEmpty 1 (some .boolean) :: nw_tbl
abbrev w_Row_at : List Cond := .code y_Row_at b_Row_at 2 (some .int) :: nw_tbl
abbrev w_Row_clear : List Cond := .code y_Row_clear b_Row_clear 1 none :: nw_tbl
abbrev w_Row_append : List Cond := .code y_Row_append b_Row_append 2 none :: nw_tbl
abbrev w_Row_copyTo : List Cond := .code y_Row_copyTo b_Row_copyTo 3 none :: nw_tbl
abbrev w_WL_size : List Cond := .code y_WL_size b_WL_size 1 (some .int) :: nw_tbl
abbrev w_WL_characters : List Cond := .code y_WL_characters b_WL_characters 1 (some .int) :: nw_tbl
abbrev w_WL_lengthOf : List Cond := .code y_WL_lengthOf b_WL_lengthOf 2 (some .int) :: nw_tbl
abbrev w_WL_at : List Cond := .code y_WL_at b_WL_at 3 (some .int) :: nw_tbl
abbrev w_WL_longest : List Cond := .code y_WL_longest b_WL_longest 3 (some .int) :: nw_tbl
abbrev w_WL_compare : List Cond := .code y_WL_compare b_WL_compare 6 (some .int) :: nw_tbl
abbrev w_WL_placeOf : List Cond := .code y_WL_placeOf b_WL_placeOf 4 (some .int) :: nw_tbl
abbrev w_WL_isAt : List Cond := .code y_WL_isAt b_WL_isAt 3 (some .boolean) :: nw_tbl
abbrev w_WL_hasRoomFor : List Cond := .code y_WL_hasRoomFor b_WL_hasRoomFor 2 (some .boolean) :: nw_tbl
abbrev w_WL_insertAt : List Cond := .code y_WL_insertAt b_WL_insertAt 6 none :: nw_tbl
abbrev w_WL_deleteAt : List Cond := .code y_WL_deleteAt b_WL_deleteAt 5 none :: nw_tbl
abbrev w_Arr_fillJ : List Cond := .code y_Arr_fillJ b_Arr_fillJ 5 none :: nw_tbl
abbrev w_Arr_fillI : List Cond := .code y_Arr_fillI b_Arr_fillI 4 none :: nw_tbl
abbrev w_Row_init : List Cond := .code y_Row_init b_Row_init 1 none :: nw_tbl
abbrev w_WL_init : List Cond := .code y_WL_init b_WL_init 1 none :: nw_tbl
abbrev w_Pat_init : List Cond := .code y_Pat_init b_Pat_init 1 none :: nw_tbl
abbrev w_Near_init : List Cond := .code y_Near_init b_Near_init 1 none :: nw_tbl
abbrev w_Mod_thrown : List Cond := .code y_Mod_thrown b_Mod_thrown 1 (some .int) :: nw_tbl
abbrev w_Mod_least : List Cond := .code y_Mod_least b_Mod_least 2 (some .int) :: nw_tbl
abbrev w_Mod_take : List Cond := .code y_Mod_take b_Mod_take 2 (some .int) :: nw_tbl
abbrev w_Mod_order : List Cond := .code y_Mod_order b_Mod_order 5 (some .int) :: nw_tbl
abbrev w_Mod_standing : List Cond := .code y_Mod_standing b_Mod_standing 4 (some .int) :: nw_tbl
abbrev w_Mod_before : List Cond := .code y_Mod_before b_Mod_before 1 (some .int) :: nw_tbl
abbrev w_Mod_count : List Cond := .code y_Mod_count b_Mod_count 4 (some .int) :: nw_tbl
abbrev w_Mod_letter : List Cond := .code y_Mod_letter b_Mod_letter 3 (some .int) :: nw_tbl
abbrev w_Mod_distance : List Cond := .code y_Mod_distance b_Mod_distance 2 (some .int) :: nw_tbl
abbrev w_Mod_shift : List Cond := .code y_Mod_shift b_Mod_shift 5 none :: nw_tbl
abbrev w_Mod_keep : List Cond := .code y_Mod_keep b_Mod_keep 5 none :: nw_tbl
abbrev w_Mod_steps : List Cond := .code y_Mod_steps b_Mod_steps 9 (some .int) :: nw_tbl
abbrev w_Mod_fits : List Cond := .code y_Mod_fits b_Mod_fits 7 (some .boolean) :: nw_tbl
abbrev w_Mod_add : List Cond := .code y_Mod_add b_Mod_add 4 (some .int) :: nw_tbl
abbrev w_Mod_remove : List Cond := .code y_Mod_remove b_Mod_remove 4 (some .int) :: nw_tbl
abbrev w_Mod_like : List Cond := .code y_Mod_like b_Mod_like 4 (some .int) :: nw_tbl
abbrev w_Mod_near : List Cond := .code y_Mod_near b_Mod_near 6 (some .int) :: nw_tbl
abbrev w_Mod_type : List Cond := .code y_Mod_type b_Mod_type 8 (some .int) :: nw_tbl
abbrev w_Mod_init : List Cond := .code y_Mod_init b_Mod_init 1 none :: nw_tbl
end
section
set_option maxHeartbeats 4000000 in
set_option maxRecDepth 100000 in
theorem c_Row_length (l : Launch) (dC : Nat → ClassId) (dI : Nat → Nat → Nat) (h a n : Nat) : Met l y_Row_length w_Row_length ({ frames := 0, cells := 0, slots := 0, locals := 0 }) (nw_Pr [.ref h] (dC, dI) nw_cls [] [(h, .inr (6, [.ref a, .int (nI n)]))]) (vp_Si (fun r => r = nI n)) 0 0 (fun _ => False) := by
  refine Met.ofW (cc := b_Row_length) (maxL := 1) (ret := (some .int)) (by decide) rfl ?_
  intro p e s m args below meth cd s₁ B hml hv0
  obtain ⟨rfl, hP, hK⟩ := hv0
  have hx := B.exec
  have hb := B.bytes
  have hr := B.returns
  have hts := atoms_spec (ws := w_Row_length) B.pre
  have hown : s.vm.findClass R_Row = some m.cls := findClass_of_methodNamed B.named
  have hlocks := B.notSynchronized
  have hl := lv_entry ([.ref h]) (n := 1) (Nat.le_of_ble_eq_true rfl)
  rw [lg_entry_eq]
  generalize (lg_sl ([.ref h]) ++ List.replicate (1 - (lg_sl ([.ref h])).length) Slot.unset).toArray = ls at hl ⊢
  have hl : lv_has ls 1 [(0, .ref h)] := hl
  refine lv_aload_n hx hb d_Row_length_0 rfl (lv_at hl 0 rfl) ?_
  refine va_get (D := (dC, dI)) (ci := 6) (v := .int (nI n)) (C := R_Row) (T := F_Row) (N := 2) hx hb hts hin_Row hown hK hP 0 rfl rfl 1 (by decide) (hts _ (nw_mc 0 rfl)) (fun _ h9 => h9) rfl d_Row_length_1 ?_
  exact W.iret (v := nI n) hx hb hr (fun t ht hW => ⟨_, rfl, rfl, ht⟩) (fun q hq => by cases hq) d_Row_length_4

set_option maxHeartbeats 4000000 in
set_option maxRecDepth 100000 in
theorem c_Row_isEmpty (l : Launch) (dC : Nat → ClassId) (dI : Nat → Nat → Nat) (h a n : Nat) (hn : n ≤ 60) : Met l y_Row_isEmpty w_Row_isEmpty ({ frames := 0, cells := 0, slots := 0, locals := 0 }) (nw_Pr [.ref h] (dC, dI) nw_cls [] [(h, .inr (6, [.ref a, .int (nI n)]))]) (vp_Si (fun r => r = nI (if n = 0 then 1 else 0))) 0 0 (fun _ => False) := by
  refine Met.ofW (cc := b_Row_isEmpty) (maxL := 1) (ret := (some .boolean)) (by decide) rfl ?_
  intro p e s m args below meth cd s₁ B hml hv0
  obtain ⟨rfl, hP, hK⟩ := hv0
  have hx := B.exec
  have hb := B.bytes
  have hr := B.returns
  have hts := atoms_spec (ws := w_Row_isEmpty) B.pre
  have hown : s.vm.findClass R_Row = some m.cls := findClass_of_methodNamed B.named
  have hlocks := B.notSynchronized
  have hl := lv_entry ([.ref h]) (n := 1) (Nat.le_of_ble_eq_true rfl)
  rw [lg_entry_eq]
  generalize (lg_sl ([.ref h]) ++ List.replicate (1 - (lg_sl ([.ref h])).length) Slot.unset).toArray = ls at hl ⊢
  have hl : lv_has ls 1 [(0, .ref h)] := hl
  refine lv_aload_n hx hb d_Row_isEmpty_0 rfl (lv_at hl 0 rfl) ?_
  refine va_get (D := (dC, dI)) (ci := 6) (v := .int (nI n)) (C := R_Row) (T := F_Row) (N := 2) hx hb hts hin_Row hown hK hP 0 rfl rfl 1 (by decide) (hts _ (nw_mc 0 rfl)) (fun _ h9 => h9) rfl d_Row_isEmpty_1 ?_
  refine lv_if_ne hx hb d_Row_isEmpty_4 (tgt := 11) (by decide) (fun hc => ?_) (fun hc => ?_)
  · rw [nw_eq0 (by omega)] at hc
    refine lv_iconst (v := nI 0) hx hb d_Row_isEmpty_11 (by decide) ?_
    exact W.zret (v := nI 0) hx hb hr rfl (fun t ht hW => ⟨_, rfl, by rw [if_neg hc], ht⟩) (fun q hq => by cases hq) d_Row_isEmpty_12
  · rw [nw_eq0 (by omega)] at hc
    refine lv_iconst (v := nI 1) hx hb d_Row_isEmpty_7 (by decide) ?_
    refine lv_goto hx hb d_Row_isEmpty_8 (tgt := 12) (by decide) ?_
    exact W.zret (v := nI 1) hx hb hr rfl (fun t ht hW => ⟨_, rfl, by rw [if_pos hc], ht⟩) (fun q hq => by cases hq) d_Row_isEmpty_12

set_option maxHeartbeats 4000000 in
set_option maxRecDepth 100000 in
theorem c_Row_at (l : Launch) (dC : Nat → ClassId) (dI : Nat → Nat → Nat) (cB : ClassId) (h a n : Nat) (c : Nat → Nat) (k : Nat) (hk : k < 60) : Met l y_Row_at w_Row_at ({ frames := 0, cells := 0, slots := 0, locals := 0 }) (nw_Pr [.ref h, .int (nI k)] (dC, dI) nw_cls [(cB, .byte)] [(h, .inr (6, [.ref a, .int (nI n)])), (a, nw_ai cB 60 c)]) (vp_Si (fun r => r = nI (c k))) 0 0 (fun _ => False) := by
  refine Met.ofW (cc := b_Row_at) (maxL := 2) (ret := (some .int)) (by decide) rfl ?_
  intro p e s m args below meth cd s₁ B hml hv0
  obtain ⟨rfl, hP, hK⟩ := hv0
  have hx := B.exec
  have hb := B.bytes
  have hr := B.returns
  have hts := atoms_spec (ws := w_Row_at) B.pre
  have hown : s.vm.findClass R_Row = some m.cls := findClass_of_methodNamed B.named
  have hlocks := B.notSynchronized
  have hl := lv_entry ([.ref h, .int (nI k)]) (n := 2) (Nat.le_of_ble_eq_true rfl)
  rw [lg_entry_eq]
  generalize (lg_sl ([.ref h, .int (nI k)]) ++ List.replicate (2 - (lg_sl ([.ref h, .int (nI k)])).length) Slot.unset).toArray = ls at hl ⊢
  have hl : lv_has ls 2 [(0, .ref h), (1, .int (nI k))] := hl
  refine lv_aload_n hx hb d_Row_at_0 rfl (lv_at hl 0 rfl) ?_
  refine va_get (D := (dC, dI)) (ci := 6) (v := .ref a) (C := R_Row) (T := F_Row) (N := 2) hx hb hts hin_Row hown hK hP 0 rfl rfl 0 (by decide) (hts _ (nw_mc 1 rfl)) (fun _ h9 => h9) rfl d_Row_at_1 ?_
  refine lv_iload_n hx hb d_Row_at_4 rfl (lv_at hl 1 rfl) ?_
  refine nw_bald hx hb hK hP 1 0 rfl rfl (k := k) (by omega) (by first | decide | omega) d_Row_at_5 ?_
  exact W.iret (v := nI (c k)) hx hb hr (fun t ht hW => ⟨_, rfl, rfl, ht⟩) (fun q hq => by cases hq) d_Row_at_6

set_option maxHeartbeats 4000000 in
set_option maxRecDepth 100000 in
theorem c_Row_clear (l : Launch) (dC : Nat → ClassId) (dI : Nat → Nat → Nat) (sz : Nat) (h a n : Nat) : Met l y_Row_clear w_Row_clear ({ frames := 0, cells := 0, slots := 0, locals := 0 }) (nw_Pw [.ref h] (dC, dI) nw_cls [] [(h, .inr (6, [.ref a, .int (nI n)]))] sz) (va_Qv (fun _ : Unit => True) (nw_B (dC, dI) nw_cls (va_A [(h, .inr (6, [.ref a, .int (nI n)]))] sz) (fun _ : Unit => [(h, .inr (6, [.ref a, .int (nI 0)]))])) (va_A [(h, .inr (6, [.ref a, .int (nI n)]))] sz)) 0 0 (va_A [(h, .inr (6, [.ref a, .int (nI n)]))] sz) := by
  refine Met.ofW (cc := b_Row_clear) (maxL := 1) (ret := none) (by decide) rfl ?_
  intro p e s m args below meth cd s₁ B hml hv0
  obtain ⟨rfl, hsz, hP, hK, hD0⟩ := hv0
  have hx := B.exec
  have hb := B.bytes
  have hr := B.returns
  have hts := atoms_spec (ws := w_Row_clear) B.pre
  have hown : s.vm.findClass R_Row = some m.cls := findClass_of_methodNamed B.named
  have hlocks := B.notSynchronized
  subst hsz
  have hD := hD0.self (sz := s.heap.size)
  generalize hAe : va_A [(h, .inr (6, [.ref a, .int (nI n)]))] s.heap.size = A at hD ⊢
  have hA : ∀ q : Nat, s.heap.size ≤ q → A q := fun q h => by rw [← hAe]; exact Or.inr h
  have hS : va_S A s.heap s.heap [] := va_S.rf
  have hl := lv_entry ([.ref h]) (n := 1) (Nat.le_of_ble_eq_true rfl)
  rw [lg_entry_eq]
  generalize (lg_sl ([.ref h]) ++ List.replicate (1 - (lg_sl ([.ref h])).length) Slot.unset).toArray = ls at hl ⊢
  have hl : lv_has ls 1 [(0, .ref h)] := hl
  refine lv_aload_n hx hb d_Row_clear_0 rfl (lv_at hl 0 rfl) ?_
  refine lv_iconst (v := nI 0) hx hb d_Row_clear_1 (by decide) ?_
  refine va_put (D := (dC, dI)) (ci := 6) (v := .int (nI 0)) (ty := .int) (C := R_Row) (T := F_Row) (N := 2) hx hb hts hin_Row t_Row t_Row_ok n_Row hown hK hP hD hS 0 rfl rfl 1 (by decide) (hts _ (nw_mc 0 rfl)) (fun _ h9 => h9) rfl (by decide +kernel) rfl rfl (Nat.le_of_ble_eq_true rfl) d_Row_clear_2 (fun H locs hP hD hS => ?_)
  replace hP : va_P (dC, dI) nw_cls [(h, .inr (6, [.ref a, .int (nI 0)]))] H := hP
  replace hD : va_D A [(h, .inr (6, [.ref a, .int (nI 0)]))] := hD
  exact W.vret hx hb hr (fun t ht hW => ⟨⟨(), rfl, trivial, by rw [ht]; exact hP, hD⟩, hS.F ht⟩) hS.2.2 d_Row_clear_5

set_option maxHeartbeats 4000000 in
set_option maxRecDepth 100000 in
theorem c_Row_append (l : Launch) (dC : Nat → ClassId) (dI : Nat → Nat → Nat) (sz : Nat) (cB : ClassId) (h a n : Nat) (c : Nat → Nat) (v : Nat) (hn : n < 60) (hv : v < 128) : Met l y_Row_append w_Row_append ({ frames := 0, cells := 0, slots := 0, locals := 0 }) (nw_Pw [.ref h, .int (nI v)] (dC, dI) nw_cls [(cB, .byte)] [(h, .inr (6, [.ref a, .int (nI n)])), (a, nw_ai cB 60 c)] sz) (va_Qv (fun _ : Unit => True) (nw_B (dC, dI) nw_cls (va_A [(h, .inr (6, [.ref a, .int (nI n)])), (a, nw_ai cB 60 c)] sz) (fun _ : Unit => [(h, .inr (6, [.ref a, .int (nI (n + 1))])), (a, nw_ai cB 60 (va_up c n v))])) (va_A [(h, .inr (6, [.ref a, .int (nI n)])), (a, nw_ai cB 60 c)] sz)) 0 0 (va_A [(h, .inr (6, [.ref a, .int (nI n)])), (a, nw_ai cB 60 c)] sz) := by
  refine Met.ofW (cc := b_Row_append) (maxL := 2) (ret := none) (by decide) rfl ?_
  intro p e s m args below meth cd s₁ B hml hv0
  obtain ⟨rfl, hsz, hP, hK, hD0⟩ := hv0
  have hx := B.exec
  have hb := B.bytes
  have hr := B.returns
  have hts := atoms_spec (ws := w_Row_append) B.pre
  have hown : s.vm.findClass R_Row = some m.cls := findClass_of_methodNamed B.named
  have hlocks := B.notSynchronized
  subst hsz
  have hD := hD0.self (sz := s.heap.size)
  generalize hAe : va_A [(h, .inr (6, [.ref a, .int (nI n)])), (a, nw_ai cB 60 c)] s.heap.size = A at hD ⊢
  have hA : ∀ q : Nat, s.heap.size ≤ q → A q := fun q h => by rw [← hAe]; exact Or.inr h
  have hS : va_S A s.heap s.heap [] := va_S.rf
  have hl := lv_entry ([.ref h, .int (nI v)]) (n := 2) (Nat.le_of_ble_eq_true rfl)
  rw [lg_entry_eq]
  generalize (lg_sl ([.ref h, .int (nI v)]) ++ List.replicate (2 - (lg_sl ([.ref h, .int (nI v)])).length) Slot.unset).toArray = ls at hl ⊢
  have hl : lv_has ls 2 [(0, .ref h), (1, .int (nI v))] := hl
  refine lv_aload_n hx hb d_Row_append_0 rfl (lv_at hl 0 rfl) ?_
  refine va_get (D := (dC, dI)) (ci := 6) (v := .int (nI n)) (C := R_Row) (T := F_Row) (N := 2) hx hb hts hin_Row hown hK hP 0 rfl rfl 1 (by decide) (hts _ (nw_mc 0 rfl)) (fun _ h9 => h9) rfl d_Row_append_1 ?_
  refine lv_bipush (v := nI 60) hx hb d_Row_append_4 (by decide) ?_
  refine lv_icmp_ge hx hb d_Row_append_6 (tgt := 30) (by decide) (fun hc => ?_) (fun hc => ?_)
  · rw [nI_leI (by omega) (by omega)] at hc
    omega
  · rw [nI_leI (by omega) (by omega)] at hc
    refine lv_aload_n hx hb d_Row_append_9 rfl (lv_at hl 0 rfl) ?_
    refine va_get (D := (dC, dI)) (ci := 6) (v := .ref a) (C := R_Row) (T := F_Row) (N := 2) hx hb hts hin_Row hown hK hP 0 rfl rfl 0 (by decide) (hts _ (nw_mc 1 rfl)) (fun _ h9 => h9) rfl d_Row_append_10 ?_
    refine lv_aload_n hx hb d_Row_append_13 rfl (lv_at hl 0 rfl) ?_
    refine va_get (D := (dC, dI)) (ci := 6) (v := .int (nI n)) (C := R_Row) (T := F_Row) (N := 2) hx hb hts hin_Row hown hK hP 0 rfl rfl 1 (by decide) (hts _ (nw_mc 0 rfl)) (fun _ h9 => h9) rfl d_Row_append_14 ?_
    refine lv_iload_n hx hb d_Row_append_17 rfl (lv_at hl 1 rfl) ?_
    refine lv_i2b (v := nI v) hx hb d_Row_append_18 (nw_nb v hv) ?_
    refine nw_bast hx hb hK hP hD hS 1 0 rfl rfl (k := n) (v := v) (by omega) (by first | decide | omega) (by omega) d_Row_append_19 (fun H locs hP hD hS => ?_)
    replace hP : va_P (dC, dI) nw_cls [(h, .inr (6, [.ref a, .int (nI n)])), (a, nw_ai cB 60 (va_up c n v))] H := hP
    replace hD : va_D A [(h, .inr (6, [.ref a, .int (nI n)])), (a, nw_ai cB 60 (va_up c n v))] := hD
    refine lv_aload_n hx hb d_Row_append_20 rfl (lv_at hl 0 rfl) ?_
    refine lv_dup hx hb d_Row_append_21 rfl ?_
    refine va_get (D := (dC, dI)) (ci := 6) (v := .int (nI n)) (C := R_Row) (T := F_Row) (N := 2) hx hb hts hin_Row hown hK hP 0 rfl rfl 1 (by decide) (hts _ (nw_mc 0 rfl)) (fun _ h9 => h9) rfl d_Row_append_22 ?_
    refine lv_iconst (v := nI 1) hx hb d_Row_append_25 (by decide) ?_
    refine lv_iadd hx hb d_Row_append_26 ?_
    refine nw_ti (nI_add n 1) ?_
    refine va_put (D := (dC, dI)) (ci := 6) (v := .int (nI (n + 1))) (ty := .int) (C := R_Row) (T := F_Row) (N := 2) hx hb hts hin_Row t_Row t_Row_ok n_Row hown hK hP hD hS 0 rfl rfl 1 (by decide) (hts _ (nw_mc 0 rfl)) (fun _ h9 => h9) rfl (by decide +kernel) rfl rfl (Nat.le_of_ble_eq_true rfl) d_Row_append_27 (fun H locs hP hD hS => ?_)
    replace hP : va_P (dC, dI) nw_cls [(h, .inr (6, [.ref a, .int (nI (n + 1))])), (a, nw_ai cB 60 (va_up c n v))] H := hP
    replace hD : va_D A [(h, .inr (6, [.ref a, .int (nI (n + 1))])), (a, nw_ai cB 60 (va_up c n v))] := hD
    exact W.vret hx hb hr (fun t ht hW => ⟨⟨(), rfl, trivial, by rw [ht]; exact hP, hD⟩, hS.F ht⟩) hS.2.2 d_Row_append_30

set_option maxHeartbeats 4000000 in
set_option maxRecDepth 100000 in
theorem c_Row_copyTo (l : Launch) (dC : Nat → ClassId) (dI : Nat → Nat → Nat) (sz : Nat) (cB : ClassId) (h a n : Nat) (c : Nat → Nat) (b N : Nat) (g : Nat → Nat) (st : Nat) (hn : n ≤ 60) (hN : st + n ≤ N) (hN2 : N < 2 ^ 31) (hc : ∀ i, i < n → c i < 128) : Met l y_Row_copyTo w_Row_copyTo ({ frames := 1, cells := 0, slots := 0, locals := 18 }) (nw_Pw [.ref h, .ref b, .int (nI st)] (dC, dI) nw_cls [(cB, .byte)] [(h, .inr (6, [.ref a, .int (nI n)])), (a, nw_ai cB 60 c), (b, nw_ai cB N g)] sz) (va_Qv (fun _ : Unit => True) (nw_B (dC, dI) nw_cls (va_A [(h, .inr (6, [.ref a, .int (nI n)])), (a, nw_ai cB 60 c), (b, nw_ai cB N g)] sz) (fun _ : Unit => [(h, .inr (6, [.ref a, .int (nI n)])), (a, nw_ai cB 60 c), (b, nw_ai cB N (va_cpy c g 0 st n))])) (va_A [(h, .inr (6, [.ref a, .int (nI n)])), (a, nw_ai cB 60 c), (b, nw_ai cB N g)] sz)) 0 0 (va_A [(h, .inr (6, [.ref a, .int (nI n)])), (a, nw_ai cB 60 c), (b, nw_ai cB N g)] sz) := by
  refine Met.ofW (cc := b_Row_copyTo) (maxL := 3) (ret := none) (by decide) rfl ?_
  intro p e s m args below meth cd s₁ B hml hv0
  obtain ⟨rfl, hsz, hP, hK, hD0⟩ := hv0
  have hx := B.exec
  have hb := B.bytes
  have hr := B.returns
  have hts := atoms_spec (ws := w_Row_copyTo) B.pre
  have hown : s.vm.findClass R_Row = some m.cls := findClass_of_methodNamed B.named
  have hlocks := B.notSynchronized
  subst hsz
  have hD := hD0.self (sz := s.heap.size)
  generalize hAe : va_A [(h, .inr (6, [.ref a, .int (nI n)])), (a, nw_ai cB 60 c), (b, nw_ai cB N g)] s.heap.size = A at hD ⊢
  have hA : ∀ q : Nat, s.heap.size ≤ q → A q := fun q h => by rw [← hAe]; exact Or.inr h
  have hS : va_S A s.heap s.heap [] := va_S.rf
  have hl := lv_entry ([.ref h, .ref b, .int (nI st)]) (n := 3) (Nat.le_of_ble_eq_true rfl)
  rw [lg_entry_eq]
  generalize (lg_sl ([.ref h, .ref b, .int (nI st)]) ++ List.replicate (3 - (lg_sl ([.ref h, .ref b, .int (nI st)])).length) Slot.unset).toArray = ls at hl ⊢
  have hl : lv_has ls 3 [(0, .ref h), (1, .ref b), (2, .int (nI st))] := hl
  refine lv_aload_n hx hb d_Row_copyTo_0 rfl (lv_at hl 0 rfl) ?_
  refine va_get (D := (dC, dI)) (ci := 6) (v := .ref a) (C := R_Row) (T := F_Row) (N := 2) hx hb hts hin_Row hown hK hP 0 rfl rfl 0 (by decide) (hts _ (nw_mc 1 rfl)) (fun _ h9 => h9) rfl d_Row_copyTo_1 ?_
  refine lv_iconst (v := nI 0) hx hb d_Row_copyTo_4 (by decide) ?_
  refine lv_aload_n hx hb d_Row_copyTo_5 rfl (lv_at hl 1 rfl) ?_
  refine lv_iload_n hx hb d_Row_copyTo_6 rfl (lv_at hl 2 rfl) ?_
  refine lv_aload_n hx hb d_Row_copyTo_7 rfl (lv_at hl 0 rfl) ?_
  refine va_get (D := (dC, dI)) (ci := 6) (v := .int (nI n)) (C := R_Row) (T := F_Row) (N := 2) hx hb hts hin_Row hown hK hP 0 rfl rfl 1 (by decide) (hts _ (nw_mc 0 rfl)) (fun _ h9 => h9) rfl d_Row_copyTo_8 ?_
  refine nw_copyb hx hb (hml.trans hl.1.symm) hown (hts _ (nw_mc 2 rfl)) (hts _ (nw_mc 3 rfl)) (hts _ (nw_mc 4 rfl)) (hts _ (nw_mc 5 rfl)) hK hP hD hS 1 2 0 0 rfl rfl rfl rfl (sp := 0) (dp := st) (n := n) (by omega) (by omega) (by decide) (by omega) (fun i hi => by rw [Nat.zero_add]; exact hc i hi) (Nat.le_of_ble_eq_true rfl) (Nat.le_of_ble_eq_true rfl) d_Row_copyTo_11 (fun H locs hP hD hS => ?_)
  replace hP : va_P (dC, dI) nw_cls [(h, .inr (6, [.ref a, .int (nI n)])), (a, nw_ai cB 60 c), (b, nw_ai cB N (va_cpy c g 0 st n))] H := hP
  replace hD : va_D A [(h, .inr (6, [.ref a, .int (nI n)])), (a, nw_ai cB 60 c), (b, nw_ai cB N (va_cpy c g 0 st n))] := hD
  exact W.vret hx hb hr (fun t ht hW => ⟨⟨(), rfl, trivial, by rw [ht]; exact hP, hD⟩, hS.F ht⟩) hS.2.2 d_Row_copyTo_14
end
section
set_option maxHeartbeats 4000000 in
set_option maxRecDepth 100000 in
theorem c_WL_size (l : Launch) (dC : Nat → ClassId) (dI : Nat → Nat → Nat) (h a b n : Nat) : Met l y_WL_size w_WL_size ({ frames := 0, cells := 0, slots := 0, locals := 0 }) (nw_Pr [.ref h] (dC, dI) nw_cls [] [(h, .inr (7, [.ref a, .ref b, .int (nI n)]))]) (vp_Si (fun r => r = nI n)) 0 0 (fun _ => False) := by
  refine Met.ofW (cc := b_WL_size) (maxL := 1) (ret := (some .int)) (by decide) rfl ?_
  intro p e s m args below meth cd s₁ B hml hv0
  obtain ⟨rfl, hP, hK⟩ := hv0
  have hx := B.exec
  have hb := B.bytes
  have hr := B.returns
  have hts := atoms_spec (ws := w_WL_size) B.pre
  have hown : s.vm.findClass R_WL = some m.cls := findClass_of_methodNamed B.named
  have hlocks := B.notSynchronized
  have hl := lv_entry ([.ref h]) (n := 1) (Nat.le_of_ble_eq_true rfl)
  rw [lg_entry_eq]
  generalize (lg_sl ([.ref h]) ++ List.replicate (1 - (lg_sl ([.ref h])).length) Slot.unset).toArray = ls at hl ⊢
  have hl : lv_has ls 1 [(0, .ref h)] := hl
  refine lv_aload_n hx hb d_WL_size_0 rfl (lv_at hl 0 rfl) ?_
  refine va_get (D := (dC, dI)) (ci := 7) (v := .int (nI n)) (C := R_WL) (T := F_WL) (N := 3) hx hb hts hin_WL hown hK hP 0 rfl rfl 2 (by decide) (hts _ (nw_mc 6 rfl)) (fun _ h9 => h9) rfl d_WL_size_1 ?_
  exact W.iret (v := nI n) hx hb hr (fun t ht hW => ⟨_, rfl, rfl, ht⟩) (fun q hq => by cases hq) d_WL_size_4

set_option maxHeartbeats 4000000 in
set_option maxRecDepth 100000 in
theorem c_WL_characters (l : Launch) (dC : Nat → ClassId) (dI : Nat → Nat → Nat) (cI : ClassId) (h a b n : Nat) (st : Nat → Nat) (hn : n ≤ 1000) : Met l y_WL_characters w_WL_characters ({ frames := 0, cells := 0, slots := 0, locals := 0 }) (nw_Pr [.ref h] (dC, dI) nw_cls [(cI, .int)] [(h, .inr (7, [.ref a, .ref b, .int (nI n)])), (b, nw_ai cI 1001 st)]) (vp_Si (fun r => r = nI (st n))) 0 0 (fun _ => False) := by
  refine Met.ofW (cc := b_WL_characters) (maxL := 1) (ret := (some .int)) (by decide) rfl ?_
  intro p e s m args below meth cd s₁ B hml hv0
  obtain ⟨rfl, hP, hK⟩ := hv0
  have hx := B.exec
  have hb := B.bytes
  have hr := B.returns
  have hts := atoms_spec (ws := w_WL_characters) B.pre
  have hown : s.vm.findClass R_WL = some m.cls := findClass_of_methodNamed B.named
  have hlocks := B.notSynchronized
  have hl := lv_entry ([.ref h]) (n := 1) (Nat.le_of_ble_eq_true rfl)
  rw [lg_entry_eq]
  generalize (lg_sl ([.ref h]) ++ List.replicate (1 - (lg_sl ([.ref h])).length) Slot.unset).toArray = ls at hl ⊢
  have hl : lv_has ls 1 [(0, .ref h)] := hl
  refine lv_aload_n hx hb d_WL_characters_0 rfl (lv_at hl 0 rfl) ?_
  refine va_get (D := (dC, dI)) (ci := 7) (v := .ref b) (C := R_WL) (T := F_WL) (N := 3) hx hb hts hin_WL hown hK hP 0 rfl rfl 1 (by decide) (hts _ (nw_mc 7 rfl)) (fun _ h9 => h9) rfl d_WL_characters_1 ?_
  refine lv_aload_n hx hb d_WL_characters_4 rfl (lv_at hl 0 rfl) ?_
  refine va_get (D := (dC, dI)) (ci := 7) (v := .int (nI n)) (C := R_WL) (T := F_WL) (N := 3) hx hb hts hin_WL hown hK hP 0 rfl rfl 2 (by decide) (hts _ (nw_mc 6 rfl)) (fun _ h9 => h9) rfl d_WL_characters_5 ?_
  refine nw_iald hx hb hK hP 1 0 rfl rfl (k := n) (by omega) (by first | decide | omega) d_WL_characters_8 ?_
  exact W.iret (v := nI (st n)) hx hb hr (fun t ht hW => ⟨_, rfl, rfl, ht⟩) (fun q hq => by cases hq) d_WL_characters_9

set_option maxHeartbeats 4000000 in
set_option maxRecDepth 100000 in
theorem c_WL_lengthOf (l : Launch) (dC : Nat → ClassId) (dI : Nat → Nat → Nat) (cI : ClassId) (h a b n : Nat) (st : Nat → Nat) (i : Nat) (hi : i < 1000) (hm : st i ≤ st (i + 1)) : Met l y_WL_lengthOf w_WL_lengthOf ({ frames := 0, cells := 0, slots := 0, locals := 0 }) (nw_Pr [.ref h, .int (nI i)] (dC, dI) nw_cls [(cI, .int)] [(h, .inr (7, [.ref a, .ref b, .int (nI n)])), (b, nw_ai cI 1001 st)]) (vp_Si (fun r => r = nI (st (i + 1) - st i))) 0 0 (fun _ => False) := by
  refine Met.ofW (cc := b_WL_lengthOf) (maxL := 2) (ret := (some .int)) (by decide) rfl ?_
  intro p e s m args below meth cd s₁ B hml hv0
  obtain ⟨rfl, hP, hK⟩ := hv0
  have hx := B.exec
  have hb := B.bytes
  have hr := B.returns
  have hts := atoms_spec (ws := w_WL_lengthOf) B.pre
  have hown : s.vm.findClass R_WL = some m.cls := findClass_of_methodNamed B.named
  have hlocks := B.notSynchronized
  have hl := lv_entry ([.ref h, .int (nI i)]) (n := 2) (Nat.le_of_ble_eq_true rfl)
  rw [lg_entry_eq]
  generalize (lg_sl ([.ref h, .int (nI i)]) ++ List.replicate (2 - (lg_sl ([.ref h, .int (nI i)])).length) Slot.unset).toArray = ls at hl ⊢
  have hl : lv_has ls 2 [(0, .ref h), (1, .int (nI i))] := hl
  refine lv_aload_n hx hb d_WL_lengthOf_0 rfl (lv_at hl 0 rfl) ?_
  refine va_get (D := (dC, dI)) (ci := 7) (v := .ref b) (C := R_WL) (T := F_WL) (N := 3) hx hb hts hin_WL hown hK hP 0 rfl rfl 1 (by decide) (hts _ (nw_mc 7 rfl)) (fun _ h9 => h9) rfl d_WL_lengthOf_1 ?_
  refine lv_iload_n hx hb d_WL_lengthOf_4 rfl (lv_at hl 1 rfl) ?_
  refine lv_iconst (v := nI 1) hx hb d_WL_lengthOf_5 (by decide) ?_
  refine lv_iadd hx hb d_WL_lengthOf_6 ?_
  refine nw_ti (nI_add i 1) ?_
  refine nw_iald hx hb hK hP 1 0 rfl rfl (k := (i + 1)) (by omega) (by first | decide | omega) d_WL_lengthOf_7 ?_
  refine lv_aload_n hx hb d_WL_lengthOf_8 rfl (lv_at hl 0 rfl) ?_
  refine va_get (D := (dC, dI)) (ci := 7) (v := .ref b) (C := R_WL) (T := F_WL) (N := 3) hx hb hts hin_WL hown hK hP 0 rfl rfl 1 (by decide) (hts _ (nw_mc 7 rfl)) (fun _ h9 => h9) rfl d_WL_lengthOf_9 ?_
  refine lv_iload_n hx hb d_WL_lengthOf_12 rfl (lv_at hl 1 rfl) ?_
  refine nw_iald hx hb hK hP 1 0 rfl rfl (k := i) (by omega) (by first | decide | omega) d_WL_lengthOf_13 ?_
  refine lv_isub hx hb d_WL_lengthOf_14 ?_
  refine nw_ti (pk_sub (a := (st (i + 1))) (b := (st i)) (by omega)) ?_
  exact W.iret (v := nI ((st (i + 1)) - (st i))) hx hb hr (fun t ht hW => ⟨_, rfl, rfl, ht⟩) (fun q hq => by cases hq) d_WL_lengthOf_15

set_option maxHeartbeats 4000000 in
set_option maxRecDepth 100000 in
theorem c_WL_at (l : Launch) (dC : Nat → ClassId) (dI : Nat → Nat → Nat) (cB cI : ClassId) (h a b n : Nat) (C st : Nat → Nat) (i k : Nat) (hi : i < 1001) (hk : st i + k < 12000) : Met l y_WL_at w_WL_at ({ frames := 0, cells := 0, slots := 0, locals := 0 }) (nw_Pr [.ref h, .int (nI i), .int (nI k)] (dC, dI) nw_cls [(cB, .byte), (cI, .int)] [(h, .inr (7, [.ref a, .ref b, .int (nI n)])), (a, nw_ai cB 12000 C), (b, nw_ai cI 1001 st)]) (vp_Si (fun r => r = nI (C (st i + k)))) 0 0 (fun _ => False) := by
  refine Met.ofW (cc := b_WL_at) (maxL := 3) (ret := (some .int)) (by decide) rfl ?_
  intro p e s m args below meth cd s₁ B hml hv0
  obtain ⟨rfl, hP, hK⟩ := hv0
  have hx := B.exec
  have hb := B.bytes
  have hr := B.returns
  have hts := atoms_spec (ws := w_WL_at) B.pre
  have hown : s.vm.findClass R_WL = some m.cls := findClass_of_methodNamed B.named
  have hlocks := B.notSynchronized
  have hl := lv_entry ([.ref h, .int (nI i), .int (nI k)]) (n := 3) (Nat.le_of_ble_eq_true rfl)
  rw [lg_entry_eq]
  generalize (lg_sl ([.ref h, .int (nI i), .int (nI k)]) ++ List.replicate (3 - (lg_sl ([.ref h, .int (nI i), .int (nI k)])).length) Slot.unset).toArray = ls at hl ⊢
  have hl : lv_has ls 3 [(0, .ref h), (1, .int (nI i)), (2, .int (nI k))] := hl
  refine lv_aload_n hx hb d_WL_at_0 rfl (lv_at hl 0 rfl) ?_
  refine va_get (D := (dC, dI)) (ci := 7) (v := .ref a) (C := R_WL) (T := F_WL) (N := 3) hx hb hts hin_WL hown hK hP 0 rfl rfl 0 (by decide) (hts _ (nw_mc 8 rfl)) (fun _ h9 => h9) rfl d_WL_at_1 ?_
  refine lv_aload_n hx hb d_WL_at_4 rfl (lv_at hl 0 rfl) ?_
  refine va_get (D := (dC, dI)) (ci := 7) (v := .ref b) (C := R_WL) (T := F_WL) (N := 3) hx hb hts hin_WL hown hK hP 0 rfl rfl 1 (by decide) (hts _ (nw_mc 7 rfl)) (fun _ h9 => h9) rfl d_WL_at_5 ?_
  refine lv_iload_n hx hb d_WL_at_8 rfl (lv_at hl 1 rfl) ?_
  refine nw_iald hx hb hK hP 2 1 rfl rfl (k := i) (by omega) (by first | decide | omega) d_WL_at_9 ?_
  refine lv_iload_n hx hb d_WL_at_10 rfl (lv_at hl 2 rfl) ?_
  refine lv_iadd hx hb d_WL_at_11 ?_
  refine nw_ti (nI_add (st i) k) ?_
  refine nw_bald hx hb hK hP 1 0 rfl rfl (k := ((st i) + k)) (by omega) (by first | decide | omega) d_WL_at_12 ?_
  exact W.iret (v := nI (C ((st i) + k))) hx hb hr (fun t ht hW => ⟨_, rfl, rfl, ht⟩) (fun q hq => by cases hq) d_WL_at_13

set_option maxHeartbeats 4000000 in
set_option maxRecDepth 100000 in
theorem c_WL_longest (l : Launch) (dC : Nat → ClassId) (dI : Nat → Nat → Nat) (cI : ClassId) (h a b n : Nat) (st : Nat → Nat) (hn : n ≤ 1000) (hm : ∀ i, i < n → st i ≤ st (i + 1) ∧ st (i + 1) - st i < 1000) : Met l y_WL_longest w_WL_longest ({ frames := 1, cells := 0, slots := 0, locals := 21 }) (nw_Pr [.ref h] (dC, dI) nw_cls [(cI, .int)] [(h, .inr (7, [.ref a, .ref b, .int (nI n)])), (b, nw_ai cI 1001 st)]) (vp_Si (fun r => r = nI (nw_mx (fun i => st (i + 1) - st i) n))) 0 0 (fun _ => False) := by
  refine Met.ofW (cc := b_WL_longest) (maxL := 3) (ret := (some .int)) (by decide) rfl ?_
  intro p e s m args below meth cd s₁ B hml hv0
  obtain ⟨rfl, hP, hK⟩ := hv0
  have hx := B.exec
  have hb := B.bytes
  have hr := B.returns
  have hts := atoms_spec (ws := w_WL_longest) B.pre
  have hown : s.vm.findClass R_WL = some m.cls := findClass_of_methodNamed B.named
  have hlocks := B.notSynchronized
  have hl := lv_entry ([.ref h]) (n := 3) (Nat.le_of_ble_eq_true rfl)
  rw [lg_entry_eq]
  generalize (lg_sl ([.ref h]) ++ List.replicate (3 - (lg_sl ([.ref h])).length) Slot.unset).toArray = ls at hl ⊢
  have hl : lv_has ls 3 [(0, .ref h)] := hl
  refine lv_iconst (v := nI 0) hx hb d_WL_longest_0 (by decide) ?_
  refine lv_istore_n hx hb d_WL_longest_1 rfl hl (by decide) rfl (fun ls hl => ?_)
  replace hl : lv_has ls 3 [(1, .int (nI 0)), (0, .ref h)] := hl
  refine lv_iconst (v := nI 0) hx hb d_WL_longest_2 (by decide) ?_
  refine lv_istore_n hx hb d_WL_longest_3 rfl hl (by decide) rfl (fun ls hl => ?_)
  replace hl : lv_has ls 3 [(2, .int (nI 0)), (1, .int (nI 0)), (0, .ref h)] := hl
  refine nw_loopR (σ := Nat) (fun k => k ≤ n) (fun k => [(2, .int (nI k)), (1, .int (nI (nw_mx (fun i => st (i + 1) - st i) k))), (0, .ref h)]) (fun k => n - k) (fun x hI ih ls hl => ?_) 0 (Nat.zero_le _) hl
  obtain ⟨k, hx9⟩ : ∃ z, z = x := ⟨x, rfl⟩
  subst hx9
  replace hI : k ≤ n := hI
  replace hl : lv_has ls 3 [(2, .int (nI k)), (1, .int (nI (nw_mx (fun i => st (i + 1) - st i) k))), (0, .ref h)] := hl
  have hb1 := nw_mx_lt (f := fun i => st (i + 1) - st i) (n := k) (b := 1000) (by decide) (fun i hi => (hm i (by omega)).2)
  refine lv_iload_n hx hb d_WL_longest_4 rfl (lv_at hl 0 rfl) ?_
  refine lv_aload_n hx hb d_WL_longest_5 rfl (lv_at hl 2 rfl) ?_
  refine va_get (D := (dC, dI)) (ci := 7) (v := .int (nI n)) (C := R_WL) (T := F_WL) (N := 3) hx hb hts hin_WL hown hK hP 0 rfl rfl 2 (by decide) (hts _ (nw_mc 6 rfl)) (fun _ h9 => h9) rfl d_WL_longest_6 ?_
  refine lv_icmp_ge hx hb d_WL_longest_9 (tgt := 28) (by decide) (fun hc => ?_) (fun hc => ?_)
  · rw [nI_leI (by omega) (by omega)] at hc
    refine lv_iload_n hx hb d_WL_longest_28 rfl (lv_at hl 1 rfl) ?_
    exact W.iret (v := nI (nw_mx (fun i => st (i + 1) - st i) k)) hx hb hr (fun t ht hW => ⟨_, rfl, by rw [show k = n by omega], ht⟩) (fun q hq => by cases hq) d_WL_longest_29
  · rw [nI_leI (by omega) (by omega)] at hc
    refine lv_iload_n hx hb d_WL_longest_12 rfl (lv_at hl 1 rfl) ?_
    refine lv_aload_n hx hb d_WL_longest_13 rfl (lv_at hl 2 rfl) ?_
    refine lv_iload_n hx hb d_WL_longest_14 rfl (lv_at hl 0 rfl) ?_
    have hk := hm k (by omega)
    refine vp_callSi (va_Run.run (va_runV (As := [.int (nI k)]) (rest := [.int (nI (nw_mx (fun i => st (i + 1) - st i) k))]) ⟨hx, hb, hml, hown, hts⟩ (c_WL_lengthOf l dC dI cI h a b n st k (by omega) hk.1) (cwV (C := R_WL) 1 hts (nw_GV (nw_m 9 rfl) (nw_m 10 rfl) (nw_m 11 rfl) (nw_m 12 rfl) (nw_m 13 rfl)) rfl rfl rfl (by decide +kernel) ⟨Nat.le_of_ble_eq_true rfl, Nat.le_of_ble_eq_true rfl⟩) (nw_preV (q0 := 0) (ci := 7) (q := (R_WL, F_WL, 3)) hK hP [0, 1] [0] rfl rfl rfl rfl) rfl rfl hl.1 rfl (lv_room (Nat.le_of_ble_eq_true rfl)) d_WL_longest_15 ⟨Nat.le_of_ble_eq_true rfl, Nat.le_of_ble_eq_true rfl⟩)) (fun r her => ?_)
    subst her
    refine va_mmax hx hb (hml.trans hl.1.symm) hown (hts _ (nw_mc 14 rfl)) (hts _ (nw_mc 15 rfl)) (hts _ (nw_mc 16 rfl)) (hts _ (nw_mc 17 rfl)) (Nat.le_of_ble_eq_true rfl) (Nat.le_of_ble_eq_true rfl) (Nat.le_of_ble_eq_true rfl) (Nat.le_of_ble_eq_true rfl) d_WL_longest_18 ?_
    refine nw_ti (y := nI (nw_mx (fun i => st (i + 1) - st i) (k + 1))) (nw_imax (by omega) (by omega)) ?_
    refine lv_istore_n hx hb d_WL_longest_21 rfl hl (by decide) rfl (fun ls hl => ?_)
    replace hl : lv_has ls 3 [(1, .int (nI (nw_mx (fun i => st (i + 1) - st i) (k + 1)))), (2, .int (nI k)), (0, .ref h)] := hl
    refine lv_iinc (v := nI (k + 1)) hx hb d_WL_longest_22 hl (k := 1) rfl (nI_add k 1) (by decide) rfl (fun ls hl => ?_)
    have hl : lv_has ls 3 [(2, .int (nI (k + 1))), (1, .int (nI (nw_mx (fun i => st (i + 1) - st i) (k + 1)))), (0, .ref h)] := hl
    refine lv_goto hx hb d_WL_longest_25 (tgt := 4) (by decide) ?_
    exact ih (k + 1) (by omega) (show n - (k + 1) < n - k by omega) _ hl

set_option maxHeartbeats 4000000 in
set_option maxRecDepth 100000 in
theorem c_WL_compare (l : Launch) (dC : Nat → ClassId) (dI : Nat → Nat → Nat) (cB cI : ClassId) (h a b n : Nat) (C st : Nat → Nat) (h2 a2 n2 : Nat) (c2 : Nat → Nat) (i : Nat) (hi : i < 1000) (hm : st i ≤ st (i + 1) ∧ st (i + 1) ≤ 12000 ∧ st (i + 1) - st i ≤ 60) (hn : n2 ≤ 60) (hC : ∀ j, C j < 128) (hc : ∀ j, c2 j < 128) : Met l y_WL_compare w_WL_compare ({ frames := 1, cells := 0, slots := 0, locals := 22 }) (nw_Pr [.ref h, .int (nI i), .ref h2] (dC, dI) nw_cls [(cB, .byte), (cI, .int)] [(h, .inr (7, [.ref a, .ref b, .int (nI n)])), (a, nw_ai cB 12000 C), (b, nw_ai cI 1001 st), (h2, .inr (6, [.ref a2, .int (nI n2)])), (a2, nw_ai cB 60 c2)]) (vp_Si (fun r => r = nw_cm (fun k => C (st i + k)) (st (i + 1) - st i) c2 n2)) 0 0 (fun _ => False) := by
  refine Met.ofW (cc := b_WL_compare) (maxL := 6) (ret := (some .int)) (by decide) rfl ?_
  intro p e s m args below meth cd s₁ B hml hv0
  obtain ⟨rfl, hP, hK⟩ := hv0
  have hx := B.exec
  have hb := B.bytes
  have hr := B.returns
  have hts := atoms_spec (ws := w_WL_compare) B.pre
  have hown : s.vm.findClass R_WL = some m.cls := findClass_of_methodNamed B.named
  have hlocks := B.notSynchronized
  have hl := lv_entry ([.ref h, .int (nI i), .ref h2]) (n := 6) (Nat.le_of_ble_eq_true rfl)
  rw [lg_entry_eq]
  generalize (lg_sl ([.ref h, .int (nI i), .ref h2]) ++ List.replicate (6 - (lg_sl ([.ref h, .int (nI i), .ref h2])).length) Slot.unset).toArray = ls at hl ⊢
  have hl : lv_has ls 6 [(0, .ref h), (1, .int (nI i)), (2, .ref h2)] := hl
  refine lv_aload_n hx hb d_WL_compare_0 rfl (lv_at hl 0 rfl) ?_
  refine lv_iload_n hx hb d_WL_compare_1 rfl (lv_at hl 1 rfl) ?_
  refine vp_callSi (va_Run.run (va_runV (As := [.int (nI i)]) (rest := []) ⟨hx, hb, hml, hown, hts⟩ (c_WL_lengthOf l dC dI cI h a b n st i (by omega) hm.1) (cwV (C := R_WL) 1 hts (nw_GV (nw_m 9 rfl) (nw_m 10 rfl) (nw_m 11 rfl) (nw_m 12 rfl) (nw_m 13 rfl)) rfl rfl rfl (by decide +kernel) ⟨Nat.le_of_ble_eq_true rfl, Nat.le_of_ble_eq_true rfl⟩) (nw_preV (q0 := 0) (ci := 7) (q := (R_WL, F_WL, 3)) hK hP [0, 2] [1] rfl rfl rfl rfl) rfl rfl hl.1 rfl (lv_room (Nat.le_of_ble_eq_true rfl)) d_WL_compare_2 ⟨Nat.le_of_ble_eq_true rfl, Nat.le_of_ble_eq_true rfl⟩)) (fun r her => ?_)
  subst her
  refine lv_istore_n hx hb d_WL_compare_5 rfl hl (by decide) rfl (fun ls hl => ?_)
  replace hl : lv_has ls 6 [(3, .int (nI (st (i + 1) - st i))), (0, .ref h), (1, .int (nI i)), (2, .ref h2)] := hl
  refine lv_iload_n hx hb d_WL_compare_6 rfl (lv_at hl 0 rfl) ?_
  refine lv_aload_n hx hb d_WL_compare_7 rfl (lv_at hl 3 rfl) ?_
  refine vp_callSi (va_Run.run (va_runV (As := []) (rest := [.int (nI (st (i + 1) - st i))]) ⟨hx, hb, hml, hown, hts⟩ (c_Row_length l dC dI h2 a2 n2) (cwV (C := R_Row) 0 hts (nw_GV (nw_m 18 rfl) (nw_m 19 rfl) (nw_m 20 rfl) (nw_m 21 rfl) (nw_m 22 rfl)) rfl rfl rfl (by decide +kernel) ⟨Nat.le_of_ble_eq_true rfl, Nat.le_of_ble_eq_true rfl⟩) (nw_preV (q0 := 3) (ci := 6) (q := (R_Row, F_Row, 2)) hK hP [3] [] rfl rfl rfl rfl) rfl rfl hl.1 rfl (lv_room (Nat.le_of_ble_eq_true rfl)) d_WL_compare_8 ⟨Nat.le_of_ble_eq_true rfl, Nat.le_of_ble_eq_true rfl⟩)) (fun r her => ?_)
  subst her
  refine va_mmin hx hb (hml.trans hl.1.symm) hown (hts _ (nw_mc 23 rfl)) (hts _ (nw_mc 24 rfl)) (hts _ (nw_mc 16 rfl)) (hts _ (nw_mc 25 rfl)) (Nat.le_of_ble_eq_true rfl) (Nat.le_of_ble_eq_true rfl) (Nat.le_of_ble_eq_true rfl) (Nat.le_of_ble_eq_true rfl) d_WL_compare_11 ?_
  refine nw_ti (y := nI (min (st (i + 1) - st i) n2)) (nw_imin (by omega) (by omega)) ?_
  refine lv_istore hx hb d_WL_compare_14 hl (by decide) rfl (fun ls hl => ?_)
  replace hl : lv_has ls 6 [(4, .int (nI (min (st (i + 1) - st i) n2))), (3, .int (nI (st (i + 1) - st i))), (0, .ref h), (1, .int (nI i)), (2, .ref h2)] := hl
  refine lv_iconst (v := nI 0) hx hb d_WL_compare_16 (by decide) ?_
  refine lv_istore hx hb d_WL_compare_17 hl (by decide) rfl (fun ls hl => ?_)
  replace hl : lv_has ls 6 [(5, .int (nI 0)), (4, .int (nI (min (st (i + 1) - st i) n2))), (3, .int (nI (st (i + 1) - st i))), (0, .ref h), (1, .int (nI i)), (2, .ref h2)] := hl
  refine nw_loopR (σ := Nat) (fun k => k ≤ min (st (i + 1) - st i) n2 ∧ nw_cm (fun k => C (st i + k)) (st (i + 1) - st i) c2 n2 = nw_cmp (fun k => C (st i + k)) c2 (st (i + 1) - st i) n2 (min (st (i + 1) - st i) n2 - k) k) (fun k => [(5, .int (nI k)), (4, .int (nI (min (st (i + 1) - st i) n2))), (3, .int (nI (st (i + 1) - st i))), (0, .ref h), (1, .int (nI i)), (2, .ref h2)]) (fun k => min (st (i + 1) - st i) n2 - k) (fun x hI ih ls hl => ?_) 0 (⟨Nat.zero_le _, rfl⟩) hl
  obtain ⟨k, hx9⟩ : ∃ z, z = x := ⟨x, rfl⟩
  subst hx9
  replace hI : k ≤ min (st (i + 1) - st i) n2 ∧ nw_cm (fun k => C (st i + k)) (st (i + 1) - st i) c2 n2 = nw_cmp (fun k => C (st i + k)) c2 (st (i + 1) - st i) n2 (min (st (i + 1) - st i) n2 - k) k := hI
  replace hl : lv_has ls 6 [(5, .int (nI k)), (4, .int (nI (min (st (i + 1) - st i) n2))), (3, .int (nI (st (i + 1) - st i))), (0, .ref h), (1, .int (nI i)), (2, .ref h2)] := hl
  obtain ⟨hk, he⟩ := hI
  refine lv_iload hx hb d_WL_compare_19 (lv_at hl 0 rfl) ?_
  refine lv_iload hx hb d_WL_compare_21 (lv_at hl 1 rfl) ?_
  refine lv_icmp_ge hx hb d_WL_compare_23 (tgt := 63) (by decide) (fun hc1 => ?_) (fun hc1 => ?_)
  · rw [nI_leI (by omega) (by omega)] at hc1
    refine lv_iload_n hx hb d_WL_compare_63 rfl (lv_at hl 2 rfl) ?_
    refine lv_aload_n hx hb d_WL_compare_64 rfl (lv_at hl 5 rfl) ?_
    refine vp_callSi (va_Run.run (va_runV (As := []) (rest := [.int (nI (st (i + 1) - st i))]) ⟨hx, hb, hml, hown, hts⟩ (c_Row_length l dC dI h2 a2 n2) (cwV (C := R_Row) 0 hts (nw_GV (nw_m 18 rfl) (nw_m 19 rfl) (nw_m 20 rfl) (nw_m 21 rfl) (nw_m 22 rfl)) rfl rfl rfl (by decide +kernel) ⟨Nat.le_of_ble_eq_true rfl, Nat.le_of_ble_eq_true rfl⟩) (nw_preV (q0 := 3) (ci := 6) (q := (R_Row, F_Row, 2)) hK hP [3] [] rfl rfl rfl rfl) rfl rfl hl.1 rfl (lv_room (Nat.le_of_ble_eq_true rfl)) d_WL_compare_65 ⟨Nat.le_of_ble_eq_true rfl, Nat.le_of_ble_eq_true rfl⟩)) (fun r her => ?_)
    subst her
    refine lv_isub hx hb d_WL_compare_68 ?_
    exact W.iret (v := (nI (st (i + 1) - st i)) - (nI n2)) hx hb hr (fun t ht hW => ⟨_, rfl, by rw [he, nw_cmp_end (by omega)], ht⟩) (fun q hq => by cases hq) d_WL_compare_69
  · rw [nI_leI (by omega) (by omega)] at hc1
    refine lv_aload_n hx hb d_WL_compare_26 rfl (lv_at hl 3 rfl) ?_
    refine lv_iload_n hx hb d_WL_compare_27 rfl (lv_at hl 4 rfl) ?_
    refine lv_iload hx hb d_WL_compare_28 (lv_at hl 0 rfl) ?_
    refine vp_callSi (va_Run.run (va_runV (As := [.int (nI i), .int (nI k)]) (rest := []) ⟨hx, hb, hml, hown, hts⟩ (c_WL_at l dC dI cB cI h a b n C st i k (by omega) (by omega)) (cwV (C := R_WL) 2 hts (nw_GV (nw_m 26 rfl) (nw_m 27 rfl) (nw_m 28 rfl) (nw_m 12 rfl) (nw_m 29 rfl)) rfl rfl rfl (by decide +kernel) ⟨Nat.le_of_ble_eq_true rfl, Nat.le_of_ble_eq_true rfl⟩) (nw_preV (q0 := 0) (ci := 7) (q := (R_WL, F_WL, 3)) hK hP [0, 1, 2] [0, 1] rfl rfl rfl rfl) rfl rfl hl.1 rfl (lv_room (Nat.le_of_ble_eq_true rfl)) d_WL_compare_30 ⟨Nat.le_of_ble_eq_true rfl, Nat.le_of_ble_eq_true rfl⟩)) (fun r her => ?_)
    subst her
    refine lv_aload_n hx hb d_WL_compare_33 rfl (lv_at hl 5 rfl) ?_
    refine lv_iload hx hb d_WL_compare_34 (lv_at hl 0 rfl) ?_
    refine vp_callSi (va_Run.run (va_runV (As := [.int (nI k)]) (rest := [.int (nI (C (st i + k)))]) ⟨hx, hb, hml, hown, hts⟩ (c_Row_at l dC dI cB h2 a2 n2 c2 k (by omega)) (cwV (C := R_Row) 1 hts (nw_GV (nw_m 30 rfl) (nw_m 31 rfl) (nw_m 32 rfl) (nw_m 21 rfl) (nw_m 33 rfl)) rfl rfl rfl (by decide +kernel) ⟨Nat.le_of_ble_eq_true rfl, Nat.le_of_ble_eq_true rfl⟩) (nw_preV (q0 := 3) (ci := 6) (q := (R_Row, F_Row, 2)) hK hP [3, 4] [0] rfl rfl rfl rfl) rfl rfl hl.1 rfl (lv_room (Nat.le_of_ble_eq_true rfl)) d_WL_compare_36 ⟨Nat.le_of_ble_eq_true rfl, Nat.le_of_ble_eq_true rfl⟩)) (fun r her => ?_)
    subst her
    by_cases hq : C (st i + k) = c2 k
    · refine lv_icmp_eq hx hb d_WL_compare_39 (tgt := 57) (by decide) (fun _ => ?_) (fun hc2 => absurd (congrArg nI hq) hc2)
      refine lv_iinc (v := nI (k + 1)) hx hb d_WL_compare_57 hl (k := 0) rfl (nI_add k 1) (by decide) rfl (fun ls hl => ?_)
      have hl : lv_has ls 6 [(5, .int (nI (k + 1))), (4, .int (nI (min (st (i + 1) - st i) n2))), (3, .int (nI (st (i + 1) - st i))), (0, .ref h), (1, .int (nI i)), (2, .ref h2)] := hl
      refine lv_goto hx hb d_WL_compare_60 (tgt := 19) (by decide) ?_
      exact ih (k + 1) (⟨by omega, by rw [he, nw_cmp_step (by omega) hq]⟩) (show min (st (i + 1) - st i) n2 - (k + 1) < min (st (i + 1) - st i) n2 - k by omega) _ hl
    · refine lv_icmp_eq hx hb d_WL_compare_39 (tgt := 57) (by decide) (fun hc2 => ?_) (fun _ => ?_)
      · exact absurd ((nI_eq (nw_big (hC _)) (nw_big (hc _))).mp hc2) hq
      refine lv_aload_n hx hb d_WL_compare_42 rfl (lv_at hl 3 rfl) ?_
      refine lv_iload_n hx hb d_WL_compare_43 rfl (lv_at hl 4 rfl) ?_
      refine lv_iload hx hb d_WL_compare_44 (lv_at hl 0 rfl) ?_
      refine vp_callSi (va_Run.run (va_runV (As := [.int (nI i), .int (nI k)]) (rest := []) ⟨hx, hb, hml, hown, hts⟩ (c_WL_at l dC dI cB cI h a b n C st i k (by omega) (by omega)) (cwV (C := R_WL) 2 hts (nw_GV (nw_m 26 rfl) (nw_m 27 rfl) (nw_m 28 rfl) (nw_m 12 rfl) (nw_m 29 rfl)) rfl rfl rfl (by decide +kernel) ⟨Nat.le_of_ble_eq_true rfl, Nat.le_of_ble_eq_true rfl⟩) (nw_preV (q0 := 0) (ci := 7) (q := (R_WL, F_WL, 3)) hK hP [0, 1, 2] [0, 1] rfl rfl rfl rfl) rfl rfl hl.1 rfl (lv_room (Nat.le_of_ble_eq_true rfl)) d_WL_compare_46 ⟨Nat.le_of_ble_eq_true rfl, Nat.le_of_ble_eq_true rfl⟩)) (fun r her => ?_)
      subst her
      refine lv_aload_n hx hb d_WL_compare_49 rfl (lv_at hl 5 rfl) ?_
      refine lv_iload hx hb d_WL_compare_50 (lv_at hl 0 rfl) ?_
      refine vp_callSi (va_Run.run (va_runV (As := [.int (nI k)]) (rest := [.int (nI (C (st i + k)))]) ⟨hx, hb, hml, hown, hts⟩ (c_Row_at l dC dI cB h2 a2 n2 c2 k (by omega)) (cwV (C := R_Row) 1 hts (nw_GV (nw_m 30 rfl) (nw_m 31 rfl) (nw_m 32 rfl) (nw_m 21 rfl) (nw_m 33 rfl)) rfl rfl rfl (by decide +kernel) ⟨Nat.le_of_ble_eq_true rfl, Nat.le_of_ble_eq_true rfl⟩) (nw_preV (q0 := 3) (ci := 6) (q := (R_Row, F_Row, 2)) hK hP [3, 4] [0] rfl rfl rfl rfl) rfl rfl hl.1 rfl (lv_room (Nat.le_of_ble_eq_true rfl)) d_WL_compare_52 ⟨Nat.le_of_ble_eq_true rfl, Nat.le_of_ble_eq_true rfl⟩)) (fun r her => ?_)
      subst her
      refine lv_isub hx hb d_WL_compare_55 ?_
      exact W.iret (v := (nI (C (st i + k))) - (nI (c2 k))) hx hb hr (fun t ht hW => ⟨_, rfl, by rw [he, nw_cmp_stop (by omega) hq], ht⟩) (fun q hq => by cases hq) d_WL_compare_56

set_option maxHeartbeats 4000000 in
set_option maxRecDepth 100000 in
theorem c_WL_placeOf (l : Launch) (dC : Nat → ClassId) (dI : Nat → Nat → Nat) (cB cI : ClassId) (h a b n : Nat) (C st : Nat → Nat) (h2 a2 n2 : Nat) (c2 : Nat → Nat) (hn0 : n ≤ 1000) (hn : n2 ≤ 60) (hm : ∀ i, i < n → st i ≤ st (i + 1) ∧ st (i + 1) ≤ 12000 ∧ st (i + 1) - st i ≤ 60) (hC : ∀ j, C j < 128) (hc : ∀ j, c2 j < 128) (hmono : ∀ i j, i < j → j < n → nw_cm (fun k => C (st j + k)) (st (j + 1) - st j) c2 n2 < 0 → nw_cm (fun k => C (st i + k)) (st (i + 1) - st i) c2 n2 < 0) : Met l y_WL_placeOf w_WL_placeOf ({ frames := 2, cells := 0, slots := 0, locals := 47 }) (nw_Pr [.ref h, .ref h2] (dC, dI) nw_cls [(cB, .byte), (cI, .int)] [(h, .inr (7, [.ref a, .ref b, .int (nI n)])), (a, nw_ai cB 12000 C), (b, nw_ai cI 1001 st), (h2, .inr (6, [.ref a2, .int (nI n2)])), (a2, nw_ai cB 60 c2)]) (vp_Si (fun r => ∃ p, r = nI p ∧ p ≤ n ∧ (∀ i, i < p → nw_cm (fun k => C (st i + k)) (st (i + 1) - st i) c2 n2 < 0) ∧ ∀ i, p ≤ i → i < n → ¬ nw_cm (fun k => C (st i + k)) (st (i + 1) - st i) c2 n2 < 0)) 0 0 (fun _ => False) := by
  refine Met.ofW (cc := b_WL_placeOf) (maxL := 4) (ret := (some .int)) (by decide) rfl ?_
  intro p e s m args below meth cd s₁ B hml hv0
  obtain ⟨rfl, hP, hK⟩ := hv0
  have hx := B.exec
  have hb := B.bytes
  have hr := B.returns
  have hts := atoms_spec (ws := w_WL_placeOf) B.pre
  have hown : s.vm.findClass R_WL = some m.cls := findClass_of_methodNamed B.named
  have hlocks := B.notSynchronized
  have hl := lv_entry ([.ref h, .ref h2]) (n := 4) (Nat.le_of_ble_eq_true rfl)
  rw [lg_entry_eq]
  generalize (lg_sl ([.ref h, .ref h2]) ++ List.replicate (4 - (lg_sl ([.ref h, .ref h2])).length) Slot.unset).toArray = ls at hl ⊢
  have hl : lv_has ls 4 [(0, .ref h), (1, .ref h2)] := hl
  refine lv_iconst (v := nI 0) hx hb d_WL_placeOf_0 (by decide) ?_
  refine lv_istore_n hx hb d_WL_placeOf_1 rfl hl (by decide) rfl (fun ls hl => ?_)
  replace hl : lv_has ls 4 [(2, .int (nI 0)), (0, .ref h), (1, .ref h2)] := hl
  refine lv_sipush (v := nI 512) hx hb d_WL_placeOf_2 (by decide) ?_
  refine lv_istore_n hx hb d_WL_placeOf_5 rfl hl (by decide) rfl (fun ls hl => ?_)
  replace hl : lv_has ls 4 [(3, .int (nI 512)), (2, .int (nI 0)), (0, .ref h), (1, .ref h2)] := hl
  refine nw_loopR (σ := Nat × Nat) (fun x => match x with | (k, pl) => k ≤ 10 ∧ pl ≤ n ∧ (∀ i, i < pl → nw_cm (fun k => C (st i + k)) (st (i + 1) - st i) c2 n2 < 0) ∧ ∀ i, pl + (2 ^ k - 1) ≤ i → i < n → ¬ nw_cm (fun k => C (st i + k)) (st (i + 1) - st i) c2 n2 < 0) (fun x => match x with | (k, pl) => [(3, .int (nI (2 ^ k / 2))), (2, .int (nI pl)), (1, .ref h2), (0, .ref h)]) (fun x => match x with | (k, pl) => k) (fun x hI ih ls hl => ?_) (10, 0) (⟨Nat.le_refl _, Nat.zero_le _, fun i h => absurd h (Nat.not_lt_zero i), fun i h1 h2 => by omega⟩) (lv_sub hl [0, 1, 3, 2] rfl)
  obtain ⟨k, pl⟩ := x
  replace hI : k ≤ 10 ∧ pl ≤ n ∧ (∀ i, i < pl → nw_cm (fun k => C (st i + k)) (st (i + 1) - st i) c2 n2 < 0) ∧ ∀ i, pl + (2 ^ k - 1) ≤ i → i < n → ¬ nw_cm (fun k => C (st i + k)) (st (i + 1) - st i) c2 n2 < 0 := hI
  replace hl : lv_has ls 4 [(3, .int (nI (2 ^ k / 2))), (2, .int (nI pl)), (1, .ref h2), (0, .ref h)] := hl
  obtain ⟨hk, hpl, ha, hz⟩ := hI
  rcases Nat.eq_zero_or_pos k with hk0 | hk0
  · subst hk0
    have hl : lv_has ls 4 [(3, .int (nI 0)), (2, .int (nI pl)), (1, .ref h2), (0, .ref h)] := hl
    refine lv_iload_n hx hb d_WL_placeOf_6 rfl (lv_at hl 0 rfl) ?_
    refine lv_if_le hx hb d_WL_placeOf_7 (tgt := 44) (by decide) (fun hc1 => ?_) (fun hc1 => ?_)
    · rw [nw_le0 (by omega)] at hc1
      refine lv_iload_n hx hb d_WL_placeOf_44 rfl (lv_at hl 1 rfl) ?_
      exact W.iret (v := nI pl) hx hb hr (fun t ht hW => ⟨_, rfl, ⟨pl, rfl, hpl, ha, fun i h1 h2 => hz i (by simpa using h1) h2⟩, ht⟩) (fun q hq => by cases hq) d_WL_placeOf_45
    · rw [nw_le0 (by omega)] at hc1
      omega
  · obtain ⟨k1, rfl⟩ : ∃ k1, k = k1 + 1 := ⟨k - 1, by omega⟩
    have hS1 : 1 ≤ 2 ^ k1 := Nat.one_le_two_pow
    have hS2 : 2 ^ k1 ≤ 2 ^ 9 := Nat.pow_le_pow_right (by decide) (by omega)
    have hS4 : (2 : Nat) ^ 9 = 512 := by decide
    have hS3 : 2 ^ (k1 + 1) = 2 * 2 ^ k1 := by rw [Nat.pow_succ]; omega
    have hS5 : 2 ^ (k1 + 1) / 2 = 2 ^ k1 := by omega
    rw [hS5] at hl
    have hl : lv_has ls 4 [(3, .int (nI (2 ^ k1))), (2, .int (nI pl)), (1, .ref h2), (0, .ref h)] := hl
    refine lv_iload_n hx hb d_WL_placeOf_6 rfl (lv_at hl 0 rfl) ?_
    refine lv_if_le hx hb d_WL_placeOf_7 (tgt := 44) (by decide) (fun hc1 => ?_) (fun hc1 => ?_)
    · rw [nw_le0 (by omega)] at hc1
      omega
    · rw [nw_le0 (by omega)] at hc1
      refine lv_iload_n hx hb d_WL_placeOf_10 rfl (lv_at hl 1 rfl) ?_
      refine lv_iload_n hx hb d_WL_placeOf_11 rfl (lv_at hl 0 rfl) ?_
      refine lv_iadd hx hb d_WL_placeOf_12 ?_
      refine nw_ti (nI_add pl (2 ^ k1)) ?_
      refine lv_aload_n hx hb d_WL_placeOf_13 rfl (lv_at hl 3 rfl) ?_
      refine va_get (D := (dC, dI)) (ci := 7) (v := .int (nI n)) (C := R_WL) (T := F_WL) (N := 3) hx hb hts hin_WL hown hK hP 0 rfl rfl 2 (by decide) (hts _ (nw_mc 6 rfl)) (fun _ h9 => h9) rfl d_WL_placeOf_14 ?_
      refine lv_icmp_gt hx hb d_WL_placeOf_17 (tgt := 37) (by decide) (fun hc2 => ?_) (fun hc2 => ?_)
      · rw [nI_ltI (by omega) (by omega)] at hc2
        refine lv_iload_n hx hb d_WL_placeOf_37 rfl (lv_at hl 0 rfl) ?_
        refine lv_iconst (v := nI 2) hx hb d_WL_placeOf_38 (by decide) ?_
        refine lv_idiv hx hb d_WL_placeOf_39 (by decide) ?_
        refine nw_ti (pk_div (a := (2 ^ k1)) (d := 2) (by omega) (by decide) (by decide)) ?_
        refine lv_istore_n hx hb d_WL_placeOf_40 rfl hl (by decide) rfl (fun ls hl => ?_)
        replace hl : lv_has ls 4 [(3, .int (nI ((2 ^ k1) / 2))), (2, .int (nI pl)), (1, .ref h2), (0, .ref h)] := hl
        refine lv_goto hx hb d_WL_placeOf_41 (tgt := 6) (by decide) ?_
        exact ih (k1, pl) (⟨by omega, hpl, ha, fun i h1 h2 => by omega⟩) (Nat.lt_succ_self _) _ hl
      · rw [nI_ltI (by omega) (by omega)] at hc2
        refine lv_aload_n hx hb d_WL_placeOf_20 rfl (lv_at hl 3 rfl) ?_
        refine lv_iload_n hx hb d_WL_placeOf_21 rfl (lv_at hl 1 rfl) ?_
        refine lv_iload_n hx hb d_WL_placeOf_22 rfl (lv_at hl 0 rfl) ?_
        refine lv_iadd hx hb d_WL_placeOf_23 ?_
        refine nw_ti (nI_add pl (2 ^ k1)) ?_
        refine lv_iconst (v := nI 1) hx hb d_WL_placeOf_24 (by decide) ?_
        refine lv_isub hx hb d_WL_placeOf_25 ?_
        refine nw_ti (pk_sub (a := (pl + (2 ^ k1))) (b := 1) (by omega)) ?_
        refine nw_ti (y := nI (pl + 2 ^ k1 - 1)) (congrArg nI (show (pl + (2 ^ k1)) - 1 = pl + 2 ^ k1 - 1 by omega)) ?_
        refine lv_aload_n hx hb d_WL_placeOf_26 rfl (lv_at hl 2 rfl) ?_
        have hmm := hm (pl + 2 ^ k1 - 1) (by omega)
        refine vp_callSi (va_Run.run (va_runV (As := [.int (nI (pl + 2 ^ k1 - 1)), .ref h2]) (rest := []) ⟨hx, hb, hml, hown, hts⟩ (c_WL_compare l dC dI cB cI h a b n C st h2 a2 n2 c2 (pl + 2 ^ k1 - 1) (by omega) hmm (by omega) hC hc) (cwV (C := R_WL) 2 hts (nw_GV (nw_m 34 rfl) (nw_m 35 rfl) (nw_m 36 rfl) (nw_m 12 rfl) (nw_m 37 rfl)) rfl rfl rfl (by decide +kernel) ⟨Nat.le_of_ble_eq_true rfl, Nat.le_of_ble_eq_true rfl⟩) (nw_preV (q0 := 0) (ci := 7) (q := (R_WL, F_WL, 3)) hK hP [0, 1, 2, 3, 4] [0, 1] rfl rfl rfl rfl) rfl rfl hl.1 rfl (lv_room (Nat.le_of_ble_eq_true rfl)) d_WL_placeOf_27 ⟨Nat.le_of_ble_eq_true rfl, Nat.le_of_ble_eq_true rfl⟩)) (fun r her => ?_)
        subst her
        refine lv_if_ge hx hb d_WL_placeOf_30 (tgt := 37) (by decide) (fun hc3 => ?_) (fun hc3 => ?_)
        · refine lv_iload_n hx hb d_WL_placeOf_37 rfl (lv_at hl 0 rfl) ?_
          refine lv_iconst (v := nI 2) hx hb d_WL_placeOf_38 (by decide) ?_
          refine lv_idiv hx hb d_WL_placeOf_39 (by decide) ?_
          refine nw_ti (pk_div (a := (2 ^ k1)) (d := 2) (by omega) (by decide) (by decide)) ?_
          refine lv_istore_n hx hb d_WL_placeOf_40 rfl hl (by decide) rfl (fun ls hl => ?_)
          replace hl : lv_has ls 4 [(3, .int (nI ((2 ^ k1) / 2))), (2, .int (nI pl)), (1, .ref h2), (0, .ref h)] := hl
          refine lv_goto hx hb d_WL_placeOf_41 (tgt := 6) (by decide) ?_
          exact ih (k1, pl) (⟨by omega, hpl, ha, fun i h1 h2 h3 => by
            rcases Nat.lt_or_ge (pl + 2 ^ k1 - 1) i with q | q
            · exact Int32.not_lt.mpr hc3 (hmono _ _ q h2 h3)
            · rw [show i = pl + 2 ^ k1 - 1 by omega] at h3; exact Int32.not_lt.mpr hc3 h3⟩) (Nat.lt_succ_self _) _ hl
        · have hc4 := Int32.not_le.mp hc3
          refine lv_iload_n hx hb d_WL_placeOf_33 rfl (lv_at hl 1 rfl) ?_
          refine lv_iload_n hx hb d_WL_placeOf_34 rfl (lv_at hl 0 rfl) ?_
          refine lv_iadd hx hb d_WL_placeOf_35 ?_
          refine nw_ti (nI_add pl (2 ^ k1)) ?_
          refine nw_ti (y := nI (pl + 2 ^ k1)) (congrArg nI (show pl + (2 ^ k1) = pl + 2 ^ k1 by omega)) ?_
          refine lv_istore_n hx hb d_WL_placeOf_36 rfl hl (by decide) rfl (fun ls hl => ?_)
          replace hl : lv_has ls 4 [(2, .int (nI (pl + 2 ^ k1))), (3, .int (nI (2 ^ k1))), (1, .ref h2), (0, .ref h)] := hl
          refine lv_iload_n hx hb d_WL_placeOf_37 rfl (lv_at hl 1 rfl) ?_
          refine lv_iconst (v := nI 2) hx hb d_WL_placeOf_38 (by decide) ?_
          refine lv_idiv hx hb d_WL_placeOf_39 (by decide) ?_
          refine nw_ti (pk_div (a := (2 ^ k1)) (d := 2) (by omega) (by decide) (by decide)) ?_
          refine lv_istore_n hx hb d_WL_placeOf_40 rfl hl (by decide) rfl (fun ls hl => ?_)
          replace hl : lv_has ls 4 [(3, .int (nI ((2 ^ k1) / 2))), (2, .int (nI (pl + 2 ^ k1))), (1, .ref h2), (0, .ref h)] := hl
          refine lv_goto hx hb d_WL_placeOf_41 (tgt := 6) (by decide) ?_
          exact ih (k1, pl + 2 ^ k1) (⟨by omega, by omega, fun i h1 => by
            rcases Nat.lt_or_ge i (pl + 2 ^ k1 - 1) with q | q
            · exact hmono _ _ q (by omega) hc4
            · rw [show i = pl + 2 ^ k1 - 1 by omega]; exact hc4, fun i h1 h2 => hz i (by omega) h2⟩) (Nat.lt_succ_self _) _ hl

set_option maxHeartbeats 4000000 in
set_option maxRecDepth 100000 in
theorem c_WL_isAt (l : Launch) (dC : Nat → ClassId) (dI : Nat → Nat → Nat) (cB cI : ClassId) (h a b n : Nat) (C st : Nat → Nat) (h2 a2 n2 : Nat) (c2 : Nat → Nat) (pl : Nat) (hpl : pl ≤ 1000) (hn0 : n ≤ 1000) (hm : pl < n → st pl ≤ st (pl + 1) ∧ st (pl + 1) ≤ 12000 ∧ st (pl + 1) - st pl ≤ 60) (hn : n2 ≤ 60) (hC : ∀ j, C j < 128) (hc : ∀ j, c2 j < 128) : Met l y_WL_isAt w_WL_isAt ({ frames := 2, cells := 0, slots := 0, locals := 47 }) (nw_Pr [.ref h, .int (nI pl), .ref h2] (dC, dI) nw_cls [(cB, .byte), (cI, .int)] [(h, .inr (7, [.ref a, .ref b, .int (nI n)])), (a, nw_ai cB 12000 C), (b, nw_ai cI 1001 st), (h2, .inr (6, [.ref a2, .int (nI n2)])), (a2, nw_ai cB 60 c2)]) (vp_Si (fun r => (r = nI 1 ∧ pl < n ∧ nw_cm (fun k => C (st pl + k)) (st (pl + 1) - st pl) c2 n2 = 0) ∨ (r = nI 0 ∧ ¬ (pl < n ∧ nw_cm (fun k => C (st pl + k)) (st (pl + 1) - st pl) c2 n2 = 0)))) 0 0 (fun _ => False) := by
  refine Met.ofW (cc := b_WL_isAt) (maxL := 3) (ret := (some .boolean)) (by decide) rfl ?_
  intro p e s m args below meth cd s₁ B hml hv0
  obtain ⟨rfl, hP, hK⟩ := hv0
  have hx := B.exec
  have hb := B.bytes
  have hr := B.returns
  have hts := atoms_spec (ws := w_WL_isAt) B.pre
  have hown : s.vm.findClass R_WL = some m.cls := findClass_of_methodNamed B.named
  have hlocks := B.notSynchronized
  have hl := lv_entry ([.ref h, .int (nI pl), .ref h2]) (n := 3) (Nat.le_of_ble_eq_true rfl)
  rw [lg_entry_eq]
  generalize (lg_sl ([.ref h, .int (nI pl), .ref h2]) ++ List.replicate (3 - (lg_sl ([.ref h, .int (nI pl), .ref h2])).length) Slot.unset).toArray = ls at hl ⊢
  have hl : lv_has ls 3 [(0, .ref h), (1, .int (nI pl)), (2, .ref h2)] := hl
  refine lv_iload_n hx hb d_WL_isAt_0 rfl (lv_at hl 1 rfl) ?_
  refine lv_aload_n hx hb d_WL_isAt_1 rfl (lv_at hl 0 rfl) ?_
  refine va_get (D := (dC, dI)) (ci := 7) (v := .int (nI n)) (C := R_WL) (T := F_WL) (N := 3) hx hb hts hin_WL hown hK hP 0 rfl rfl 2 (by decide) (hts _ (nw_mc 6 rfl)) (fun _ h9 => h9) rfl d_WL_isAt_2 ?_
  refine lv_icmp_ge hx hb d_WL_isAt_5 (tgt := 21) (by decide) (fun hc1 => ?_) (fun hc1 => ?_)
  · rw [nI_leI (by omega) (by omega)] at hc1
    refine lv_iconst (v := nI 0) hx hb d_WL_isAt_21 (by decide) ?_
    exact W.zret (v := nI 0) hx hb hr rfl (fun t ht hW => ⟨_, rfl, Or.inr ⟨rfl, fun q => by omega⟩, ht⟩) (fun q hq => by cases hq) d_WL_isAt_22
  · rw [nI_leI (by omega) (by omega)] at hc1
    refine lv_aload_n hx hb d_WL_isAt_8 rfl (lv_at hl 0 rfl) ?_
    refine lv_iload_n hx hb d_WL_isAt_9 rfl (lv_at hl 1 rfl) ?_
    refine lv_aload_n hx hb d_WL_isAt_10 rfl (lv_at hl 2 rfl) ?_
    refine vp_callSi (va_Run.run (va_runV (As := [.int (nI pl), .ref h2]) (rest := []) ⟨hx, hb, hml, hown, hts⟩ (c_WL_compare l dC dI cB cI h a b n C st h2 a2 n2 c2 pl (by omega) (hm (by omega)) (by omega) hC hc) (cwV (C := R_WL) 2 hts (nw_GV (nw_m 34 rfl) (nw_m 35 rfl) (nw_m 36 rfl) (nw_m 12 rfl) (nw_m 37 rfl)) rfl rfl rfl (by decide +kernel) ⟨Nat.le_of_ble_eq_true rfl, Nat.le_of_ble_eq_true rfl⟩) (nw_preV (q0 := 0) (ci := 7) (q := (R_WL, F_WL, 3)) hK hP [0, 1, 2, 3, 4] [0, 1] rfl rfl rfl rfl) rfl rfl hl.1 rfl (lv_room (Nat.le_of_ble_eq_true rfl)) d_WL_isAt_11 ⟨Nat.le_of_ble_eq_true rfl, Nat.le_of_ble_eq_true rfl⟩)) (fun r her => ?_)
    subst her
    refine lv_if_ne hx hb d_WL_isAt_14 (tgt := 21) (by decide) (fun hc2 => ?_) (fun hc2 => ?_)
    · refine lv_iconst (v := nI 0) hx hb d_WL_isAt_21 (by decide) ?_
      exact W.zret (v := nI 0) hx hb hr rfl (fun t ht hW => ⟨_, rfl, Or.inr ⟨rfl, fun q => hc2 q.2⟩, ht⟩) (fun q hq => by cases hq) d_WL_isAt_22
    · refine lv_iconst (v := nI 1) hx hb d_WL_isAt_17 (by decide) ?_
      refine lv_goto hx hb d_WL_isAt_18 (tgt := 22) (by decide) ?_
      exact W.zret (v := nI 1) hx hb hr rfl (fun t ht hW => ⟨_, rfl, Or.inl ⟨rfl, by omega, hc2⟩, ht⟩) (fun q hq => by cases hq) d_WL_isAt_22

set_option maxHeartbeats 4000000 in
set_option maxRecDepth 100000 in
theorem c_WL_hasRoomFor (l : Launch) (dC : Nat → ClassId) (dI : Nat → Nat → Nat) (cI : ClassId) (h a b n : Nat) (st : Nat → Nat) (h2 a2 n2 : Nat) (hn0 : n ≤ 1000) (hst : st n ≤ 12000) (hn : n2 ≤ 60) : Met l y_WL_hasRoomFor w_WL_hasRoomFor ({ frames := 1, cells := 0, slots := 0, locals := 20 }) (nw_Pr [.ref h, .ref h2] (dC, dI) nw_cls [(cI, .int)] [(h, .inr (7, [.ref a, .ref b, .int (nI n)])), (b, nw_ai cI 1001 st), (h2, .inr (6, [.ref a2, .int (nI n2)]))]) (vp_Si (fun r => r = nI (if n < 1000 ∧ st n + n2 ≤ 12000 then 1 else 0))) 0 0 (fun _ => False) := by
  refine Met.ofW (cc := b_WL_hasRoomFor) (maxL := 2) (ret := (some .boolean)) (by decide) rfl ?_
  intro p e s m args below meth cd s₁ B hml hv0
  obtain ⟨rfl, hP, hK⟩ := hv0
  have hx := B.exec
  have hb := B.bytes
  have hr := B.returns
  have hts := atoms_spec (ws := w_WL_hasRoomFor) B.pre
  have hown : s.vm.findClass R_WL = some m.cls := findClass_of_methodNamed B.named
  have hlocks := B.notSynchronized
  have hl := lv_entry ([.ref h, .ref h2]) (n := 2) (Nat.le_of_ble_eq_true rfl)
  rw [lg_entry_eq]
  generalize (lg_sl ([.ref h, .ref h2]) ++ List.replicate (2 - (lg_sl ([.ref h, .ref h2])).length) Slot.unset).toArray = ls at hl ⊢
  have hl : lv_has ls 2 [(0, .ref h), (1, .ref h2)] := hl
  refine lv_aload_n hx hb d_WL_hasRoomFor_0 rfl (lv_at hl 0 rfl) ?_
  refine va_get (D := (dC, dI)) (ci := 7) (v := .int (nI n)) (C := R_WL) (T := F_WL) (N := 3) hx hb hts hin_WL hown hK hP 0 rfl rfl 2 (by decide) (hts _ (nw_mc 6 rfl)) (fun _ h9 => h9) rfl d_WL_hasRoomFor_1 ?_
  refine lv_sipush (v := nI 1000) hx hb d_WL_hasRoomFor_4 (by decide) ?_
  refine lv_icmp_ge hx hb d_WL_hasRoomFor_7 (tgt := 29) (by decide) (fun hc1 => ?_) (fun hc1 => ?_)
  · rw [nI_leI (by omega) (by omega)] at hc1
    refine lv_iconst (v := nI 0) hx hb d_WL_hasRoomFor_29 (by decide) ?_
    exact W.zret (v := nI 0) hx hb hr rfl (fun t ht hW => ⟨_, rfl, by rw [if_neg (by omega)], ht⟩) (fun q hq => by cases hq) d_WL_hasRoomFor_30
  · rw [nI_leI (by omega) (by omega)] at hc1
    refine lv_aload_n hx hb d_WL_hasRoomFor_10 rfl (lv_at hl 0 rfl) ?_
    refine vp_callSi (va_Run.run (va_runV (As := []) (rest := []) ⟨hx, hb, hml, hown, hts⟩ (c_WL_characters l dC dI cI h a b n st (by omega)) (cwV (C := R_WL) 0 hts (nw_GV (nw_m 38 rfl) (nw_m 39 rfl) (nw_m 40 rfl) (nw_m 12 rfl) (nw_m 41 rfl)) rfl rfl rfl (by decide +kernel) ⟨Nat.le_of_ble_eq_true rfl, Nat.le_of_ble_eq_true rfl⟩) (nw_preV (q0 := 0) (ci := 7) (q := (R_WL, F_WL, 3)) hK hP [0, 1] [0] rfl rfl rfl rfl) rfl rfl hl.1 rfl (lv_room (Nat.le_of_ble_eq_true rfl)) d_WL_hasRoomFor_11 ⟨Nat.le_of_ble_eq_true rfl, Nat.le_of_ble_eq_true rfl⟩)) (fun r her => ?_)
    subst her
    refine lv_aload_n hx hb d_WL_hasRoomFor_14 rfl (lv_at hl 1 rfl) ?_
    refine vp_callSi (va_Run.run (va_runV (As := []) (rest := [.int (nI (st n))]) ⟨hx, hb, hml, hown, hts⟩ (c_Row_length l dC dI h2 a2 n2) (cwV (C := R_Row) 0 hts (nw_GV (nw_m 18 rfl) (nw_m 19 rfl) (nw_m 20 rfl) (nw_m 21 rfl) (nw_m 22 rfl)) rfl rfl rfl (by decide +kernel) ⟨Nat.le_of_ble_eq_true rfl, Nat.le_of_ble_eq_true rfl⟩) (nw_preV (q0 := 2) (ci := 6) (q := (R_Row, F_Row, 2)) hK hP [2] [] rfl rfl rfl rfl) rfl rfl hl.1 rfl (lv_room (Nat.le_of_ble_eq_true rfl)) d_WL_hasRoomFor_15 ⟨Nat.le_of_ble_eq_true rfl, Nat.le_of_ble_eq_true rfl⟩)) (fun r her => ?_)
    subst her
    refine lv_iadd hx hb d_WL_hasRoomFor_18 ?_
    refine nw_ti (nI_add (st n) n2) ?_
    refine lv_sipush (v := nI 12000) hx hb d_WL_hasRoomFor_19 (by decide) ?_
    refine lv_icmp_gt hx hb d_WL_hasRoomFor_22 (tgt := 29) (by decide) (fun hc2 => ?_) (fun hc2 => ?_)
    · rw [nI_ltI (by omega) (by omega)] at hc2
      refine lv_iconst (v := nI 0) hx hb d_WL_hasRoomFor_29 (by decide) ?_
      exact W.zret (v := nI 0) hx hb hr rfl (fun t ht hW => ⟨_, rfl, by rw [if_neg (by omega)], ht⟩) (fun q hq => by cases hq) d_WL_hasRoomFor_30
    · rw [nI_ltI (by omega) (by omega)] at hc2
      refine lv_iconst (v := nI 1) hx hb d_WL_hasRoomFor_25 (by decide) ?_
      refine lv_goto hx hb d_WL_hasRoomFor_26 (tgt := 30) (by decide) ?_
      exact W.zret (v := nI 1) hx hb hr rfl (fun t ht hW => ⟨_, rfl, by rw [if_pos (by omega)], ht⟩) (fun q hq => by cases hq) d_WL_hasRoomFor_30

set_option maxHeartbeats 4000000 in
set_option maxRecDepth 100000 in
theorem c_WL_insertAt (l : Launch) (dC : Nat → ClassId) (dI : Nat → Nat → Nat) (sz : Nat) (cB cI : ClassId) (h a b n : Nat) (C st : Nat → Nat) (h2 a2 n2 : Nat) (c2 : Nat → Nat) (pl : Nat) (hpl : pl ≤ n) (hn0 : n < 1000) (hst : st pl ≤ st n) (hroom : st n + n2 ≤ 12000) (hs : ∀ x, x ≤ n → st x ≤ 12000) (hn : n2 ≤ 60) (hC : ∀ j, C j < 128) (hc : ∀ j, c2 j < 128) : Met l y_WL_insertAt w_WL_insertAt ({ frames := 2, cells := 0, slots := 0, locals := 40 }) (nw_Pw [.ref h, .int (nI pl), .ref h2] (dC, dI) nw_cls [(cB, .byte), (cI, .int)] [(h, .inr (7, [.ref a, .ref b, .int (nI n)])), (a, nw_ai cB 12000 C), (b, nw_ai cI 1001 st), (h2, .inr (6, [.ref a2, .int (nI n2)])), (a2, nw_ai cB 60 c2)] sz) (va_Qv (fun _ : Unit => True) (nw_B (dC, dI) nw_cls (va_A [(h, .inr (7, [.ref a, .ref b, .int (nI n)])), (a, nw_ai cB 12000 C), (b, nw_ai cI 1001 st), (h2, .inr (6, [.ref a2, .int (nI n2)])), (a2, nw_ai cB 60 c2)] sz) (fun _ : Unit => [(h, .inr (7, [.ref a, .ref b, .int (nI (n + 1))])), (a, nw_ai cB 12000 (va_cpy c2 (va_cpy C C (st pl) (st pl + n2) (st n - st pl)) 0 (st pl) n2)), (b, nw_ai cI 1001 (nw_ins st pl n n2)), (h2, .inr (6, [.ref a2, .int (nI n2)])), (a2, nw_ai cB 60 c2)])) (va_A [(h, .inr (7, [.ref a, .ref b, .int (nI n)])), (a, nw_ai cB 12000 C), (b, nw_ai cI 1001 st), (h2, .inr (6, [.ref a2, .int (nI n2)])), (a2, nw_ai cB 60 c2)] sz)) 0 0 (va_A [(h, .inr (7, [.ref a, .ref b, .int (nI n)])), (a, nw_ai cB 12000 C), (b, nw_ai cI 1001 st), (h2, .inr (6, [.ref a2, .int (nI n2)])), (a2, nw_ai cB 60 c2)] sz) := by
  refine Met.ofW (cc := b_WL_insertAt) (maxL := 6) (ret := none) (by decide) rfl ?_
  intro p e s m args below meth cd s₁ B hml hv0
  obtain ⟨rfl, hsz, hP, hK, hD0⟩ := hv0
  have hx := B.exec
  have hb := B.bytes
  have hr := B.returns
  have hts := atoms_spec (ws := w_WL_insertAt) B.pre
  have hown : s.vm.findClass R_WL = some m.cls := findClass_of_methodNamed B.named
  have hlocks := B.notSynchronized
  subst hsz
  have hD := hD0.self (sz := s.heap.size)
  generalize hAe : va_A [(h, .inr (7, [.ref a, .ref b, .int (nI n)])), (a, nw_ai cB 12000 C), (b, nw_ai cI 1001 st), (h2, .inr (6, [.ref a2, .int (nI n2)])), (a2, nw_ai cB 60 c2)] s.heap.size = A at hD ⊢
  have hA : ∀ q : Nat, s.heap.size ≤ q → A q := fun q h => by rw [← hAe]; exact Or.inr h
  have hS : va_S A s.heap s.heap [] := va_S.rf
  have hl := lv_entry ([.ref h, .int (nI pl), .ref h2]) (n := 6) (Nat.le_of_ble_eq_true rfl)
  rw [lg_entry_eq]
  generalize (lg_sl ([.ref h, .int (nI pl), .ref h2]) ++ List.replicate (6 - (lg_sl ([.ref h, .int (nI pl), .ref h2])).length) Slot.unset).toArray = ls at hl ⊢
  have hl : lv_has ls 6 [(0, .ref h), (1, .int (nI pl)), (2, .ref h2)] := hl
  refine lv_aload_n hx hb d_WL_insertAt_0 rfl (lv_at hl 0 rfl) ?_
  refine va_get (D := (dC, dI)) (ci := 7) (v := .ref b) (C := R_WL) (T := F_WL) (N := 3) hx hb hts hin_WL hown hK hP 0 rfl rfl 1 (by decide) (hts _ (nw_mc 7 rfl)) (fun _ h9 => h9) rfl d_WL_insertAt_1 ?_
  refine lv_iload_n hx hb d_WL_insertAt_4 rfl (lv_at hl 1 rfl) ?_
  refine nw_iald hx hb hK hP 2 1 rfl rfl (k := pl) (by omega) (by first | decide | omega) d_WL_insertAt_5 ?_
  refine lv_istore_n hx hb d_WL_insertAt_6 rfl hl (by decide) rfl (fun ls hl => ?_)
  replace hl : lv_has ls 6 [(3, .int (nI (st pl))), (0, .ref h), (1, .int (nI pl)), (2, .ref h2)] := hl
  refine lv_aload_n hx hb d_WL_insertAt_7 rfl (lv_at hl 3 rfl) ?_
  refine vp_callSi (va_Run.run (va_runV (As := []) (rest := []) ⟨hx, hb, hml, hown, hts⟩ (c_Row_length l dC dI h2 a2 n2) (cwV (C := R_Row) 0 hts (nw_GV (nw_m 18 rfl) (nw_m 19 rfl) (nw_m 20 rfl) (nw_m 21 rfl) (nw_m 22 rfl)) rfl rfl rfl (by decide +kernel) ⟨Nat.le_of_ble_eq_true rfl, Nat.le_of_ble_eq_true rfl⟩) (nw_preV (q0 := 3) (ci := 6) (q := (R_Row, F_Row, 2)) hK hP [3] [] rfl rfl rfl rfl) rfl rfl hl.1 rfl (lv_room (Nat.le_of_ble_eq_true rfl)) d_WL_insertAt_8 ⟨Nat.le_of_ble_eq_true rfl, Nat.le_of_ble_eq_true rfl⟩)) (fun r her => ?_)
  subst her
  refine lv_istore hx hb d_WL_insertAt_11 hl (by decide) rfl (fun ls hl => ?_)
  replace hl : lv_has ls 6 [(4, .int (nI n2)), (3, .int (nI (st pl))), (0, .ref h), (1, .int (nI pl)), (2, .ref h2)] := hl
  refine lv_aload_n hx hb d_WL_insertAt_13 rfl (lv_at hl 2 rfl) ?_
  refine va_get (D := (dC, dI)) (ci := 7) (v := .ref a) (C := R_WL) (T := F_WL) (N := 3) hx hb hts hin_WL hown hK hP 0 rfl rfl 0 (by decide) (hts _ (nw_mc 8 rfl)) (fun _ h9 => h9) rfl d_WL_insertAt_14 ?_
  refine lv_iload_n hx hb d_WL_insertAt_17 rfl (lv_at hl 1 rfl) ?_
  refine lv_aload_n hx hb d_WL_insertAt_18 rfl (lv_at hl 2 rfl) ?_
  refine va_get (D := (dC, dI)) (ci := 7) (v := .ref a) (C := R_WL) (T := F_WL) (N := 3) hx hb hts hin_WL hown hK hP 0 rfl rfl 0 (by decide) (hts _ (nw_mc 8 rfl)) (fun _ h9 => h9) rfl d_WL_insertAt_19 ?_
  refine lv_iload_n hx hb d_WL_insertAt_22 rfl (lv_at hl 1 rfl) ?_
  refine lv_iload hx hb d_WL_insertAt_23 (lv_at hl 0 rfl) ?_
  refine lv_iadd hx hb d_WL_insertAt_25 ?_
  refine nw_ti (nI_add (st pl) n2) ?_
  refine lv_aload_n hx hb d_WL_insertAt_26 rfl (lv_at hl 2 rfl) ?_
  refine vp_callSi (va_Run.run (va_runV (As := []) (rest := [.int (nI ((st pl) + n2)), .ref a, .int (nI (st pl)), .ref a]) ⟨hx, hb, hml, hown, hts⟩ (c_WL_characters l dC dI cI h a b n st (by omega)) (cwV (C := R_WL) 0 hts (nw_GV (nw_m 38 rfl) (nw_m 39 rfl) (nw_m 40 rfl) (nw_m 12 rfl) (nw_m 41 rfl)) rfl rfl rfl (by decide +kernel) ⟨Nat.le_of_ble_eq_true rfl, Nat.le_of_ble_eq_true rfl⟩) (nw_preV (q0 := 0) (ci := 7) (q := (R_WL, F_WL, 3)) hK hP [0, 2] [1] rfl rfl rfl rfl) rfl rfl hl.1 rfl (lv_room (Nat.le_of_ble_eq_true rfl)) d_WL_insertAt_27 ⟨Nat.le_of_ble_eq_true rfl, Nat.le_of_ble_eq_true rfl⟩)) (fun r her => ?_)
  subst her
  refine lv_iload_n hx hb d_WL_insertAt_30 rfl (lv_at hl 1 rfl) ?_
  refine lv_isub hx hb d_WL_insertAt_31 ?_
  refine nw_ti (pk_sub (a := (st n)) (b := (st pl)) (by omega)) ?_
  refine nw_copyb hx hb (hml.trans hl.1.symm) hown (hts _ (nw_mc 42 rfl)) (hts _ (nw_mc 3 rfl)) (hts _ (nw_mc 4 rfl)) (hts _ (nw_mc 5 rfl)) hK hP hD hS 1 1 0 0 rfl rfl rfl rfl (sp := (st pl)) (dp := ((st pl) + n2)) (n := ((st n) - (st pl))) (by omega) (by omega) (by decide) (by decide) (fun i hi => hC _) (Nat.le_of_ble_eq_true rfl) (Nat.le_of_ble_eq_true rfl) d_WL_insertAt_32 (fun H locs hP hD hS => ?_)
  replace hP : va_P (dC, dI) nw_cls [(h, .inr (7, [.ref a, .ref b, .int (nI n)])), (a, nw_ai cB 12000 (va_cpy C C (st pl) ((st pl) + n2) ((st n) - (st pl)))), (b, nw_ai cI 1001 st), (h2, .inr (6, [.ref a2, .int (nI n2)])), (a2, nw_ai cB 60 c2)] H := hP
  replace hD : va_D A [(h, .inr (7, [.ref a, .ref b, .int (nI n)])), (a, nw_ai cB 12000 (va_cpy C C (st pl) ((st pl) + n2) ((st n) - (st pl)))), (b, nw_ai cI 1001 st), (h2, .inr (6, [.ref a2, .int (nI n2)])), (a2, nw_ai cB 60 c2)] := hD
  refine lv_aload_n hx hb d_WL_insertAt_35 rfl (lv_at hl 4 rfl) ?_
  refine lv_aload_n hx hb d_WL_insertAt_36 rfl (lv_at hl 2 rfl) ?_
  refine va_get (D := (dC, dI)) (ci := 7) (v := .ref a) (C := R_WL) (T := F_WL) (N := 3) hx hb hts hin_WL hown hK hP 0 rfl rfl 0 (by decide) (hts _ (nw_mc 8 rfl)) (fun _ h9 => h9) rfl d_WL_insertAt_37 ?_
  refine lv_iload_n hx hb d_WL_insertAt_40 rfl (lv_at hl 1 rfl) ?_
  refine nw_callv (wc := [(h2, .inr (6, [.ref a2, .int (nI n2)])), (a2, nw_ai cB 60 c2), (a, nw_ai cB 12000 (va_cpy C C (st pl) ((st pl) + n2) ((st n) - (st pl))))]) (wr := [(h, .inr (7, [.ref a, .ref b, .int (nI n)])), (b, nw_ai cI 1001 st)]) hP hD hS hA [3, 4, 1] [0, 2] rfl rfl (by decide) (by decide) (va_runV (As := [.ref a, .int (nI (st pl))]) (rest := []) ⟨hx, hb, hml, hown, hts⟩ (c_Row_copyTo l dC dI _ cB h2 a2 n2 c2 a 12000 (va_cpy C C (st pl) ((st pl) + n2) ((st n) - (st pl))) (st pl) (by omega) (by omega) (by omega) (fun i hi => hc i)) (cwV (C := R_Row) 2 hts (nw_GV (nw_m 43 rfl) (nw_m 44 rfl) (nw_m 45 rfl) (nw_m 21 rfl) (nw_m 46 rfl)) rfl rfl rfl (by decide +kernel) ⟨Nat.le_of_ble_eq_true rfl, Nat.le_of_ble_eq_true rfl⟩) (nw_prewV (q0 := 3) (ci := 6) (q := (R_Row, F_Row, 2)) hK hP hD [3, 4, 1] [0] (by decide) rfl rfl rfl rfl) rfl rfl hl.1 rfl (lv_room (Nat.le_of_ble_eq_true rfl)) d_WL_insertAt_41 ⟨Nat.le_of_ble_eq_true rfl, Nat.le_of_ble_eq_true rfl⟩) (fun _ H locs hw hP hD hS => ?_)
  replace hP : va_P (dC, dI) nw_cls [(h, .inr (7, [.ref a, .ref b, .int (nI n)])), (b, nw_ai cI 1001 st), (h2, .inr (6, [.ref a2, .int (nI n2)])), (a2, nw_ai cB 60 c2), (a, nw_ai cB 12000 (va_cpy c2 (va_cpy C C (st pl) ((st pl) + n2) ((st n) - (st pl))) 0 (st pl) n2))] H := hP
  replace hD : va_D A [(h, .inr (7, [.ref a, .ref b, .int (nI n)])), (b, nw_ai cI 1001 st), (h2, .inr (6, [.ref a2, .int (nI n2)])), (a2, nw_ai cB 60 c2), (a, nw_ai cB 12000 (va_cpy c2 (va_cpy C C (st pl) ((st pl) + n2) ((st n) - (st pl))) 0 (st pl) n2))] := hD
  refine lv_aload_n hx hb d_WL_insertAt_44 rfl (lv_at hl 2 rfl) ?_
  refine va_get (D := (dC, dI)) (ci := 7) (v := .int (nI n)) (C := R_WL) (T := F_WL) (N := 3) hx hb hts hin_WL hown hK hP 0 rfl rfl 2 (by decide) (hts _ (nw_mc 6 rfl)) (fun _ h9 => h9) rfl d_WL_insertAt_45 ?_
  refine nw_ti (y := nI (n + 1) - nI 1) ((pk_sub (a := n + 1) (b := 1) (by omega)).symm) ?_
  refine lv_istore hx hb d_WL_insertAt_48 hl (by decide) rfl (fun ls hl => ?_)
  replace hl : lv_has ls 6 [(5, .int (nI (n + 1) - nI 1)), (4, .int (nI n2)), (3, .int (nI (st pl))), (0, .ref h), (1, .int (nI pl)), (2, .ref h2)] := hl
  refine nw_loopW (σ := Nat × (Nat → Nat)) (fun x => match x with | (j, f) => pl ≤ j ∧ j ≤ n + 1 ∧ ∀ x, f x = if j < x ∧ x ≤ n + 1 then st (x - 1) + n2 else st x) (fun x => match x with | (j, f) => [(5, .int (nI j - nI 1)), (4, .int (nI n2)), (3, .int (nI (st pl))), (0, .ref h), (1, .int (nI pl)), (2, .ref h2)]) (fun x => match x with | (j, f) => [(h, .inr (7, [.ref a, .ref b, .int (nI n)])), (b, nw_ai cI 1001 f), (h2, .inr (6, [.ref a2, .int (nI n2)])), (a2, nw_ai cB 60 c2), (a, nw_ai cB 12000 (va_cpy c2 (va_cpy C C (st pl) ((st pl) + n2) ((st n) - (st pl))) 0 (st pl) n2))]) (fun x => match x with | (j, f) => j) (fun x hI ih ls H locs hl hP hD hS => ?_) (n + 1, st) (⟨by omega, Nat.le_refl _, fun x => by rw [if_neg (by omega)]⟩) hl hP hD hS
  obtain ⟨j, f⟩ := x
  replace hI : pl ≤ j ∧ j ≤ n + 1 ∧ ∀ x, f x = if j < x ∧ x ≤ n + 1 then st (x - 1) + n2 else st x := hI
  replace hl : lv_has ls 6 [(5, .int (nI j - nI 1)), (4, .int (nI n2)), (3, .int (nI (st pl))), (0, .ref h), (1, .int (nI pl)), (2, .ref h2)] := hl
  replace hP : va_P (dC, dI) nw_cls [(h, .inr (7, [.ref a, .ref b, .int (nI n)])), (b, nw_ai cI 1001 f), (h2, .inr (6, [.ref a2, .int (nI n2)])), (a2, nw_ai cB 60 c2), (a, nw_ai cB 12000 (va_cpy c2 (va_cpy C C (st pl) ((st pl) + n2) ((st n) - (st pl))) 0 (st pl) n2))] H := hP
  replace hD : va_D A [(h, .inr (7, [.ref a, .ref b, .int (nI n)])), (b, nw_ai cI 1001 f), (h2, .inr (6, [.ref a2, .int (nI n2)])), (a2, nw_ai cB 60 c2), (a, nw_ai cB 12000 (va_cpy c2 (va_cpy C C (st pl) ((st pl) + n2) ((st n) - (st pl))) 0 (st pl) n2))] := hD
  obtain ⟨hj1, hj2, hf⟩ := hI
  refine lv_iload hx hb d_WL_insertAt_50 (lv_at hl 0 rfl) ?_
  refine lv_iload_n hx hb d_WL_insertAt_52 rfl (lv_at hl 4 rfl) ?_
  refine lv_icmp_lt hx hb d_WL_insertAt_53 (tgt := 81) (by decide) (fun hc1 => ?_) (fun hc1 => ?_)
  · rw [nw_jlt (by omega) (by omega)] at hc1
    obtain rfl : f = nw_ins st pl n n2 := funext fun x => by rw [hf x, show j = pl by omega]; rfl
    replace hP : va_P (dC, dI) nw_cls [(h, .inr (7, [.ref a, .ref b, .int (nI n)])), (b, nw_ai cI 1001 (nw_ins st pl n n2)), (h2, .inr (6, [.ref a2, .int (nI n2)])), (a2, nw_ai cB 60 c2), (a, nw_ai cB 12000 (va_cpy c2 (va_cpy C C (st pl) ((st pl) + n2) ((st n) - (st pl))) 0 (st pl) n2))] H := hP
    replace hD : va_D A [(h, .inr (7, [.ref a, .ref b, .int (nI n)])), (b, nw_ai cI 1001 (nw_ins st pl n n2)), (h2, .inr (6, [.ref a2, .int (nI n2)])), (a2, nw_ai cB 60 c2), (a, nw_ai cB 12000 (va_cpy c2 (va_cpy C C (st pl) ((st pl) + n2) ((st n) - (st pl))) 0 (st pl) n2))] := hD
    refine lv_aload_n hx hb d_WL_insertAt_81 rfl (lv_at hl 3 rfl) ?_
    refine lv_dup hx hb d_WL_insertAt_82 rfl ?_
    refine va_get (D := (dC, dI)) (ci := 7) (v := .int (nI n)) (C := R_WL) (T := F_WL) (N := 3) hx hb hts hin_WL hown hK hP 0 rfl rfl 2 (by decide) (hts _ (nw_mc 6 rfl)) (fun _ h9 => h9) rfl d_WL_insertAt_83 ?_
    refine lv_iconst (v := nI 1) hx hb d_WL_insertAt_86 (by decide) ?_
    refine lv_iadd hx hb d_WL_insertAt_87 ?_
    refine nw_ti (nI_add n 1) ?_
    refine va_put (D := (dC, dI)) (ci := 7) (v := .int (nI (n + 1))) (ty := .int) (C := R_WL) (T := F_WL) (N := 3) hx hb hts hin_WL t_WL t_WL_ok n_WL hown hK hP hD hS 0 rfl rfl 2 (by decide) (hts _ (nw_mc 6 rfl)) (fun _ h9 => h9) rfl (by decide +kernel) rfl rfl (Nat.le_of_ble_eq_true rfl) d_WL_insertAt_88 (fun H locs hP hD hS => ?_)
    replace hP : va_P (dC, dI) nw_cls [(h, .inr (7, [.ref a, .ref b, .int (nI (n + 1))])), (b, nw_ai cI 1001 (nw_ins st pl n n2)), (h2, .inr (6, [.ref a2, .int (nI n2)])), (a2, nw_ai cB 60 c2), (a, nw_ai cB 12000 (va_cpy c2 (va_cpy C C (st pl) ((st pl) + n2) ((st n) - (st pl))) 0 (st pl) n2))] H := hP
    replace hD : va_D A [(h, .inr (7, [.ref a, .ref b, .int (nI (n + 1))])), (b, nw_ai cI 1001 (nw_ins st pl n n2)), (h2, .inr (6, [.ref a2, .int (nI n2)])), (a2, nw_ai cB 60 c2), (a, nw_ai cB 12000 (va_cpy c2 (va_cpy C C (st pl) ((st pl) + n2) ((st n) - (st pl))) 0 (st pl) n2))] := hD
    have hP := hP.sub (ws' := [(h, .inr (7, [.ref a, .ref b, .int (nI (n + 1))])), (a, nw_ai cB 12000 (va_cpy c2 (va_cpy C C (st pl) ((st pl) + n2) ((st n) - (st pl))) 0 (st pl) n2)), (b, nw_ai cI 1001 (nw_ins st pl n n2)), (h2, .inr (6, [.ref a2, .int (nI n2)])), (a2, nw_ai cB 60 c2)]) [0, 4, 1, 2, 3] rfl
    have hD := hD.sub (ws' := [(h, .inr (7, [.ref a, .ref b, .int (nI (n + 1))])), (a, nw_ai cB 12000 (va_cpy c2 (va_cpy C C (st pl) ((st pl) + n2) ((st n) - (st pl))) 0 (st pl) n2)), (b, nw_ai cI 1001 (nw_ins st pl n n2)), (h2, .inr (6, [.ref a2, .int (nI n2)])), (a2, nw_ai cB 60 c2)]) [0, 4, 1, 2, 3] (by decide) rfl
    exact W.vret hx hb hr (fun t ht hW => ⟨⟨(), rfl, trivial, by rw [ht]; exact hP, hD⟩, hS.F ht⟩) hS.2.2 d_WL_insertAt_91
  · rw [nw_jlt (by omega) (by omega)] at hc1
    refine lv_aload_n hx hb d_WL_insertAt_56 rfl (lv_at hl 3 rfl) ?_
    refine va_get (D := (dC, dI)) (ci := 7) (v := .ref b) (C := R_WL) (T := F_WL) (N := 3) hx hb hts hin_WL hown hK hP 0 rfl rfl 1 (by decide) (hts _ (nw_mc 7 rfl)) (fun _ h9 => h9) rfl d_WL_insertAt_57 ?_
    refine lv_iload hx hb d_WL_insertAt_60 (lv_at hl 0 rfl) ?_
    refine lv_iconst (v := nI 1) hx hb d_WL_insertAt_62 (by decide) ?_
    refine lv_iadd hx hb d_WL_insertAt_63 ?_
    refine nw_ti (y := nI j) (nw_j1 j) ?_
    refine lv_aload_n hx hb d_WL_insertAt_64 rfl (lv_at hl 3 rfl) ?_
    refine va_get (D := (dC, dI)) (ci := 7) (v := .ref b) (C := R_WL) (T := F_WL) (N := 3) hx hb hts hin_WL hown hK hP 0 rfl rfl 1 (by decide) (hts _ (nw_mc 7 rfl)) (fun _ h9 => h9) rfl d_WL_insertAt_65 ?_
    refine lv_iload hx hb d_WL_insertAt_68 (lv_at hl 0 rfl) ?_
    refine nw_ti (y := nI (j - 1)) (pk_sub (by omega)) ?_
    have hf1 := hf (j - 1)
    rw [if_neg (by omega)] at hf1
    have hs1 := hs (j - 1) (by omega)
    refine nw_iald hx hb hK hP 1 1 rfl rfl (k := (j - 1)) (by omega) (by first | decide | omega) d_WL_insertAt_70 ?_
    refine lv_iload hx hb d_WL_insertAt_71 (lv_at hl 1 rfl) ?_
    refine lv_iadd hx hb d_WL_insertAt_73 ?_
    refine nw_ti (nI_add (f (j - 1)) n2) ?_
    refine nw_iast hx hb hK hP hD hS 1 1 rfl rfl (k := j) (v := ((f (j - 1)) + n2)) (by omega) (by first | decide | omega) d_WL_insertAt_74 (fun H locs hP hD hS => ?_)
    replace hP : va_P (dC, dI) nw_cls [(h, .inr (7, [.ref a, .ref b, .int (nI n)])), (b, nw_ai cI 1001 (va_up f j ((f (j - 1)) + n2))), (h2, .inr (6, [.ref a2, .int (nI n2)])), (a2, nw_ai cB 60 c2), (a, nw_ai cB 12000 (va_cpy c2 (va_cpy C C (st pl) ((st pl) + n2) ((st n) - (st pl))) 0 (st pl) n2))] H := hP
    replace hD : va_D A [(h, .inr (7, [.ref a, .ref b, .int (nI n)])), (b, nw_ai cI 1001 (va_up f j ((f (j - 1)) + n2))), (h2, .inr (6, [.ref a2, .int (nI n2)])), (a2, nw_ai cB 60 c2), (a, nw_ai cB 12000 (va_cpy c2 (va_cpy C C (st pl) ((st pl) + n2) ((st n) - (st pl))) 0 (st pl) n2))] := hD
    refine lv_iinc (v := nI (j - 1) - nI 1) hx hb d_WL_insertAt_75 hl (k := 0) rfl (nw_jdec j (by omega)) (by decide) rfl (fun ls hl => ?_)
    have hl : lv_has ls 6 [(5, .int (nI (j - 1) - nI 1)), (4, .int (nI n2)), (3, .int (nI (st pl))), (0, .ref h), (1, .int (nI pl)), (2, .ref h2)] := hl
    refine lv_goto hx hb d_WL_insertAt_78 (tgt := 50) (by decide) ?_
    exact ih (j - 1, va_up f j ((f (j - 1)) + n2)) (⟨by omega, by omega, fun x => by
      by_cases hx1 : x = j
      · rw [hx1, va_up_self, if_pos (by omega), hf1]
      · rw [va_up_ne _ _ hx1, hf x]
        by_cases hx2 : j < x ∧ x ≤ n + 1
        · rw [if_pos hx2, if_pos (by omega)]
        · rw [if_neg hx2, if_neg (by omega)]⟩) (show j - 1 < j by omega) _ _ _ hl hP hD hS

set_option maxHeartbeats 4000000 in
set_option maxRecDepth 100000 in
theorem c_WL_deleteAt (l : Launch) (dC : Nat → ClassId) (dI : Nat → Nat → Nat) (sz : Nat) (cB cI : ClassId) (h a b n : Nat) (C st : Nat → Nat) (pl : Nat) (hpl : pl < n) (hn0 : n ≤ 1000) (hmo : ∀ i j, i ≤ j → j ≤ n → st i ≤ st j) (hs : st n ≤ 12000) (hC : ∀ j, C j < 128) : Met l y_WL_deleteAt w_WL_deleteAt ({ frames := 1, cells := 0, slots := 0, locals := 20 }) (nw_Pw [.ref h, .int (nI pl)] (dC, dI) nw_cls [(cB, .byte), (cI, .int)] [(h, .inr (7, [.ref a, .ref b, .int (nI n)])), (a, nw_ai cB 12000 C), (b, nw_ai cI 1001 st)] sz) (va_Qv (fun _ : Unit => True) (nw_B (dC, dI) nw_cls (va_A [(h, .inr (7, [.ref a, .ref b, .int (nI n)])), (a, nw_ai cB 12000 C), (b, nw_ai cI 1001 st)] sz) (fun _ : Unit => [(h, .inr (7, [.ref a, .ref b, .int (nI (n - 1))])), (a, nw_ai cB 12000 (va_cpy C C (st (pl + 1)) (st pl) (st n - st (pl + 1)))), (b, nw_ai cI 1001 (nw_del st pl n (st (pl + 1) - st pl)))])) (va_A [(h, .inr (7, [.ref a, .ref b, .int (nI n)])), (a, nw_ai cB 12000 C), (b, nw_ai cI 1001 st)] sz)) 0 0 (va_A [(h, .inr (7, [.ref a, .ref b, .int (nI n)])), (a, nw_ai cB 12000 C), (b, nw_ai cI 1001 st)] sz) := by
  refine Met.ofW (cc := b_WL_deleteAt) (maxL := 5) (ret := none) (by decide) rfl ?_
  intro p e s m args below meth cd s₁ B hml hv0
  obtain ⟨rfl, hsz, hP, hK, hD0⟩ := hv0
  have hx := B.exec
  have hb := B.bytes
  have hr := B.returns
  have hts := atoms_spec (ws := w_WL_deleteAt) B.pre
  have hown : s.vm.findClass R_WL = some m.cls := findClass_of_methodNamed B.named
  have hlocks := B.notSynchronized
  subst hsz
  have hD := hD0.self (sz := s.heap.size)
  generalize hAe : va_A [(h, .inr (7, [.ref a, .ref b, .int (nI n)])), (a, nw_ai cB 12000 C), (b, nw_ai cI 1001 st)] s.heap.size = A at hD ⊢
  have hA : ∀ q : Nat, s.heap.size ≤ q → A q := fun q h => by rw [← hAe]; exact Or.inr h
  have hS : va_S A s.heap s.heap [] := va_S.rf
  have hl := lv_entry ([.ref h, .int (nI pl)]) (n := 5) (Nat.le_of_ble_eq_true rfl)
  rw [lg_entry_eq]
  generalize (lg_sl ([.ref h, .int (nI pl)]) ++ List.replicate (5 - (lg_sl ([.ref h, .int (nI pl)])).length) Slot.unset).toArray = ls at hl ⊢
  have hl : lv_has ls 5 [(0, .ref h), (1, .int (nI pl))] := hl
  have hm1 := hmo pl (pl + 1) (by omega) (by omega)
  have hm2 := hmo (pl + 1) n (by omega) (by omega)
  refine lv_aload_n hx hb d_WL_deleteAt_0 rfl (lv_at hl 0 rfl) ?_
  refine va_get (D := (dC, dI)) (ci := 7) (v := .ref b) (C := R_WL) (T := F_WL) (N := 3) hx hb hts hin_WL hown hK hP 0 rfl rfl 1 (by decide) (hts _ (nw_mc 7 rfl)) (fun _ h9 => h9) rfl d_WL_deleteAt_1 ?_
  refine lv_iload_n hx hb d_WL_deleteAt_4 rfl (lv_at hl 1 rfl) ?_
  refine nw_iald hx hb hK hP 2 1 rfl rfl (k := pl) (by omega) (by first | decide | omega) d_WL_deleteAt_5 ?_
  refine lv_istore_n hx hb d_WL_deleteAt_6 rfl hl (by decide) rfl (fun ls hl => ?_)
  replace hl : lv_has ls 5 [(2, .int (nI (st pl))), (0, .ref h), (1, .int (nI pl))] := hl
  refine lv_aload_n hx hb d_WL_deleteAt_7 rfl (lv_at hl 1 rfl) ?_
  refine va_get (D := (dC, dI)) (ci := 7) (v := .ref b) (C := R_WL) (T := F_WL) (N := 3) hx hb hts hin_WL hown hK hP 0 rfl rfl 1 (by decide) (hts _ (nw_mc 7 rfl)) (fun _ h9 => h9) rfl d_WL_deleteAt_8 ?_
  refine lv_iload_n hx hb d_WL_deleteAt_11 rfl (lv_at hl 2 rfl) ?_
  refine lv_iconst (v := nI 1) hx hb d_WL_deleteAt_12 (by decide) ?_
  refine lv_iadd hx hb d_WL_deleteAt_13 ?_
  refine nw_ti (nI_add pl 1) ?_
  refine nw_iald hx hb hK hP 2 1 rfl rfl (k := (pl + 1)) (by omega) (by first | decide | omega) d_WL_deleteAt_14 ?_
  refine lv_istore_n hx hb d_WL_deleteAt_15 rfl hl (by decide) rfl (fun ls hl => ?_)
  replace hl : lv_has ls 5 [(3, .int (nI (st (pl + 1)))), (2, .int (nI (st pl))), (0, .ref h), (1, .int (nI pl))] := hl
  refine lv_aload_n hx hb d_WL_deleteAt_16 rfl (lv_at hl 2 rfl) ?_
  refine va_get (D := (dC, dI)) (ci := 7) (v := .ref a) (C := R_WL) (T := F_WL) (N := 3) hx hb hts hin_WL hown hK hP 0 rfl rfl 0 (by decide) (hts _ (nw_mc 8 rfl)) (fun _ h9 => h9) rfl d_WL_deleteAt_17 ?_
  refine lv_iload_n hx hb d_WL_deleteAt_20 rfl (lv_at hl 0 rfl) ?_
  refine lv_aload_n hx hb d_WL_deleteAt_21 rfl (lv_at hl 2 rfl) ?_
  refine va_get (D := (dC, dI)) (ci := 7) (v := .ref a) (C := R_WL) (T := F_WL) (N := 3) hx hb hts hin_WL hown hK hP 0 rfl rfl 0 (by decide) (hts _ (nw_mc 8 rfl)) (fun _ h9 => h9) rfl d_WL_deleteAt_22 ?_
  refine lv_iload_n hx hb d_WL_deleteAt_25 rfl (lv_at hl 1 rfl) ?_
  refine lv_aload_n hx hb d_WL_deleteAt_26 rfl (lv_at hl 2 rfl) ?_
  refine vp_callSi (va_Run.run (va_runV (As := []) (rest := [.int (nI (st pl)), .ref a, .int (nI (st (pl + 1))), .ref a]) ⟨hx, hb, hml, hown, hts⟩ (c_WL_characters l dC dI cI h a b n st (by omega)) (cwV (C := R_WL) 0 hts (nw_GV (nw_m 38 rfl) (nw_m 39 rfl) (nw_m 40 rfl) (nw_m 12 rfl) (nw_m 41 rfl)) rfl rfl rfl (by decide +kernel) ⟨Nat.le_of_ble_eq_true rfl, Nat.le_of_ble_eq_true rfl⟩) (nw_preV (q0 := 0) (ci := 7) (q := (R_WL, F_WL, 3)) hK hP [0, 2] [1] rfl rfl rfl rfl) rfl rfl hl.1 rfl (lv_room (Nat.le_of_ble_eq_true rfl)) d_WL_deleteAt_27 ⟨Nat.le_of_ble_eq_true rfl, Nat.le_of_ble_eq_true rfl⟩)) (fun r her => ?_)
  subst her
  refine lv_iload_n hx hb d_WL_deleteAt_30 rfl (lv_at hl 0 rfl) ?_
  refine lv_isub hx hb d_WL_deleteAt_31 ?_
  refine nw_ti (pk_sub (a := (st n)) (b := (st (pl + 1))) (by omega)) ?_
  refine nw_copyb hx hb (hml.trans hl.1.symm) hown (hts _ (nw_mc 42 rfl)) (hts _ (nw_mc 3 rfl)) (hts _ (nw_mc 4 rfl)) (hts _ (nw_mc 5 rfl)) hK hP hD hS 1 1 0 0 rfl rfl rfl rfl (sp := (st (pl + 1))) (dp := (st pl)) (n := ((st n) - (st (pl + 1)))) (by omega) (by omega) (by decide) (by decide) (fun i hi => hC _) (Nat.le_of_ble_eq_true rfl) (Nat.le_of_ble_eq_true rfl) d_WL_deleteAt_32 (fun H locs hP hD hS => ?_)
  replace hP : va_P (dC, dI) nw_cls [(h, .inr (7, [.ref a, .ref b, .int (nI n)])), (a, nw_ai cB 12000 (va_cpy C C (st (pl + 1)) (st pl) ((st n) - (st (pl + 1))))), (b, nw_ai cI 1001 st)] H := hP
  replace hD : va_D A [(h, .inr (7, [.ref a, .ref b, .int (nI n)])), (a, nw_ai cB 12000 (va_cpy C C (st (pl + 1)) (st pl) ((st n) - (st (pl + 1))))), (b, nw_ai cI 1001 st)] := hD
  refine lv_iload_n hx hb d_WL_deleteAt_35 rfl (lv_at hl 3 rfl) ?_
  refine lv_istore hx hb d_WL_deleteAt_36 hl (by decide) rfl (fun ls hl => ?_)
  replace hl : lv_has ls 5 [(4, .int (nI pl)), (3, .int (nI (st (pl + 1)))), (2, .int (nI (st pl))), (0, .ref h), (1, .int (nI pl))] := hl
  refine nw_loopW (σ := Nat × (Nat → Nat)) (fun x => match x with | (i, f) => pl ≤ i ∧ i ≤ n ∧ ∀ x, f x = if pl ≤ x ∧ x < i then st (x + 1) - (st (pl + 1) - st pl) else st x) (fun x => match x with | (i, f) => [(4, .int (nI i)), (3, .int (nI (st (pl + 1)))), (2, .int (nI (st pl))), (0, .ref h), (1, .int (nI pl))]) (fun x => match x with | (i, f) => [(h, .inr (7, [.ref a, .ref b, .int (nI n)])), (a, nw_ai cB 12000 (va_cpy C C (st (pl + 1)) (st pl) ((st n) - (st (pl + 1))))), (b, nw_ai cI 1001 f)]) (fun x => match x with | (i, f) => n - i) (fun x hI ih ls H locs hl hP hD hS => ?_) (pl, st) (⟨Nat.le_refl _, by omega, fun x => by rw [if_neg (by omega)]⟩) hl hP hD hS
  obtain ⟨i, f⟩ := x
  replace hI : pl ≤ i ∧ i ≤ n ∧ ∀ x, f x = if pl ≤ x ∧ x < i then st (x + 1) - (st (pl + 1) - st pl) else st x := hI
  replace hl : lv_has ls 5 [(4, .int (nI i)), (3, .int (nI (st (pl + 1)))), (2, .int (nI (st pl))), (0, .ref h), (1, .int (nI pl))] := hl
  replace hP : va_P (dC, dI) nw_cls [(h, .inr (7, [.ref a, .ref b, .int (nI n)])), (a, nw_ai cB 12000 (va_cpy C C (st (pl + 1)) (st pl) ((st n) - (st (pl + 1))))), (b, nw_ai cI 1001 f)] H := hP
  replace hD : va_D A [(h, .inr (7, [.ref a, .ref b, .int (nI n)])), (a, nw_ai cB 12000 (va_cpy C C (st (pl + 1)) (st pl) ((st n) - (st (pl + 1))))), (b, nw_ai cI 1001 f)] := hD
  obtain ⟨hi1, hi2, hf⟩ := hI
  refine lv_iload hx hb d_WL_deleteAt_38 (lv_at hl 0 rfl) ?_
  refine lv_aload_n hx hb d_WL_deleteAt_40 rfl (lv_at hl 3 rfl) ?_
  refine va_get (D := (dC, dI)) (ci := 7) (v := .int (nI n)) (C := R_WL) (T := F_WL) (N := 3) hx hb hts hin_WL hown hK hP 0 rfl rfl 2 (by decide) (hts _ (nw_mc 6 rfl)) (fun _ h9 => h9) rfl d_WL_deleteAt_41 ?_
  refine lv_icmp_ge hx hb d_WL_deleteAt_44 (tgt := 73) (by decide) (fun hc1 => ?_) (fun hc1 => ?_)
  · rw [nI_leI (by omega) (by omega)] at hc1
    obtain rfl : f = nw_del st pl n (st (pl + 1) - st pl) := funext fun x => by rw [hf x, show i = n by omega]; rfl
    replace hP : va_P (dC, dI) nw_cls [(h, .inr (7, [.ref a, .ref b, .int (nI n)])), (a, nw_ai cB 12000 (va_cpy C C (st (pl + 1)) (st pl) ((st n) - (st (pl + 1))))), (b, nw_ai cI 1001 (nw_del st pl n (st (pl + 1) - st pl)))] H := hP
    replace hD : va_D A [(h, .inr (7, [.ref a, .ref b, .int (nI n)])), (a, nw_ai cB 12000 (va_cpy C C (st (pl + 1)) (st pl) ((st n) - (st (pl + 1))))), (b, nw_ai cI 1001 (nw_del st pl n (st (pl + 1) - st pl)))] := hD
    refine lv_aload_n hx hb d_WL_deleteAt_73 rfl (lv_at hl 3 rfl) ?_
    refine lv_dup hx hb d_WL_deleteAt_74 rfl ?_
    refine va_get (D := (dC, dI)) (ci := 7) (v := .int (nI n)) (C := R_WL) (T := F_WL) (N := 3) hx hb hts hin_WL hown hK hP 0 rfl rfl 2 (by decide) (hts _ (nw_mc 6 rfl)) (fun _ h9 => h9) rfl d_WL_deleteAt_75 ?_
    refine lv_iconst (v := nI 1) hx hb d_WL_deleteAt_78 (by decide) ?_
    refine lv_isub hx hb d_WL_deleteAt_79 ?_
    refine nw_ti (pk_sub (a := n) (b := 1) (by omega)) ?_
    refine va_put (D := (dC, dI)) (ci := 7) (v := .int (nI (n - 1))) (ty := .int) (C := R_WL) (T := F_WL) (N := 3) hx hb hts hin_WL t_WL t_WL_ok n_WL hown hK hP hD hS 0 rfl rfl 2 (by decide) (hts _ (nw_mc 6 rfl)) (fun _ h9 => h9) rfl (by decide +kernel) rfl rfl (Nat.le_of_ble_eq_true rfl) d_WL_deleteAt_80 (fun H locs hP hD hS => ?_)
    replace hP : va_P (dC, dI) nw_cls [(h, .inr (7, [.ref a, .ref b, .int (nI (n - 1))])), (a, nw_ai cB 12000 (va_cpy C C (st (pl + 1)) (st pl) ((st n) - (st (pl + 1))))), (b, nw_ai cI 1001 (nw_del st pl n (st (pl + 1) - st pl)))] H := hP
    replace hD : va_D A [(h, .inr (7, [.ref a, .ref b, .int (nI (n - 1))])), (a, nw_ai cB 12000 (va_cpy C C (st (pl + 1)) (st pl) ((st n) - (st (pl + 1))))), (b, nw_ai cI 1001 (nw_del st pl n (st (pl + 1) - st pl)))] := hD
    exact W.vret hx hb hr (fun t ht hW => ⟨⟨(), rfl, trivial, by rw [ht]; exact hP, hD⟩, hS.F ht⟩) hS.2.2 d_WL_deleteAt_83
  · rw [nI_leI (by omega) (by omega)] at hc1
    have hf1 := hf (i + 1)
    rw [if_neg (by omega)] at hf1
    have hm3 := hmo (pl + 1) (i + 1) (by omega) (by omega)
    have hm4 := hmo (i + 1) n (by omega) (by omega)
    refine lv_aload_n hx hb d_WL_deleteAt_47 rfl (lv_at hl 3 rfl) ?_
    refine va_get (D := (dC, dI)) (ci := 7) (v := .ref b) (C := R_WL) (T := F_WL) (N := 3) hx hb hts hin_WL hown hK hP 0 rfl rfl 1 (by decide) (hts _ (nw_mc 7 rfl)) (fun _ h9 => h9) rfl d_WL_deleteAt_48 ?_
    refine lv_iload hx hb d_WL_deleteAt_51 (lv_at hl 0 rfl) ?_
    refine lv_aload_n hx hb d_WL_deleteAt_53 rfl (lv_at hl 3 rfl) ?_
    refine va_get (D := (dC, dI)) (ci := 7) (v := .ref b) (C := R_WL) (T := F_WL) (N := 3) hx hb hts hin_WL hown hK hP 0 rfl rfl 1 (by decide) (hts _ (nw_mc 7 rfl)) (fun _ h9 => h9) rfl d_WL_deleteAt_54 ?_
    refine lv_iload hx hb d_WL_deleteAt_57 (lv_at hl 0 rfl) ?_
    refine lv_iconst (v := nI 1) hx hb d_WL_deleteAt_59 (by decide) ?_
    refine lv_iadd hx hb d_WL_deleteAt_60 ?_
    refine nw_ti (nI_add i 1) ?_
    refine nw_iald hx hb hK hP 2 1 rfl rfl (k := (i + 1)) (by omega) (by first | decide | omega) d_WL_deleteAt_61 ?_
    refine lv_iload_n hx hb d_WL_deleteAt_62 rfl (lv_at hl 1 rfl) ?_
    refine lv_iload_n hx hb d_WL_deleteAt_63 rfl (lv_at hl 2 rfl) ?_
    refine lv_isub hx hb d_WL_deleteAt_64 ?_
    refine nw_ti (pk_sub (a := (st (pl + 1))) (b := (st pl)) (by omega)) ?_
    refine lv_isub hx hb d_WL_deleteAt_65 ?_
    refine nw_ti (pk_sub (a := (f (i + 1))) (b := ((st (pl + 1)) - (st pl))) (by omega)) ?_
    refine nw_iast hx hb hK hP hD hS 2 1 rfl rfl (k := i) (v := ((f (i + 1)) - ((st (pl + 1)) - (st pl)))) (by omega) (by first | decide | omega) d_WL_deleteAt_66 (fun H locs hP hD hS => ?_)
    replace hP : va_P (dC, dI) nw_cls [(h, .inr (7, [.ref a, .ref b, .int (nI n)])), (a, nw_ai cB 12000 (va_cpy C C (st (pl + 1)) (st pl) ((st n) - (st (pl + 1))))), (b, nw_ai cI 1001 (va_up f i ((f (i + 1)) - ((st (pl + 1)) - (st pl)))))] H := hP
    replace hD : va_D A [(h, .inr (7, [.ref a, .ref b, .int (nI n)])), (a, nw_ai cB 12000 (va_cpy C C (st (pl + 1)) (st pl) ((st n) - (st (pl + 1))))), (b, nw_ai cI 1001 (va_up f i ((f (i + 1)) - ((st (pl + 1)) - (st pl)))))] := hD
    refine lv_iinc (v := nI (i + 1)) hx hb d_WL_deleteAt_67 hl (k := 0) rfl (nI_add i 1) (by decide) rfl (fun ls hl => ?_)
    have hl : lv_has ls 5 [(4, .int (nI (i + 1))), (3, .int (nI (st (pl + 1)))), (2, .int (nI (st pl))), (0, .ref h), (1, .int (nI pl))] := hl
    refine lv_goto hx hb d_WL_deleteAt_70 (tgt := 38) (by decide) ?_
    exact ih (i + 1, va_up f i ((f (i + 1)) - ((st (pl + 1)) - (st pl)))) (⟨by omega, by omega, fun x => by
      by_cases hx1 : x = i
      · rw [hx1, va_up_self, if_pos (by omega), hf1]
      · rw [va_up_ne _ _ hx1, hf x]
        by_cases hx2 : pl ≤ x ∧ x < i
        · rw [if_pos hx2, if_pos (by omega)]
        · rw [if_neg hx2, if_neg (by omega)]⟩) (show n - (i + 1) < n - i by omega) _ _ _ hl hP hD hS
end
section
set_option maxHeartbeats 4000000 in
set_option maxRecDepth 100000 in
theorem c_Arr_fillJ (l : Launch) (dC : Nat → ClassId) (dI : Nat → Nat → Nat) (sz : Nat) (cJ : ClassId) (a n : Nat) (f : Nat → Nat) (v : Nat) (hn : n < 2 ^ 30) : Met l y_Arr_fillJ w_Arr_fillJ ({ frames := 0, cells := 0, slots := 0, locals := 0 }) (nw_Pw [.ref a, .long (lN v)] (dC, dI) nw_cls [(cJ, .long)] [(a, nw_al cJ n f)] sz) (va_Qv (fun _ : Unit => True) (nw_B (dC, dI) nw_cls (va_A [(a, nw_al cJ n f)] sz) (fun _ : Unit => [(a, nw_al cJ n (nw_fl n v f))])) (va_A [(a, nw_al cJ n f)] sz)) 0 0 (va_A [(a, nw_al cJ n f)] sz) := by
  refine Met.ofW (cc := b_Arr_fillJ) (maxL := 5) (ret := none) (by decide) rfl ?_
  intro p e s m args below meth cd s₁ B hml hv0
  obtain ⟨rfl, hsz, hP, hK, hD0⟩ := hv0
  have hx := B.exec
  have hb := B.bytes
  have hr := B.returns
  have hts := atoms_spec (ws := w_Arr_fillJ) B.pre
  have hown : s.vm.findClass R_Arr = some m.cls := findClass_of_methodNamed B.named
  have hlocks := B.notSynchronized
  subst hsz
  have hD := hD0.self (sz := s.heap.size)
  generalize hAe : va_A [(a, nw_al cJ n f)] s.heap.size = A at hD ⊢
  have hA : ∀ q : Nat, s.heap.size ≤ q → A q := fun q h => by rw [← hAe]; exact Or.inr h
  have hS : va_S A s.heap s.heap [] := va_S.rf
  have hl := lv_entry ([.ref a, .long (lN v)]) (n := 5) (Nat.le_of_ble_eq_true rfl)
  rw [lg_entry_eq]
  generalize (lg_sl ([.ref a, .long (lN v)]) ++ List.replicate (5 - (lg_sl ([.ref a, .long (lN v)])).length) Slot.unset).toArray = ls at hl ⊢
  have hl : lv_has ls 5 [(0, .ref a), (1, .long (lN v))] := hl
  refine lv_iconst (v := nI 0) hx hb d_Arr_fillJ_0 (by decide) ?_
  refine lv_istore_n hx hb d_Arr_fillJ_1 rfl hl (by decide) rfl (fun ls hl => ?_)
  replace hl : lv_has ls 5 [(3, .int (nI 0)), (0, .ref a), (1, .long (lN v))] := hl
  refine lv_aload_n hx hb d_Arr_fillJ_2 rfl (lv_at hl 1 rfl) ?_
  refine va_alen hx hb hK hP 0 0 rfl rfl (v := nI n) rfl d_Arr_fillJ_3 ?_
  refine lv_istore hx hb d_Arr_fillJ_4 hl (by decide) rfl (fun ls hl => ?_)
  replace hl : lv_has ls 5 [(4, .int (nI n)), (3, .int (nI 0)), (0, .ref a), (1, .long (lN v))] := hl
  refine nw_loopW (σ := Nat × (Nat → Nat)) (fun x => match x with | (i, g) => i ≤ n ∧ ∀ x, g x = if x < i then v else f x) (fun x => match x with | (i, g) => [(3, .int (nI i)), (4, .int (nI n)), (0, .ref a), (1, .long (lN v))]) (fun x => match x with | (i, g) => [(a, nw_al cJ n g)]) (fun x => match x with | (i, g) => n - i) (fun x hI ih ls H locs hl hP hD hS => ?_) (0, f) (⟨Nat.zero_le _, fun x => by rw [if_neg (Nat.not_lt_zero x)]⟩) (lv_sub hl [1, 0, 2, 3] rfl) hP hD hS
  obtain ⟨i, g⟩ := x
  replace hI : i ≤ n ∧ ∀ x, g x = if x < i then v else f x := hI
  replace hl : lv_has ls 5 [(3, .int (nI i)), (4, .int (nI n)), (0, .ref a), (1, .long (lN v))] := hl
  replace hP : va_P (dC, dI) nw_cls [(a, nw_al cJ n g)] H := hP
  replace hD : va_D A [(a, nw_al cJ n g)] := hD
  obtain ⟨hi, hg⟩ := hI
  refine lv_iload_n hx hb d_Arr_fillJ_6 rfl (lv_at hl 0 rfl) ?_
  refine lv_iload hx hb d_Arr_fillJ_7 (lv_at hl 1 rfl) ?_
  refine lv_icmp_ge hx hb d_Arr_fillJ_9 (tgt := 22) (by decide) (fun q1 => ?_) (fun q1 => ?_)
  · rw [nI_leI (by omega) (by omega)] at q1
    obtain rfl : g = nw_fl n v f := funext fun x => by rw [hg x, show i = n by omega]; rfl
    replace hP : va_P (dC, dI) nw_cls [(a, nw_al cJ n (nw_fl n v f))] H := hP
    replace hD : va_D A [(a, nw_al cJ n (nw_fl n v f))] := hD
    exact W.vret hx hb hr (fun t ht hW => ⟨⟨(), rfl, trivial, by rw [ht]; exact hP, hD⟩, hS.F ht⟩) hS.2.2 d_Arr_fillJ_22
  · rw [nI_leI (by omega) (by omega)] at q1
    refine lv_aload_n hx hb d_Arr_fillJ_12 rfl (lv_at hl 2 rfl) ?_
    refine lv_iload_n hx hb d_Arr_fillJ_13 rfl (lv_at hl 0 rfl) ?_
    refine lv_lload_n hx hb d_Arr_fillJ_14 rfl (lv_at hl 3 rfl) ?_
    refine nw_last hx hb hK hP hD hS 0 0 rfl rfl (k := i) (v := v) (by omega) (by first | decide | omega) d_Arr_fillJ_15 (fun H locs hP hD hS => ?_)
    replace hP : va_P (dC, dI) nw_cls [(a, nw_al cJ n (va_up g i v))] H := hP
    replace hD : va_D A [(a, nw_al cJ n (va_up g i v))] := hD
    refine lv_iinc (v := nI (i + 1)) hx hb d_Arr_fillJ_16 hl (k := 0) rfl (nI_add i 1) (by decide) rfl (fun ls hl => ?_)
    have hl : lv_has ls 5 [(3, .int (nI (i + 1))), (4, .int (nI n)), (0, .ref a), (1, .long (lN v))] := hl
    refine lv_goto hx hb d_Arr_fillJ_19 (tgt := 6) (by decide) ?_
    exact ih (i + 1, va_up g i v) (⟨by omega, fun x => by
      by_cases e : x = i
      · rw [e, va_up_self, if_pos (by omega)]
      · rw [va_up_ne _ _ e, hg x]
        by_cases h : x < i
        · rw [if_pos h, if_pos (by omega)]
        · rw [if_neg h, if_neg (by omega)]⟩) (show n - (i + 1) < n - i by omega) _ _ _ hl hP hD hS

set_option maxHeartbeats 4000000 in
set_option maxRecDepth 100000 in
theorem c_Arr_fillI (l : Launch) (dC : Nat → ClassId) (dI : Nat → Nat → Nat) (sz : Nat) (cI : ClassId) (a n : Nat) (f : Nat → Nat) (v : Nat) (hn : n < 2 ^ 30) : Met l y_Arr_fillI w_Arr_fillI ({ frames := 0, cells := 0, slots := 0, locals := 0 }) (nw_Pw [.ref a, .int (nI v)] (dC, dI) nw_cls [(cI, .int)] [(a, nw_ai cI n f)] sz) (va_Qv (fun _ : Unit => True) (nw_B (dC, dI) nw_cls (va_A [(a, nw_ai cI n f)] sz) (fun _ : Unit => [(a, nw_ai cI n (nw_fl n v f))])) (va_A [(a, nw_ai cI n f)] sz)) 0 0 (va_A [(a, nw_ai cI n f)] sz) := by
  refine Met.ofW (cc := b_Arr_fillI) (maxL := 4) (ret := none) (by decide) rfl ?_
  intro p e s m args below meth cd s₁ B hml hv0
  obtain ⟨rfl, hsz, hP, hK, hD0⟩ := hv0
  have hx := B.exec
  have hb := B.bytes
  have hr := B.returns
  have hts := atoms_spec (ws := w_Arr_fillI) B.pre
  have hown : s.vm.findClass R_Arr = some m.cls := findClass_of_methodNamed B.named
  have hlocks := B.notSynchronized
  subst hsz
  have hD := hD0.self (sz := s.heap.size)
  generalize hAe : va_A [(a, nw_ai cI n f)] s.heap.size = A at hD ⊢
  have hA : ∀ q : Nat, s.heap.size ≤ q → A q := fun q h => by rw [← hAe]; exact Or.inr h
  have hS : va_S A s.heap s.heap [] := va_S.rf
  have hl := lv_entry ([.ref a, .int (nI v)]) (n := 4) (Nat.le_of_ble_eq_true rfl)
  rw [lg_entry_eq]
  generalize (lg_sl ([.ref a, .int (nI v)]) ++ List.replicate (4 - (lg_sl ([.ref a, .int (nI v)])).length) Slot.unset).toArray = ls at hl ⊢
  have hl : lv_has ls 4 [(0, .ref a), (1, .int (nI v))] := hl
  refine lv_iconst (v := nI 0) hx hb d_Arr_fillI_0 (by decide) ?_
  refine lv_istore_n hx hb d_Arr_fillI_1 rfl hl (by decide) rfl (fun ls hl => ?_)
  replace hl : lv_has ls 4 [(2, .int (nI 0)), (0, .ref a), (1, .int (nI v))] := hl
  refine lv_aload_n hx hb d_Arr_fillI_2 rfl (lv_at hl 1 rfl) ?_
  refine va_alen hx hb hK hP 0 0 rfl rfl (v := nI n) rfl d_Arr_fillI_3 ?_
  refine lv_istore_n hx hb d_Arr_fillI_4 rfl hl (by decide) rfl (fun ls hl => ?_)
  replace hl : lv_has ls 4 [(3, .int (nI n)), (2, .int (nI 0)), (0, .ref a), (1, .int (nI v))] := hl
  refine nw_loopW (σ := Nat × (Nat → Nat)) (fun x => match x with | (i, g) => i ≤ n ∧ ∀ x, g x = if x < i then v else f x) (fun x => match x with | (i, g) => [(2, .int (nI i)), (3, .int (nI n)), (0, .ref a), (1, .int (nI v))]) (fun x => match x with | (i, g) => [(a, nw_ai cI n g)]) (fun x => match x with | (i, g) => n - i) (fun x hI ih ls H locs hl hP hD hS => ?_) (0, f) (⟨Nat.zero_le _, fun x => by rw [if_neg (Nat.not_lt_zero x)]⟩) (lv_sub hl [1, 0, 2, 3] rfl) hP hD hS
  obtain ⟨i, g⟩ := x
  replace hI : i ≤ n ∧ ∀ x, g x = if x < i then v else f x := hI
  replace hl : lv_has ls 4 [(2, .int (nI i)), (3, .int (nI n)), (0, .ref a), (1, .int (nI v))] := hl
  replace hP : va_P (dC, dI) nw_cls [(a, nw_ai cI n g)] H := hP
  replace hD : va_D A [(a, nw_ai cI n g)] := hD
  obtain ⟨hi, hg⟩ := hI
  refine lv_iload_n hx hb d_Arr_fillI_5 rfl (lv_at hl 0 rfl) ?_
  refine lv_iload_n hx hb d_Arr_fillI_6 rfl (lv_at hl 1 rfl) ?_
  refine lv_icmp_ge hx hb d_Arr_fillI_7 (tgt := 20) (by decide) (fun q1 => ?_) (fun q1 => ?_)
  · rw [nI_leI (by omega) (by omega)] at q1
    obtain rfl : g = nw_fl n v f := funext fun x => by rw [hg x, show i = n by omega]; rfl
    replace hP : va_P (dC, dI) nw_cls [(a, nw_ai cI n (nw_fl n v f))] H := hP
    replace hD : va_D A [(a, nw_ai cI n (nw_fl n v f))] := hD
    exact W.vret hx hb hr (fun t ht hW => ⟨⟨(), rfl, trivial, by rw [ht]; exact hP, hD⟩, hS.F ht⟩) hS.2.2 d_Arr_fillI_20
  · rw [nI_leI (by omega) (by omega)] at q1
    refine lv_aload_n hx hb d_Arr_fillI_10 rfl (lv_at hl 2 rfl) ?_
    refine lv_iload_n hx hb d_Arr_fillI_11 rfl (lv_at hl 0 rfl) ?_
    refine lv_iload_n hx hb d_Arr_fillI_12 rfl (lv_at hl 3 rfl) ?_
    refine nw_iast hx hb hK hP hD hS 0 0 rfl rfl (k := i) (v := v) (by omega) (by first | decide | omega) d_Arr_fillI_13 (fun H locs hP hD hS => ?_)
    replace hP : va_P (dC, dI) nw_cls [(a, nw_ai cI n (va_up g i v))] H := hP
    replace hD : va_D A [(a, nw_ai cI n (va_up g i v))] := hD
    refine lv_iinc (v := nI (i + 1)) hx hb d_Arr_fillI_14 hl (k := 0) rfl (nI_add i 1) (by decide) rfl (fun ls hl => ?_)
    have hl : lv_has ls 4 [(2, .int (nI (i + 1))), (3, .int (nI n)), (0, .ref a), (1, .int (nI v))] := hl
    refine lv_goto hx hb d_Arr_fillI_17 (tgt := 5) (by decide) ?_
    exact ih (i + 1, va_up g i v) (⟨by omega, fun x => by
      by_cases e : x = i
      · rw [e, va_up_self, if_pos (by omega)]
      · rw [va_up_ne _ _ e, hg x]
        by_cases h : x < i
        · rw [if_pos h, if_pos (by omega)]
        · rw [if_neg h, if_neg (by omega)]⟩) (show n - (i + 1) < n - i by omega) _ _ _ hl hP hD hS

set_option maxHeartbeats 4000000 in
set_option maxRecDepth 100000 in
theorem c_Row_init (l : Launch) (dC : Nat → ClassId) (dI : Nat → Nat → Nat) (sz : Nat) (cB : ClassId) (h : Nat) : Met l y_Row_init w_Row_init ({ frames := 1, cells := 1, slots := 60, locals := 12 }) (nw_Pw [.ref h] (dC, dI) nw_cls [(cB, .byte)] [(h, .inr (6, [.null, .int (nI 0)]))] sz) (va_Qv (fun _ : Nat => True) (nw_B (dC, dI) nw_cls (va_A [(h, .inr (6, [.null, .int (nI 0)]))] sz) (fun u => [(h, .inr (6, [.ref u, .int (nI 0)])), (u, nw_ai cB 60 (fun _ => 0))])) (va_A [(h, .inr (6, [.null, .int (nI 0)]))] sz)) 1 60 (va_A [(h, .inr (6, [.null, .int (nI 0)]))] sz) := by
  refine Met.ofW (cc := b_Row_init) (maxL := 1) (ret := none) (by decide) rfl ?_
  intro p e s m args below meth cd s₁ B hml hv0
  obtain ⟨rfl, hsz, hP, hK, hD0⟩ := hv0
  have hx := B.exec
  have hb := B.bytes
  have hr := B.returns
  have hts := atoms_spec (ws := w_Row_init) B.pre
  have hown : s.vm.findClass R_Row = some m.cls := findClass_of_methodNamed B.named
  have hlocks := B.notSynchronized
  have hin : meth.name = "<init>" := (name_of_methodNamed B.named B.method).1
  subst hsz
  have hD := hD0.self (sz := s.heap.size)
  generalize hAe : va_A [(h, .inr (6, [.null, .int (nI 0)]))] s.heap.size = A at hD ⊢
  have hA : ∀ q : Nat, s.heap.size ≤ q → A q := fun q h => by rw [← hAe]; exact Or.inr h
  have hS : va_S A s.heap s.heap [] := va_S.rf
  have hl := lv_entry ([.ref h]) (n := 1) (Nat.le_of_ble_eq_true rfl)
  rw [lg_entry_eq]
  generalize (lg_sl ([.ref h]) ++ List.replicate (1 - (lg_sl ([.ref h])).length) Slot.unset).toArray = ls at hl ⊢
  have hl : lv_has ls 1 [(0, .ref h)] := hl
  refine lv_aload_n hx hb d_Row_init_0 rfl (lv_at hl 0 rfl) ?_
  refine W.objInit hx hb hown (hts _ (nw_mc 47 rfl)) (hts _ (nw_mc 48 rfl)) (hts _ (nw_mc 49 rfl)) rfl (by rw [hml]; exact hl.1) rfl d_Row_init_1 (Nat.le_of_ble_eq_true rfl) (Nat.le_of_ble_eq_true rfl) ?_
  refine W.eq (g2 := F0 m 4 ls []) rfl ?_
  refine lv_aload_n hx hb d_Row_init_4 rfl (lv_at hl 0 rfl) ?_
  refine lv_bipush (v := nI 60) hx hb d_Row_init_5 (by decide) ?_
  refine nw_newa (ty := .byte) (a0 := (60, .inl (fun _ => nI 0))) hx hb (hts _ (nw_mc 50 rfl)) rfl hK hP hD hS hA 0 rfl rfl (n := 60) (by decide) (fun _ => rfl) (by decide) (Nat.le_of_ble_eq_true rfl) (Nat.le_of_ble_eq_true rfl) d_Row_init_7 (fun q0 H hP hD hS => ?_)
  replace hP : va_P (dC, dI) nw_cls [(h, .inr (6, [.null, .int (nI 0)])), (q0, nw_ai cB 60 (fun _ => 0))] H := hP
  replace hD : va_D A [(h, .inr (6, [.null, .int (nI 0)])), (q0, nw_ai cB 60 (fun _ => 0))] := hD
  refine va_putF (D := (dC, dI)) (ci := 6) (v := .ref q0) (ty := (.array .byte)) (C := R_Row) (T := F_Row) (N := 2) hx hb hts hin_Row t_Row t_Row_ok n_Row hown hK hP hD hS 0 rfl rfl 0 (by decide) (hts _ (nw_mc 1 rfl)) (fun _ h9 => h9) rfl hin rfl (by decide +kernel) rfl rfl (Nat.le_of_ble_eq_true rfl) d_Row_init_9 (fun H locs hP hD hS => ?_)
  replace hP : va_P (dC, dI) nw_cls [(h, .inr (6, [.ref q0, .int (nI 0)])), (q0, nw_ai cB 60 (fun _ => 0))] H := hP
  replace hD : va_D A [(h, .inr (6, [.ref q0, .int (nI 0)])), (q0, nw_ai cB 60 (fun _ => 0))] := hD
  refine lv_aload_n hx hb d_Row_init_12 rfl (lv_at hl 0 rfl) ?_
  refine lv_iconst (v := nI 0) hx hb d_Row_init_13 (by decide) ?_
  refine va_put (D := (dC, dI)) (ci := 6) (v := .int (nI 0)) (ty := .int) (C := R_Row) (T := F_Row) (N := 2) hx hb hts hin_Row t_Row t_Row_ok n_Row hown hK hP hD hS 0 rfl rfl 1 (by decide) (hts _ (nw_mc 0 rfl)) (fun _ h9 => h9) rfl (by decide +kernel) rfl rfl (Nat.le_of_ble_eq_true rfl) d_Row_init_14 (fun H locs hP hD hS => ?_)
  replace hP : va_P (dC, dI) nw_cls [(h, .inr (6, [.ref q0, .int (nI 0)])), (q0, nw_ai cB 60 (fun _ => 0))] H := hP
  replace hD : va_D A [(h, .inr (6, [.ref q0, .int (nI 0)])), (q0, nw_ai cB 60 (fun _ => 0))] := hD
  refine W.widen (k := 1) (n := 60) (by decide) (by decide) ?_
  exact W.vret hx hb hr (fun t ht hW => ⟨⟨q0, rfl, trivial, by rw [ht]; exact hP, hD⟩, hS.F ht⟩) hS.2.2 d_Row_init_17

set_option maxHeartbeats 4000000 in
set_option maxRecDepth 100000 in
theorem c_WL_init (l : Launch) (dC : Nat → ClassId) (dI : Nat → Nat → Nat) (sz : Nat) (cB cI : ClassId) (h : Nat) : Met l y_WL_init w_WL_init ({ frames := 1, cells := 2, slots := 13001, locals := 12 }) (nw_Pw [.ref h] (dC, dI) nw_cls [(cB, .byte), (cI, .int)] [(h, .inr (7, [.null, .null, .int (nI 0)]))] sz) (va_Qv (fun _ : Nat × Nat => True) (nw_B (dC, dI) nw_cls (va_A [(h, .inr (7, [.null, .null, .int (nI 0)]))] sz) (fun u => [(h, .inr (7, [.ref u.1, .ref u.2, .int (nI 0)])), (u.1, nw_ai cB 12000 (fun _ => 0)), (u.2, nw_ai cI 1001 (fun _ => 0))])) (va_A [(h, .inr (7, [.null, .null, .int (nI 0)]))] sz)) 2 13001 (va_A [(h, .inr (7, [.null, .null, .int (nI 0)]))] sz) := by
  refine Met.ofW (cc := b_WL_init) (maxL := 1) (ret := none) (by decide) rfl ?_
  intro p e s m args below meth cd s₁ B hml hv0
  obtain ⟨rfl, hsz, hP, hK, hD0⟩ := hv0
  have hx := B.exec
  have hb := B.bytes
  have hr := B.returns
  have hts := atoms_spec (ws := w_WL_init) B.pre
  have hown : s.vm.findClass R_WL = some m.cls := findClass_of_methodNamed B.named
  have hlocks := B.notSynchronized
  have hin : meth.name = "<init>" := (name_of_methodNamed B.named B.method).1
  subst hsz
  have hD := hD0.self (sz := s.heap.size)
  generalize hAe : va_A [(h, .inr (7, [.null, .null, .int (nI 0)]))] s.heap.size = A at hD ⊢
  have hA : ∀ q : Nat, s.heap.size ≤ q → A q := fun q h => by rw [← hAe]; exact Or.inr h
  have hS : va_S A s.heap s.heap [] := va_S.rf
  have hl := lv_entry ([.ref h]) (n := 1) (Nat.le_of_ble_eq_true rfl)
  rw [lg_entry_eq]
  generalize (lg_sl ([.ref h]) ++ List.replicate (1 - (lg_sl ([.ref h])).length) Slot.unset).toArray = ls at hl ⊢
  have hl : lv_has ls 1 [(0, .ref h)] := hl
  refine lv_aload_n hx hb d_WL_init_0 rfl (lv_at hl 0 rfl) ?_
  refine W.objInit hx hb hown (hts _ (nw_mc 51 rfl)) (hts _ (nw_mc 48 rfl)) (hts _ (nw_mc 49 rfl)) rfl (by rw [hml]; exact hl.1) rfl d_WL_init_1 (Nat.le_of_ble_eq_true rfl) (Nat.le_of_ble_eq_true rfl) ?_
  refine W.eq (g2 := F0 m 4 ls []) rfl ?_
  refine lv_aload_n hx hb d_WL_init_4 rfl (lv_at hl 0 rfl) ?_
  refine lv_sipush (v := nI 12000) hx hb d_WL_init_5 (by decide) ?_
  refine nw_newa (ty := .byte) (a0 := (12000, .inl (fun _ => nI 0))) hx hb (hts _ (nw_mc 50 rfl)) rfl hK hP hD hS hA 0 rfl rfl (n := 12000) (by decide) (fun _ => rfl) (by decide) (Nat.le_of_ble_eq_true rfl) (Nat.le_of_ble_eq_true rfl) d_WL_init_8 (fun q0 H hP hD hS => ?_)
  replace hP : va_P (dC, dI) nw_cls [(h, .inr (7, [.null, .null, .int (nI 0)])), (q0, nw_ai cB 12000 (fun _ => 0))] H := hP
  replace hD : va_D A [(h, .inr (7, [.null, .null, .int (nI 0)])), (q0, nw_ai cB 12000 (fun _ => 0))] := hD
  refine va_putF (D := (dC, dI)) (ci := 7) (v := .ref q0) (ty := (.array .byte)) (C := R_WL) (T := F_WL) (N := 3) hx hb hts hin_WL t_WL t_WL_ok n_WL hown hK hP hD hS 0 rfl rfl 0 (by decide) (hts _ (nw_mc 8 rfl)) (fun _ h9 => h9) rfl hin rfl (by decide +kernel) rfl rfl (Nat.le_of_ble_eq_true rfl) d_WL_init_10 (fun H locs hP hD hS => ?_)
  replace hP : va_P (dC, dI) nw_cls [(h, .inr (7, [.ref q0, .null, .int (nI 0)])), (q0, nw_ai cB 12000 (fun _ => 0))] H := hP
  replace hD : va_D A [(h, .inr (7, [.ref q0, .null, .int (nI 0)])), (q0, nw_ai cB 12000 (fun _ => 0))] := hD
  refine lv_aload_n hx hb d_WL_init_13 rfl (lv_at hl 0 rfl) ?_
  refine lv_sipush (v := nI 1001) hx hb d_WL_init_14 (by decide) ?_
  refine nw_newa (ty := .int) (a0 := (1001, .inl (fun _ => nI 0))) hx hb (hts _ (nw_mc 52 rfl)) rfl hK hP hD hS hA 1 rfl rfl (n := 1001) (by decide) (fun _ => rfl) (by decide) (Nat.le_of_ble_eq_true rfl) (Nat.le_of_ble_eq_true rfl) d_WL_init_17 (fun q1 H hP hD hS => ?_)
  replace hP : va_P (dC, dI) nw_cls [(h, .inr (7, [.ref q0, .null, .int (nI 0)])), (q0, nw_ai cB 12000 (fun _ => 0)), (q1, nw_ai cI 1001 (fun _ => 0))] H := hP
  replace hD : va_D A [(h, .inr (7, [.ref q0, .null, .int (nI 0)])), (q0, nw_ai cB 12000 (fun _ => 0)), (q1, nw_ai cI 1001 (fun _ => 0))] := hD
  refine va_putF (D := (dC, dI)) (ci := 7) (v := .ref q1) (ty := (.array .int)) (C := R_WL) (T := F_WL) (N := 3) hx hb hts hin_WL t_WL t_WL_ok n_WL hown hK hP hD hS 0 rfl rfl 1 (by decide) (hts _ (nw_mc 7 rfl)) (fun _ h9 => h9) rfl hin rfl (by decide +kernel) rfl rfl (Nat.le_of_ble_eq_true rfl) d_WL_init_19 (fun H locs hP hD hS => ?_)
  replace hP : va_P (dC, dI) nw_cls [(h, .inr (7, [.ref q0, .ref q1, .int (nI 0)])), (q0, nw_ai cB 12000 (fun _ => 0)), (q1, nw_ai cI 1001 (fun _ => 0))] H := hP
  replace hD : va_D A [(h, .inr (7, [.ref q0, .ref q1, .int (nI 0)])), (q0, nw_ai cB 12000 (fun _ => 0)), (q1, nw_ai cI 1001 (fun _ => 0))] := hD
  refine lv_aload_n hx hb d_WL_init_22 rfl (lv_at hl 0 rfl) ?_
  refine lv_iconst (v := nI 0) hx hb d_WL_init_23 (by decide) ?_
  refine va_put (D := (dC, dI)) (ci := 7) (v := .int (nI 0)) (ty := .int) (C := R_WL) (T := F_WL) (N := 3) hx hb hts hin_WL t_WL t_WL_ok n_WL hown hK hP hD hS 0 rfl rfl 2 (by decide) (hts _ (nw_mc 6 rfl)) (fun _ h9 => h9) rfl (by decide +kernel) rfl rfl (Nat.le_of_ble_eq_true rfl) d_WL_init_24 (fun H locs hP hD hS => ?_)
  replace hP : va_P (dC, dI) nw_cls [(h, .inr (7, [.ref q0, .ref q1, .int (nI 0)])), (q0, nw_ai cB 12000 (fun _ => 0)), (q1, nw_ai cI 1001 (fun _ => 0))] H := hP
  replace hD : va_D A [(h, .inr (7, [.ref q0, .ref q1, .int (nI 0)])), (q0, nw_ai cB 12000 (fun _ => 0)), (q1, nw_ai cI 1001 (fun _ => 0))] := hD
  refine W.widen (k := 2) (n := 13001) (by decide) (by decide) ?_
  exact W.vret hx hb hr (fun t ht hW => ⟨⟨(q0, q1), rfl, trivial, by rw [ht]; exact hP, hD⟩, hS.F ht⟩) hS.2.2 d_WL_init_27

set_option maxHeartbeats 4000000 in
set_option maxRecDepth 100000 in
theorem c_Pat_init (l : Launch) (dC : Nat → ClassId) (dI : Nat → Nat → Nat) (sz : Nat) (cJ : ClassId) (h : Nat) : Met l y_Pat_init w_Pat_init ({ frames := 1, cells := 1, slots := 127, locals := 12 }) (nw_Pw [.ref h] (dC, dI) nw_cls [(cJ, .long)] [(h, .inr (4, [.null, .long (lN 0), .long (lN 0), .int (nI 0)]))] sz) (va_Qv (fun _ : Nat => True) (nw_B (dC, dI) nw_cls (va_A [(h, .inr (4, [.null, .long (lN 0), .long (lN 0), .int (nI 0)]))] sz) (fun u => [(h, .inr (4, [.ref u, .long (lN 0), .long (lN 0), .int (nI 0)])), (u, nw_al cJ 127 (fun _ => 0))])) (va_A [(h, .inr (4, [.null, .long (lN 0), .long (lN 0), .int (nI 0)]))] sz)) 1 127 (va_A [(h, .inr (4, [.null, .long (lN 0), .long (lN 0), .int (nI 0)]))] sz) := by
  refine Met.ofW (cc := b_Pat_init) (maxL := 1) (ret := none) (by decide) rfl ?_
  intro p e s m args below meth cd s₁ B hml hv0
  obtain ⟨rfl, hsz, hP, hK, hD0⟩ := hv0
  have hx := B.exec
  have hb := B.bytes
  have hr := B.returns
  have hts := atoms_spec (ws := w_Pat_init) B.pre
  have hown : s.vm.findClass R_Pat = some m.cls := findClass_of_methodNamed B.named
  have hlocks := B.notSynchronized
  have hin : meth.name = "<init>" := (name_of_methodNamed B.named B.method).1
  subst hsz
  have hD := hD0.self (sz := s.heap.size)
  generalize hAe : va_A [(h, .inr (4, [.null, .long (lN 0), .long (lN 0), .int (nI 0)]))] s.heap.size = A at hD ⊢
  have hA : ∀ q : Nat, s.heap.size ≤ q → A q := fun q h => by rw [← hAe]; exact Or.inr h
  have hS : va_S A s.heap s.heap [] := va_S.rf
  have hl := lv_entry ([.ref h]) (n := 1) (Nat.le_of_ble_eq_true rfl)
  rw [lg_entry_eq]
  generalize (lg_sl ([.ref h]) ++ List.replicate (1 - (lg_sl ([.ref h])).length) Slot.unset).toArray = ls at hl ⊢
  have hl : lv_has ls 1 [(0, .ref h)] := hl
  refine lv_aload_n hx hb d_Pat_init_0 rfl (lv_at hl 0 rfl) ?_
  refine W.objInit hx hb hown (hts _ (nw_mc 53 rfl)) (hts _ (nw_mc 48 rfl)) (hts _ (nw_mc 49 rfl)) rfl (by rw [hml]; exact hl.1) rfl d_Pat_init_1 (Nat.le_of_ble_eq_true rfl) (Nat.le_of_ble_eq_true rfl) ?_
  refine W.eq (g2 := F0 m 4 ls []) rfl ?_
  refine lv_aload_n hx hb d_Pat_init_4 rfl (lv_at hl 0 rfl) ?_
  refine lv_bipush (v := nI 127) hx hb d_Pat_init_5 (by decide) ?_
  refine nw_newa (ty := .long) (a0 := (127, .inr (.inl (fun _ => lN 0)))) hx hb (hts _ (nw_mc 54 rfl)) rfl hK hP hD hS hA 0 rfl rfl (n := 127) (by decide) (fun _ => rfl) (by decide) (Nat.le_of_ble_eq_true rfl) (Nat.le_of_ble_eq_true rfl) d_Pat_init_7 (fun q0 H hP hD hS => ?_)
  replace hP : va_P (dC, dI) nw_cls [(h, .inr (4, [.null, .long (lN 0), .long (lN 0), .int (nI 0)])), (q0, nw_al cJ 127 (fun _ => 0))] H := hP
  replace hD : va_D A [(h, .inr (4, [.null, .long (lN 0), .long (lN 0), .int (nI 0)])), (q0, nw_al cJ 127 (fun _ => 0))] := hD
  refine va_putF (D := (dC, dI)) (ci := 4) (v := .ref q0) (ty := (.array .long)) (C := R_Pat) (T := F_Pat) (N := 4) hx hb hts hin_Pat t_Pat t_Pat_ok n_Pat hown hK hP hD hS 0 rfl rfl 0 (by decide) (hts _ (nw_mc 55 rfl)) (fun _ h9 => h9) rfl hin rfl (by decide +kernel) rfl rfl (Nat.le_of_ble_eq_true rfl) d_Pat_init_9 (fun H locs hP hD hS => ?_)
  replace hP : va_P (dC, dI) nw_cls [(h, .inr (4, [.ref q0, .long (lN 0), .long (lN 0), .int (nI 0)])), (q0, nw_al cJ 127 (fun _ => 0))] H := hP
  replace hD : va_D A [(h, .inr (4, [.ref q0, .long (lN 0), .long (lN 0), .int (nI 0)])), (q0, nw_al cJ 127 (fun _ => 0))] := hD
  refine lv_aload_n hx hb d_Pat_init_12 rfl (lv_at hl 0 rfl) ?_
  refine lv_lconst (v := lN 0) hx hb d_Pat_init_13 (by decide) ?_
  refine va_put (D := (dC, dI)) (ci := 4) (v := .long (lN 0)) (ty := .long) (C := R_Pat) (T := F_Pat) (N := 4) hx hb hts hin_Pat t_Pat t_Pat_ok n_Pat hown hK hP hD hS 0 rfl rfl 1 (by decide) (hts _ (nw_mc 56 rfl)) (fun _ h9 => h9) rfl (by decide +kernel) rfl rfl (Nat.le_of_ble_eq_true rfl) d_Pat_init_14 (fun H locs hP hD hS => ?_)
  replace hP : va_P (dC, dI) nw_cls [(h, .inr (4, [.ref q0, .long (lN 0), .long (lN 0), .int (nI 0)])), (q0, nw_al cJ 127 (fun _ => 0))] H := hP
  replace hD : va_D A [(h, .inr (4, [.ref q0, .long (lN 0), .long (lN 0), .int (nI 0)])), (q0, nw_al cJ 127 (fun _ => 0))] := hD
  refine lv_aload_n hx hb d_Pat_init_17 rfl (lv_at hl 0 rfl) ?_
  refine lv_lconst (v := lN 0) hx hb d_Pat_init_18 (by decide) ?_
  refine va_put (D := (dC, dI)) (ci := 4) (v := .long (lN 0)) (ty := .long) (C := R_Pat) (T := F_Pat) (N := 4) hx hb hts hin_Pat t_Pat t_Pat_ok n_Pat hown hK hP hD hS 0 rfl rfl 2 (by decide) (hts _ (nw_mc 57 rfl)) (fun _ h9 => h9) rfl (by decide +kernel) rfl rfl (Nat.le_of_ble_eq_true rfl) d_Pat_init_19 (fun H locs hP hD hS => ?_)
  replace hP : va_P (dC, dI) nw_cls [(h, .inr (4, [.ref q0, .long (lN 0), .long (lN 0), .int (nI 0)])), (q0, nw_al cJ 127 (fun _ => 0))] H := hP
  replace hD : va_D A [(h, .inr (4, [.ref q0, .long (lN 0), .long (lN 0), .int (nI 0)])), (q0, nw_al cJ 127 (fun _ => 0))] := hD
  refine lv_aload_n hx hb d_Pat_init_22 rfl (lv_at hl 0 rfl) ?_
  refine lv_iconst (v := nI 0) hx hb d_Pat_init_23 (by decide) ?_
  refine va_put (D := (dC, dI)) (ci := 4) (v := .int (nI 0)) (ty := .int) (C := R_Pat) (T := F_Pat) (N := 4) hx hb hts hin_Pat t_Pat t_Pat_ok n_Pat hown hK hP hD hS 0 rfl rfl 3 (by decide) (hts _ (nw_mc 58 rfl)) (fun _ h9 => h9) rfl (by decide +kernel) rfl rfl (Nat.le_of_ble_eq_true rfl) d_Pat_init_24 (fun H locs hP hD hS => ?_)
  replace hP : va_P (dC, dI) nw_cls [(h, .inr (4, [.ref q0, .long (lN 0), .long (lN 0), .int (nI 0)])), (q0, nw_al cJ 127 (fun _ => 0))] H := hP
  replace hD : va_D A [(h, .inr (4, [.ref q0, .long (lN 0), .long (lN 0), .int (nI 0)])), (q0, nw_al cJ 127 (fun _ => 0))] := hD
  refine W.widen (k := 1) (n := 127) (by decide) (by decide) ?_
  exact W.vret hx hb hr (fun t ht hW => ⟨⟨q0, rfl, trivial, by rw [ht]; exact hP, hD⟩, hS.F ht⟩) hS.2.2 d_Pat_init_27

set_option maxHeartbeats 4000000 in
set_option maxRecDepth 100000 in
theorem c_Near_init (l : Launch) (dC : Nat → ClassId) (dI : Nat → Nat → Nat) (sz : Nat) (cB cI : ClassId) (h : Nat) : Met l y_Near_init w_Near_init ({ frames := 1, cells := 2, slots := 1004, locals := 12 }) (nw_Pw [.ref h] (dC, dI) nw_cls [(cB, .byte), (cI, .int)] [(h, .inr (3, [.null, .null]))] sz) (va_Qv (fun _ : Nat × Nat => True) (nw_B (dC, dI) nw_cls (va_A [(h, .inr (3, [.null, .null]))] sz) (fun u => [(h, .inr (3, [.ref u.1, .ref u.2])), (u.1, nw_ai cB 1000 (fun _ => 0)), (u.2, nw_ai cI 4 (fun _ => 0))])) (va_A [(h, .inr (3, [.null, .null]))] sz)) 2 1004 (va_A [(h, .inr (3, [.null, .null]))] sz) := by
  refine Met.ofW (cc := b_Near_init) (maxL := 1) (ret := none) (by decide) rfl ?_
  intro p e s m args below meth cd s₁ B hml hv0
  obtain ⟨rfl, hsz, hP, hK, hD0⟩ := hv0
  have hx := B.exec
  have hb := B.bytes
  have hr := B.returns
  have hts := atoms_spec (ws := w_Near_init) B.pre
  have hown : s.vm.findClass R_Near = some m.cls := findClass_of_methodNamed B.named
  have hlocks := B.notSynchronized
  have hin : meth.name = "<init>" := (name_of_methodNamed B.named B.method).1
  subst hsz
  have hD := hD0.self (sz := s.heap.size)
  generalize hAe : va_A [(h, .inr (3, [.null, .null]))] s.heap.size = A at hD ⊢
  have hA : ∀ q : Nat, s.heap.size ≤ q → A q := fun q h => by rw [← hAe]; exact Or.inr h
  have hS : va_S A s.heap s.heap [] := va_S.rf
  have hl := lv_entry ([.ref h]) (n := 1) (Nat.le_of_ble_eq_true rfl)
  rw [lg_entry_eq]
  generalize (lg_sl ([.ref h]) ++ List.replicate (1 - (lg_sl ([.ref h])).length) Slot.unset).toArray = ls at hl ⊢
  have hl : lv_has ls 1 [(0, .ref h)] := hl
  refine lv_aload_n hx hb d_Near_init_0 rfl (lv_at hl 0 rfl) ?_
  refine W.objInit hx hb hown (hts _ (nw_mc 59 rfl)) (hts _ (nw_mc 48 rfl)) (hts _ (nw_mc 49 rfl)) rfl (by rw [hml]; exact hl.1) rfl d_Near_init_1 (Nat.le_of_ble_eq_true rfl) (Nat.le_of_ble_eq_true rfl) ?_
  refine W.eq (g2 := F0 m 4 ls []) rfl ?_
  refine lv_aload_n hx hb d_Near_init_4 rfl (lv_at hl 0 rfl) ?_
  refine lv_sipush (v := nI 1000) hx hb d_Near_init_5 (by decide) ?_
  refine nw_newa (ty := .byte) (a0 := (1000, .inl (fun _ => nI 0))) hx hb (hts _ (nw_mc 50 rfl)) rfl hK hP hD hS hA 0 rfl rfl (n := 1000) (by decide) (fun _ => rfl) (by decide) (Nat.le_of_ble_eq_true rfl) (Nat.le_of_ble_eq_true rfl) d_Near_init_8 (fun q0 H hP hD hS => ?_)
  replace hP : va_P (dC, dI) nw_cls [(h, .inr (3, [.null, .null])), (q0, nw_ai cB 1000 (fun _ => 0))] H := hP
  replace hD : va_D A [(h, .inr (3, [.null, .null])), (q0, nw_ai cB 1000 (fun _ => 0))] := hD
  refine va_putF (D := (dC, dI)) (ci := 3) (v := .ref q0) (ty := (.array .byte)) (C := R_Near) (T := F_Near) (N := 2) hx hb hts hin_Near t_Near t_Near_ok n_Near hown hK hP hD hS 0 rfl rfl 0 (by decide) (hts _ (nw_mc 60 rfl)) (fun _ h9 => h9) rfl hin rfl (by decide +kernel) rfl rfl (Nat.le_of_ble_eq_true rfl) d_Near_init_10 (fun H locs hP hD hS => ?_)
  replace hP : va_P (dC, dI) nw_cls [(h, .inr (3, [.ref q0, .null])), (q0, nw_ai cB 1000 (fun _ => 0))] H := hP
  replace hD : va_D A [(h, .inr (3, [.ref q0, .null])), (q0, nw_ai cB 1000 (fun _ => 0))] := hD
  refine lv_aload_n hx hb d_Near_init_13 rfl (lv_at hl 0 rfl) ?_
  refine lv_iconst (v := nI 4) hx hb d_Near_init_14 (by decide) ?_
  refine nw_newa (ty := .int) (a0 := (4, .inl (fun _ => nI 0))) hx hb (hts _ (nw_mc 52 rfl)) rfl hK hP hD hS hA 1 rfl rfl (n := 4) (by decide) (fun _ => rfl) (by decide) (Nat.le_of_ble_eq_true rfl) (Nat.le_of_ble_eq_true rfl) d_Near_init_15 (fun q1 H hP hD hS => ?_)
  replace hP : va_P (dC, dI) nw_cls [(h, .inr (3, [.ref q0, .null])), (q0, nw_ai cB 1000 (fun _ => 0)), (q1, nw_ai cI 4 (fun _ => 0))] H := hP
  replace hD : va_D A [(h, .inr (3, [.ref q0, .null])), (q0, nw_ai cB 1000 (fun _ => 0)), (q1, nw_ai cI 4 (fun _ => 0))] := hD
  refine va_putF (D := (dC, dI)) (ci := 3) (v := .ref q1) (ty := (.array .int)) (C := R_Near) (T := F_Near) (N := 2) hx hb hts hin_Near t_Near t_Near_ok n_Near hown hK hP hD hS 0 rfl rfl 1 (by decide) (hts _ (nw_mc 61 rfl)) (fun _ h9 => h9) rfl hin rfl (by decide +kernel) rfl rfl (Nat.le_of_ble_eq_true rfl) d_Near_init_17 (fun H locs hP hD hS => ?_)
  replace hP : va_P (dC, dI) nw_cls [(h, .inr (3, [.ref q0, .ref q1])), (q0, nw_ai cB 1000 (fun _ => 0)), (q1, nw_ai cI 4 (fun _ => 0))] H := hP
  replace hD : va_D A [(h, .inr (3, [.ref q0, .ref q1])), (q0, nw_ai cB 1000 (fun _ => 0)), (q1, nw_ai cI 4 (fun _ => 0))] := hD
  refine W.widen (k := 2) (n := 1004) (by decide) (by decide) ?_
  exact W.vret hx hb hr (fun t ht hW => ⟨⟨(q0, q1), rfl, trivial, by rw [ht]; exact hP, hD⟩, hS.F ht⟩) hS.2.2 d_Near_init_20
end
section
set_option maxHeartbeats 4000000 in
set_option maxRecDepth 100000 in
theorem c_Mod_thrown (l : Launch) (dC : Nat → ClassId) (dI : Nat → Nat → Nat) (hM ai aw ar al aL aD ac af ap an ax isz wn chn rn th : Nat) : Met l y_Mod_thrown w_Mod_thrown ({ frames := 0, cells := 0, slots := 0, locals := 0 }) (nw_Pr [.ref hM] (dC, dI) nw_cls [] [(hM, .inr (1, [.ref ai, .ref aw, .ref ar, .ref al, .ref aL, .ref aD, .ref ac, .ref af, .ref ap, .ref an, .ref ax, .int (nI isz), .int (nI wn), .int (nI chn), .int (nI rn), .int (nI th)]))]) (vp_Si (fun r => r = nI th)) 0 0 (fun _ => False) := by
  refine Met.ofW (cc := b_Mod_thrown) (maxL := 1) (ret := (some .int)) (by decide) rfl ?_
  intro p e s m args below meth cd s₁ B hml hv0
  obtain ⟨rfl, hP, hK⟩ := hv0
  have hx := B.exec
  have hb := B.bytes
  have hr := B.returns
  have hts := atoms_spec (ws := w_Mod_thrown) B.pre
  have hown : s.vm.findClass R_Mod = some m.cls := findClass_of_methodNamed B.named
  have hlocks := B.notSynchronized
  have hl := lv_entry ([.ref hM]) (n := 1) (Nat.le_of_ble_eq_true rfl)
  rw [lg_entry_eq]
  generalize (lg_sl ([.ref hM]) ++ List.replicate (1 - (lg_sl ([.ref hM])).length) Slot.unset).toArray = ls at hl ⊢
  have hl : lv_has ls 1 [(0, .ref hM)] := hl
  refine lv_aload_n hx hb d_Mod_thrown_0 rfl (lv_at hl 0 rfl) ?_
  refine va_get (D := (dC, dI)) (ci := 1) (v := .int (nI th)) (C := R_Mod) (T := F_Mod) (N := 16) hx hb hts hin_Mod hown hK hP 0 rfl rfl 15 (by decide) (hts _ (nw_mc 62 rfl)) (fun _ h9 => h9) rfl d_Mod_thrown_1 ?_
  exact W.iret (v := nI th) hx hb hr (fun t ht hW => ⟨_, rfl, rfl, ht⟩) (fun q hq => by cases hq) d_Mod_thrown_4

set_option maxHeartbeats 4000000 in
set_option maxRecDepth 100000 in
theorem c_Mod_least (l : Launch) (dC : Nat → ClassId) (dI : Nat → Nat → Nat) (a b : Nat) (ha : a < 2 ^ 31) (hb0 : b < 2 ^ 31) : Met l y_Mod_least w_Mod_least ({ frames := 0, cells := 0, slots := 0, locals := 0 }) (nw_Pr [.int (nI a), .int (nI b)] (dC, dI) nw_cls [] []) (vp_Si (fun r => r = nI (min a b))) 0 0 (fun _ => False) := by
  refine Met.ofW (cc := b_Mod_least) (maxL := 2) (ret := (some .int)) (by decide) rfl ?_
  intro p e s m args below meth cd s₁ B hml hv0
  obtain ⟨rfl, hP, hK⟩ := hv0
  have hx := B.exec
  have hb := B.bytes
  have hr := B.returns
  have hts := atoms_spec (ws := w_Mod_least) B.pre
  have hown : s.vm.findClass R_Mod = some m.cls := findClass_of_methodNamed B.named
  have hlocks := B.notSynchronized
  have hl := lv_entry ([.int (nI a), .int (nI b)]) (n := 2) (Nat.le_of_ble_eq_true rfl)
  rw [lg_entry_eq]
  generalize (lg_sl ([.int (nI a), .int (nI b)]) ++ List.replicate (2 - (lg_sl ([.int (nI a), .int (nI b)])).length) Slot.unset).toArray = ls at hl ⊢
  have hl : lv_has ls 2 [(0, .int (nI a)), (1, .int (nI b))] := hl
  refine lv_iload_n hx hb d_Mod_least_0 rfl (lv_at hl 0 rfl) ?_
  refine lv_iload_n hx hb d_Mod_least_1 rfl (lv_at hl 1 rfl) ?_
  refine lv_icmp_ge hx hb d_Mod_least_2 (tgt := 9) (by decide) (fun hc1 => ?_) (fun hc1 => ?_)
  · rw [nI_leI (by omega) (by omega)] at hc1
    refine lv_iload_n hx hb d_Mod_least_9 rfl (lv_at hl 1 rfl) ?_
    refine nw_ti (y := nI (min a b)) (congrArg nI (show b = min a b by omega)) ?_
    exact W.iret (v := nI (min a b)) hx hb hr (fun t ht hW => ⟨_, rfl, rfl, ht⟩) (fun q hq => by cases hq) d_Mod_least_10
  · rw [nI_leI (by omega) (by omega)] at hc1
    refine lv_iload_n hx hb d_Mod_least_5 rfl (lv_at hl 0 rfl) ?_
    refine lv_goto hx hb d_Mod_least_6 (tgt := 10) (by decide) ?_
    refine nw_ti (y := nI (min a b)) (congrArg nI (show a = min a b by omega)) ?_
    exact W.iret (v := nI (min a b)) hx hb hr (fun t ht hW => ⟨_, rfl, rfl, ht⟩) (fun q hq => by cases hq) d_Mod_least_10

set_option maxHeartbeats 4000000 in
set_option maxRecDepth 100000 in
theorem c_Mod_take (l : Launch) (dC : Nat → ClassId) (dI : Nat → Nat → Nat) (sz : Nat) (hM ai aw ar al aL aD ac af ap an ax isz wn chn rn th : Nat) : Met l y_Mod_take w_Mod_take ({ frames := 0, cells := 0, slots := 0, locals := 0 }) (nw_Pw [.ref hM] (dC, dI) nw_cls [] [(hM, .inr (1, [.ref ai, .ref aw, .ref ar, .ref al, .ref aL, .ref aD, .ref ac, .ref af, .ref ap, .ref an, .ref ax, .int (nI isz), .int (nI wn), .int (nI chn), .int (nI rn), .int (nI th)]))] sz) (va_Qi (fun (r : Int32) (_ : Unit) => r = nI isz) (nw_B (dC, dI) nw_cls (va_A [(hM, .inr (1, [.ref ai, .ref aw, .ref ar, .ref al, .ref aL, .ref aD, .ref ac, .ref af, .ref ap, .ref an, .ref ax, .int (nI isz), .int (nI wn), .int (nI chn), .int (nI rn), .int (nI th)]))] sz) (fun _ : Unit => [(hM, .inr (1, [.ref ai, .ref aw, .ref ar, .ref al, .ref aL, .ref aD, .ref ac, .ref af, .ref ap, .ref an, .ref ax, .int (nI 0), .int (nI wn), .int (nI chn), .int (nI rn), .int (nI th)]))])) (va_A [(hM, .inr (1, [.ref ai, .ref aw, .ref ar, .ref al, .ref aL, .ref aD, .ref ac, .ref af, .ref ap, .ref an, .ref ax, .int (nI isz), .int (nI wn), .int (nI chn), .int (nI rn), .int (nI th)]))] sz)) 0 0 (va_A [(hM, .inr (1, [.ref ai, .ref aw, .ref ar, .ref al, .ref aL, .ref aD, .ref ac, .ref af, .ref ap, .ref an, .ref ax, .int (nI isz), .int (nI wn), .int (nI chn), .int (nI rn), .int (nI th)]))] sz) := by
  refine Met.ofW (cc := b_Mod_take) (maxL := 2) (ret := (some .int)) (by decide) rfl ?_
  intro p e s m args below meth cd s₁ B hml hv0
  obtain ⟨rfl, hsz, hP, hK, hD0⟩ := hv0
  have hx := B.exec
  have hb := B.bytes
  have hr := B.returns
  have hts := atoms_spec (ws := w_Mod_take) B.pre
  have hown : s.vm.findClass R_Mod = some m.cls := findClass_of_methodNamed B.named
  have hlocks := B.notSynchronized
  subst hsz
  have hD := hD0.self (sz := s.heap.size)
  generalize hAe : va_A [(hM, .inr (1, [.ref ai, .ref aw, .ref ar, .ref al, .ref aL, .ref aD, .ref ac, .ref af, .ref ap, .ref an, .ref ax, .int (nI isz), .int (nI wn), .int (nI chn), .int (nI rn), .int (nI th)]))] s.heap.size = A at hD ⊢
  have hA : ∀ q : Nat, s.heap.size ≤ q → A q := fun q h => by rw [← hAe]; exact Or.inr h
  have hS : va_S A s.heap s.heap [] := va_S.rf
  have hl := lv_entry ([.ref hM]) (n := 2) (Nat.le_of_ble_eq_true rfl)
  rw [lg_entry_eq]
  generalize (lg_sl ([.ref hM]) ++ List.replicate (2 - (lg_sl ([.ref hM])).length) Slot.unset).toArray = ls at hl ⊢
  have hl : lv_has ls 2 [(0, .ref hM)] := hl
  refine lv_aload_n hx hb d_Mod_take_0 rfl (lv_at hl 0 rfl) ?_
  refine va_get (D := (dC, dI)) (ci := 1) (v := .int (nI isz)) (C := R_Mod) (T := F_Mod) (N := 16) hx hb hts hin_Mod hown hK hP 0 rfl rfl 11 (by decide) (hts _ (nw_mc 63 rfl)) (fun _ h9 => h9) rfl d_Mod_take_1 ?_
  refine lv_istore_n hx hb d_Mod_take_4 rfl hl (by decide) rfl (fun ls hl => ?_)
  replace hl : lv_has ls 2 [(1, .int (nI isz)), (0, .ref hM)] := hl
  refine lv_aload_n hx hb d_Mod_take_5 rfl (lv_at hl 1 rfl) ?_
  refine lv_iconst (v := nI 0) hx hb d_Mod_take_6 (by decide) ?_
  refine va_put (D := (dC, dI)) (ci := 1) (v := .int (nI 0)) (ty := .int) (C := R_Mod) (T := F_Mod) (N := 16) hx hb hts hin_Mod t_Mod t_Mod_ok n_Mod hown hK hP hD hS 0 rfl rfl 11 (by decide) (hts _ (nw_mc 63 rfl)) (fun _ h9 => h9) rfl (by decide +kernel) rfl rfl (Nat.le_of_ble_eq_true rfl) d_Mod_take_7 (fun H locs hP hD hS => ?_)
  replace hP : va_P (dC, dI) nw_cls [(hM, .inr (1, [.ref ai, .ref aw, .ref ar, .ref al, .ref aL, .ref aD, .ref ac, .ref af, .ref ap, .ref an, .ref ax, .int (nI 0), .int (nI wn), .int (nI chn), .int (nI rn), .int (nI th)]))] H := hP
  replace hD : va_D A [(hM, .inr (1, [.ref ai, .ref aw, .ref ar, .ref al, .ref aL, .ref aD, .ref ac, .ref af, .ref ap, .ref an, .ref ax, .int (nI 0), .int (nI wn), .int (nI chn), .int (nI rn), .int (nI th)]))] := hD
  refine lv_iload_n hx hb d_Mod_take_10 rfl (lv_at hl 0 rfl) ?_
  exact W.iret (v := nI isz) hx hb hr (fun t ht hW => ⟨⟨_, (), rfl, rfl, by rw [ht]; exact hP, hD⟩, hS.F ht⟩) hS.2.2 d_Mod_take_11

set_option maxHeartbeats 4000000 in
set_option maxRecDepth 100000 in
theorem c_Mod_order (l : Launch) (dC : Nat → ClassId) (dI : Nat → Nat → Nat) (cB cI : ClassId) (hM ai aw ar al aL aD ac af ap an ax isz wn chn rn th : Nat) (I X Ln : Nat → Nat) (i n : Nat) (hi : i < 1000) (hn : n ≤ 60) (hL : Ln i ≤ 60) (hX : ∀ j, X j < 128) (hI0 : ∀ j, I j < 128) : Met l y_Mod_order w_Mod_order ({ frames := 1, cells := 0, slots := 0, locals := 21 }) (nw_Pr [.ref hM, .int (nI i), .int (nI n)] (dC, dI) nw_cls [(cB, .byte), (cI, .int)] [(hM, .inr (1, [.ref ai, .ref aw, .ref ar, .ref al, .ref aL, .ref aD, .ref ac, .ref af, .ref ap, .ref an, .ref ax, .int (nI isz), .int (nI wn), .int (nI chn), .int (nI rn), .int (nI th)])), (ai, nw_ai cB 60 I), (aw, nw_ai cB 60000 X), (al, nw_ai cI 1000 Ln)]) (vp_Si (fun r => r = nw_cm (fun k => X (i * 60 + k)) (Ln i) I n)) 0 0 (fun _ => False) := by
  refine Met.ofW (cc := b_Mod_order) (maxL := 5) (ret := (some .int)) (by decide) rfl ?_
  intro p e s m args below meth cd s₁ B hml hv0
  obtain ⟨rfl, hP, hK⟩ := hv0
  have hx := B.exec
  have hb := B.bytes
  have hr := B.returns
  have hts := atoms_spec (ws := w_Mod_order) B.pre
  have hown : s.vm.findClass R_Mod = some m.cls := findClass_of_methodNamed B.named
  have hlocks := B.notSynchronized
  have hl := lv_entry ([.ref hM, .int (nI i), .int (nI n)]) (n := 5) (Nat.le_of_ble_eq_true rfl)
  rw [lg_entry_eq]
  generalize (lg_sl ([.ref hM, .int (nI i), .int (nI n)]) ++ List.replicate (5 - (lg_sl ([.ref hM, .int (nI i), .int (nI n)])).length) Slot.unset).toArray = ls at hl ⊢
  have hl : lv_has ls 5 [(0, .ref hM), (1, .int (nI i)), (2, .int (nI n))] := hl
  refine lv_iload_n hx hb d_Mod_order_0 rfl (lv_at hl 2 rfl) ?_
  refine lv_aload_n hx hb d_Mod_order_1 rfl (lv_at hl 0 rfl) ?_
  refine va_get (D := (dC, dI)) (ci := 1) (v := .ref al) (C := R_Mod) (T := F_Mod) (N := 16) hx hb hts hin_Mod hown hK hP 0 rfl rfl 3 (by decide) (hts _ (nw_mc 64 rfl)) (fun _ h9 => h9) rfl d_Mod_order_2 ?_
  refine lv_iload_n hx hb d_Mod_order_5 rfl (lv_at hl 1 rfl) ?_
  refine nw_iald hx hb hK hP 3 1 rfl rfl (k := i) (by omega) (by first | decide | omega) d_Mod_order_6 ?_
  refine vp_callSi (va_Run.run (va_runS (As := [.int (nI n), .int (nI (Ln i))]) (rest := []) ⟨hx, hb, hml, hown, hts⟩ (c_Mod_least l dC dI n (Ln i) (by omega) (by omega)) (cwS 2 hts (nw_GS (nw_m 65 rfl) (nw_m 66 rfl) (nw_m 67 rfl) (nw_m 68 rfl)) rfl rfl rfl (by decide +kernel) ⟨Nat.le_of_ble_eq_true rfl, Nat.le_of_ble_eq_true rfl⟩) (nw_preS hK hP [] [] rfl rfl) rfl rfl hl.1 rfl (lv_room (Nat.le_of_ble_eq_true rfl)) d_Mod_order_7 ⟨Nat.le_of_ble_eq_true rfl, Nat.le_of_ble_eq_true rfl⟩)) (fun r her => ?_)
  subst her
  refine lv_istore_n hx hb d_Mod_order_10 rfl hl (by decide) rfl (fun ls hl => ?_)
  replace hl : lv_has ls 5 [(3, .int (nI (min n (Ln i)))), (0, .ref hM), (1, .int (nI i)), (2, .int (nI n))] := hl
  refine lv_iconst (v := nI 0) hx hb d_Mod_order_11 (by decide) ?_
  refine lv_istore hx hb d_Mod_order_12 hl (by decide) rfl (fun ls hl => ?_)
  replace hl : lv_has ls 5 [(4, .int (nI 0)), (3, .int (nI (min n (Ln i)))), (0, .ref hM), (1, .int (nI i)), (2, .int (nI n))] := hl
  rw [Nat.min_comm n (Ln i)] at hl
  have hl : lv_has ls 5 [(4, .int (nI 0)), (3, .int (nI (min (Ln i) n))), (0, .ref hM), (1, .int (nI i)), (2, .int (nI n))] := hl
  refine nw_loopR (σ := Nat) (fun k => k ≤ min (Ln i) n ∧ nw_cm (fun k => X (i * 60 + k)) (Ln i) I n = nw_cmp (fun k => X (i * 60 + k)) I (Ln i) n (min (Ln i) n - k) k) (fun k => [(4, .int (nI k)), (3, .int (nI (min (Ln i) n))), (0, .ref hM), (1, .int (nI i)), (2, .int (nI n))]) (fun k => min (Ln i) n - k) (fun x hI ih ls hl => ?_) 0 (⟨Nat.zero_le _, rfl⟩) hl
  obtain ⟨k, hx9⟩ : ∃ z, z = x := ⟨x, rfl⟩
  subst hx9
  replace hI : k ≤ min (Ln i) n ∧ nw_cm (fun k => X (i * 60 + k)) (Ln i) I n = nw_cmp (fun k => X (i * 60 + k)) I (Ln i) n (min (Ln i) n - k) k := hI
  replace hl : lv_has ls 5 [(4, .int (nI k)), (3, .int (nI (min (Ln i) n))), (0, .ref hM), (1, .int (nI i)), (2, .int (nI n))] := hl
  obtain ⟨hk, he⟩ := hI
  refine lv_iload hx hb d_Mod_order_14 (lv_at hl 0 rfl) ?_
  refine lv_iload_n hx hb d_Mod_order_16 rfl (lv_at hl 1 rfl) ?_
  refine lv_icmp_ge hx hb d_Mod_order_17 (tgt := 69) (by decide) (fun hc1 => ?_) (fun hc1 => ?_)
  · rw [nI_leI (by omega) (by omega)] at hc1
    refine lv_aload_n hx hb d_Mod_order_69 rfl (lv_at hl 2 rfl) ?_
    refine va_get (D := (dC, dI)) (ci := 1) (v := .ref al) (C := R_Mod) (T := F_Mod) (N := 16) hx hb hts hin_Mod hown hK hP 0 rfl rfl 3 (by decide) (hts _ (nw_mc 64 rfl)) (fun _ h9 => h9) rfl d_Mod_order_70 ?_
    refine lv_iload_n hx hb d_Mod_order_73 rfl (lv_at hl 3 rfl) ?_
    refine nw_iald hx hb hK hP 3 1 rfl rfl (k := i) (by omega) (by first | decide | omega) d_Mod_order_74 ?_
    refine lv_iload_n hx hb d_Mod_order_75 rfl (lv_at hl 4 rfl) ?_
    refine lv_isub hx hb d_Mod_order_76 ?_
    exact W.iret (v := (nI (Ln i)) - (nI n)) hx hb hr (fun t ht hW => ⟨_, rfl, by rw [he, nw_cmp_end (by omega)], ht⟩) (fun q hq => by cases hq) d_Mod_order_77
  · rw [nI_leI (by omega) (by omega)] at hc1
    refine lv_aload_n hx hb d_Mod_order_20 rfl (lv_at hl 2 rfl) ?_
    refine va_get (D := (dC, dI)) (ci := 1) (v := .ref aw) (C := R_Mod) (T := F_Mod) (N := 16) hx hb hts hin_Mod hown hK hP 0 rfl rfl 1 (by decide) (hts _ (nw_mc 69 rfl)) (fun _ h9 => h9) rfl d_Mod_order_21 ?_
    refine lv_iload_n hx hb d_Mod_order_24 rfl (lv_at hl 3 rfl) ?_
    refine lv_bipush (v := nI 60) hx hb d_Mod_order_25 (by decide) ?_
    refine lv_imul hx hb d_Mod_order_27 ?_
    refine nw_ti (pk_mul i 60) ?_
    refine lv_iload hx hb d_Mod_order_28 (lv_at hl 0 rfl) ?_
    refine lv_iadd hx hb d_Mod_order_30 ?_
    refine nw_ti (nI_add (i * 60) k) ?_
    refine nw_bald hx hb hK hP 2 0 rfl rfl (k := ((i * 60) + k)) (by omega) (by first | decide | omega) d_Mod_order_31 ?_
    refine lv_aload_n hx hb d_Mod_order_32 rfl (lv_at hl 2 rfl) ?_
    refine va_get (D := (dC, dI)) (ci := 1) (v := .ref ai) (C := R_Mod) (T := F_Mod) (N := 16) hx hb hts hin_Mod hown hK hP 0 rfl rfl 0 (by decide) (hts _ (nw_mc 70 rfl)) (fun _ h9 => h9) rfl d_Mod_order_33 ?_
    refine lv_iload hx hb d_Mod_order_36 (lv_at hl 0 rfl) ?_
    refine nw_bald hx hb hK hP 1 0 rfl rfl (k := k) (by omega) (by first | decide | omega) d_Mod_order_38 ?_
    by_cases hq : X ((i * 60) + k) = I k
    · refine lv_icmp_eq hx hb d_Mod_order_39 (tgt := 63) (by decide) (fun _ => ?_) (fun hc2 => absurd (congrArg nI hq) hc2)
      refine lv_iinc (v := nI (k + 1)) hx hb d_Mod_order_63 hl (k := 0) rfl (nI_add k 1) (by decide) rfl (fun ls hl => ?_)
      have hl : lv_has ls 5 [(4, .int (nI (k + 1))), (3, .int (nI (min (Ln i) n))), (0, .ref hM), (1, .int (nI i)), (2, .int (nI n))] := hl
      refine lv_goto hx hb d_Mod_order_66 (tgt := 14) (by decide) ?_
      exact ih (k + 1) (⟨by omega, by rw [he, nw_cmp_step (by omega) hq]⟩) (show min (Ln i) n - (k + 1) < min (Ln i) n - k by omega) _ hl
    · refine lv_icmp_eq hx hb d_Mod_order_39 (tgt := 63) (by decide) (fun hc2 => ?_) (fun _ => ?_)
      · exact absurd ((nI_eq (nw_big (hX _)) (nw_big (hI0 _))).mp hc2) hq
      refine lv_aload_n hx hb d_Mod_order_42 rfl (lv_at hl 2 rfl) ?_
      refine va_get (D := (dC, dI)) (ci := 1) (v := .ref aw) (C := R_Mod) (T := F_Mod) (N := 16) hx hb hts hin_Mod hown hK hP 0 rfl rfl 1 (by decide) (hts _ (nw_mc 69 rfl)) (fun _ h9 => h9) rfl d_Mod_order_43 ?_
      refine lv_iload_n hx hb d_Mod_order_46 rfl (lv_at hl 3 rfl) ?_
      refine lv_bipush (v := nI 60) hx hb d_Mod_order_47 (by decide) ?_
      refine lv_imul hx hb d_Mod_order_49 ?_
      refine nw_ti (pk_mul i 60) ?_
      refine lv_iload hx hb d_Mod_order_50 (lv_at hl 0 rfl) ?_
      refine lv_iadd hx hb d_Mod_order_52 ?_
      refine nw_ti (nI_add (i * 60) k) ?_
      refine nw_bald hx hb hK hP 2 0 rfl rfl (k := ((i * 60) + k)) (by omega) (by first | decide | omega) d_Mod_order_53 ?_
      refine lv_aload_n hx hb d_Mod_order_54 rfl (lv_at hl 2 rfl) ?_
      refine va_get (D := (dC, dI)) (ci := 1) (v := .ref ai) (C := R_Mod) (T := F_Mod) (N := 16) hx hb hts hin_Mod hown hK hP 0 rfl rfl 0 (by decide) (hts _ (nw_mc 70 rfl)) (fun _ h9 => h9) rfl d_Mod_order_55 ?_
      refine lv_iload hx hb d_Mod_order_58 (lv_at hl 0 rfl) ?_
      refine nw_bald hx hb hK hP 1 0 rfl rfl (k := k) (by omega) (by first | decide | omega) d_Mod_order_60 ?_
      refine lv_isub hx hb d_Mod_order_61 ?_
      exact W.iret (v := (nI (X ((i * 60) + k))) - (nI (I k))) hx hb hr (fun t ht hW => ⟨_, rfl, by rw [he, nw_cmp_stop (by omega) hq], ht⟩) (fun q hq => by cases hq) d_Mod_order_62

set_option maxHeartbeats 4000000 in
set_option maxRecDepth 100000 in
theorem c_Mod_standing (l : Launch) (dC : Nat → ClassId) (dI : Nat → Nat → Nat) (cB cI : ClassId) (hM ai aw ar al aL aD ac af ap an ax isz wn chn rn th : Nat) (I X Ln : Nat → Nat) (n : Nat) (hw : wn ≤ 1000) (hn : n ≤ 60) (hL : ∀ i, i < wn → Ln i ≤ 60) (hX : ∀ j, X j < 128) (hI0 : ∀ j, I j < 128) : Met l y_Mod_standing w_Mod_standing ({ frames := 2, cells := 0, slots := 0, locals := 45 }) (nw_Pr [.ref hM, .int (nI n)] (dC, dI) nw_cls [(cB, .byte), (cI, .int)] [(hM, .inr (1, [.ref ai, .ref aw, .ref ar, .ref al, .ref aL, .ref aD, .ref ac, .ref af, .ref ap, .ref an, .ref ax, .int (nI isz), .int (nI wn), .int (nI chn), .int (nI rn), .int (nI th)])), (ai, nw_ai cB 60 I), (aw, nw_ai cB 60000 X), (al, nw_ai cI 1000 Ln)]) (vp_Si (fun r => r = nI (nw_cnt (fun i => nw_cm (fun k => X (i * 60 + k)) (Ln i) I n < 0) wn))) 0 0 (fun _ => False) := by
  refine Met.ofW (cc := b_Mod_standing) (maxL := 4) (ret := (some .int)) (by decide) rfl ?_
  intro p e s m args below meth cd s₁ B hml hv0
  obtain ⟨rfl, hP, hK⟩ := hv0
  have hx := B.exec
  have hb := B.bytes
  have hr := B.returns
  have hts := atoms_spec (ws := w_Mod_standing) B.pre
  have hown : s.vm.findClass R_Mod = some m.cls := findClass_of_methodNamed B.named
  have hlocks := B.notSynchronized
  have hl := lv_entry ([.ref hM, .int (nI n)]) (n := 4) (Nat.le_of_ble_eq_true rfl)
  rw [lg_entry_eq]
  generalize (lg_sl ([.ref hM, .int (nI n)]) ++ List.replicate (4 - (lg_sl ([.ref hM, .int (nI n)])).length) Slot.unset).toArray = ls at hl ⊢
  have hl : lv_has ls 4 [(0, .ref hM), (1, .int (nI n))] := hl
  refine lv_iconst (v := nI 0) hx hb d_Mod_standing_0 (by decide) ?_
  refine lv_istore_n hx hb d_Mod_standing_1 rfl hl (by decide) rfl (fun ls hl => ?_)
  replace hl : lv_has ls 4 [(2, .int (nI 0)), (0, .ref hM), (1, .int (nI n))] := hl
  refine lv_iconst (v := nI 0) hx hb d_Mod_standing_2 (by decide) ?_
  refine lv_istore_n hx hb d_Mod_standing_3 rfl hl (by decide) rfl (fun ls hl => ?_)
  replace hl : lv_has ls 4 [(3, .int (nI 0)), (2, .int (nI 0)), (0, .ref hM), (1, .int (nI n))] := hl
  refine nw_loopR (σ := Nat) (fun k => k ≤ wn) (fun k => [(3, .int (nI k)), (2, .int (nI (nw_cnt (fun i => nw_cm (fun k => X (i * 60 + k)) (Ln i) I n < 0) k))), (0, .ref hM), (1, .int (nI n))]) (fun k => wn - k) (fun x hI ih ls hl => ?_) 0 (Nat.zero_le _) hl
  obtain ⟨k, hx9⟩ : ∃ z, z = x := ⟨x, rfl⟩
  subst hx9
  replace hI : k ≤ wn := hI
  replace hl : lv_has ls 4 [(3, .int (nI k)), (2, .int (nI (nw_cnt (fun i => nw_cm (fun k => X (i * 60 + k)) (Ln i) I n < 0) k))), (0, .ref hM), (1, .int (nI n))] := hl
  have hb1 := nw_cnt_le (fun i => nw_cm (fun k => X (i * 60 + k)) (Ln i) I n < 0) k
  refine lv_iload_n hx hb d_Mod_standing_4 rfl (lv_at hl 0 rfl) ?_
  refine lv_aload_n hx hb d_Mod_standing_5 rfl (lv_at hl 2 rfl) ?_
  refine va_get (D := (dC, dI)) (ci := 1) (v := .int (nI wn)) (C := R_Mod) (T := F_Mod) (N := 16) hx hb hts hin_Mod hown hK hP 0 rfl rfl 12 (by decide) (hts _ (nw_mc 71 rfl)) (fun _ h9 => h9) rfl d_Mod_standing_6 ?_
  refine lv_icmp_ge hx hb d_Mod_standing_9 (tgt := 30) (by decide) (fun hc1 => ?_) (fun hc1 => ?_)
  · rw [nI_leI (by omega) (by omega)] at hc1
    refine lv_iload_n hx hb d_Mod_standing_30 rfl (lv_at hl 1 rfl) ?_
    exact W.iret (v := nI (nw_cnt (fun i => nw_cm (fun k => X (i * 60 + k)) (Ln i) I n < 0) k)) hx hb hr (fun t ht hW => ⟨_, rfl, by rw [show k = wn by omega], ht⟩) (fun q hq => by cases hq) d_Mod_standing_31
  · rw [nI_leI (by omega) (by omega)] at hc1
    refine lv_aload_n hx hb d_Mod_standing_12 rfl (lv_at hl 2 rfl) ?_
    refine lv_iload_n hx hb d_Mod_standing_13 rfl (lv_at hl 0 rfl) ?_
    refine lv_iload_n hx hb d_Mod_standing_14 rfl (lv_at hl 3 rfl) ?_
    refine vp_callSi (va_Run.run (va_runV (As := [.int (nI k), .int (nI n)]) (rest := []) ⟨hx, hb, hml, hown, hts⟩ (c_Mod_order l dC dI cB cI hM ai aw ar al aL aD ac af ap an ax isz wn chn rn th I X Ln k n (by omega) (by omega) (hL k (by omega)) hX hI0) (cwV (C := R_Mod) 2 hts (nw_GV (nw_m 72 rfl) (nw_m 73 rfl) (nw_m 74 rfl) (nw_m 67 rfl) (nw_m 75 rfl)) rfl rfl rfl (by decide +kernel) ⟨Nat.le_of_ble_eq_true rfl, Nat.le_of_ble_eq_true rfl⟩) (nw_preV (q0 := 0) (ci := 1) (q := (R_Mod, F_Mod, 16)) hK hP [0, 1, 2, 3] [0, 1] rfl rfl rfl rfl) rfl rfl hl.1 rfl (lv_room (Nat.le_of_ble_eq_true rfl)) d_Mod_standing_15 ⟨Nat.le_of_ble_eq_true rfl, Nat.le_of_ble_eq_true rfl⟩)) (fun r her => ?_)
    subst her
    refine lv_if_ge hx hb d_Mod_standing_18 (tgt := 24) (by decide) (fun hc2 => ?_) (fun hc2 => ?_)
    · have hk1 : nw_cnt (fun i => nw_cm (fun k => X (i * 60 + k)) (Ln i) I n < 0) (k + 1) = nw_cnt (fun i => nw_cm (fun k => X (i * 60 + k)) (Ln i) I n < 0) k := by
        show _ + (if _ then 1 else 0) = _
        rw [if_neg (Int32.not_lt.mpr hc2)]; rfl
      rw [← hk1] at hl
      refine lv_iinc (v := nI (k + 1)) hx hb d_Mod_standing_24 hl (k := 0) rfl (nI_add k 1) (by decide) rfl (fun ls hl => ?_)
      have hl : lv_has ls 4 [(3, .int (nI (k + 1))), (2, .int (nI (nw_cnt (fun i => nw_cm (fun k => X (i * 60 + k)) (Ln i) I n < 0) (k + 1)))), (0, .ref hM), (1, .int (nI n))] := hl
      refine lv_goto hx hb d_Mod_standing_27 (tgt := 4) (by decide) ?_
      exact ih (k + 1) (by omega) (show wn - (k + 1) < wn - k by omega) _ hl
    · have hk1 : nw_cnt (fun i => nw_cm (fun k => X (i * 60 + k)) (Ln i) I n < 0) (k + 1) = nw_cnt (fun i => nw_cm (fun k => X (i * 60 + k)) (Ln i) I n < 0) k + 1 := by
        show _ + (if _ then 1 else 0) = _
        rw [if_pos (Int32.not_le.mp hc2)]
      refine lv_iinc (v := nI ((nw_cnt (fun i => nw_cm (fun k => X (i * 60 + k)) (Ln i) I n < 0) k) + 1)) hx hb d_Mod_standing_21 hl (k := 1) rfl (nI_add (nw_cnt (fun i => nw_cm (fun k => X (i * 60 + k)) (Ln i) I n < 0) k) 1) (by decide) rfl (fun ls hl => ?_)
      have hl : lv_has ls 4 [(2, .int (nI ((nw_cnt (fun i => nw_cm (fun k => X (i * 60 + k)) (Ln i) I n < 0) k) + 1))), (3, .int (nI k)), (0, .ref hM), (1, .int (nI n))] := hl
      rw [← hk1] at hl
      have hl : lv_has ls 4 [(2, .int (nI (nw_cnt (fun i => nw_cm (fun k => X (i * 60 + k)) (Ln i) I n < 0) (k + 1)))), (3, .int (nI k)), (0, .ref hM), (1, .int (nI n))] := hl
      refine lv_iinc (v := nI (k + 1)) hx hb d_Mod_standing_24 hl (k := 1) rfl (nI_add k 1) (by decide) rfl (fun ls hl => ?_)
      have hl : lv_has ls 4 [(3, .int (nI (k + 1))), (2, .int (nI (nw_cnt (fun i => nw_cm (fun k => X (i * 60 + k)) (Ln i) I n < 0) (k + 1)))), (0, .ref hM), (1, .int (nI n))] := hl
      refine lv_goto hx hb d_Mod_standing_27 (tgt := 4) (by decide) ?_
      exact ih (k + 1) (by omega) (show wn - (k + 1) < wn - k by omega) _ hl

set_option maxHeartbeats 4000000 in
set_option maxRecDepth 100000 in
theorem c_Mod_before (l : Launch) (dC : Nat → ClassId) (dI : Nat → Nat → Nat) (sz : Nat) (cB cI : ClassId) (hM ai aw ar al aL aD ac af ap an ax isz wn chn rn th : Nat) (I X Ln : Nat → Nat) (hw : wn ≤ 1000) (hn : isz ≤ 60) (hL : ∀ i, i < wn → Ln i ≤ 60) (hX : ∀ j, X j < 128) (hI0 : ∀ j, I j < 128) : Met l y_Mod_before w_Mod_before ({ frames := 3, cells := 0, slots := 0, locals := 68 }) (nw_Pw [.ref hM] (dC, dI) nw_cls [(cB, .byte), (cI, .int)] [(hM, .inr (1, [.ref ai, .ref aw, .ref ar, .ref al, .ref aL, .ref aD, .ref ac, .ref af, .ref ap, .ref an, .ref ax, .int (nI isz), .int (nI wn), .int (nI chn), .int (nI rn), .int (nI th)])), (ai, nw_ai cB 60 I), (aw, nw_ai cB 60000 X), (al, nw_ai cI 1000 Ln)] sz) (va_Qi (fun (r : Int32) (_ : Unit) => r = nI (nw_cnt (fun i => nw_cm (fun k => X (i * 60 + k)) (Ln i) I isz < 0) wn)) (nw_B (dC, dI) nw_cls (va_A [(hM, .inr (1, [.ref ai, .ref aw, .ref ar, .ref al, .ref aL, .ref aD, .ref ac, .ref af, .ref ap, .ref an, .ref ax, .int (nI isz), .int (nI wn), .int (nI chn), .int (nI rn), .int (nI th)])), (ai, nw_ai cB 60 I), (aw, nw_ai cB 60000 X), (al, nw_ai cI 1000 Ln)] sz) (fun _ : Unit => [(hM, .inr (1, [.ref ai, .ref aw, .ref ar, .ref al, .ref aL, .ref aD, .ref ac, .ref af, .ref ap, .ref an, .ref ax, .int (nI 0), .int (nI wn), .int (nI chn), .int (nI rn), .int (nI 0)])), (ai, nw_ai cB 60 I), (aw, nw_ai cB 60000 X), (al, nw_ai cI 1000 Ln)])) (va_A [(hM, .inr (1, [.ref ai, .ref aw, .ref ar, .ref al, .ref aL, .ref aD, .ref ac, .ref af, .ref ap, .ref an, .ref ax, .int (nI isz), .int (nI wn), .int (nI chn), .int (nI rn), .int (nI th)])), (ai, nw_ai cB 60 I), (aw, nw_ai cB 60000 X), (al, nw_ai cI 1000 Ln)] sz)) 0 0 (va_A [(hM, .inr (1, [.ref ai, .ref aw, .ref ar, .ref al, .ref aL, .ref aD, .ref ac, .ref af, .ref ap, .ref an, .ref ax, .int (nI isz), .int (nI wn), .int (nI chn), .int (nI rn), .int (nI th)])), (ai, nw_ai cB 60 I), (aw, nw_ai cB 60000 X), (al, nw_ai cI 1000 Ln)] sz) := by
  refine Met.ofW (cc := b_Mod_before) (maxL := 1) (ret := (some .int)) (by decide) rfl ?_
  intro p e s m args below meth cd s₁ B hml hv0
  obtain ⟨rfl, hsz, hP, hK, hD0⟩ := hv0
  have hx := B.exec
  have hb := B.bytes
  have hr := B.returns
  have hts := atoms_spec (ws := w_Mod_before) B.pre
  have hown : s.vm.findClass R_Mod = some m.cls := findClass_of_methodNamed B.named
  have hlocks := B.notSynchronized
  subst hsz
  have hD := hD0.self (sz := s.heap.size)
  generalize hAe : va_A [(hM, .inr (1, [.ref ai, .ref aw, .ref ar, .ref al, .ref aL, .ref aD, .ref ac, .ref af, .ref ap, .ref an, .ref ax, .int (nI isz), .int (nI wn), .int (nI chn), .int (nI rn), .int (nI th)])), (ai, nw_ai cB 60 I), (aw, nw_ai cB 60000 X), (al, nw_ai cI 1000 Ln)] s.heap.size = A at hD ⊢
  have hA : ∀ q : Nat, s.heap.size ≤ q → A q := fun q h => by rw [← hAe]; exact Or.inr h
  have hS : va_S A s.heap s.heap [] := va_S.rf
  have hl := lv_entry ([.ref hM]) (n := 1) (Nat.le_of_ble_eq_true rfl)
  rw [lg_entry_eq]
  generalize (lg_sl ([.ref hM]) ++ List.replicate (1 - (lg_sl ([.ref hM])).length) Slot.unset).toArray = ls at hl ⊢
  have hl : lv_has ls 1 [(0, .ref hM)] := hl
  refine lv_aload_n hx hb d_Mod_before_0 rfl (lv_at hl 0 rfl) ?_
  refine lv_iconst (v := nI 0) hx hb d_Mod_before_1 (by decide) ?_
  refine va_put (D := (dC, dI)) (ci := 1) (v := .int (nI 0)) (ty := .int) (C := R_Mod) (T := F_Mod) (N := 16) hx hb hts hin_Mod t_Mod t_Mod_ok n_Mod hown hK hP hD hS 0 rfl rfl 15 (by decide) (hts _ (nw_mc 62 rfl)) (fun _ h9 => h9) rfl (by decide +kernel) rfl rfl (Nat.le_of_ble_eq_true rfl) d_Mod_before_2 (fun H locs hP hD hS => ?_)
  replace hP : va_P (dC, dI) nw_cls [(hM, .inr (1, [.ref ai, .ref aw, .ref ar, .ref al, .ref aL, .ref aD, .ref ac, .ref af, .ref ap, .ref an, .ref ax, .int (nI isz), .int (nI wn), .int (nI chn), .int (nI rn), .int (nI 0)])), (ai, nw_ai cB 60 I), (aw, nw_ai cB 60000 X), (al, nw_ai cI 1000 Ln)] H := hP
  replace hD : va_D A [(hM, .inr (1, [.ref ai, .ref aw, .ref ar, .ref al, .ref aL, .ref aD, .ref ac, .ref af, .ref ap, .ref an, .ref ax, .int (nI isz), .int (nI wn), .int (nI chn), .int (nI rn), .int (nI 0)])), (ai, nw_ai cB 60 I), (aw, nw_ai cB 60000 X), (al, nw_ai cI 1000 Ln)] := hD
  refine lv_aload_n hx hb d_Mod_before_5 rfl (lv_at hl 0 rfl) ?_
  refine lv_aload_n hx hb d_Mod_before_6 rfl (lv_at hl 0 rfl) ?_
  refine nw_calli (wc := [(hM, .inr (1, [.ref ai, .ref aw, .ref ar, .ref al, .ref aL, .ref aD, .ref ac, .ref af, .ref ap, .ref an, .ref ax, .int (nI isz), .int (nI wn), .int (nI chn), .int (nI rn), .int (nI 0)]))]) (wr := [(ai, nw_ai cB 60 I), (aw, nw_ai cB 60000 X), (al, nw_ai cI 1000 Ln)]) hP hD hS hA [0] [1, 2, 3] rfl rfl (by decide) (by decide) (va_runV (As := []) (rest := [.ref hM]) ⟨hx, hb, hml, hown, hts⟩ (c_Mod_take l dC dI _ hM ai aw ar al aL aD ac af ap an ax isz wn chn rn 0) (cwV (C := R_Mod) 0 hts (nw_GV (nw_m 76 rfl) (nw_m 77 rfl) (nw_m 78 rfl) (nw_m 67 rfl) (nw_m 79 rfl)) rfl rfl rfl (by decide +kernel) ⟨Nat.le_of_ble_eq_true rfl, Nat.le_of_ble_eq_true rfl⟩) (nw_prewV (q0 := 0) (ci := 1) (q := (R_Mod, F_Mod, 16)) hK hP hD [0] [] (by decide) rfl rfl rfl rfl) rfl rfl hl.1 rfl (lv_room (Nat.le_of_ble_eq_true rfl)) d_Mod_before_7 ⟨Nat.le_of_ble_eq_true rfl, Nat.le_of_ble_eq_true rfl⟩) (fun r _ H locs hw hP hD hS => ?_)
  replace hP : va_P (dC, dI) nw_cls [(ai, nw_ai cB 60 I), (aw, nw_ai cB 60000 X), (al, nw_ai cI 1000 Ln), (hM, .inr (1, [.ref ai, .ref aw, .ref ar, .ref al, .ref aL, .ref aD, .ref ac, .ref af, .ref ap, .ref an, .ref ax, .int (nI 0), .int (nI wn), .int (nI chn), .int (nI rn), .int (nI 0)]))] H := hP
  replace hD : va_D A [(ai, nw_ai cB 60 I), (aw, nw_ai cB 60000 X), (al, nw_ai cI 1000 Ln), (hM, .inr (1, [.ref ai, .ref aw, .ref ar, .ref al, .ref aL, .ref aD, .ref ac, .ref af, .ref ap, .ref an, .ref ax, .int (nI 0), .int (nI wn), .int (nI chn), .int (nI rn), .int (nI 0)]))] := hD
  obtain rfl : r = nI isz := hw
  refine vp_callSi (va_Run.run (va_runV (As := [.int (nI isz)]) (rest := []) ⟨hx, hb, hml, hown, hts⟩ (c_Mod_standing l dC dI cB cI hM ai aw ar al aL aD ac af ap an ax 0 wn chn rn 0 I X Ln isz (by omega) (by omega) hL hX hI0) (cwV (C := R_Mod) 1 hts (nw_GV (nw_m 80 rfl) (nw_m 81 rfl) (nw_m 82 rfl) (nw_m 67 rfl) (nw_m 83 rfl)) rfl rfl rfl (by decide +kernel) ⟨Nat.le_of_ble_eq_true rfl, Nat.le_of_ble_eq_true rfl⟩) (nw_preV (q0 := 3) (ci := 1) (q := (R_Mod, F_Mod, 16)) hK hP [3, 0, 1, 2] [0, 1] rfl rfl rfl rfl) rfl rfl hl.1 rfl (lv_room (Nat.le_of_ble_eq_true rfl)) d_Mod_before_10 ⟨Nat.le_of_ble_eq_true rfl, Nat.le_of_ble_eq_true rfl⟩)) (fun r her => ?_)
  subst her
  have hP := hP.sub (ws' := [(hM, .inr (1, [.ref ai, .ref aw, .ref ar, .ref al, .ref aL, .ref aD, .ref ac, .ref af, .ref ap, .ref an, .ref ax, .int (nI 0), .int (nI wn), .int (nI chn), .int (nI rn), .int (nI 0)])), (ai, nw_ai cB 60 I), (aw, nw_ai cB 60000 X), (al, nw_ai cI 1000 Ln)]) [3, 0, 1, 2] rfl
  have hD := hD.sub (ws' := [(hM, .inr (1, [.ref ai, .ref aw, .ref ar, .ref al, .ref aL, .ref aD, .ref ac, .ref af, .ref ap, .ref an, .ref ax, .int (nI 0), .int (nI wn), .int (nI chn), .int (nI rn), .int (nI 0)])), (ai, nw_ai cB 60 I), (aw, nw_ai cB 60000 X), (al, nw_ai cI 1000 Ln)]) [3, 0, 1, 2] (by decide) rfl
  exact W.iret (v := nI (nw_cnt (fun i => nw_cm (fun k => X (i * 60 + k)) (Ln i) I isz < 0) wn)) hx hb hr (fun t ht hW => ⟨⟨_, (), rfl, rfl, by rw [ht]; exact hP, hD⟩, hS.F ht⟩) hS.2.2 d_Mod_before_13

set_option maxHeartbeats 4000000 in
set_option maxRecDepth 100000 in
theorem c_Mod_count (l : Launch) (dC : Nat → ClassId) (dI : Nat → Nat → Nat) (sz : Nat) (cI : ClassId) (hM ai aw ar al aL aD ac af ap an ax isz wn chn rn th : Nat) (Ln : Nat → Nat) (q : Int32) (hw : wn ≤ 1000) (hL : ∀ i, i < wn → Ln i ≤ 60) : Met l y_Mod_count w_Mod_count ({ frames := 0, cells := 0, slots := 0, locals := 0 }) (nw_Pw [.ref hM, .int q] (dC, dI) nw_cls [(cI, .int)] [(hM, .inr (1, [.ref ai, .ref aw, .ref ar, .ref al, .ref aL, .ref aD, .ref ac, .ref af, .ref ap, .ref an, .ref ax, .int (nI isz), .int (nI wn), .int (nI chn), .int (nI rn), .int (nI th)])), (al, nw_ai cI 1000 Ln)] sz) (va_Qi (fun (r : Int32) (_ : Unit) => r = nw_sw q isz wn chn rn (nw_mx Ln wn)) (nw_B (dC, dI) nw_cls (va_A [(hM, .inr (1, [.ref ai, .ref aw, .ref ar, .ref al, .ref aL, .ref aD, .ref ac, .ref af, .ref ap, .ref an, .ref ax, .int (nI isz), .int (nI wn), .int (nI chn), .int (nI rn), .int (nI th)])), (al, nw_ai cI 1000 Ln)] sz) (fun _ : Unit => [(hM, .inr (1, [.ref ai, .ref aw, .ref ar, .ref al, .ref aL, .ref aD, .ref ac, .ref af, .ref ap, .ref an, .ref ax, .int (nI isz), .int (nI wn), .int (nI chn), .int (nI rn), .int (nI 0)])), (al, nw_ai cI 1000 Ln)])) (va_A [(hM, .inr (1, [.ref ai, .ref aw, .ref ar, .ref al, .ref aL, .ref aD, .ref ac, .ref af, .ref ap, .ref an, .ref ax, .int (nI isz), .int (nI wn), .int (nI chn), .int (nI rn), .int (nI th)])), (al, nw_ai cI 1000 Ln)] sz)) 0 0 (va_A [(hM, .inr (1, [.ref ai, .ref aw, .ref ar, .ref al, .ref aL, .ref aD, .ref ac, .ref af, .ref ap, .ref an, .ref ax, .int (nI isz), .int (nI wn), .int (nI chn), .int (nI rn), .int (nI th)])), (al, nw_ai cI 1000 Ln)] sz) := by
  refine Met.ofW (cc := b_Mod_count) (maxL := 4) (ret := (some .int)) (by decide) rfl ?_
  intro p e s m args below meth cd s₁ B hml hv0
  obtain ⟨rfl, hsz, hP, hK, hD0⟩ := hv0
  have hx := B.exec
  have hb := B.bytes
  have hr := B.returns
  have hts := atoms_spec (ws := w_Mod_count) B.pre
  have hown : s.vm.findClass R_Mod = some m.cls := findClass_of_methodNamed B.named
  have hlocks := B.notSynchronized
  subst hsz
  have hD := hD0.self (sz := s.heap.size)
  generalize hAe : va_A [(hM, .inr (1, [.ref ai, .ref aw, .ref ar, .ref al, .ref aL, .ref aD, .ref ac, .ref af, .ref ap, .ref an, .ref ax, .int (nI isz), .int (nI wn), .int (nI chn), .int (nI rn), .int (nI th)])), (al, nw_ai cI 1000 Ln)] s.heap.size = A at hD ⊢
  have hA : ∀ q : Nat, s.heap.size ≤ q → A q := fun q h => by rw [← hAe]; exact Or.inr h
  have hS : va_S A s.heap s.heap [] := va_S.rf
  have hl := lv_entry ([.ref hM, .int q]) (n := 4) (Nat.le_of_ble_eq_true rfl)
  rw [lg_entry_eq]
  generalize (lg_sl ([.ref hM, .int q]) ++ List.replicate (4 - (lg_sl ([.ref hM, .int q])).length) Slot.unset).toArray = ls at hl ⊢
  have hl : lv_has ls 4 [(0, .ref hM), (1, .int q)] := hl
  refine lv_aload_n hx hb d_Mod_count_0 rfl (lv_at hl 0 rfl) ?_
  refine lv_iconst (v := nI 0) hx hb d_Mod_count_1 (by decide) ?_
  refine va_put (D := (dC, dI)) (ci := 1) (v := .int (nI 0)) (ty := .int) (C := R_Mod) (T := F_Mod) (N := 16) hx hb hts hin_Mod t_Mod t_Mod_ok n_Mod hown hK hP hD hS 0 rfl rfl 15 (by decide) (hts _ (nw_mc 62 rfl)) (fun _ h9 => h9) rfl (by decide +kernel) rfl rfl (Nat.le_of_ble_eq_true rfl) d_Mod_count_2 (fun H locs hP hD hS => ?_)
  replace hP : va_P (dC, dI) nw_cls [(hM, .inr (1, [.ref ai, .ref aw, .ref ar, .ref al, .ref aL, .ref aD, .ref ac, .ref af, .ref ap, .ref an, .ref ax, .int (nI isz), .int (nI wn), .int (nI chn), .int (nI rn), .int (nI 0)])), (al, nw_ai cI 1000 Ln)] H := hP
  replace hD : va_D A [(hM, .inr (1, [.ref ai, .ref aw, .ref ar, .ref al, .ref aL, .ref aD, .ref ac, .ref af, .ref ap, .ref an, .ref ax, .int (nI isz), .int (nI wn), .int (nI chn), .int (nI rn), .int (nI 0)])), (al, nw_ai cI 1000 Ln)] := hD
  refine lv_iconst (v := nI 0) hx hb d_Mod_count_5 (by decide) ?_
  refine lv_istore_n hx hb d_Mod_count_6 rfl hl (by decide) rfl (fun ls hl => ?_)
  replace hl : lv_has ls 4 [(2, .int (nI 0)), (0, .ref hM), (1, .int q)] := hl
  refine lv_iconst (v := nI 0) hx hb d_Mod_count_7 (by decide) ?_
  refine lv_istore_n hx hb d_Mod_count_8 rfl hl (by decide) rfl (fun ls hl => ?_)
  replace hl : lv_has ls 4 [(3, .int (nI 0)), (2, .int (nI 0)), (0, .ref hM), (1, .int q)] := hl
  refine nw_loopW (σ := Nat) (fun k => k ≤ wn) (fun k => [(3, .int (nI k)), (2, .int (nI (nw_mx Ln k))), (0, .ref hM), (1, .int q)]) (fun k => [(hM, .inr (1, [.ref ai, .ref aw, .ref ar, .ref al, .ref aL, .ref aD, .ref ac, .ref af, .ref ap, .ref an, .ref ax, .int (nI isz), .int (nI wn), .int (nI chn), .int (nI rn), .int (nI 0)])), (al, nw_ai cI 1000 Ln)]) (fun k => wn - k) (fun x hI ih ls H locs hl hP hD hS => ?_) 0 (Nat.zero_le _) hl hP hD hS
  obtain ⟨k, hx9⟩ : ∃ z, z = x := ⟨x, rfl⟩
  subst hx9
  replace hI : k ≤ wn := hI
  replace hl : lv_has ls 4 [(3, .int (nI k)), (2, .int (nI (nw_mx Ln k))), (0, .ref hM), (1, .int q)] := hl
  replace hP : va_P (dC, dI) nw_cls [(hM, .inr (1, [.ref ai, .ref aw, .ref ar, .ref al, .ref aL, .ref aD, .ref ac, .ref af, .ref ap, .ref an, .ref ax, .int (nI isz), .int (nI wn), .int (nI chn), .int (nI rn), .int (nI 0)])), (al, nw_ai cI 1000 Ln)] H := hP
  replace hD : va_D A [(hM, .inr (1, [.ref ai, .ref aw, .ref ar, .ref al, .ref aL, .ref aD, .ref ac, .ref af, .ref ap, .ref an, .ref ax, .int (nI isz), .int (nI wn), .int (nI chn), .int (nI rn), .int (nI 0)])), (al, nw_ai cI 1000 Ln)] := hD
  have hb1 := nw_mx_lt (f := Ln) (n := k) (b := 61) (by decide) (fun i hi => by have := hL i (by omega); omega)
  refine lv_iload_n hx hb d_Mod_count_9 rfl (lv_at hl 0 rfl) ?_
  refine lv_aload_n hx hb d_Mod_count_10 rfl (lv_at hl 2 rfl) ?_
  refine va_get (D := (dC, dI)) (ci := 1) (v := .int (nI wn)) (C := R_Mod) (T := F_Mod) (N := 16) hx hb hts hin_Mod hown hK hP 0 rfl rfl 12 (by decide) (hts _ (nw_mc 71 rfl)) (fun _ h9 => h9) rfl d_Mod_count_11 ?_
  refine lv_icmp_ge hx hb d_Mod_count_14 (tgt := 44) (by decide) (fun hc1 => ?_) (fun hc1 => ?_)
  · rw [nI_leI (by omega) (by omega)] at hc1
    have hkw : k = wn := by omega
    refine lv_iload_n hx hb d_Mod_count_44 rfl (lv_at hl 3 rfl) ?_
    by_cases hs0 : (q).toInt = 0
    · refine lv_tableIn hx hb d_Mod_count_45 (off := 35) (tgt := 80) (by omega) (by omega) (by rw [hs0]; rfl) (by decide) ?_
      refine lv_aload_n hx hb d_Mod_count_80 rfl (lv_at hl 2 rfl) ?_
      refine va_get (D := (dC, dI)) (ci := 1) (v := .int (nI isz)) (C := R_Mod) (T := F_Mod) (N := 16) hx hb hts hin_Mod hown hK hP 0 rfl rfl 11 (by decide) (hts _ (nw_mc 63 rfl)) (fun _ h9 => h9) rfl d_Mod_count_81 ?_
      exact W.iret (v := nI isz) hx hb hr (fun t ht hW => ⟨⟨_, (), rfl, by unfold nw_sw; rw [if_pos hs0], by rw [ht]; exact hP, hD⟩, hS.F ht⟩) hS.2.2 d_Mod_count_84
    · by_cases hs1 : (q).toInt = 1
      · refine lv_tableIn hx hb d_Mod_count_45 (off := 40) (tgt := 85) (by omega) (by omega) (by rw [hs1]; rfl) (by decide) ?_
        refine lv_aload_n hx hb d_Mod_count_85 rfl (lv_at hl 2 rfl) ?_
        refine va_get (D := (dC, dI)) (ci := 1) (v := .int (nI wn)) (C := R_Mod) (T := F_Mod) (N := 16) hx hb hts hin_Mod hown hK hP 0 rfl rfl 12 (by decide) (hts _ (nw_mc 71 rfl)) (fun _ h9 => h9) rfl d_Mod_count_86 ?_
        exact W.iret (v := nI wn) hx hb hr (fun t ht hW => ⟨⟨_, (), rfl, by unfold nw_sw; rw [if_neg hs0, if_pos hs1], by rw [ht]; exact hP, hD⟩, hS.F ht⟩) hS.2.2 d_Mod_count_89
      · by_cases hs2 : (q).toInt = 2
        · refine lv_tableIn hx hb d_Mod_count_45 (off := 45) (tgt := 90) (by omega) (by omega) (by rw [hs2]; rfl) (by decide) ?_
          refine lv_aload_n hx hb d_Mod_count_90 rfl (lv_at hl 2 rfl) ?_
          refine va_get (D := (dC, dI)) (ci := 1) (v := .int (nI chn)) (C := R_Mod) (T := F_Mod) (N := 16) hx hb hts hin_Mod hown hK hP 0 rfl rfl 13 (by decide) (hts _ (nw_mc 84 rfl)) (fun _ h9 => h9) rfl d_Mod_count_91 ?_
          exact W.iret (v := nI chn) hx hb hr (fun t ht hW => ⟨⟨_, (), rfl, by unfold nw_sw; rw [if_neg hs0, if_neg hs1, if_pos hs2], by rw [ht]; exact hP, hD⟩, hS.F ht⟩) hS.2.2 d_Mod_count_94
        · by_cases hs3 : (q).toInt = 3
          · refine lv_tableIn hx hb d_Mod_count_45 (off := 50) (tgt := 95) (by omega) (by omega) (by rw [hs3]; rfl) (by decide) ?_
            refine lv_aload_n hx hb d_Mod_count_95 rfl (lv_at hl 2 rfl) ?_
            refine va_get (D := (dC, dI)) (ci := 1) (v := .int (nI rn)) (C := R_Mod) (T := F_Mod) (N := 16) hx hb hts hin_Mod hown hK hP 0 rfl rfl 14 (by decide) (hts _ (nw_mc 85 rfl)) (fun _ h9 => h9) rfl d_Mod_count_96 ?_
            exact W.iret (v := nI rn) hx hb hr (fun t ht hW => ⟨⟨_, (), rfl, by unfold nw_sw; rw [if_neg hs0, if_neg hs1, if_neg hs2, if_pos hs3], by rw [ht]; exact hP, hD⟩, hS.F ht⟩) hS.2.2 d_Mod_count_99
          · by_cases hs4 : (q).toInt = 4
            · refine lv_tableIn hx hb d_Mod_count_45 (off := 55) (tgt := 100) (by omega) (by omega) (by rw [hs4]; rfl) (by decide) ?_
              refine lv_iload_n hx hb d_Mod_count_100 rfl (lv_at hl 1 rfl) ?_
              exact W.iret (v := nI (nw_mx Ln k)) hx hb hr (fun t ht hW => ⟨⟨_, (), rfl, by unfold nw_sw; rw [if_neg hs0, if_neg hs1, if_neg hs2, if_neg hs3, if_pos hs4, hkw], by rw [ht]; exact hP, hD⟩, hS.F ht⟩) hS.2.2 d_Mod_count_101
            · refine lv_tableOut hx hb d_Mod_count_45 (tgt := 102) (by omega) (by decide) ?_
              refine lv_iconst (v := (-1)) hx hb d_Mod_count_102 (by decide) ?_
              exact W.iret (v := (-1)) hx hb hr (fun t ht hW => ⟨⟨_, (), rfl, by unfold nw_sw; rw [if_neg hs0, if_neg hs1, if_neg hs2, if_neg hs3, if_neg hs4], by rw [ht]; exact hP, hD⟩, hS.F ht⟩) hS.2.2 d_Mod_count_103
  · rw [nI_leI (by omega) (by omega)] at hc1
    have hk1 := hL k (by omega)
    refine lv_aload_n hx hb d_Mod_count_17 rfl (lv_at hl 2 rfl) ?_
    refine va_get (D := (dC, dI)) (ci := 1) (v := .ref al) (C := R_Mod) (T := F_Mod) (N := 16) hx hb hts hin_Mod hown hK hP 0 rfl rfl 3 (by decide) (hts _ (nw_mc 64 rfl)) (fun _ h9 => h9) rfl d_Mod_count_18 ?_
    refine lv_iload_n hx hb d_Mod_count_21 rfl (lv_at hl 0 rfl) ?_
    refine nw_iald hx hb hK hP 1 0 rfl rfl (k := k) (by omega) (by first | decide | omega) d_Mod_count_22 ?_
    refine lv_iload_n hx hb d_Mod_count_23 rfl (lv_at hl 1 rfl) ?_
    refine lv_icmp_le hx hb d_Mod_count_24 (tgt := 36) (by decide) (fun hc2 => ?_) (fun hc2 => ?_)
    · rw [nI_leI (by omega) (by omega)] at hc2
      refine lv_iload_n hx hb d_Mod_count_36 rfl (lv_at hl 1 rfl) ?_
      refine nw_ti (y := nI (nw_mx Ln (k + 1))) (congrArg nI (show _ = max (nw_mx Ln k) (Ln k) by omega)) ?_
      refine lv_istore_n hx hb d_Mod_count_37 rfl hl (by decide) rfl (fun ls hl => ?_)
      replace hl : lv_has ls 4 [(2, .int (nI (nw_mx Ln (k + 1)))), (3, .int (nI k)), (0, .ref hM), (1, .int q)] := hl
      refine lv_iinc (v := nI (k + 1)) hx hb d_Mod_count_38 hl (k := 1) rfl (nI_add k 1) (by decide) rfl (fun ls hl => ?_)
      have hl : lv_has ls 4 [(3, .int (nI (k + 1))), (2, .int (nI (nw_mx Ln (k + 1)))), (0, .ref hM), (1, .int q)] := hl
      refine lv_goto hx hb d_Mod_count_41 (tgt := 9) (by decide) ?_
      exact ih (k + 1) (by omega) (show wn - (k + 1) < wn - k by omega) _ _ _ hl hP hD hS
    · rw [nI_leI (by omega) (by omega)] at hc2
      refine lv_aload_n hx hb d_Mod_count_27 rfl (lv_at hl 2 rfl) ?_
      refine va_get (D := (dC, dI)) (ci := 1) (v := .ref al) (C := R_Mod) (T := F_Mod) (N := 16) hx hb hts hin_Mod hown hK hP 0 rfl rfl 3 (by decide) (hts _ (nw_mc 64 rfl)) (fun _ h9 => h9) rfl d_Mod_count_28 ?_
      refine lv_iload_n hx hb d_Mod_count_31 rfl (lv_at hl 0 rfl) ?_
      refine nw_iald hx hb hK hP 1 0 rfl rfl (k := k) (by omega) (by first | decide | omega) d_Mod_count_32 ?_
      refine lv_goto hx hb d_Mod_count_33 (tgt := 37) (by decide) ?_
      refine nw_ti (y := nI (nw_mx Ln (k + 1))) (congrArg nI (show _ = max (nw_mx Ln k) (Ln k) by omega)) ?_
      refine lv_istore_n hx hb d_Mod_count_37 rfl hl (by decide) rfl (fun ls hl => ?_)
      replace hl : lv_has ls 4 [(2, .int (nI (nw_mx Ln (k + 1)))), (3, .int (nI k)), (0, .ref hM), (1, .int q)] := hl
      refine lv_iinc (v := nI (k + 1)) hx hb d_Mod_count_38 hl (k := 1) rfl (nI_add k 1) (by decide) rfl (fun ls hl => ?_)
      have hl : lv_has ls 4 [(3, .int (nI (k + 1))), (2, .int (nI (nw_mx Ln (k + 1)))), (0, .ref hM), (1, .int q)] := hl
      refine lv_goto hx hb d_Mod_count_41 (tgt := 9) (by decide) ?_
      exact ih (k + 1) (by omega) (show wn - (k + 1) < wn - k by omega) _ _ _ hl hP hD hS

set_option maxHeartbeats 4000000 in
set_option maxRecDepth 100000 in
theorem c_Mod_letter_bad (l : Launch) (dC : Nat → ClassId) (dI : Nat → Nat → Nat) (sz : Nat) (hM ai aw ar al aL aD ac af ap an ax isz wn chn rn th : Nat) (i k : Int32) (hb0 : i < 0 ∨ nI rn ≤ i ∨ k < 0) : Met l y_Mod_letter w_Mod_letter ({ frames := 0, cells := 0, slots := 0, locals := 0 }) (nw_Pw [.ref hM, .int i, .int k] (dC, dI) nw_cls [] [(hM, .inr (1, [.ref ai, .ref aw, .ref ar, .ref al, .ref aL, .ref aD, .ref ac, .ref af, .ref ap, .ref an, .ref ax, .int (nI isz), .int (nI wn), .int (nI chn), .int (nI rn), .int (nI th)]))] sz) (va_Qi (fun (r : Int32) (_ : Unit) => r = nI 0) (nw_B (dC, dI) nw_cls (va_A [(hM, .inr (1, [.ref ai, .ref aw, .ref ar, .ref al, .ref aL, .ref aD, .ref ac, .ref af, .ref ap, .ref an, .ref ax, .int (nI isz), .int (nI wn), .int (nI chn), .int (nI rn), .int (nI th)]))] sz) (fun _ : Unit => [(hM, .inr (1, [.ref ai, .ref aw, .ref ar, .ref al, .ref aL, .ref aD, .ref ac, .ref af, .ref ap, .ref an, .ref ax, .int (nI isz), .int (nI wn), .int (nI chn), .int (nI rn), .int (nI 1)]))])) (va_A [(hM, .inr (1, [.ref ai, .ref aw, .ref ar, .ref al, .ref aL, .ref aD, .ref ac, .ref af, .ref ap, .ref an, .ref ax, .int (nI isz), .int (nI wn), .int (nI chn), .int (nI rn), .int (nI th)]))] sz)) 0 0 (va_A [(hM, .inr (1, [.ref ai, .ref aw, .ref ar, .ref al, .ref aL, .ref aD, .ref ac, .ref af, .ref ap, .ref an, .ref ax, .int (nI isz), .int (nI wn), .int (nI chn), .int (nI rn), .int (nI th)]))] sz) := by
  refine Met.ofW (cc := b_Mod_letter) (maxL := 3) (ret := (some .int)) (by decide) rfl ?_
  intro p e s m args below meth cd s₁ B hml hv0
  obtain ⟨rfl, hsz, hP, hK, hD0⟩ := hv0
  have hx := B.exec
  have hb := B.bytes
  have hr := B.returns
  have hts := atoms_spec (ws := w_Mod_letter) B.pre
  have hown : s.vm.findClass R_Mod = some m.cls := findClass_of_methodNamed B.named
  have hlocks := B.notSynchronized
  subst hsz
  have hD := hD0.self (sz := s.heap.size)
  generalize hAe : va_A [(hM, .inr (1, [.ref ai, .ref aw, .ref ar, .ref al, .ref aL, .ref aD, .ref ac, .ref af, .ref ap, .ref an, .ref ax, .int (nI isz), .int (nI wn), .int (nI chn), .int (nI rn), .int (nI th)]))] s.heap.size = A at hD ⊢
  have hA : ∀ q : Nat, s.heap.size ≤ q → A q := fun q h => by rw [← hAe]; exact Or.inr h
  have hS : va_S A s.heap s.heap [] := va_S.rf
  have hl := lv_entry ([.ref hM, .int i, .int k]) (n := 3) (Nat.le_of_ble_eq_true rfl)
  rw [lg_entry_eq]
  generalize (lg_sl ([.ref hM, .int i, .int k]) ++ List.replicate (3 - (lg_sl ([.ref hM, .int i, .int k])).length) Slot.unset).toArray = ls at hl ⊢
  have hl : lv_has ls 3 [(0, .ref hM), (1, .int i), (2, .int k)] := hl
  refine lv_aload_n hx hb d_Mod_letter_0 rfl (lv_at hl 0 rfl) ?_
  refine lv_iload_n hx hb d_Mod_letter_1 rfl (lv_at hl 1 rfl) ?_
  refine lv_if_lt hx hb d_Mod_letter_2 (tgt := 17) (by decide) (fun q1 => ?_) (fun q1 => ?_)
  · refine lv_iconst (v := nI 1) hx hb d_Mod_letter_17 (by decide) ?_
    refine lv_goto hx hb d_Mod_letter_18 (tgt := 22) (by decide) ?_
    refine va_put (D := (dC, dI)) (ci := 1) (v := .int (nI 1)) (ty := .int) (C := R_Mod) (T := F_Mod) (N := 16) hx hb hts hin_Mod t_Mod t_Mod_ok n_Mod hown hK hP hD hS 0 rfl rfl 15 (by decide) (hts _ (nw_mc 62 rfl)) (fun _ h9 => h9) rfl (by decide +kernel) rfl rfl (Nat.le_of_ble_eq_true rfl) d_Mod_letter_22 (fun H locs hP hD hS => ?_)
    replace hP : va_P (dC, dI) nw_cls [(hM, .inr (1, [.ref ai, .ref aw, .ref ar, .ref al, .ref aL, .ref aD, .ref ac, .ref af, .ref ap, .ref an, .ref ax, .int (nI isz), .int (nI wn), .int (nI chn), .int (nI rn), .int (nI 1)]))] H := hP
    replace hD : va_D A [(hM, .inr (1, [.ref ai, .ref aw, .ref ar, .ref al, .ref aL, .ref aD, .ref ac, .ref af, .ref ap, .ref an, .ref ax, .int (nI isz), .int (nI wn), .int (nI chn), .int (nI rn), .int (nI 1)]))] := hD
    refine lv_aload_n hx hb d_Mod_letter_25 rfl (lv_at hl 0 rfl) ?_
    refine va_get (D := (dC, dI)) (ci := 1) (v := .int (nI 1)) (C := R_Mod) (T := F_Mod) (N := 16) hx hb hts hin_Mod hown hK hP 0 rfl rfl 15 (by decide) (hts _ (nw_mc 62 rfl)) (fun _ h9 => h9) rfl d_Mod_letter_26 ?_
    refine lv_if_eq hx hb d_Mod_letter_29 (tgt := 34) (by decide) (fun hz => ?_) (fun hz => ?_)
    · rw [nw_eq0 (by omega)] at hz
      omega
    · refine lv_iconst (v := nI 0) hx hb d_Mod_letter_32 (by decide) ?_
      exact W.iret (v := nI 0) hx hb hr (fun t ht hW => ⟨⟨_, (), rfl, rfl, by rw [ht]; exact hP, hD⟩, hS.F ht⟩) hS.2.2 d_Mod_letter_33
  · refine lv_iload_n hx hb d_Mod_letter_5 rfl (lv_at hl 1 rfl) ?_
    refine lv_aload_n hx hb d_Mod_letter_6 rfl (lv_at hl 0 rfl) ?_
    refine va_get (D := (dC, dI)) (ci := 1) (v := .int (nI rn)) (C := R_Mod) (T := F_Mod) (N := 16) hx hb hts hin_Mod hown hK hP 0 rfl rfl 14 (by decide) (hts _ (nw_mc 85 rfl)) (fun _ h9 => h9) rfl d_Mod_letter_7 ?_
    refine lv_icmp_ge hx hb d_Mod_letter_10 (tgt := 17) (by decide) (fun q2 => ?_) (fun q2 => ?_)
    · refine lv_iconst (v := nI 1) hx hb d_Mod_letter_17 (by decide) ?_
      refine lv_goto hx hb d_Mod_letter_18 (tgt := 22) (by decide) ?_
      refine va_put (D := (dC, dI)) (ci := 1) (v := .int (nI 1)) (ty := .int) (C := R_Mod) (T := F_Mod) (N := 16) hx hb hts hin_Mod t_Mod t_Mod_ok n_Mod hown hK hP hD hS 0 rfl rfl 15 (by decide) (hts _ (nw_mc 62 rfl)) (fun _ h9 => h9) rfl (by decide +kernel) rfl rfl (Nat.le_of_ble_eq_true rfl) d_Mod_letter_22 (fun H locs hP hD hS => ?_)
      replace hP : va_P (dC, dI) nw_cls [(hM, .inr (1, [.ref ai, .ref aw, .ref ar, .ref al, .ref aL, .ref aD, .ref ac, .ref af, .ref ap, .ref an, .ref ax, .int (nI isz), .int (nI wn), .int (nI chn), .int (nI rn), .int (nI 1)]))] H := hP
      replace hD : va_D A [(hM, .inr (1, [.ref ai, .ref aw, .ref ar, .ref al, .ref aL, .ref aD, .ref ac, .ref af, .ref ap, .ref an, .ref ax, .int (nI isz), .int (nI wn), .int (nI chn), .int (nI rn), .int (nI 1)]))] := hD
      refine lv_aload_n hx hb d_Mod_letter_25 rfl (lv_at hl 0 rfl) ?_
      refine va_get (D := (dC, dI)) (ci := 1) (v := .int (nI 1)) (C := R_Mod) (T := F_Mod) (N := 16) hx hb hts hin_Mod hown hK hP 0 rfl rfl 15 (by decide) (hts _ (nw_mc 62 rfl)) (fun _ h9 => h9) rfl d_Mod_letter_26 ?_
      refine lv_if_eq hx hb d_Mod_letter_29 (tgt := 34) (by decide) (fun hz => ?_) (fun hz => ?_)
      · rw [nw_eq0 (by omega)] at hz
        omega
      · refine lv_iconst (v := nI 0) hx hb d_Mod_letter_32 (by decide) ?_
        exact W.iret (v := nI 0) hx hb hr (fun t ht hW => ⟨⟨_, (), rfl, rfl, by rw [ht]; exact hP, hD⟩, hS.F ht⟩) hS.2.2 d_Mod_letter_33
    · refine lv_iload_n hx hb d_Mod_letter_13 rfl (lv_at hl 2 rfl) ?_
      refine lv_if_ge hx hb d_Mod_letter_14 (tgt := 21) (by decide) (fun q3 => ?_) (fun q3 => ?_)
      · exact (hb0.elim q1 (fun h => h.elim q2 (fun h => Int32.not_lt.mpr q3 h))).elim
      · refine lv_iconst (v := nI 1) hx hb d_Mod_letter_17 (by decide) ?_
        refine lv_goto hx hb d_Mod_letter_18 (tgt := 22) (by decide) ?_
        refine va_put (D := (dC, dI)) (ci := 1) (v := .int (nI 1)) (ty := .int) (C := R_Mod) (T := F_Mod) (N := 16) hx hb hts hin_Mod t_Mod t_Mod_ok n_Mod hown hK hP hD hS 0 rfl rfl 15 (by decide) (hts _ (nw_mc 62 rfl)) (fun _ h9 => h9) rfl (by decide +kernel) rfl rfl (Nat.le_of_ble_eq_true rfl) d_Mod_letter_22 (fun H locs hP hD hS => ?_)
        replace hP : va_P (dC, dI) nw_cls [(hM, .inr (1, [.ref ai, .ref aw, .ref ar, .ref al, .ref aL, .ref aD, .ref ac, .ref af, .ref ap, .ref an, .ref ax, .int (nI isz), .int (nI wn), .int (nI chn), .int (nI rn), .int (nI 1)]))] H := hP
        replace hD : va_D A [(hM, .inr (1, [.ref ai, .ref aw, .ref ar, .ref al, .ref aL, .ref aD, .ref ac, .ref af, .ref ap, .ref an, .ref ax, .int (nI isz), .int (nI wn), .int (nI chn), .int (nI rn), .int (nI 1)]))] := hD
        refine lv_aload_n hx hb d_Mod_letter_25 rfl (lv_at hl 0 rfl) ?_
        refine va_get (D := (dC, dI)) (ci := 1) (v := .int (nI 1)) (C := R_Mod) (T := F_Mod) (N := 16) hx hb hts hin_Mod hown hK hP 0 rfl rfl 15 (by decide) (hts _ (nw_mc 62 rfl)) (fun _ h9 => h9) rfl d_Mod_letter_26 ?_
        refine lv_if_eq hx hb d_Mod_letter_29 (tgt := 34) (by decide) (fun hz => ?_) (fun hz => ?_)
        · rw [nw_eq0 (by omega)] at hz
          omega
        · refine lv_iconst (v := nI 0) hx hb d_Mod_letter_32 (by decide) ?_
          exact W.iret (v := nI 0) hx hb hr (fun t ht hW => ⟨⟨_, (), rfl, rfl, by rw [ht]; exact hP, hD⟩, hS.F ht⟩) hS.2.2 d_Mod_letter_33

set_option maxHeartbeats 4000000 in
set_option maxRecDepth 100000 in
theorem c_Mod_letter (l : Launch) (dC : Nat → ClassId) (dI : Nat → Nat → Nat) (sz : Nat) (cB cI : ClassId) (hM ai aw ar al aL aD ac af ap an ax isz wn chn rn th : Nat) (Y RL : Nat → Nat) (j k : Nat) (hj : j < rn) (hk : k < 2 ^ 31) (hr : rn ≤ 50) (hRL : RL j ≤ 60) : Met l y_Mod_letter w_Mod_letter ({ frames := 0, cells := 0, slots := 0, locals := 0 }) (nw_Pw [.ref hM, .int (nI j), .int (nI k)] (dC, dI) nw_cls [(cB, .byte), (cI, .int)] [(hM, .inr (1, [.ref ai, .ref aw, .ref ar, .ref al, .ref aL, .ref aD, .ref ac, .ref af, .ref ap, .ref an, .ref ax, .int (nI isz), .int (nI wn), .int (nI chn), .int (nI rn), .int (nI th)])), (ar, nw_ai cB 3000 Y), (aL, nw_ai cI 50 RL)] sz) (va_Qi (fun (r : Int32) (_ : Unit) => r = nI (if k < RL j then Y (j * 60 + k) else 0)) (nw_B (dC, dI) nw_cls (va_A [(hM, .inr (1, [.ref ai, .ref aw, .ref ar, .ref al, .ref aL, .ref aD, .ref ac, .ref af, .ref ap, .ref an, .ref ax, .int (nI isz), .int (nI wn), .int (nI chn), .int (nI rn), .int (nI th)])), (ar, nw_ai cB 3000 Y), (aL, nw_ai cI 50 RL)] sz) (fun _ : Unit => [(hM, .inr (1, [.ref ai, .ref aw, .ref ar, .ref al, .ref aL, .ref aD, .ref ac, .ref af, .ref ap, .ref an, .ref ax, .int (nI isz), .int (nI wn), .int (nI chn), .int (nI rn), .int (nI 0)])), (ar, nw_ai cB 3000 Y), (aL, nw_ai cI 50 RL)])) (va_A [(hM, .inr (1, [.ref ai, .ref aw, .ref ar, .ref al, .ref aL, .ref aD, .ref ac, .ref af, .ref ap, .ref an, .ref ax, .int (nI isz), .int (nI wn), .int (nI chn), .int (nI rn), .int (nI th)])), (ar, nw_ai cB 3000 Y), (aL, nw_ai cI 50 RL)] sz)) 0 0 (va_A [(hM, .inr (1, [.ref ai, .ref aw, .ref ar, .ref al, .ref aL, .ref aD, .ref ac, .ref af, .ref ap, .ref an, .ref ax, .int (nI isz), .int (nI wn), .int (nI chn), .int (nI rn), .int (nI th)])), (ar, nw_ai cB 3000 Y), (aL, nw_ai cI 50 RL)] sz) := by
  refine Met.ofW (cc := b_Mod_letter) (maxL := 3) (ret := (some .int)) (by decide) rfl ?_
  intro p e s m args below meth cd s₁ B hml hv0
  obtain ⟨rfl, hsz, hP, hK, hD0⟩ := hv0
  have hx := B.exec
  have hb := B.bytes
  have hr := B.returns
  have hts := atoms_spec (ws := w_Mod_letter) B.pre
  have hown : s.vm.findClass R_Mod = some m.cls := findClass_of_methodNamed B.named
  have hlocks := B.notSynchronized
  subst hsz
  have hD := hD0.self (sz := s.heap.size)
  generalize hAe : va_A [(hM, .inr (1, [.ref ai, .ref aw, .ref ar, .ref al, .ref aL, .ref aD, .ref ac, .ref af, .ref ap, .ref an, .ref ax, .int (nI isz), .int (nI wn), .int (nI chn), .int (nI rn), .int (nI th)])), (ar, nw_ai cB 3000 Y), (aL, nw_ai cI 50 RL)] s.heap.size = A at hD ⊢
  have hA : ∀ q : Nat, s.heap.size ≤ q → A q := fun q h => by rw [← hAe]; exact Or.inr h
  have hS : va_S A s.heap s.heap [] := va_S.rf
  have hl := lv_entry ([.ref hM, .int (nI j), .int (nI k)]) (n := 3) (Nat.le_of_ble_eq_true rfl)
  rw [lg_entry_eq]
  generalize (lg_sl ([.ref hM, .int (nI j), .int (nI k)]) ++ List.replicate (3 - (lg_sl ([.ref hM, .int (nI j), .int (nI k)])).length) Slot.unset).toArray = ls at hl ⊢
  have hl : lv_has ls 3 [(0, .ref hM), (1, .int (nI j)), (2, .int (nI k))] := hl
  have hrn := hr
  have hr := B.returns
  refine lv_aload_n hx hb d_Mod_letter_0 rfl (lv_at hl 0 rfl) ?_
  refine lv_iload_n hx hb d_Mod_letter_1 rfl (lv_at hl 1 rfl) ?_
  refine lv_if_lt hx hb d_Mod_letter_2 (tgt := 17) (by decide) (fun q1 => ?_) (fun q1 => ?_)
  · rw [nw_lt0 (by omega)] at q1
    omega
  · rw [nw_lt0 (by omega)] at q1
    refine lv_iload_n hx hb d_Mod_letter_5 rfl (lv_at hl 1 rfl) ?_
    refine lv_aload_n hx hb d_Mod_letter_6 rfl (lv_at hl 0 rfl) ?_
    refine va_get (D := (dC, dI)) (ci := 1) (v := .int (nI rn)) (C := R_Mod) (T := F_Mod) (N := 16) hx hb hts hin_Mod hown hK hP 0 rfl rfl 14 (by decide) (hts _ (nw_mc 85 rfl)) (fun _ h9 => h9) rfl d_Mod_letter_7 ?_
    refine lv_icmp_ge hx hb d_Mod_letter_10 (tgt := 17) (by decide) (fun q2 => ?_) (fun q2 => ?_)
    · rw [nI_leI (by omega) (by omega)] at q2
      omega
    · rw [nI_leI (by omega) (by omega)] at q2
      refine lv_iload_n hx hb d_Mod_letter_13 rfl (lv_at hl 2 rfl) ?_
      refine lv_if_ge hx hb d_Mod_letter_14 (tgt := 21) (by decide) (fun q3 => ?_) (fun q3 => ?_)
      · rw [nw_0le (by omega)] at q3
        refine lv_iconst (v := nI 0) hx hb d_Mod_letter_21 (by decide) ?_
        refine va_put (D := (dC, dI)) (ci := 1) (v := .int (nI 0)) (ty := .int) (C := R_Mod) (T := F_Mod) (N := 16) hx hb hts hin_Mod t_Mod t_Mod_ok n_Mod hown hK hP hD hS 0 rfl rfl 15 (by decide) (hts _ (nw_mc 62 rfl)) (fun _ h9 => h9) rfl (by decide +kernel) rfl rfl (Nat.le_of_ble_eq_true rfl) d_Mod_letter_22 (fun H locs hP hD hS => ?_)
        replace hP : va_P (dC, dI) nw_cls [(hM, .inr (1, [.ref ai, .ref aw, .ref ar, .ref al, .ref aL, .ref aD, .ref ac, .ref af, .ref ap, .ref an, .ref ax, .int (nI isz), .int (nI wn), .int (nI chn), .int (nI rn), .int (nI 0)])), (ar, nw_ai cB 3000 Y), (aL, nw_ai cI 50 RL)] H := hP
        replace hD : va_D A [(hM, .inr (1, [.ref ai, .ref aw, .ref ar, .ref al, .ref aL, .ref aD, .ref ac, .ref af, .ref ap, .ref an, .ref ax, .int (nI isz), .int (nI wn), .int (nI chn), .int (nI rn), .int (nI 0)])), (ar, nw_ai cB 3000 Y), (aL, nw_ai cI 50 RL)] := hD
        refine lv_aload_n hx hb d_Mod_letter_25 rfl (lv_at hl 0 rfl) ?_
        refine va_get (D := (dC, dI)) (ci := 1) (v := .int (nI 0)) (C := R_Mod) (T := F_Mod) (N := 16) hx hb hts hin_Mod hown hK hP 0 rfl rfl 15 (by decide) (hts _ (nw_mc 62 rfl)) (fun _ h9 => h9) rfl d_Mod_letter_26 ?_
        refine lv_if_eq hx hb d_Mod_letter_29 (tgt := 34) (by decide) (fun q4 => ?_) (fun q4 => ?_)
        · refine lv_iload_n hx hb d_Mod_letter_34 rfl (lv_at hl 2 rfl) ?_
          refine lv_aload_n hx hb d_Mod_letter_35 rfl (lv_at hl 0 rfl) ?_
          refine va_get (D := (dC, dI)) (ci := 1) (v := .ref aL) (C := R_Mod) (T := F_Mod) (N := 16) hx hb hts hin_Mod hown hK hP 0 rfl rfl 4 (by decide) (hts _ (nw_mc 86 rfl)) (fun _ h9 => h9) rfl d_Mod_letter_36 ?_
          refine lv_iload_n hx hb d_Mod_letter_39 rfl (lv_at hl 1 rfl) ?_
          refine nw_iald hx hb hK hP 2 1 rfl rfl (k := j) (by omega) (by first | decide | omega) d_Mod_letter_40 ?_
          refine lv_icmp_ge hx hb d_Mod_letter_41 (tgt := 58) (by decide) (fun q5 => ?_) (fun q5 => ?_)
          · rw [nI_leI (by omega) (by omega)] at q5
            refine lv_iconst (v := nI 0) hx hb d_Mod_letter_58 (by decide) ?_
            refine nw_ti (y := nI (if k < RL j then Y (j * 60 + k) else 0)) (congrArg nI (by rw [if_neg (by omega)])) ?_
            exact W.iret (v := nI (if k < RL j then Y (j * 60 + k) else 0)) hx hb hr (fun t ht hW => ⟨⟨_, (), rfl, rfl, by rw [ht]; exact hP, hD⟩, hS.F ht⟩) hS.2.2 d_Mod_letter_59
          · rw [nI_leI (by omega) (by omega)] at q5
            refine lv_aload_n hx hb d_Mod_letter_44 rfl (lv_at hl 0 rfl) ?_
            refine va_get (D := (dC, dI)) (ci := 1) (v := .ref ar) (C := R_Mod) (T := F_Mod) (N := 16) hx hb hts hin_Mod hown hK hP 0 rfl rfl 2 (by decide) (hts _ (nw_mc 87 rfl)) (fun _ h9 => h9) rfl d_Mod_letter_45 ?_
            refine lv_iload_n hx hb d_Mod_letter_48 rfl (lv_at hl 1 rfl) ?_
            refine lv_bipush (v := nI 60) hx hb d_Mod_letter_49 (by decide) ?_
            refine lv_imul hx hb d_Mod_letter_51 ?_
            refine nw_ti (pk_mul j 60) ?_
            refine lv_iload_n hx hb d_Mod_letter_52 rfl (lv_at hl 2 rfl) ?_
            refine lv_iadd hx hb d_Mod_letter_53 ?_
            refine nw_ti (nI_add (j * 60) k) ?_
            refine nw_bald hx hb hK hP 1 0 rfl rfl (k := ((j * 60) + k)) (by omega) (by first | decide | omega) d_Mod_letter_54 ?_
            refine lv_goto hx hb d_Mod_letter_55 (tgt := 59) (by decide) ?_
            refine nw_ti (y := nI (if k < RL j then Y (j * 60 + k) else 0)) (congrArg nI (by rw [if_pos (by omega)])) ?_
            exact W.iret (v := nI (if k < RL j then Y (j * 60 + k) else 0)) hx hb hr (fun t ht hW => ⟨⟨_, (), rfl, rfl, by rw [ht]; exact hP, hD⟩, hS.F ht⟩) hS.2.2 d_Mod_letter_59
        · rw [nw_eq0 (by omega)] at q4
          omega
      · rw [nw_0le (by omega)] at q3
        omega

set_option maxHeartbeats 4000000 in
set_option maxRecDepth 100000 in
theorem c_Mod_distance_bad (l : Launch) (dC : Nat → ClassId) (dI : Nat → Nat → Nat) (sz : Nat) (hM ai aw ar al aL aD ac af ap an ax isz wn chn rn th : Nat) (i : Int32) (hb0 : i < 0 ∨ nI rn ≤ i) : Met l y_Mod_distance w_Mod_distance ({ frames := 0, cells := 0, slots := 0, locals := 0 }) (nw_Pw [.ref hM, .int i] (dC, dI) nw_cls [] [(hM, .inr (1, [.ref ai, .ref aw, .ref ar, .ref al, .ref aL, .ref aD, .ref ac, .ref af, .ref ap, .ref an, .ref ax, .int (nI isz), .int (nI wn), .int (nI chn), .int (nI rn), .int (nI th)]))] sz) (va_Qi (fun (r : Int32) (_ : Unit) => r = nI 0) (nw_B (dC, dI) nw_cls (va_A [(hM, .inr (1, [.ref ai, .ref aw, .ref ar, .ref al, .ref aL, .ref aD, .ref ac, .ref af, .ref ap, .ref an, .ref ax, .int (nI isz), .int (nI wn), .int (nI chn), .int (nI rn), .int (nI th)]))] sz) (fun _ : Unit => [(hM, .inr (1, [.ref ai, .ref aw, .ref ar, .ref al, .ref aL, .ref aD, .ref ac, .ref af, .ref ap, .ref an, .ref ax, .int (nI isz), .int (nI wn), .int (nI chn), .int (nI rn), .int (nI 1)]))])) (va_A [(hM, .inr (1, [.ref ai, .ref aw, .ref ar, .ref al, .ref aL, .ref aD, .ref ac, .ref af, .ref ap, .ref an, .ref ax, .int (nI isz), .int (nI wn), .int (nI chn), .int (nI rn), .int (nI th)]))] sz)) 0 0 (va_A [(hM, .inr (1, [.ref ai, .ref aw, .ref ar, .ref al, .ref aL, .ref aD, .ref ac, .ref af, .ref ap, .ref an, .ref ax, .int (nI isz), .int (nI wn), .int (nI chn), .int (nI rn), .int (nI th)]))] sz) := by
  refine Met.ofW (cc := b_Mod_distance) (maxL := 2) (ret := (some .int)) (by decide) rfl ?_
  intro p e s m args below meth cd s₁ B hml hv0
  obtain ⟨rfl, hsz, hP, hK, hD0⟩ := hv0
  have hx := B.exec
  have hb := B.bytes
  have hr := B.returns
  have hts := atoms_spec (ws := w_Mod_distance) B.pre
  have hown : s.vm.findClass R_Mod = some m.cls := findClass_of_methodNamed B.named
  have hlocks := B.notSynchronized
  subst hsz
  have hD := hD0.self (sz := s.heap.size)
  generalize hAe : va_A [(hM, .inr (1, [.ref ai, .ref aw, .ref ar, .ref al, .ref aL, .ref aD, .ref ac, .ref af, .ref ap, .ref an, .ref ax, .int (nI isz), .int (nI wn), .int (nI chn), .int (nI rn), .int (nI th)]))] s.heap.size = A at hD ⊢
  have hA : ∀ q : Nat, s.heap.size ≤ q → A q := fun q h => by rw [← hAe]; exact Or.inr h
  have hS : va_S A s.heap s.heap [] := va_S.rf
  have hl := lv_entry ([.ref hM, .int i]) (n := 2) (Nat.le_of_ble_eq_true rfl)
  rw [lg_entry_eq]
  generalize (lg_sl ([.ref hM, .int i]) ++ List.replicate (2 - (lg_sl ([.ref hM, .int i])).length) Slot.unset).toArray = ls at hl ⊢
  have hl : lv_has ls 2 [(0, .ref hM), (1, .int i)] := hl
  refine lv_aload_n hx hb d_Mod_distance_0 rfl (lv_at hl 0 rfl) ?_
  refine lv_iload_n hx hb d_Mod_distance_1 rfl (lv_at hl 1 rfl) ?_
  refine lv_if_lt hx hb d_Mod_distance_2 (tgt := 13) (by decide) (fun q1 => ?_) (fun q1 => ?_)
  · refine lv_iconst (v := nI 1) hx hb d_Mod_distance_13 (by decide) ?_
    refine lv_goto hx hb d_Mod_distance_14 (tgt := 18) (by decide) ?_
    refine va_put (D := (dC, dI)) (ci := 1) (v := .int (nI 1)) (ty := .int) (C := R_Mod) (T := F_Mod) (N := 16) hx hb hts hin_Mod t_Mod t_Mod_ok n_Mod hown hK hP hD hS 0 rfl rfl 15 (by decide) (hts _ (nw_mc 62 rfl)) (fun _ h9 => h9) rfl (by decide +kernel) rfl rfl (Nat.le_of_ble_eq_true rfl) d_Mod_distance_18 (fun H locs hP hD hS => ?_)
    replace hP : va_P (dC, dI) nw_cls [(hM, .inr (1, [.ref ai, .ref aw, .ref ar, .ref al, .ref aL, .ref aD, .ref ac, .ref af, .ref ap, .ref an, .ref ax, .int (nI isz), .int (nI wn), .int (nI chn), .int (nI rn), .int (nI 1)]))] H := hP
    replace hD : va_D A [(hM, .inr (1, [.ref ai, .ref aw, .ref ar, .ref al, .ref aL, .ref aD, .ref ac, .ref af, .ref ap, .ref an, .ref ax, .int (nI isz), .int (nI wn), .int (nI chn), .int (nI rn), .int (nI 1)]))] := hD
    refine lv_aload_n hx hb d_Mod_distance_21 rfl (lv_at hl 0 rfl) ?_
    refine va_get (D := (dC, dI)) (ci := 1) (v := .int (nI 1)) (C := R_Mod) (T := F_Mod) (N := 16) hx hb hts hin_Mod hown hK hP 0 rfl rfl 15 (by decide) (hts _ (nw_mc 62 rfl)) (fun _ h9 => h9) rfl d_Mod_distance_22 ?_
    refine lv_if_eq hx hb d_Mod_distance_25 (tgt := 32) (by decide) (fun hz => ?_) (fun hz => ?_)
    · rw [nw_eq0 (by omega)] at hz
      omega
    · refine lv_iconst (v := nI 0) hx hb d_Mod_distance_28 (by decide) ?_
      refine lv_goto hx hb d_Mod_distance_29 (tgt := 38) (by decide) ?_
      exact W.iret (v := nI 0) hx hb hr (fun t ht hW => ⟨⟨_, (), rfl, rfl, by rw [ht]; exact hP, hD⟩, hS.F ht⟩) hS.2.2 d_Mod_distance_38
  · refine lv_iload_n hx hb d_Mod_distance_5 rfl (lv_at hl 1 rfl) ?_
    refine lv_aload_n hx hb d_Mod_distance_6 rfl (lv_at hl 0 rfl) ?_
    refine va_get (D := (dC, dI)) (ci := 1) (v := .int (nI rn)) (C := R_Mod) (T := F_Mod) (N := 16) hx hb hts hin_Mod hown hK hP 0 rfl rfl 14 (by decide) (hts _ (nw_mc 85 rfl)) (fun _ h9 => h9) rfl d_Mod_distance_7 ?_
    refine lv_icmp_lt hx hb d_Mod_distance_10 (tgt := 17) (by decide) (fun q2 => ?_) (fun q2 => ?_)
    · exact (hb0.elim q1 (fun h => Int32.not_lt.mpr h q2)).elim
    · refine lv_iconst (v := nI 1) hx hb d_Mod_distance_13 (by decide) ?_
      refine lv_goto hx hb d_Mod_distance_14 (tgt := 18) (by decide) ?_
      refine va_put (D := (dC, dI)) (ci := 1) (v := .int (nI 1)) (ty := .int) (C := R_Mod) (T := F_Mod) (N := 16) hx hb hts hin_Mod t_Mod t_Mod_ok n_Mod hown hK hP hD hS 0 rfl rfl 15 (by decide) (hts _ (nw_mc 62 rfl)) (fun _ h9 => h9) rfl (by decide +kernel) rfl rfl (Nat.le_of_ble_eq_true rfl) d_Mod_distance_18 (fun H locs hP hD hS => ?_)
      replace hP : va_P (dC, dI) nw_cls [(hM, .inr (1, [.ref ai, .ref aw, .ref ar, .ref al, .ref aL, .ref aD, .ref ac, .ref af, .ref ap, .ref an, .ref ax, .int (nI isz), .int (nI wn), .int (nI chn), .int (nI rn), .int (nI 1)]))] H := hP
      replace hD : va_D A [(hM, .inr (1, [.ref ai, .ref aw, .ref ar, .ref al, .ref aL, .ref aD, .ref ac, .ref af, .ref ap, .ref an, .ref ax, .int (nI isz), .int (nI wn), .int (nI chn), .int (nI rn), .int (nI 1)]))] := hD
      refine lv_aload_n hx hb d_Mod_distance_21 rfl (lv_at hl 0 rfl) ?_
      refine va_get (D := (dC, dI)) (ci := 1) (v := .int (nI 1)) (C := R_Mod) (T := F_Mod) (N := 16) hx hb hts hin_Mod hown hK hP 0 rfl rfl 15 (by decide) (hts _ (nw_mc 62 rfl)) (fun _ h9 => h9) rfl d_Mod_distance_22 ?_
      refine lv_if_eq hx hb d_Mod_distance_25 (tgt := 32) (by decide) (fun hz => ?_) (fun hz => ?_)
      · rw [nw_eq0 (by omega)] at hz
        omega
      · refine lv_iconst (v := nI 0) hx hb d_Mod_distance_28 (by decide) ?_
        refine lv_goto hx hb d_Mod_distance_29 (tgt := 38) (by decide) ?_
        exact W.iret (v := nI 0) hx hb hr (fun t ht hW => ⟨⟨_, (), rfl, rfl, by rw [ht]; exact hP, hD⟩, hS.F ht⟩) hS.2.2 d_Mod_distance_38

set_option maxHeartbeats 4000000 in
set_option maxRecDepth 100000 in
theorem c_Mod_distance (l : Launch) (dC : Nat → ClassId) (dI : Nat → Nat → Nat) (sz : Nat) (cI : ClassId) (hM ai aw ar al aL aD ac af ap an ax isz wn chn rn th : Nat) (RD : Nat → Nat) (j : Nat) (hj : j < rn) (hrn : rn ≤ 50) : Met l y_Mod_distance w_Mod_distance ({ frames := 0, cells := 0, slots := 0, locals := 0 }) (nw_Pw [.ref hM, .int (nI j)] (dC, dI) nw_cls [(cI, .int)] [(hM, .inr (1, [.ref ai, .ref aw, .ref ar, .ref al, .ref aL, .ref aD, .ref ac, .ref af, .ref ap, .ref an, .ref ax, .int (nI isz), .int (nI wn), .int (nI chn), .int (nI rn), .int (nI th)])), (aD, nw_ai cI 50 RD)] sz) (va_Qi (fun (r : Int32) (_ : Unit) => r = nI (RD j)) (nw_B (dC, dI) nw_cls (va_A [(hM, .inr (1, [.ref ai, .ref aw, .ref ar, .ref al, .ref aL, .ref aD, .ref ac, .ref af, .ref ap, .ref an, .ref ax, .int (nI isz), .int (nI wn), .int (nI chn), .int (nI rn), .int (nI th)])), (aD, nw_ai cI 50 RD)] sz) (fun _ : Unit => [(hM, .inr (1, [.ref ai, .ref aw, .ref ar, .ref al, .ref aL, .ref aD, .ref ac, .ref af, .ref ap, .ref an, .ref ax, .int (nI isz), .int (nI wn), .int (nI chn), .int (nI rn), .int (nI 0)])), (aD, nw_ai cI 50 RD)])) (va_A [(hM, .inr (1, [.ref ai, .ref aw, .ref ar, .ref al, .ref aL, .ref aD, .ref ac, .ref af, .ref ap, .ref an, .ref ax, .int (nI isz), .int (nI wn), .int (nI chn), .int (nI rn), .int (nI th)])), (aD, nw_ai cI 50 RD)] sz)) 0 0 (va_A [(hM, .inr (1, [.ref ai, .ref aw, .ref ar, .ref al, .ref aL, .ref aD, .ref ac, .ref af, .ref ap, .ref an, .ref ax, .int (nI isz), .int (nI wn), .int (nI chn), .int (nI rn), .int (nI th)])), (aD, nw_ai cI 50 RD)] sz) := by
  refine Met.ofW (cc := b_Mod_distance) (maxL := 2) (ret := (some .int)) (by decide) rfl ?_
  intro p e s m args below meth cd s₁ B hml hv0
  obtain ⟨rfl, hsz, hP, hK, hD0⟩ := hv0
  have hx := B.exec
  have hb := B.bytes
  have hr := B.returns
  have hts := atoms_spec (ws := w_Mod_distance) B.pre
  have hown : s.vm.findClass R_Mod = some m.cls := findClass_of_methodNamed B.named
  have hlocks := B.notSynchronized
  subst hsz
  have hD := hD0.self (sz := s.heap.size)
  generalize hAe : va_A [(hM, .inr (1, [.ref ai, .ref aw, .ref ar, .ref al, .ref aL, .ref aD, .ref ac, .ref af, .ref ap, .ref an, .ref ax, .int (nI isz), .int (nI wn), .int (nI chn), .int (nI rn), .int (nI th)])), (aD, nw_ai cI 50 RD)] s.heap.size = A at hD ⊢
  have hA : ∀ q : Nat, s.heap.size ≤ q → A q := fun q h => by rw [← hAe]; exact Or.inr h
  have hS : va_S A s.heap s.heap [] := va_S.rf
  have hl := lv_entry ([.ref hM, .int (nI j)]) (n := 2) (Nat.le_of_ble_eq_true rfl)
  rw [lg_entry_eq]
  generalize (lg_sl ([.ref hM, .int (nI j)]) ++ List.replicate (2 - (lg_sl ([.ref hM, .int (nI j)])).length) Slot.unset).toArray = ls at hl ⊢
  have hl : lv_has ls 2 [(0, .ref hM), (1, .int (nI j))] := hl
  refine lv_aload_n hx hb d_Mod_distance_0 rfl (lv_at hl 0 rfl) ?_
  refine lv_iload_n hx hb d_Mod_distance_1 rfl (lv_at hl 1 rfl) ?_
  refine lv_if_lt hx hb d_Mod_distance_2 (tgt := 13) (by decide) (fun q1 => ?_) (fun q1 => ?_)
  · rw [nw_lt0 (by omega)] at q1
    omega
  · rw [nw_lt0 (by omega)] at q1
    refine lv_iload_n hx hb d_Mod_distance_5 rfl (lv_at hl 1 rfl) ?_
    refine lv_aload_n hx hb d_Mod_distance_6 rfl (lv_at hl 0 rfl) ?_
    refine va_get (D := (dC, dI)) (ci := 1) (v := .int (nI rn)) (C := R_Mod) (T := F_Mod) (N := 16) hx hb hts hin_Mod hown hK hP 0 rfl rfl 14 (by decide) (hts _ (nw_mc 85 rfl)) (fun _ h9 => h9) rfl d_Mod_distance_7 ?_
    refine lv_icmp_lt hx hb d_Mod_distance_10 (tgt := 17) (by decide) (fun q2 => ?_) (fun q2 => ?_)
    · rw [nI_ltI (by omega) (by omega)] at q2
      refine lv_iconst (v := nI 0) hx hb d_Mod_distance_17 (by decide) ?_
      refine va_put (D := (dC, dI)) (ci := 1) (v := .int (nI 0)) (ty := .int) (C := R_Mod) (T := F_Mod) (N := 16) hx hb hts hin_Mod t_Mod t_Mod_ok n_Mod hown hK hP hD hS 0 rfl rfl 15 (by decide) (hts _ (nw_mc 62 rfl)) (fun _ h9 => h9) rfl (by decide +kernel) rfl rfl (Nat.le_of_ble_eq_true rfl) d_Mod_distance_18 (fun H locs hP hD hS => ?_)
      replace hP : va_P (dC, dI) nw_cls [(hM, .inr (1, [.ref ai, .ref aw, .ref ar, .ref al, .ref aL, .ref aD, .ref ac, .ref af, .ref ap, .ref an, .ref ax, .int (nI isz), .int (nI wn), .int (nI chn), .int (nI rn), .int (nI 0)])), (aD, nw_ai cI 50 RD)] H := hP
      replace hD : va_D A [(hM, .inr (1, [.ref ai, .ref aw, .ref ar, .ref al, .ref aL, .ref aD, .ref ac, .ref af, .ref ap, .ref an, .ref ax, .int (nI isz), .int (nI wn), .int (nI chn), .int (nI rn), .int (nI 0)])), (aD, nw_ai cI 50 RD)] := hD
      refine lv_aload_n hx hb d_Mod_distance_21 rfl (lv_at hl 0 rfl) ?_
      refine va_get (D := (dC, dI)) (ci := 1) (v := .int (nI 0)) (C := R_Mod) (T := F_Mod) (N := 16) hx hb hts hin_Mod hown hK hP 0 rfl rfl 15 (by decide) (hts _ (nw_mc 62 rfl)) (fun _ h9 => h9) rfl d_Mod_distance_22 ?_
      refine lv_if_eq hx hb d_Mod_distance_25 (tgt := 32) (by decide) (fun q3 => ?_) (fun q3 => ?_)
      · refine lv_aload_n hx hb d_Mod_distance_32 rfl (lv_at hl 0 rfl) ?_
        refine va_get (D := (dC, dI)) (ci := 1) (v := .ref aD) (C := R_Mod) (T := F_Mod) (N := 16) hx hb hts hin_Mod hown hK hP 0 rfl rfl 5 (by decide) (hts _ (nw_mc 88 rfl)) (fun _ h9 => h9) rfl d_Mod_distance_33 ?_
        refine lv_iload_n hx hb d_Mod_distance_36 rfl (lv_at hl 1 rfl) ?_
        refine nw_iald hx hb hK hP 1 0 rfl rfl (k := j) (by omega) (by first | decide | omega) d_Mod_distance_37 ?_
        exact W.iret (v := nI (RD j)) hx hb hr (fun t ht hW => ⟨⟨_, (), rfl, rfl, by rw [ht]; exact hP, hD⟩, hS.F ht⟩) hS.2.2 d_Mod_distance_38
      · rw [nw_eq0 (by omega)] at q3
        omega
    · rw [nI_ltI (by omega) (by omega)] at q2
      omega

set_option maxHeartbeats 4000000 in
set_option maxRecDepth 100000 in
theorem c_Mod_shift (l : Launch) (dC : Nat → ClassId) (dI : Nat → Nat → Nat) (sz : Nat) (cB cI : ClassId) (hM ai aw ar al aL aD ac af ap an ax isz wn chn rn th : Nat) (X Ln : Nat → Nat) (fr to many : Nat) (hfr : fr < 1000) (hto : to < 1000) (hne : fr ≠ to) (hma : many ≤ 60) (hX : ∀ j, X j < 128) : Met l y_Mod_shift w_Mod_shift ({ frames := 0, cells := 0, slots := 0, locals := 0 }) (nw_Pw [.ref hM, .int (nI fr), .int (nI to), .int (nI many)] (dC, dI) nw_cls [(cB, .byte), (cI, .int)] [(hM, .inr (1, [.ref ai, .ref aw, .ref ar, .ref al, .ref aL, .ref aD, .ref ac, .ref af, .ref ap, .ref an, .ref ax, .int (nI isz), .int (nI wn), .int (nI chn), .int (nI rn), .int (nI th)])), (aw, nw_ai cB 60000 X), (al, nw_ai cI 1000 Ln)] sz) (va_Qv (fun _ : Unit => True) (nw_B (dC, dI) nw_cls (va_A [(hM, .inr (1, [.ref ai, .ref aw, .ref ar, .ref al, .ref aL, .ref aD, .ref ac, .ref af, .ref ap, .ref an, .ref ax, .int (nI isz), .int (nI wn), .int (nI chn), .int (nI rn), .int (nI th)])), (aw, nw_ai cB 60000 X), (al, nw_ai cI 1000 Ln)] sz) (fun _ : Unit => [(hM, .inr (1, [.ref ai, .ref aw, .ref ar, .ref al, .ref aL, .ref aD, .ref ac, .ref af, .ref ap, .ref an, .ref ax, .int (nI isz), .int (nI wn), .int (nI chn), .int (nI rn), .int (nI th)])), (aw, nw_ai cB 60000 (va_cpy X X (fr * 60) (to * 60) many)), (al, nw_ai cI 1000 (va_up Ln to many))])) (va_A [(hM, .inr (1, [.ref ai, .ref aw, .ref ar, .ref al, .ref aL, .ref aD, .ref ac, .ref af, .ref ap, .ref an, .ref ax, .int (nI isz), .int (nI wn), .int (nI chn), .int (nI rn), .int (nI th)])), (aw, nw_ai cB 60000 X), (al, nw_ai cI 1000 Ln)] sz)) 0 0 (va_A [(hM, .inr (1, [.ref ai, .ref aw, .ref ar, .ref al, .ref aL, .ref aD, .ref ac, .ref af, .ref ap, .ref an, .ref ax, .int (nI isz), .int (nI wn), .int (nI chn), .int (nI rn), .int (nI th)])), (aw, nw_ai cB 60000 X), (al, nw_ai cI 1000 Ln)] sz) := by
  refine Met.ofW (cc := b_Mod_shift) (maxL := 5) (ret := none) (by decide) rfl ?_
  intro p e s m args below meth cd s₁ B hml hv0
  obtain ⟨rfl, hsz, hP, hK, hD0⟩ := hv0
  have hx := B.exec
  have hb := B.bytes
  have hr := B.returns
  have hts := atoms_spec (ws := w_Mod_shift) B.pre
  have hown : s.vm.findClass R_Mod = some m.cls := findClass_of_methodNamed B.named
  have hlocks := B.notSynchronized
  subst hsz
  have hD := hD0.self (sz := s.heap.size)
  generalize hAe : va_A [(hM, .inr (1, [.ref ai, .ref aw, .ref ar, .ref al, .ref aL, .ref aD, .ref ac, .ref af, .ref ap, .ref an, .ref ax, .int (nI isz), .int (nI wn), .int (nI chn), .int (nI rn), .int (nI th)])), (aw, nw_ai cB 60000 X), (al, nw_ai cI 1000 Ln)] s.heap.size = A at hD ⊢
  have hA : ∀ q : Nat, s.heap.size ≤ q → A q := fun q h => by rw [← hAe]; exact Or.inr h
  have hS : va_S A s.heap s.heap [] := va_S.rf
  have hl := lv_entry ([.ref hM, .int (nI fr), .int (nI to), .int (nI many)]) (n := 5) (Nat.le_of_ble_eq_true rfl)
  rw [lg_entry_eq]
  generalize (lg_sl ([.ref hM, .int (nI fr), .int (nI to), .int (nI many)]) ++ List.replicate (5 - (lg_sl ([.ref hM, .int (nI fr), .int (nI to), .int (nI many)])).length) Slot.unset).toArray = ls at hl ⊢
  have hl : lv_has ls 5 [(0, .ref hM), (1, .int (nI fr)), (2, .int (nI to)), (3, .int (nI many))] := hl
  refine lv_iconst (v := nI 0) hx hb d_Mod_shift_0 (by decide) ?_
  refine lv_istore hx hb d_Mod_shift_1 hl (by decide) rfl (fun ls hl => ?_)
  replace hl : lv_has ls 5 [(4, .int (nI 0)), (0, .ref hM), (1, .int (nI fr)), (2, .int (nI to)), (3, .int (nI many))] := hl
  refine nw_loopW (σ := Nat × (Nat → Nat)) (fun x => match x with | (k, f) => k ≤ many ∧ ∀ x, f x = va_cpy X X (fr * 60) (to * 60) k x) (fun x => match x with | (k, f) => [(4, .int (nI k)), (0, .ref hM), (1, .int (nI fr)), (2, .int (nI to)), (3, .int (nI many))]) (fun x => match x with | (k, f) => [(hM, .inr (1, [.ref ai, .ref aw, .ref ar, .ref al, .ref aL, .ref aD, .ref ac, .ref af, .ref ap, .ref an, .ref ax, .int (nI isz), .int (nI wn), .int (nI chn), .int (nI rn), .int (nI th)])), (aw, nw_ai cB 60000 f), (al, nw_ai cI 1000 Ln)]) (fun x => match x with | (k, f) => many - k) (fun x hI ih ls H locs hl hP hD hS => ?_) (0, X) (⟨Nat.zero_le _, fun x => (nw_cpy_0 X X _ _ x).symm⟩) hl hP hD hS
  obtain ⟨k, f⟩ := x
  replace hI : k ≤ many ∧ ∀ x, f x = va_cpy X X (fr * 60) (to * 60) k x := hI
  replace hl : lv_has ls 5 [(4, .int (nI k)), (0, .ref hM), (1, .int (nI fr)), (2, .int (nI to)), (3, .int (nI many))] := hl
  replace hP : va_P (dC, dI) nw_cls [(hM, .inr (1, [.ref ai, .ref aw, .ref ar, .ref al, .ref aL, .ref aD, .ref ac, .ref af, .ref ap, .ref an, .ref ax, .int (nI isz), .int (nI wn), .int (nI chn), .int (nI rn), .int (nI th)])), (aw, nw_ai cB 60000 f), (al, nw_ai cI 1000 Ln)] H := hP
  replace hD : va_D A [(hM, .inr (1, [.ref ai, .ref aw, .ref ar, .ref al, .ref aL, .ref aD, .ref ac, .ref af, .ref ap, .ref an, .ref ax, .int (nI isz), .int (nI wn), .int (nI chn), .int (nI rn), .int (nI th)])), (aw, nw_ai cB 60000 f), (al, nw_ai cI 1000 Ln)] := hD
  obtain ⟨hk, hf⟩ := hI
  refine lv_iload hx hb d_Mod_shift_3 (lv_at hl 0 rfl) ?_
  refine lv_iload_n hx hb d_Mod_shift_5 rfl (lv_at hl 4 rfl) ?_
  refine lv_icmp_ge hx hb d_Mod_shift_6 (tgt := 39) (by decide) (fun hc1 => ?_) (fun hc1 => ?_)
  · rw [nI_leI (by omega) (by omega)] at hc1
    obtain rfl : f = va_cpy X X (fr * 60) (to * 60) many := funext fun x => by rw [hf x, show k = many by omega]
    replace hP : va_P (dC, dI) nw_cls [(hM, .inr (1, [.ref ai, .ref aw, .ref ar, .ref al, .ref aL, .ref aD, .ref ac, .ref af, .ref ap, .ref an, .ref ax, .int (nI isz), .int (nI wn), .int (nI chn), .int (nI rn), .int (nI th)])), (aw, nw_ai cB 60000 (va_cpy X X (fr * 60) (to * 60) many)), (al, nw_ai cI 1000 Ln)] H := hP
    replace hD : va_D A [(hM, .inr (1, [.ref ai, .ref aw, .ref ar, .ref al, .ref aL, .ref aD, .ref ac, .ref af, .ref ap, .ref an, .ref ax, .int (nI isz), .int (nI wn), .int (nI chn), .int (nI rn), .int (nI th)])), (aw, nw_ai cB 60000 (va_cpy X X (fr * 60) (to * 60) many)), (al, nw_ai cI 1000 Ln)] := hD
    refine lv_aload_n hx hb d_Mod_shift_39 rfl (lv_at hl 1 rfl) ?_
    refine va_get (D := (dC, dI)) (ci := 1) (v := .ref al) (C := R_Mod) (T := F_Mod) (N := 16) hx hb hts hin_Mod hown hK hP 0 rfl rfl 3 (by decide) (hts _ (nw_mc 64 rfl)) (fun _ h9 => h9) rfl d_Mod_shift_40 ?_
    refine lv_iload_n hx hb d_Mod_shift_43 rfl (lv_at hl 3 rfl) ?_
    refine lv_iload_n hx hb d_Mod_shift_44 rfl (lv_at hl 4 rfl) ?_
    refine nw_iast hx hb hK hP hD hS 2 1 rfl rfl (k := to) (v := many) (by omega) (by first | decide | omega) d_Mod_shift_45 (fun H locs hP hD hS => ?_)
    replace hP : va_P (dC, dI) nw_cls [(hM, .inr (1, [.ref ai, .ref aw, .ref ar, .ref al, .ref aL, .ref aD, .ref ac, .ref af, .ref ap, .ref an, .ref ax, .int (nI isz), .int (nI wn), .int (nI chn), .int (nI rn), .int (nI th)])), (aw, nw_ai cB 60000 (va_cpy X X (fr * 60) (to * 60) many)), (al, nw_ai cI 1000 (va_up Ln to many))] H := hP
    replace hD : va_D A [(hM, .inr (1, [.ref ai, .ref aw, .ref ar, .ref al, .ref aL, .ref aD, .ref ac, .ref af, .ref ap, .ref an, .ref ax, .int (nI isz), .int (nI wn), .int (nI chn), .int (nI rn), .int (nI th)])), (aw, nw_ai cB 60000 (va_cpy X X (fr * 60) (to * 60) many)), (al, nw_ai cI 1000 (va_up Ln to many))] := hD
    exact W.vret hx hb hr (fun t ht hW => ⟨⟨(), rfl, trivial, by rw [ht]; exact hP, hD⟩, hS.F ht⟩) hS.2.2 d_Mod_shift_46
  · rw [nI_leI (by omega) (by omega)] at hc1
    have hv : f ((fr * 60) + k) = X (fr * 60 + k) := by rw [hf, pk_cpy_out (by omega)]
    have hv2 := hX (fr * 60 + k)
    refine lv_aload_n hx hb d_Mod_shift_9 rfl (lv_at hl 1 rfl) ?_
    refine va_get (D := (dC, dI)) (ci := 1) (v := .ref aw) (C := R_Mod) (T := F_Mod) (N := 16) hx hb hts hin_Mod hown hK hP 0 rfl rfl 1 (by decide) (hts _ (nw_mc 69 rfl)) (fun _ h9 => h9) rfl d_Mod_shift_10 ?_
    refine lv_iload_n hx hb d_Mod_shift_13 rfl (lv_at hl 3 rfl) ?_
    refine lv_bipush (v := nI 60) hx hb d_Mod_shift_14 (by decide) ?_
    refine lv_imul hx hb d_Mod_shift_16 ?_
    refine nw_ti (pk_mul to 60) ?_
    refine lv_iload hx hb d_Mod_shift_17 (lv_at hl 0 rfl) ?_
    refine lv_iadd hx hb d_Mod_shift_19 ?_
    refine nw_ti (nI_add (to * 60) k) ?_
    refine lv_aload_n hx hb d_Mod_shift_20 rfl (lv_at hl 1 rfl) ?_
    refine va_get (D := (dC, dI)) (ci := 1) (v := .ref aw) (C := R_Mod) (T := F_Mod) (N := 16) hx hb hts hin_Mod hown hK hP 0 rfl rfl 1 (by decide) (hts _ (nw_mc 69 rfl)) (fun _ h9 => h9) rfl d_Mod_shift_21 ?_
    refine lv_iload_n hx hb d_Mod_shift_24 rfl (lv_at hl 2 rfl) ?_
    refine lv_bipush (v := nI 60) hx hb d_Mod_shift_25 (by decide) ?_
    refine lv_imul hx hb d_Mod_shift_27 ?_
    refine nw_ti (pk_mul fr 60) ?_
    refine lv_iload hx hb d_Mod_shift_28 (lv_at hl 0 rfl) ?_
    refine lv_iadd hx hb d_Mod_shift_30 ?_
    refine nw_ti (nI_add (fr * 60) k) ?_
    refine nw_bald hx hb hK hP 1 0 rfl rfl (k := ((fr * 60) + k)) (by omega) (by first | decide | omega) d_Mod_shift_31 ?_
    refine nw_bast hx hb hK hP hD hS 1 0 rfl rfl (k := ((to * 60) + k)) (v := (f ((fr * 60) + k))) (by omega) (by first | decide | omega) (by omega) d_Mod_shift_32 (fun H locs hP hD hS => ?_)
    replace hP : va_P (dC, dI) nw_cls [(hM, .inr (1, [.ref ai, .ref aw, .ref ar, .ref al, .ref aL, .ref aD, .ref ac, .ref af, .ref ap, .ref an, .ref ax, .int (nI isz), .int (nI wn), .int (nI chn), .int (nI rn), .int (nI th)])), (aw, nw_ai cB 60000 (va_up f ((to * 60) + k) (f ((fr * 60) + k)))), (al, nw_ai cI 1000 Ln)] H := hP
    replace hD : va_D A [(hM, .inr (1, [.ref ai, .ref aw, .ref ar, .ref al, .ref aL, .ref aD, .ref ac, .ref af, .ref ap, .ref an, .ref ax, .int (nI isz), .int (nI wn), .int (nI chn), .int (nI rn), .int (nI th)])), (aw, nw_ai cB 60000 (va_up f ((to * 60) + k) (f ((fr * 60) + k)))), (al, nw_ai cI 1000 Ln)] := hD
    refine lv_iinc (v := nI (k + 1)) hx hb d_Mod_shift_33 hl (k := 0) rfl (nI_add k 1) (by decide) rfl (fun ls hl => ?_)
    have hl : lv_has ls 5 [(4, .int (nI (k + 1))), (0, .ref hM), (1, .int (nI fr)), (2, .int (nI to)), (3, .int (nI many))] := hl
    refine lv_goto hx hb d_Mod_shift_36 (tgt := 3) (by decide) ?_
    exact ih (k + 1, va_up f ((to * 60) + k) (f ((fr * 60) + k))) (⟨by omega, nw_cpy_s hf hv⟩) (show many - (k + 1) < many - k by omega) _ _ _ hl hP hD hS

set_option maxHeartbeats 4000000 in
set_option maxRecDepth 100000 in
theorem c_Mod_keep (l : Launch) (dC : Nat → ClassId) (dI : Nat → Nat → Nat) (sz : Nat) (cB cI : ClassId) (hM ai aw ar al aL aD ac af ap an ax isz wn chn rn th : Nat) (X Ln Y RL RD : Nat → Nat) (pl i d : Nat) (hpl : pl < 50) (hi : i < 1000) (hL : Ln i ≤ 60) (hX : ∀ j, X j < 128) : Met l y_Mod_keep w_Mod_keep ({ frames := 0, cells := 0, slots := 0, locals := 0 }) (nw_Pw [.ref hM, .int (nI pl), .int (nI i), .int (nI d)] (dC, dI) nw_cls [(cB, .byte), (cI, .int)] [(hM, .inr (1, [.ref ai, .ref aw, .ref ar, .ref al, .ref aL, .ref aD, .ref ac, .ref af, .ref ap, .ref an, .ref ax, .int (nI isz), .int (nI wn), .int (nI chn), .int (nI rn), .int (nI th)])), (aw, nw_ai cB 60000 X), (al, nw_ai cI 1000 Ln), (ar, nw_ai cB 3000 Y), (aL, nw_ai cI 50 RL), (aD, nw_ai cI 50 RD)] sz) (va_Qv (fun _ : Unit => True) (nw_B (dC, dI) nw_cls (va_A [(hM, .inr (1, [.ref ai, .ref aw, .ref ar, .ref al, .ref aL, .ref aD, .ref ac, .ref af, .ref ap, .ref an, .ref ax, .int (nI isz), .int (nI wn), .int (nI chn), .int (nI rn), .int (nI th)])), (aw, nw_ai cB 60000 X), (al, nw_ai cI 1000 Ln), (ar, nw_ai cB 3000 Y), (aL, nw_ai cI 50 RL), (aD, nw_ai cI 50 RD)] sz) (fun _ : Unit => [(hM, .inr (1, [.ref ai, .ref aw, .ref ar, .ref al, .ref aL, .ref aD, .ref ac, .ref af, .ref ap, .ref an, .ref ax, .int (nI isz), .int (nI wn), .int (nI chn), .int (nI rn), .int (nI th)])), (aw, nw_ai cB 60000 X), (al, nw_ai cI 1000 Ln), (ar, nw_ai cB 3000 (va_cpy X Y (i * 60) (pl * 60) (Ln i))), (aL, nw_ai cI 50 (va_up RL pl (Ln i))), (aD, nw_ai cI 50 (va_up RD pl d))])) (va_A [(hM, .inr (1, [.ref ai, .ref aw, .ref ar, .ref al, .ref aL, .ref aD, .ref ac, .ref af, .ref ap, .ref an, .ref ax, .int (nI isz), .int (nI wn), .int (nI chn), .int (nI rn), .int (nI th)])), (aw, nw_ai cB 60000 X), (al, nw_ai cI 1000 Ln), (ar, nw_ai cB 3000 Y), (aL, nw_ai cI 50 RL), (aD, nw_ai cI 50 RD)] sz)) 0 0 (va_A [(hM, .inr (1, [.ref ai, .ref aw, .ref ar, .ref al, .ref aL, .ref aD, .ref ac, .ref af, .ref ap, .ref an, .ref ax, .int (nI isz), .int (nI wn), .int (nI chn), .int (nI rn), .int (nI th)])), (aw, nw_ai cB 60000 X), (al, nw_ai cI 1000 Ln), (ar, nw_ai cB 3000 Y), (aL, nw_ai cI 50 RL), (aD, nw_ai cI 50 RD)] sz) := by
  refine Met.ofW (cc := b_Mod_keep) (maxL := 5) (ret := none) (by decide) rfl ?_
  intro p e s m args below meth cd s₁ B hml hv0
  obtain ⟨rfl, hsz, hP, hK, hD0⟩ := hv0
  have hx := B.exec
  have hb := B.bytes
  have hr := B.returns
  have hts := atoms_spec (ws := w_Mod_keep) B.pre
  have hown : s.vm.findClass R_Mod = some m.cls := findClass_of_methodNamed B.named
  have hlocks := B.notSynchronized
  subst hsz
  have hD := hD0.self (sz := s.heap.size)
  generalize hAe : va_A [(hM, .inr (1, [.ref ai, .ref aw, .ref ar, .ref al, .ref aL, .ref aD, .ref ac, .ref af, .ref ap, .ref an, .ref ax, .int (nI isz), .int (nI wn), .int (nI chn), .int (nI rn), .int (nI th)])), (aw, nw_ai cB 60000 X), (al, nw_ai cI 1000 Ln), (ar, nw_ai cB 3000 Y), (aL, nw_ai cI 50 RL), (aD, nw_ai cI 50 RD)] s.heap.size = A at hD ⊢
  have hA : ∀ q : Nat, s.heap.size ≤ q → A q := fun q h => by rw [← hAe]; exact Or.inr h
  have hS : va_S A s.heap s.heap [] := va_S.rf
  have hl := lv_entry ([.ref hM, .int (nI pl), .int (nI i), .int (nI d)]) (n := 5) (Nat.le_of_ble_eq_true rfl)
  rw [lg_entry_eq]
  generalize (lg_sl ([.ref hM, .int (nI pl), .int (nI i), .int (nI d)]) ++ List.replicate (5 - (lg_sl ([.ref hM, .int (nI pl), .int (nI i), .int (nI d)])).length) Slot.unset).toArray = ls at hl ⊢
  have hl : lv_has ls 5 [(0, .ref hM), (1, .int (nI pl)), (2, .int (nI i)), (3, .int (nI d))] := hl
  refine lv_iconst (v := nI 0) hx hb d_Mod_keep_0 (by decide) ?_
  refine lv_istore hx hb d_Mod_keep_1 hl (by decide) rfl (fun ls hl => ?_)
  replace hl : lv_has ls 5 [(4, .int (nI 0)), (0, .ref hM), (1, .int (nI pl)), (2, .int (nI i)), (3, .int (nI d))] := hl
  refine nw_loopW (σ := Nat × (Nat → Nat)) (fun x => match x with | (k, f) => k ≤ Ln i ∧ ∀ x, f x = va_cpy X Y (i * 60) (pl * 60) k x) (fun x => match x with | (k, f) => [(4, .int (nI k)), (0, .ref hM), (1, .int (nI pl)), (2, .int (nI i)), (3, .int (nI d))]) (fun x => match x with | (k, f) => [(hM, .inr (1, [.ref ai, .ref aw, .ref ar, .ref al, .ref aL, .ref aD, .ref ac, .ref af, .ref ap, .ref an, .ref ax, .int (nI isz), .int (nI wn), .int (nI chn), .int (nI rn), .int (nI th)])), (aw, nw_ai cB 60000 X), (al, nw_ai cI 1000 Ln), (ar, nw_ai cB 3000 f), (aL, nw_ai cI 50 RL), (aD, nw_ai cI 50 RD)]) (fun x => match x with | (k, f) => Ln i - k) (fun x hI ih ls H locs hl hP hD hS => ?_) (0, Y) (⟨Nat.zero_le _, fun x => (nw_cpy_0 X Y _ _ x).symm⟩) hl hP hD hS
  obtain ⟨k, f⟩ := x
  replace hI : k ≤ Ln i ∧ ∀ x, f x = va_cpy X Y (i * 60) (pl * 60) k x := hI
  replace hl : lv_has ls 5 [(4, .int (nI k)), (0, .ref hM), (1, .int (nI pl)), (2, .int (nI i)), (3, .int (nI d))] := hl
  replace hP : va_P (dC, dI) nw_cls [(hM, .inr (1, [.ref ai, .ref aw, .ref ar, .ref al, .ref aL, .ref aD, .ref ac, .ref af, .ref ap, .ref an, .ref ax, .int (nI isz), .int (nI wn), .int (nI chn), .int (nI rn), .int (nI th)])), (aw, nw_ai cB 60000 X), (al, nw_ai cI 1000 Ln), (ar, nw_ai cB 3000 f), (aL, nw_ai cI 50 RL), (aD, nw_ai cI 50 RD)] H := hP
  replace hD : va_D A [(hM, .inr (1, [.ref ai, .ref aw, .ref ar, .ref al, .ref aL, .ref aD, .ref ac, .ref af, .ref ap, .ref an, .ref ax, .int (nI isz), .int (nI wn), .int (nI chn), .int (nI rn), .int (nI th)])), (aw, nw_ai cB 60000 X), (al, nw_ai cI 1000 Ln), (ar, nw_ai cB 3000 f), (aL, nw_ai cI 50 RL), (aD, nw_ai cI 50 RD)] := hD
  obtain ⟨hk, hf⟩ := hI
  refine lv_iload hx hb d_Mod_keep_3 (lv_at hl 0 rfl) ?_
  refine lv_aload_n hx hb d_Mod_keep_5 rfl (lv_at hl 1 rfl) ?_
  refine va_get (D := (dC, dI)) (ci := 1) (v := .ref al) (C := R_Mod) (T := F_Mod) (N := 16) hx hb hts hin_Mod hown hK hP 0 rfl rfl 3 (by decide) (hts _ (nw_mc 64 rfl)) (fun _ h9 => h9) rfl d_Mod_keep_6 ?_
  refine lv_iload_n hx hb d_Mod_keep_9 rfl (lv_at hl 3 rfl) ?_
  refine nw_iald hx hb hK hP 2 1 rfl rfl (k := i) (by omega) (by first | decide | omega) d_Mod_keep_10 ?_
  refine lv_icmp_ge hx hb d_Mod_keep_11 (tgt := 44) (by decide) (fun hc1 => ?_) (fun hc1 => ?_)
  · rw [nI_leI (by omega) (by omega)] at hc1
    obtain rfl : f = va_cpy X Y (i * 60) (pl * 60) (Ln i) := funext fun x => by rw [hf x, show k = Ln i by omega]
    replace hP : va_P (dC, dI) nw_cls [(hM, .inr (1, [.ref ai, .ref aw, .ref ar, .ref al, .ref aL, .ref aD, .ref ac, .ref af, .ref ap, .ref an, .ref ax, .int (nI isz), .int (nI wn), .int (nI chn), .int (nI rn), .int (nI th)])), (aw, nw_ai cB 60000 X), (al, nw_ai cI 1000 Ln), (ar, nw_ai cB 3000 (va_cpy X Y (i * 60) (pl * 60) (Ln i))), (aL, nw_ai cI 50 RL), (aD, nw_ai cI 50 RD)] H := hP
    replace hD : va_D A [(hM, .inr (1, [.ref ai, .ref aw, .ref ar, .ref al, .ref aL, .ref aD, .ref ac, .ref af, .ref ap, .ref an, .ref ax, .int (nI isz), .int (nI wn), .int (nI chn), .int (nI rn), .int (nI th)])), (aw, nw_ai cB 60000 X), (al, nw_ai cI 1000 Ln), (ar, nw_ai cB 3000 (va_cpy X Y (i * 60) (pl * 60) (Ln i))), (aL, nw_ai cI 50 RL), (aD, nw_ai cI 50 RD)] := hD
    refine lv_aload_n hx hb d_Mod_keep_44 rfl (lv_at hl 1 rfl) ?_
    refine va_get (D := (dC, dI)) (ci := 1) (v := .ref aL) (C := R_Mod) (T := F_Mod) (N := 16) hx hb hts hin_Mod hown hK hP 0 rfl rfl 4 (by decide) (hts _ (nw_mc 86 rfl)) (fun _ h9 => h9) rfl d_Mod_keep_45 ?_
    refine lv_iload_n hx hb d_Mod_keep_48 rfl (lv_at hl 2 rfl) ?_
    refine lv_aload_n hx hb d_Mod_keep_49 rfl (lv_at hl 1 rfl) ?_
    refine va_get (D := (dC, dI)) (ci := 1) (v := .ref al) (C := R_Mod) (T := F_Mod) (N := 16) hx hb hts hin_Mod hown hK hP 0 rfl rfl 3 (by decide) (hts _ (nw_mc 64 rfl)) (fun _ h9 => h9) rfl d_Mod_keep_50 ?_
    refine lv_iload_n hx hb d_Mod_keep_53 rfl (lv_at hl 3 rfl) ?_
    refine nw_iald hx hb hK hP 2 1 rfl rfl (k := i) (by omega) (by first | decide | omega) d_Mod_keep_54 ?_
    refine nw_iast hx hb hK hP hD hS 4 1 rfl rfl (k := pl) (v := (Ln i)) (by omega) (by first | decide | omega) d_Mod_keep_55 (fun H locs hP hD hS => ?_)
    replace hP : va_P (dC, dI) nw_cls [(hM, .inr (1, [.ref ai, .ref aw, .ref ar, .ref al, .ref aL, .ref aD, .ref ac, .ref af, .ref ap, .ref an, .ref ax, .int (nI isz), .int (nI wn), .int (nI chn), .int (nI rn), .int (nI th)])), (aw, nw_ai cB 60000 X), (al, nw_ai cI 1000 Ln), (ar, nw_ai cB 3000 (va_cpy X Y (i * 60) (pl * 60) (Ln i))), (aL, nw_ai cI 50 (va_up RL pl (Ln i))), (aD, nw_ai cI 50 RD)] H := hP
    replace hD : va_D A [(hM, .inr (1, [.ref ai, .ref aw, .ref ar, .ref al, .ref aL, .ref aD, .ref ac, .ref af, .ref ap, .ref an, .ref ax, .int (nI isz), .int (nI wn), .int (nI chn), .int (nI rn), .int (nI th)])), (aw, nw_ai cB 60000 X), (al, nw_ai cI 1000 Ln), (ar, nw_ai cB 3000 (va_cpy X Y (i * 60) (pl * 60) (Ln i))), (aL, nw_ai cI 50 (va_up RL pl (Ln i))), (aD, nw_ai cI 50 RD)] := hD
    refine lv_aload_n hx hb d_Mod_keep_56 rfl (lv_at hl 1 rfl) ?_
    refine va_get (D := (dC, dI)) (ci := 1) (v := .ref aD) (C := R_Mod) (T := F_Mod) (N := 16) hx hb hts hin_Mod hown hK hP 0 rfl rfl 5 (by decide) (hts _ (nw_mc 88 rfl)) (fun _ h9 => h9) rfl d_Mod_keep_57 ?_
    refine lv_iload_n hx hb d_Mod_keep_60 rfl (lv_at hl 2 rfl) ?_
    refine lv_iload_n hx hb d_Mod_keep_61 rfl (lv_at hl 4 rfl) ?_
    refine nw_iast hx hb hK hP hD hS 5 1 rfl rfl (k := pl) (v := d) (by omega) (by first | decide | omega) d_Mod_keep_62 (fun H locs hP hD hS => ?_)
    replace hP : va_P (dC, dI) nw_cls [(hM, .inr (1, [.ref ai, .ref aw, .ref ar, .ref al, .ref aL, .ref aD, .ref ac, .ref af, .ref ap, .ref an, .ref ax, .int (nI isz), .int (nI wn), .int (nI chn), .int (nI rn), .int (nI th)])), (aw, nw_ai cB 60000 X), (al, nw_ai cI 1000 Ln), (ar, nw_ai cB 3000 (va_cpy X Y (i * 60) (pl * 60) (Ln i))), (aL, nw_ai cI 50 (va_up RL pl (Ln i))), (aD, nw_ai cI 50 (va_up RD pl d))] H := hP
    replace hD : va_D A [(hM, .inr (1, [.ref ai, .ref aw, .ref ar, .ref al, .ref aL, .ref aD, .ref ac, .ref af, .ref ap, .ref an, .ref ax, .int (nI isz), .int (nI wn), .int (nI chn), .int (nI rn), .int (nI th)])), (aw, nw_ai cB 60000 X), (al, nw_ai cI 1000 Ln), (ar, nw_ai cB 3000 (va_cpy X Y (i * 60) (pl * 60) (Ln i))), (aL, nw_ai cI 50 (va_up RL pl (Ln i))), (aD, nw_ai cI 50 (va_up RD pl d))] := hD
    exact W.vret hx hb hr (fun t ht hW => ⟨⟨(), rfl, trivial, by rw [ht]; exact hP, hD⟩, hS.F ht⟩) hS.2.2 d_Mod_keep_63
  · rw [nI_leI (by omega) (by omega)] at hc1
    have hv2 := hX (i * 60 + k)
    refine lv_aload_n hx hb d_Mod_keep_14 rfl (lv_at hl 1 rfl) ?_
    refine va_get (D := (dC, dI)) (ci := 1) (v := .ref ar) (C := R_Mod) (T := F_Mod) (N := 16) hx hb hts hin_Mod hown hK hP 0 rfl rfl 2 (by decide) (hts _ (nw_mc 87 rfl)) (fun _ h9 => h9) rfl d_Mod_keep_15 ?_
    refine lv_iload_n hx hb d_Mod_keep_18 rfl (lv_at hl 2 rfl) ?_
    refine lv_bipush (v := nI 60) hx hb d_Mod_keep_19 (by decide) ?_
    refine lv_imul hx hb d_Mod_keep_21 ?_
    refine nw_ti (pk_mul pl 60) ?_
    refine lv_iload hx hb d_Mod_keep_22 (lv_at hl 0 rfl) ?_
    refine lv_iadd hx hb d_Mod_keep_24 ?_
    refine nw_ti (nI_add (pl * 60) k) ?_
    refine lv_aload_n hx hb d_Mod_keep_25 rfl (lv_at hl 1 rfl) ?_
    refine va_get (D := (dC, dI)) (ci := 1) (v := .ref aw) (C := R_Mod) (T := F_Mod) (N := 16) hx hb hts hin_Mod hown hK hP 0 rfl rfl 1 (by decide) (hts _ (nw_mc 69 rfl)) (fun _ h9 => h9) rfl d_Mod_keep_26 ?_
    refine lv_iload_n hx hb d_Mod_keep_29 rfl (lv_at hl 3 rfl) ?_
    refine lv_bipush (v := nI 60) hx hb d_Mod_keep_30 (by decide) ?_
    refine lv_imul hx hb d_Mod_keep_32 ?_
    refine nw_ti (pk_mul i 60) ?_
    refine lv_iload hx hb d_Mod_keep_33 (lv_at hl 0 rfl) ?_
    refine lv_iadd hx hb d_Mod_keep_35 ?_
    refine nw_ti (nI_add (i * 60) k) ?_
    refine nw_bald hx hb hK hP 1 0 rfl rfl (k := ((i * 60) + k)) (by omega) (by first | decide | omega) d_Mod_keep_36 ?_
    refine nw_bast hx hb hK hP hD hS 3 0 rfl rfl (k := ((pl * 60) + k)) (v := (X ((i * 60) + k))) (by omega) (by first | decide | omega) (by omega) d_Mod_keep_37 (fun H locs hP hD hS => ?_)
    replace hP : va_P (dC, dI) nw_cls [(hM, .inr (1, [.ref ai, .ref aw, .ref ar, .ref al, .ref aL, .ref aD, .ref ac, .ref af, .ref ap, .ref an, .ref ax, .int (nI isz), .int (nI wn), .int (nI chn), .int (nI rn), .int (nI th)])), (aw, nw_ai cB 60000 X), (al, nw_ai cI 1000 Ln), (ar, nw_ai cB 3000 (va_up f ((pl * 60) + k) (X ((i * 60) + k)))), (aL, nw_ai cI 50 RL), (aD, nw_ai cI 50 RD)] H := hP
    replace hD : va_D A [(hM, .inr (1, [.ref ai, .ref aw, .ref ar, .ref al, .ref aL, .ref aD, .ref ac, .ref af, .ref ap, .ref an, .ref ax, .int (nI isz), .int (nI wn), .int (nI chn), .int (nI rn), .int (nI th)])), (aw, nw_ai cB 60000 X), (al, nw_ai cI 1000 Ln), (ar, nw_ai cB 3000 (va_up f ((pl * 60) + k) (X ((i * 60) + k)))), (aL, nw_ai cI 50 RL), (aD, nw_ai cI 50 RD)] := hD
    refine lv_iinc (v := nI (k + 1)) hx hb d_Mod_keep_38 hl (k := 0) rfl (nI_add k 1) (by decide) rfl (fun ls hl => ?_)
    have hl : lv_has ls 5 [(4, .int (nI (k + 1))), (0, .ref hM), (1, .int (nI pl)), (2, .int (nI i)), (3, .int (nI d))] := hl
    refine lv_goto hx hb d_Mod_keep_41 (tgt := 3) (by decide) ?_
    exact ih (k + 1, va_up f ((pl * 60) + k) (X ((i * 60) + k))) (⟨by omega, nw_cpy_s hf rfl⟩) (show Ln i - (k + 1) < Ln i - k by omega) _ _ _ hl hP hD hS
end
section
set_option maxHeartbeats 4000000 in
set_option maxRecDepth 100000 in
theorem c_Mod_steps (l : Launch) (dC : Nat → ClassId) (dI : Nat → Nat → Nat) (sz : Nat) (cB cI : ClassId) (hM ai aw ar al aL aD ac af ap an ax isz wn chn rn th : Nat) (I X Ln ST : Nat → Nat) (i n : Nat) (hi : i < 1000) (hn : n ≤ 60) (hL : Ln i ≤ 60) (hX : ∀ j, X j < 128) (hI0 : ∀ j, I j < 128) : Met l y_Mod_steps w_Mod_steps ({ frames := 1, cells := 0, slots := 0, locals := 21 }) (nw_Pw [.ref hM, .int (nI i), .int (nI n)] (dC, dI) nw_cls [(cB, .byte), (cI, .int)] [(hM, .inr (1, [.ref ai, .ref aw, .ref ar, .ref al, .ref aL, .ref aD, .ref ac, .ref af, .ref ap, .ref an, .ref ax, .int (nI isz), .int (nI wn), .int (nI chn), .int (nI rn), .int (nI th)])), (ai, nw_ai cB 60 I), (aw, nw_ai cB 60000 X), (al, nw_ai cI 1000 Ln), (ap, nw_ai cI 3721 ST)] sz) (va_Qi (fun (r : Int32) (_ : Nat → Nat) => r = nI (nw_D (fun k => X (i * 60 + k)) I (Ln i) n)) (nw_B (dC, dI) nw_cls (va_A [(hM, .inr (1, [.ref ai, .ref aw, .ref ar, .ref al, .ref aL, .ref aD, .ref ac, .ref af, .ref ap, .ref an, .ref ax, .int (nI isz), .int (nI wn), .int (nI chn), .int (nI rn), .int (nI th)])), (ai, nw_ai cB 60 I), (aw, nw_ai cB 60000 X), (al, nw_ai cI 1000 Ln), (ap, nw_ai cI 3721 ST)] sz) (fun u => [(hM, .inr (1, [.ref ai, .ref aw, .ref ar, .ref al, .ref aL, .ref aD, .ref ac, .ref af, .ref ap, .ref an, .ref ax, .int (nI isz), .int (nI wn), .int (nI chn), .int (nI rn), .int (nI th)])), (ai, nw_ai cB 60 I), (aw, nw_ai cB 60000 X), (al, nw_ai cI 1000 Ln), (ap, nw_ai cI 3721 u)])) (va_A [(hM, .inr (1, [.ref ai, .ref aw, .ref ar, .ref al, .ref aL, .ref aD, .ref ac, .ref af, .ref ap, .ref an, .ref ax, .int (nI isz), .int (nI wn), .int (nI chn), .int (nI rn), .int (nI th)])), (ai, nw_ai cB 60 I), (aw, nw_ai cB 60000 X), (al, nw_ai cI 1000 Ln), (ap, nw_ai cI 3721 ST)] sz)) 0 0 (va_A [(hM, .inr (1, [.ref ai, .ref aw, .ref ar, .ref al, .ref aL, .ref aD, .ref ac, .ref af, .ref ap, .ref an, .ref ax, .int (nI isz), .int (nI wn), .int (nI chn), .int (nI rn), .int (nI th)])), (ai, nw_ai cB 60 I), (aw, nw_ai cB 60000 X), (al, nw_ai cI 1000 Ln), (ap, nw_ai cI 3721 ST)] sz) := by
  refine Met.ofW (cc := b_Mod_steps) (maxL := 9) (ret := (some .int)) (by decide) rfl ?_
  intro p e s m args below meth cd s₁ B hml hv0
  obtain ⟨rfl, hsz, hP, hK, hD0⟩ := hv0
  have hx := B.exec
  have hb := B.bytes
  have hr := B.returns
  have hts := atoms_spec (ws := w_Mod_steps) B.pre
  have hown : s.vm.findClass R_Mod = some m.cls := findClass_of_methodNamed B.named
  have hlocks := B.notSynchronized
  subst hsz
  have hD := hD0.self (sz := s.heap.size)
  generalize hAe : va_A [(hM, .inr (1, [.ref ai, .ref aw, .ref ar, .ref al, .ref aL, .ref aD, .ref ac, .ref af, .ref ap, .ref an, .ref ax, .int (nI isz), .int (nI wn), .int (nI chn), .int (nI rn), .int (nI th)])), (ai, nw_ai cB 60 I), (aw, nw_ai cB 60000 X), (al, nw_ai cI 1000 Ln), (ap, nw_ai cI 3721 ST)] s.heap.size = A at hD ⊢
  have hA : ∀ q : Nat, s.heap.size ≤ q → A q := fun q h => by rw [← hAe]; exact Or.inr h
  have hS : va_S A s.heap s.heap [] := va_S.rf
  have hl := lv_entry ([.ref hM, .int (nI i), .int (nI n)]) (n := 9) (Nat.le_of_ble_eq_true rfl)
  rw [lg_entry_eq]
  generalize (lg_sl ([.ref hM, .int (nI i), .int (nI n)]) ++ List.replicate (9 - (lg_sl ([.ref hM, .int (nI i), .int (nI n)])).length) Slot.unset).toArray = ls at hl ⊢
  have hl : lv_has ls 9 [(0, .ref hM), (1, .int (nI i)), (2, .int (nI n))] := hl
  refine lv_aload_n hx hb d_Mod_steps_0 rfl (lv_at hl 0 rfl) ?_
  refine va_get (D := (dC, dI)) (ci := 1) (v := .ref al) (C := R_Mod) (T := F_Mod) (N := 16) hx hb hts hin_Mod hown hK hP 0 rfl rfl 3 (by decide) (hts _ (nw_mc 64 rfl)) (fun _ h9 => h9) rfl d_Mod_steps_1 ?_
  refine lv_iload_n hx hb d_Mod_steps_4 rfl (lv_at hl 1 rfl) ?_
  refine nw_iald hx hb hK hP 3 1 rfl rfl (k := i) (by omega) (by first | decide | omega) d_Mod_steps_5 ?_
  refine lv_istore_n hx hb d_Mod_steps_6 rfl hl (by decide) rfl (fun ls hl => ?_)
  replace hl : lv_has ls 9 [(3, .int (nI (Ln i))), (0, .ref hM), (1, .int (nI i)), (2, .int (nI n))] := hl
  refine lv_iconst (v := nI 0) hx hb d_Mod_steps_7 (by decide) ?_
  refine lv_istore hx hb d_Mod_steps_8 hl (by decide) rfl (fun ls hl => ?_)
  replace hl : lv_has ls 9 [(4, .int (nI 0)), (3, .int (nI (Ln i))), (0, .ref hM), (1, .int (nI i)), (2, .int (nI n))] := hl
  refine nw_loopW (σ := Nat × (Nat → Nat)) (fun x => match x with | (a, f) => a ≤ Ln i + 1 ∧ (∀ p q, (p < a ∧ q ≤ n) ∨ (p = a ∧ q < 0) → f (p * 61 + q) = nw_D (fun k => X (i * 60 + k)) I p q)) (fun x => match x with | (a, f) => [(4, .int (nI a)), (3, .int (nI (Ln i))), (0, .ref hM), (1, .int (nI i)), (2, .int (nI n))]) (fun x => match x with | (a, f) => [(hM, .inr (1, [.ref ai, .ref aw, .ref ar, .ref al, .ref aL, .ref aD, .ref ac, .ref af, .ref ap, .ref an, .ref ax, .int (nI isz), .int (nI wn), .int (nI chn), .int (nI rn), .int (nI th)])), (ai, nw_ai cB 60 I), (aw, nw_ai cB 60000 X), (al, nw_ai cI 1000 Ln), (ap, nw_ai cI 3721 f)]) (fun x => match x with | (a, f) => Ln i + 1 - a) (fun x hA1 ih1 ls H locs hl hP hD hS => ?_) (0, ST) (⟨Nat.zero_le _, fun p q h => by omega⟩) hl hP hD hS
  obtain ⟨a, f⟩ := x
  replace hA1 : a ≤ Ln i + 1 ∧ (∀ p q, (p < a ∧ q ≤ n) ∨ (p = a ∧ q < 0) → f (p * 61 + q) = nw_D (fun k => X (i * 60 + k)) I p q) := hA1
  replace hl : lv_has ls 9 [(4, .int (nI a)), (3, .int (nI (Ln i))), (0, .ref hM), (1, .int (nI i)), (2, .int (nI n))] := hl
  replace hP : va_P (dC, dI) nw_cls [(hM, .inr (1, [.ref ai, .ref aw, .ref ar, .ref al, .ref aL, .ref aD, .ref ac, .ref af, .ref ap, .ref an, .ref ax, .int (nI isz), .int (nI wn), .int (nI chn), .int (nI rn), .int (nI th)])), (ai, nw_ai cB 60 I), (aw, nw_ai cB 60000 X), (al, nw_ai cI 1000 Ln), (ap, nw_ai cI 3721 f)] H := hP
  replace hD : va_D A [(hM, .inr (1, [.ref ai, .ref aw, .ref ar, .ref al, .ref aL, .ref aD, .ref ac, .ref af, .ref ap, .ref an, .ref ax, .int (nI isz), .int (nI wn), .int (nI chn), .int (nI rn), .int (nI th)])), (ai, nw_ai cB 60 I), (aw, nw_ai cB 60000 X), (al, nw_ai cI 1000 Ln), (ap, nw_ai cI 3721 f)] := hD
  obtain ⟨ha, hT⟩ := hA1
  refine lv_iload hx hb d_Mod_steps_10 (lv_at hl 0 rfl) ?_
  refine lv_iload_n hx hb d_Mod_steps_12 rfl (lv_at hl 1 rfl) ?_
  refine lv_icmp_gt hx hb d_Mod_steps_13 (tgt := 254) (by decide) (fun hc1 => ?_) (fun hc1 => ?_)
  · rw [nI_ltI (by omega) (by omega)] at hc1
    refine lv_aload_n hx hb d_Mod_steps_254 rfl (lv_at hl 2 rfl) ?_
    refine va_get (D := (dC, dI)) (ci := 1) (v := .ref ap) (C := R_Mod) (T := F_Mod) (N := 16) hx hb hts hin_Mod hown hK hP 0 rfl rfl 8 (by decide) (hts _ (nw_mc 89 rfl)) (fun _ h9 => h9) rfl d_Mod_steps_255 ?_
    refine lv_iload_n hx hb d_Mod_steps_258 rfl (lv_at hl 1 rfl) ?_
    refine lv_bipush (v := nI 61) hx hb d_Mod_steps_259 (by decide) ?_
    refine lv_imul hx hb d_Mod_steps_261 ?_
    refine nw_ti (pk_mul (Ln i) 61) ?_
    refine lv_iload_n hx hb d_Mod_steps_262 rfl (lv_at hl 4 rfl) ?_
    refine lv_iadd hx hb d_Mod_steps_263 ?_
    refine nw_ti (nI_add ((Ln i) * 61) n) ?_
    have hres := hT (Ln i) n (Or.inl ⟨by omega, Nat.le_refl _⟩)
    refine nw_iald hx hb hK hP 4 1 rfl rfl (k := (((Ln i) * 61) + n)) (by omega) (by first | decide | omega) d_Mod_steps_264 ?_
    exact W.iret (v := nI (f (((Ln i) * 61) + n))) hx hb hr (fun t ht hW => ⟨⟨_, f, rfl, congrArg nI hres, by rw [ht]; exact hP, hD⟩, hS.F ht⟩) hS.2.2 d_Mod_steps_265
  · rw [nI_ltI (by omega) (by omega)] at hc1
    refine lv_iconst (v := nI 0) hx hb d_Mod_steps_16 (by decide) ?_
    refine lv_istore hx hb d_Mod_steps_17 hl (by decide) rfl (fun ls hl => ?_)
    replace hl : lv_has ls 9 [(5, .int (nI 0)), (4, .int (nI a)), (3, .int (nI (Ln i))), (0, .ref hM), (1, .int (nI i)), (2, .int (nI n))] := hl
    refine nw_loopW (σ := Nat × (Nat → Nat)) (fun x => match x with | (b, f) => b ≤ n + 1 ∧ (∀ p q, (p < a ∧ q ≤ n) ∨ (p = a ∧ q < b) → f (p * 61 + q) = nw_D (fun k => X (i * 60 + k)) I p q)) (fun x => match x with | (b, f) => [(5, .int (nI b)), (4, .int (nI a)), (3, .int (nI (Ln i))), (0, .ref hM), (1, .int (nI i)), (2, .int (nI n))]) (fun x => match x with | (b, f) => [(hM, .inr (1, [.ref ai, .ref aw, .ref ar, .ref al, .ref aL, .ref aD, .ref ac, .ref af, .ref ap, .ref an, .ref ax, .int (nI isz), .int (nI wn), .int (nI chn), .int (nI rn), .int (nI th)])), (ai, nw_ai cB 60 I), (aw, nw_ai cB 60000 X), (al, nw_ai cI 1000 Ln), (ap, nw_ai cI 3721 f)]) (fun x => match x with | (b, f) => n + 1 - b) (fun x hB1 ih2 ls H locs hl hP hD hS => ?_) (0, f) (⟨Nat.zero_le _, hT⟩) hl hP hD hS
    obtain ⟨b, f⟩ := x
    replace hB1 : b ≤ n + 1 ∧ (∀ p q, (p < a ∧ q ≤ n) ∨ (p = a ∧ q < b) → f (p * 61 + q) = nw_D (fun k => X (i * 60 + k)) I p q) := hB1
    replace hl : lv_has ls 9 [(5, .int (nI b)), (4, .int (nI a)), (3, .int (nI (Ln i))), (0, .ref hM), (1, .int (nI i)), (2, .int (nI n))] := hl
    replace hP : va_P (dC, dI) nw_cls [(hM, .inr (1, [.ref ai, .ref aw, .ref ar, .ref al, .ref aL, .ref aD, .ref ac, .ref af, .ref ap, .ref an, .ref ax, .int (nI isz), .int (nI wn), .int (nI chn), .int (nI rn), .int (nI th)])), (ai, nw_ai cB 60 I), (aw, nw_ai cB 60000 X), (al, nw_ai cI 1000 Ln), (ap, nw_ai cI 3721 f)] H := hP
    replace hD : va_D A [(hM, .inr (1, [.ref ai, .ref aw, .ref ar, .ref al, .ref aL, .ref aD, .ref ac, .ref af, .ref ap, .ref an, .ref ax, .int (nI isz), .int (nI wn), .int (nI chn), .int (nI rn), .int (nI th)])), (ai, nw_ai cB 60 I), (aw, nw_ai cB 60000 X), (al, nw_ai cI 1000 Ln), (ap, nw_ai cI 3721 f)] := hD
    obtain ⟨hb1, hT⟩ := hB1
    refine lv_iload hx hb d_Mod_steps_19 (lv_at hl 0 rfl) ?_
    refine lv_iload_n hx hb d_Mod_steps_21 rfl (lv_at hl 5 rfl) ?_
    refine lv_icmp_gt hx hb d_Mod_steps_22 (tgt := 248) (by decide) (fun hc2 => ?_) (fun hc2 => ?_)
    · rw [nI_ltI (by omega) (by omega)] at hc2
      refine lv_iinc (v := nI (a + 1)) hx hb d_Mod_steps_248 hl (k := 1) rfl (nI_add a 1) (by decide) rfl (fun ls hl => ?_)
      have hl : lv_has ls 9 [(4, .int (nI (a + 1))), (5, .int (nI b)), (3, .int (nI (Ln i))), (0, .ref hM), (1, .int (nI i)), (2, .int (nI n))] := hl
      refine lv_goto hx hb d_Mod_steps_251 (tgt := 10) (by decide) ?_
      exact ih1 (a + 1, f) (⟨by omega, fun p q h => hT p q (by omega)⟩) (show Ln i + 1 - (a + 1) < Ln i + 1 - a by omega) _ _ _ (lv_sub hl [0, 2, 3, 4, 5] rfl) hP hD hS
    · rw [nI_ltI (by omega) (by omega)] at hc2
      refine lv_iload hx hb d_Mod_steps_25 (lv_at hl 1 rfl) ?_
      refine lv_if_ne hx hb d_Mod_steps_27 (tgt := 35) (by decide) (fun hc3 => ?_) (fun hc3 => ?_)
      · rw [nw_eq0 (by omega)] at hc3
        refine lv_iload hx hb d_Mod_steps_35 (lv_at hl 0 rfl) ?_
        refine lv_if_ne hx hb d_Mod_steps_37 (tgt := 45) (by decide) (fun hc4 => ?_) (fun hc4 => ?_)
        · rw [nw_eq0 (by omega)] at hc4
          have k1 := nw_D_add (fun k => X (i * 60 + k)) I (a - 1) b
          have k2 := nw_D_add (fun k => X (i * 60 + k)) I a (b - 1)
          have k3 := nw_D_add (fun k => X (i * 60 + k)) I (a - 1) (b - 1)
          have k4 := nw_D_add (fun k => X (i * 60 + k)) I (a - 2) (b - 2)
          refine lv_aload_n hx hb d_Mod_steps_45 rfl (lv_at hl 3 rfl) ?_
          refine va_get (D := (dC, dI)) (ci := 1) (v := .ref ap) (C := R_Mod) (T := F_Mod) (N := 16) hx hb hts hin_Mod hown hK hP 0 rfl rfl 8 (by decide) (hts _ (nw_mc 89 rfl)) (fun _ h9 => h9) rfl d_Mod_steps_46 ?_
          refine lv_iload hx hb d_Mod_steps_49 (lv_at hl 1 rfl) ?_
          refine lv_iconst (v := nI 1) hx hb d_Mod_steps_51 (by decide) ?_
          refine lv_isub hx hb d_Mod_steps_52 ?_
          refine nw_ti (pk_sub (a := a) (b := 1) (by omega)) ?_
          refine lv_bipush (v := nI 61) hx hb d_Mod_steps_53 (by decide) ?_
          refine lv_imul hx hb d_Mod_steps_55 ?_
          refine nw_ti (pk_mul (a - 1) 61) ?_
          refine lv_iload hx hb d_Mod_steps_56 (lv_at hl 0 rfl) ?_
          refine lv_iadd hx hb d_Mod_steps_58 ?_
          refine nw_ti (nI_add ((a - 1) * 61) b) ?_
          refine nw_iald hx hb hK hP 4 1 rfl rfl (k := (((a - 1) * 61) + b)) (by omega) (by first | decide | omega) d_Mod_steps_59 ?_
          refine nw_ti (y := nI (nw_D (fun k => X (i * 60 + k)) I (a - 1) b)) (congrArg nI (hT _ _ (Or.inl ⟨by omega, by omega⟩))) ?_
          refine lv_aload_n hx hb d_Mod_steps_60 rfl (lv_at hl 3 rfl) ?_
          refine va_get (D := (dC, dI)) (ci := 1) (v := .ref ap) (C := R_Mod) (T := F_Mod) (N := 16) hx hb hts hin_Mod hown hK hP 0 rfl rfl 8 (by decide) (hts _ (nw_mc 89 rfl)) (fun _ h9 => h9) rfl d_Mod_steps_61 ?_
          refine lv_iload hx hb d_Mod_steps_64 (lv_at hl 1 rfl) ?_
          refine lv_bipush (v := nI 61) hx hb d_Mod_steps_66 (by decide) ?_
          refine lv_imul hx hb d_Mod_steps_68 ?_
          refine nw_ti (pk_mul a 61) ?_
          refine lv_iload hx hb d_Mod_steps_69 (lv_at hl 0 rfl) ?_
          refine lv_iadd hx hb d_Mod_steps_71 ?_
          refine nw_ti (nI_add (a * 61) b) ?_
          refine lv_iconst (v := nI 1) hx hb d_Mod_steps_72 (by decide) ?_
          refine lv_isub hx hb d_Mod_steps_73 ?_
          refine nw_ti (pk_sub (a := ((a * 61) + b)) (b := 1) (by omega)) ?_
          refine nw_ti (y := nI (a * 61 + (b - 1))) (congrArg nI (show ((a * 61) + b) - 1 = a * 61 + (b - 1) by omega)) ?_
          refine nw_iald hx hb hK hP 4 1 rfl rfl (k := (a * 61 + (b - 1))) (by omega) (by first | decide | omega) d_Mod_steps_74 ?_
          refine nw_ti (y := nI (nw_D (fun k => X (i * 60 + k)) I a (b - 1))) (congrArg nI (hT _ _ (Or.inr ⟨rfl, by omega⟩))) ?_
          refine vp_callSi (va_Run.run (va_runS (As := [.int (nI (nw_D (fun k => X (i * 60 + k)) I (a - 1) b)), .int (nI (nw_D (fun k => X (i * 60 + k)) I a (b - 1)))]) (rest := []) ⟨hx, hb, hml, hown, hts⟩ (c_Mod_least l dC dI (nw_D (fun k => X (i * 60 + k)) I (a - 1) b) (nw_D (fun k => X (i * 60 + k)) I a (b - 1)) (by omega) (by omega)) (cwS 2 hts (nw_GS (nw_m 65 rfl) (nw_m 66 rfl) (nw_m 67 rfl) (nw_m 68 rfl)) rfl rfl rfl (by decide +kernel) ⟨Nat.le_of_ble_eq_true rfl, Nat.le_of_ble_eq_true rfl⟩) (nw_preS hK hP [] [] rfl rfl) rfl rfl hl.1 rfl (lv_room (Nat.le_of_ble_eq_true rfl)) d_Mod_steps_75 ⟨Nat.le_of_ble_eq_true rfl, Nat.le_of_ble_eq_true rfl⟩)) (fun r her => ?_)
          subst her
          refine lv_iconst (v := nI 1) hx hb d_Mod_steps_78 (by decide) ?_
          refine lv_iadd hx hb d_Mod_steps_79 ?_
          refine nw_ti (nI_add (min (nw_D (fun k => X (i * 60 + k)) I (a - 1) b) (nw_D (fun k => X (i * 60 + k)) I a (b - 1))) 1) ?_
          refine lv_istore hx hb d_Mod_steps_80 hl (by decide) rfl (fun ls hl => ?_)
          replace hl : lv_has ls 9 [(6, .int (nI ((min (nw_D (fun k => X (i * 60 + k)) I (a - 1) b) (nw_D (fun k => X (i * 60 + k)) I a (b - 1))) + 1))), (5, .int (nI b)), (4, .int (nI a)), (3, .int (nI (Ln i))), (0, .ref hM), (1, .int (nI i)), (2, .int (nI n))] := hl
          refine lv_iload hx hb d_Mod_steps_82 (lv_at hl 2 rfl) ?_
          refine lv_if_le hx hb d_Mod_steps_84 (tgt := 227) (by decide) (fun hc5 => ?_) (fun hc5 => ?_)
          · rw [nw_le0 (by omega)] at hc5
            omega
          · rw [nw_le0 (by omega)] at hc5
            refine lv_iload hx hb d_Mod_steps_87 (lv_at hl 1 rfl) ?_
            refine lv_if_le hx hb d_Mod_steps_89 (tgt := 227) (by decide) (fun hc6 => ?_) (fun hc6 => ?_)
            · rw [nw_le0 (by omega)] at hc6
              omega
            · rw [nw_le0 (by omega)] at hc6
              have hx1 := hX (i * 60 + (a - 1))
              have hx2 := hX (i * 60 + (a - 2))
              have hy1 := hI0 (b - 1)
              have hy2 := hI0 (b - 2)
              refine lv_aload_n hx hb d_Mod_steps_92 rfl (lv_at hl 4 rfl) ?_
              refine va_get (D := (dC, dI)) (ci := 1) (v := .ref aw) (C := R_Mod) (T := F_Mod) (N := 16) hx hb hts hin_Mod hown hK hP 0 rfl rfl 1 (by decide) (hts _ (nw_mc 69 rfl)) (fun _ h9 => h9) rfl d_Mod_steps_93 ?_
              refine lv_iload_n hx hb d_Mod_steps_96 rfl (lv_at hl 5 rfl) ?_
              refine lv_bipush (v := nI 60) hx hb d_Mod_steps_97 (by decide) ?_
              refine lv_imul hx hb d_Mod_steps_99 ?_
              refine nw_ti (pk_mul i 60) ?_
              refine lv_iload hx hb d_Mod_steps_100 (lv_at hl 2 rfl) ?_
              refine lv_iadd hx hb d_Mod_steps_102 ?_
              refine nw_ti (nI_add (i * 60) a) ?_
              refine lv_iconst (v := nI 1) hx hb d_Mod_steps_103 (by decide) ?_
              refine lv_isub hx hb d_Mod_steps_104 ?_
              refine nw_ti (pk_sub (a := ((i * 60) + a)) (b := 1) (by omega)) ?_
              refine nw_ti (y := nI (i * 60 + (a - 1))) (congrArg nI (show ((i * 60) + a) - 1 = i * 60 + (a - 1) by omega)) ?_
              refine nw_bald hx hb hK hP 2 0 rfl rfl (k := (i * 60 + (a - 1))) (by omega) (by first | decide | omega) d_Mod_steps_105 ?_
              refine lv_istore hx hb d_Mod_steps_106 hl (by decide) rfl (fun ls hl => ?_)
              replace hl : lv_has ls 9 [(7, .int (nI (X (i * 60 + (a - 1))))), (6, .int (nI ((min (nw_D (fun k => X (i * 60 + k)) I (a - 1) b) (nw_D (fun k => X (i * 60 + k)) I a (b - 1))) + 1))), (5, .int (nI b)), (4, .int (nI a)), (3, .int (nI (Ln i))), (0, .ref hM), (1, .int (nI i)), (2, .int (nI n))] := hl
              refine lv_aload_n hx hb d_Mod_steps_108 rfl (lv_at hl 5 rfl) ?_
              refine va_get (D := (dC, dI)) (ci := 1) (v := .ref ai) (C := R_Mod) (T := F_Mod) (N := 16) hx hb hts hin_Mod hown hK hP 0 rfl rfl 0 (by decide) (hts _ (nw_mc 70 rfl)) (fun _ h9 => h9) rfl d_Mod_steps_109 ?_
              refine lv_iload hx hb d_Mod_steps_112 (lv_at hl 2 rfl) ?_
              refine lv_iconst (v := nI 1) hx hb d_Mod_steps_114 (by decide) ?_
              refine lv_isub hx hb d_Mod_steps_115 ?_
              refine nw_ti (pk_sub (a := b) (b := 1) (by omega)) ?_
              refine nw_bald hx hb hK hP 1 0 rfl rfl (k := (b - 1)) (by omega) (by first | decide | omega) d_Mod_steps_116 ?_
              refine lv_istore hx hb d_Mod_steps_117 hl (by decide) rfl (fun ls hl => ?_)
              replace hl : lv_has ls 9 [(8, .int (nI (I (b - 1)))), (7, .int (nI (X (i * 60 + (a - 1))))), (6, .int (nI ((min (nw_D (fun k => X (i * 60 + k)) I (a - 1) b) (nw_D (fun k => X (i * 60 + k)) I a (b - 1))) + 1))), (5, .int (nI b)), (4, .int (nI a)), (3, .int (nI (Ln i))), (0, .ref hM), (1, .int (nI i)), (2, .int (nI n))] := hl
              refine lv_iload hx hb d_Mod_steps_119 (lv_at hl 2 rfl) ?_
              refine lv_aload_n hx hb d_Mod_steps_121 rfl (lv_at hl 6 rfl) ?_
              refine va_get (D := (dC, dI)) (ci := 1) (v := .ref ap) (C := R_Mod) (T := F_Mod) (N := 16) hx hb hts hin_Mod hown hK hP 0 rfl rfl 8 (by decide) (hts _ (nw_mc 89 rfl)) (fun _ h9 => h9) rfl d_Mod_steps_122 ?_
              refine lv_iload hx hb d_Mod_steps_125 (lv_at hl 4 rfl) ?_
              refine lv_iconst (v := nI 1) hx hb d_Mod_steps_127 (by decide) ?_
              refine lv_isub hx hb d_Mod_steps_128 ?_
              refine nw_ti (pk_sub (a := a) (b := 1) (by omega)) ?_
              refine lv_bipush (v := nI 61) hx hb d_Mod_steps_129 (by decide) ?_
              refine lv_imul hx hb d_Mod_steps_131 ?_
              refine nw_ti (pk_mul (a - 1) 61) ?_
              refine lv_iload hx hb d_Mod_steps_132 (lv_at hl 3 rfl) ?_
              refine lv_iadd hx hb d_Mod_steps_134 ?_
              refine nw_ti (nI_add ((a - 1) * 61) b) ?_
              refine lv_iconst (v := nI 1) hx hb d_Mod_steps_135 (by decide) ?_
              refine lv_isub hx hb d_Mod_steps_136 ?_
              refine nw_ti (pk_sub (a := (((a - 1) * 61) + b)) (b := 1) (by omega)) ?_
              refine nw_ti (y := nI ((a - 1) * 61 + (b - 1))) (congrArg nI (show (((a - 1) * 61) + b) - 1 = (a - 1) * 61 + (b - 1) by omega)) ?_
              refine nw_iald hx hb hK hP 4 1 rfl rfl (k := ((a - 1) * 61 + (b - 1))) (by omega) (by first | decide | omega) d_Mod_steps_137 ?_
              refine nw_ti (y := nI (nw_D (fun k => X (i * 60 + k)) I (a - 1) (b - 1))) (congrArg nI (hT _ _ (Or.inl ⟨by omega, by omega⟩))) ?_
              refine lv_iload hx hb d_Mod_steps_138 (lv_at hl 1 rfl) ?_
              refine lv_iload hx hb d_Mod_steps_140 (lv_at hl 0 rfl) ?_
              refine lv_icmp_ne hx hb d_Mod_steps_142 (tgt := 149) (by decide) (fun hc7 => ?_) (fun hc7 => ?_)
              · rw [nI_eq (by omega) (by omega)] at hc7
                refine lv_iconst (v := nI 1) hx hb d_Mod_steps_149 (by decide) ?_
                refine lv_iadd hx hb d_Mod_steps_150 ?_
                refine nw_ti (nI_add (nw_D (fun k => X (i * 60 + k)) I (a - 1) (b - 1)) 1) ?_
                refine vp_callSi (va_Run.run (va_runS (As := [.int (nI ((min (nw_D (fun k => X (i * 60 + k)) I (a - 1) b) (nw_D (fun k => X (i * 60 + k)) I a (b - 1))) + 1)), .int (nI ((nw_D (fun k => X (i * 60 + k)) I (a - 1) (b - 1)) + 1))]) (rest := []) ⟨hx, hb, hml, hown, hts⟩ (c_Mod_least l dC dI ((min (nw_D (fun k => X (i * 60 + k)) I (a - 1) b) (nw_D (fun k => X (i * 60 + k)) I a (b - 1))) + 1) ((nw_D (fun k => X (i * 60 + k)) I (a - 1) (b - 1)) + 1) (by omega) (by omega)) (cwS 2 hts (nw_GS (nw_m 65 rfl) (nw_m 66 rfl) (nw_m 67 rfl) (nw_m 68 rfl)) rfl rfl rfl (by decide +kernel) ⟨Nat.le_of_ble_eq_true rfl, Nat.le_of_ble_eq_true rfl⟩) (nw_preS hK hP [] [] rfl rfl) rfl rfl hl.1 rfl (lv_room (Nat.le_of_ble_eq_true rfl)) d_Mod_steps_151 ⟨Nat.le_of_ble_eq_true rfl, Nat.le_of_ble_eq_true rfl⟩)) (fun r her => ?_)
                subst her
                refine lv_istore hx hb d_Mod_steps_154 hl (by decide) rfl (fun ls hl => ?_)
                replace hl : lv_has ls 9 [(6, .int (nI (min ((min (nw_D (fun k => X (i * 60 + k)) I (a - 1) b) (nw_D (fun k => X (i * 60 + k)) I a (b - 1))) + 1) ((nw_D (fun k => X (i * 60 + k)) I (a - 1) (b - 1)) + 1)))), (8, .int (nI (I (b - 1)))), (7, .int (nI (X (i * 60 + (a - 1))))), (5, .int (nI b)), (4, .int (nI a)), (3, .int (nI (Ln i))), (0, .ref hM), (1, .int (nI i)), (2, .int (nI n))] := hl
                refine lv_iload hx hb d_Mod_steps_156 (lv_at hl 4 rfl) ?_
                refine lv_iconst (v := nI 1) hx hb d_Mod_steps_158 (by decide) ?_
                refine lv_icmp_le hx hb d_Mod_steps_159 (tgt := 227) (by decide) (fun hc8 => ?_) (fun hc8 => ?_)
                · rw [nI_leI (by omega) (by omega)] at hc8
                  refine lv_aload_n hx hb d_Mod_steps_227 rfl (lv_at hl 6 rfl) ?_
                  refine va_get (D := (dC, dI)) (ci := 1) (v := .ref ap) (C := R_Mod) (T := F_Mod) (N := 16) hx hb hts hin_Mod hown hK hP 0 rfl rfl 8 (by decide) (hts _ (nw_mc 89 rfl)) (fun _ h9 => h9) rfl d_Mod_steps_228 ?_
                  refine lv_iload hx hb d_Mod_steps_231 (lv_at hl 4 rfl) ?_
                  refine lv_bipush (v := nI 61) hx hb d_Mod_steps_233 (by decide) ?_
                  refine lv_imul hx hb d_Mod_steps_235 ?_
                  refine nw_ti (pk_mul a 61) ?_
                  refine lv_iload hx hb d_Mod_steps_236 (lv_at hl 3 rfl) ?_
                  refine lv_iadd hx hb d_Mod_steps_238 ?_
                  refine nw_ti (nI_add (a * 61) b) ?_
                  refine lv_iload hx hb d_Mod_steps_239 (lv_at hl 0 rfl) ?_
                  refine nw_ti (y := nI (nw_D (fun k => X (i * 60 + k)) I a b)) (congrArg nI (by rw [nw_D_rec (fun k => X (i * 60 + k)) I (a := a) (b := b) (by omega) (by omega), if_neg (by omega), if_neg hc7])) ?_
                  refine nw_iast hx hb hK hP hD hS 4 1 rfl rfl (k := ((a * 61) + b)) (v := (nw_D (fun k => X (i * 60 + k)) I a b)) (by omega) (by first | decide | omega) d_Mod_steps_241 (fun H locs hP hD hS => ?_)
                  replace hP : va_P (dC, dI) nw_cls [(hM, .inr (1, [.ref ai, .ref aw, .ref ar, .ref al, .ref aL, .ref aD, .ref ac, .ref af, .ref ap, .ref an, .ref ax, .int (nI isz), .int (nI wn), .int (nI chn), .int (nI rn), .int (nI th)])), (ai, nw_ai cB 60 I), (aw, nw_ai cB 60000 X), (al, nw_ai cI 1000 Ln), (ap, nw_ai cI 3721 (va_up f ((a * 61) + b) (nw_D (fun k => X (i * 60 + k)) I a b)))] H := hP
                  replace hD : va_D A [(hM, .inr (1, [.ref ai, .ref aw, .ref ar, .ref al, .ref aL, .ref aD, .ref ac, .ref af, .ref ap, .ref an, .ref ax, .int (nI isz), .int (nI wn), .int (nI chn), .int (nI rn), .int (nI th)])), (ai, nw_ai cB 60 I), (aw, nw_ai cB 60000 X), (al, nw_ai cI 1000 Ln), (ap, nw_ai cI 3721 (va_up f ((a * 61) + b) (nw_D (fun k => X (i * 60 + k)) I a b)))] := hD
                  refine lv_iinc (v := nI (b + 1)) hx hb d_Mod_steps_242 hl (k := 3) rfl (nI_add b 1) (by decide) rfl (fun ls hl => ?_)
                  have hl : lv_has ls 9 [(5, .int (nI (b + 1))), (6, .int (nI (min ((min (nw_D (fun k => X (i * 60 + k)) I (a - 1) b) (nw_D (fun k => X (i * 60 + k)) I a (b - 1))) + 1) ((nw_D (fun k => X (i * 60 + k)) I (a - 1) (b - 1)) + 1)))), (8, .int (nI (I (b - 1)))), (7, .int (nI (X (i * 60 + (a - 1))))), (4, .int (nI a)), (3, .int (nI (Ln i))), (0, .ref hM), (1, .int (nI i)), (2, .int (nI n))] := hl
                  refine lv_goto hx hb d_Mod_steps_245 (tgt := 19) (by decide) ?_
                  exact ih2 (b + 1, va_up f ((a * 61) + b) (nw_D (fun k => X (i * 60 + k)) I a b)) (⟨by omega, fun p q h => by
                    by_cases e : p * 61 + q = a * 61 + b
                    · have e1 : p = a := by omega
                      have e2 : q = b := by omega
                      rw [e1, e2]; exact va_up_self f _ _
                    · exact (va_up_ne f _ e).trans (hT p q (by omega))⟩) (show n + 1 - (b + 1) < n + 1 - b by omega) _ _ _ (lv_sub hl [0, 4, 5, 6, 7, 8] rfl) hP hD hS
                · rw [nI_leI (by omega) (by omega)] at hc8
                  refine lv_iload hx hb d_Mod_steps_162 (lv_at hl 3 rfl) ?_
                  refine lv_iconst (v := nI 1) hx hb d_Mod_steps_164 (by decide) ?_
                  refine lv_icmp_le hx hb d_Mod_steps_165 (tgt := 227) (by decide) (fun hc9 => ?_) (fun hc9 => ?_)
                  · rw [nI_leI (by omega) (by omega)] at hc9
                    refine lv_aload_n hx hb d_Mod_steps_227 rfl (lv_at hl 6 rfl) ?_
                    refine va_get (D := (dC, dI)) (ci := 1) (v := .ref ap) (C := R_Mod) (T := F_Mod) (N := 16) hx hb hts hin_Mod hown hK hP 0 rfl rfl 8 (by decide) (hts _ (nw_mc 89 rfl)) (fun _ h9 => h9) rfl d_Mod_steps_228 ?_
                    refine lv_iload hx hb d_Mod_steps_231 (lv_at hl 4 rfl) ?_
                    refine lv_bipush (v := nI 61) hx hb d_Mod_steps_233 (by decide) ?_
                    refine lv_imul hx hb d_Mod_steps_235 ?_
                    refine nw_ti (pk_mul a 61) ?_
                    refine lv_iload hx hb d_Mod_steps_236 (lv_at hl 3 rfl) ?_
                    refine lv_iadd hx hb d_Mod_steps_238 ?_
                    refine nw_ti (nI_add (a * 61) b) ?_
                    refine lv_iload hx hb d_Mod_steps_239 (lv_at hl 0 rfl) ?_
                    refine nw_ti (y := nI (nw_D (fun k => X (i * 60 + k)) I a b)) (congrArg nI (by rw [nw_D_rec (fun k => X (i * 60 + k)) I (a := a) (b := b) (by omega) (by omega), if_neg (by omega), if_neg hc7])) ?_
                    refine nw_iast hx hb hK hP hD hS 4 1 rfl rfl (k := ((a * 61) + b)) (v := (nw_D (fun k => X (i * 60 + k)) I a b)) (by omega) (by first | decide | omega) d_Mod_steps_241 (fun H locs hP hD hS => ?_)
                    replace hP : va_P (dC, dI) nw_cls [(hM, .inr (1, [.ref ai, .ref aw, .ref ar, .ref al, .ref aL, .ref aD, .ref ac, .ref af, .ref ap, .ref an, .ref ax, .int (nI isz), .int (nI wn), .int (nI chn), .int (nI rn), .int (nI th)])), (ai, nw_ai cB 60 I), (aw, nw_ai cB 60000 X), (al, nw_ai cI 1000 Ln), (ap, nw_ai cI 3721 (va_up f ((a * 61) + b) (nw_D (fun k => X (i * 60 + k)) I a b)))] H := hP
                    replace hD : va_D A [(hM, .inr (1, [.ref ai, .ref aw, .ref ar, .ref al, .ref aL, .ref aD, .ref ac, .ref af, .ref ap, .ref an, .ref ax, .int (nI isz), .int (nI wn), .int (nI chn), .int (nI rn), .int (nI th)])), (ai, nw_ai cB 60 I), (aw, nw_ai cB 60000 X), (al, nw_ai cI 1000 Ln), (ap, nw_ai cI 3721 (va_up f ((a * 61) + b) (nw_D (fun k => X (i * 60 + k)) I a b)))] := hD
                    refine lv_iinc (v := nI (b + 1)) hx hb d_Mod_steps_242 hl (k := 3) rfl (nI_add b 1) (by decide) rfl (fun ls hl => ?_)
                    have hl : lv_has ls 9 [(5, .int (nI (b + 1))), (6, .int (nI (min ((min (nw_D (fun k => X (i * 60 + k)) I (a - 1) b) (nw_D (fun k => X (i * 60 + k)) I a (b - 1))) + 1) ((nw_D (fun k => X (i * 60 + k)) I (a - 1) (b - 1)) + 1)))), (8, .int (nI (I (b - 1)))), (7, .int (nI (X (i * 60 + (a - 1))))), (4, .int (nI a)), (3, .int (nI (Ln i))), (0, .ref hM), (1, .int (nI i)), (2, .int (nI n))] := hl
                    refine lv_goto hx hb d_Mod_steps_245 (tgt := 19) (by decide) ?_
                    exact ih2 (b + 1, va_up f ((a * 61) + b) (nw_D (fun k => X (i * 60 + k)) I a b)) (⟨by omega, fun p q h => by
                      by_cases e : p * 61 + q = a * 61 + b
                      · have e1 : p = a := by omega
                        have e2 : q = b := by omega
                        rw [e1, e2]; exact va_up_self f _ _
                      · exact (va_up_ne f _ e).trans (hT p q (by omega))⟩) (show n + 1 - (b + 1) < n + 1 - b by omega) _ _ _ (lv_sub hl [0, 4, 5, 6, 7, 8] rfl) hP hD hS
                  · rw [nI_leI (by omega) (by omega)] at hc9
                    refine lv_iload hx hb d_Mod_steps_168 (lv_at hl 2 rfl) ?_
                    refine lv_aload_n hx hb d_Mod_steps_170 rfl (lv_at hl 6 rfl) ?_
                    refine va_get (D := (dC, dI)) (ci := 1) (v := .ref ai) (C := R_Mod) (T := F_Mod) (N := 16) hx hb hts hin_Mod hown hK hP 0 rfl rfl 0 (by decide) (hts _ (nw_mc 70 rfl)) (fun _ h9 => h9) rfl d_Mod_steps_171 ?_
                    refine lv_iload hx hb d_Mod_steps_174 (lv_at hl 3 rfl) ?_
                    refine lv_iconst (v := nI 2) hx hb d_Mod_steps_176 (by decide) ?_
                    refine lv_isub hx hb d_Mod_steps_177 ?_
                    refine nw_ti (pk_sub (a := b) (b := 2) (by omega)) ?_
                    refine nw_bald hx hb hK hP 1 0 rfl rfl (k := (b - 2)) (by omega) (by first | decide | omega) d_Mod_steps_178 ?_
                    refine lv_icmp_ne hx hb d_Mod_steps_179 (tgt := 227) (by decide) (fun hd1 => ?_) (fun hd1 => ?_)
                    · rw [nI_eq (by omega) (by omega)] at hd1
                      refine lv_aload_n hx hb d_Mod_steps_227 rfl (lv_at hl 6 rfl) ?_
                      refine va_get (D := (dC, dI)) (ci := 1) (v := .ref ap) (C := R_Mod) (T := F_Mod) (N := 16) hx hb hts hin_Mod hown hK hP 0 rfl rfl 8 (by decide) (hts _ (nw_mc 89 rfl)) (fun _ h9 => h9) rfl d_Mod_steps_228 ?_
                      refine lv_iload hx hb d_Mod_steps_231 (lv_at hl 4 rfl) ?_
                      refine lv_bipush (v := nI 61) hx hb d_Mod_steps_233 (by decide) ?_
                      refine lv_imul hx hb d_Mod_steps_235 ?_
                      refine nw_ti (pk_mul a 61) ?_
                      refine lv_iload hx hb d_Mod_steps_236 (lv_at hl 3 rfl) ?_
                      refine lv_iadd hx hb d_Mod_steps_238 ?_
                      refine nw_ti (nI_add (a * 61) b) ?_
                      refine lv_iload hx hb d_Mod_steps_239 (lv_at hl 0 rfl) ?_
                      refine nw_ti (y := nI (nw_D (fun k => X (i * 60 + k)) I a b)) (congrArg nI (by rw [nw_D_rec (fun k => X (i * 60 + k)) I (a := a) (b := b) (by omega) (by omega), if_neg (fun h => hd1 h.2.2.1), if_neg hc7])) ?_
                      refine nw_iast hx hb hK hP hD hS 4 1 rfl rfl (k := ((a * 61) + b)) (v := (nw_D (fun k => X (i * 60 + k)) I a b)) (by omega) (by first | decide | omega) d_Mod_steps_241 (fun H locs hP hD hS => ?_)
                      replace hP : va_P (dC, dI) nw_cls [(hM, .inr (1, [.ref ai, .ref aw, .ref ar, .ref al, .ref aL, .ref aD, .ref ac, .ref af, .ref ap, .ref an, .ref ax, .int (nI isz), .int (nI wn), .int (nI chn), .int (nI rn), .int (nI th)])), (ai, nw_ai cB 60 I), (aw, nw_ai cB 60000 X), (al, nw_ai cI 1000 Ln), (ap, nw_ai cI 3721 (va_up f ((a * 61) + b) (nw_D (fun k => X (i * 60 + k)) I a b)))] H := hP
                      replace hD : va_D A [(hM, .inr (1, [.ref ai, .ref aw, .ref ar, .ref al, .ref aL, .ref aD, .ref ac, .ref af, .ref ap, .ref an, .ref ax, .int (nI isz), .int (nI wn), .int (nI chn), .int (nI rn), .int (nI th)])), (ai, nw_ai cB 60 I), (aw, nw_ai cB 60000 X), (al, nw_ai cI 1000 Ln), (ap, nw_ai cI 3721 (va_up f ((a * 61) + b) (nw_D (fun k => X (i * 60 + k)) I a b)))] := hD
                      refine lv_iinc (v := nI (b + 1)) hx hb d_Mod_steps_242 hl (k := 3) rfl (nI_add b 1) (by decide) rfl (fun ls hl => ?_)
                      have hl : lv_has ls 9 [(5, .int (nI (b + 1))), (6, .int (nI (min ((min (nw_D (fun k => X (i * 60 + k)) I (a - 1) b) (nw_D (fun k => X (i * 60 + k)) I a (b - 1))) + 1) ((nw_D (fun k => X (i * 60 + k)) I (a - 1) (b - 1)) + 1)))), (8, .int (nI (I (b - 1)))), (7, .int (nI (X (i * 60 + (a - 1))))), (4, .int (nI a)), (3, .int (nI (Ln i))), (0, .ref hM), (1, .int (nI i)), (2, .int (nI n))] := hl
                      refine lv_goto hx hb d_Mod_steps_245 (tgt := 19) (by decide) ?_
                      exact ih2 (b + 1, va_up f ((a * 61) + b) (nw_D (fun k => X (i * 60 + k)) I a b)) (⟨by omega, fun p q h => by
                        by_cases e : p * 61 + q = a * 61 + b
                        · have e1 : p = a := by omega
                          have e2 : q = b := by omega
                          rw [e1, e2]; exact va_up_self f _ _
                        · exact (va_up_ne f _ e).trans (hT p q (by omega))⟩) (show n + 1 - (b + 1) < n + 1 - b by omega) _ _ _ (lv_sub hl [0, 4, 5, 6, 7, 8] rfl) hP hD hS
                    · rw [nI_eq (by omega) (by omega)] at hd1
                      refine lv_aload_n hx hb d_Mod_steps_182 rfl (lv_at hl 6 rfl) ?_
                      refine va_get (D := (dC, dI)) (ci := 1) (v := .ref aw) (C := R_Mod) (T := F_Mod) (N := 16) hx hb hts hin_Mod hown hK hP 0 rfl rfl 1 (by decide) (hts _ (nw_mc 69 rfl)) (fun _ h9 => h9) rfl d_Mod_steps_183 ?_
                      refine lv_iload_n hx hb d_Mod_steps_186 rfl (lv_at hl 7 rfl) ?_
                      refine lv_bipush (v := nI 60) hx hb d_Mod_steps_187 (by decide) ?_
                      refine lv_imul hx hb d_Mod_steps_189 ?_
                      refine nw_ti (pk_mul i 60) ?_
                      refine lv_iload hx hb d_Mod_steps_190 (lv_at hl 4 rfl) ?_
                      refine lv_iadd hx hb d_Mod_steps_192 ?_
                      refine nw_ti (nI_add (i * 60) a) ?_
                      refine lv_iconst (v := nI 2) hx hb d_Mod_steps_193 (by decide) ?_
                      refine lv_isub hx hb d_Mod_steps_194 ?_
                      refine nw_ti (pk_sub (a := ((i * 60) + a)) (b := 2) (by omega)) ?_
                      refine nw_ti (y := nI (i * 60 + (a - 2))) (congrArg nI (show ((i * 60) + a) - 2 = i * 60 + (a - 2) by omega)) ?_
                      refine nw_bald hx hb hK hP 2 0 rfl rfl (k := (i * 60 + (a - 2))) (by omega) (by first | decide | omega) d_Mod_steps_195 ?_
                      refine lv_iload hx hb d_Mod_steps_196 (lv_at hl 1 rfl) ?_
                      refine lv_icmp_ne hx hb d_Mod_steps_198 (tgt := 227) (by decide) (fun hd2 => ?_) (fun hd2 => ?_)
                      · rw [nI_eq (by omega) (by omega)] at hd2
                        refine lv_aload_n hx hb d_Mod_steps_227 rfl (lv_at hl 6 rfl) ?_
                        refine va_get (D := (dC, dI)) (ci := 1) (v := .ref ap) (C := R_Mod) (T := F_Mod) (N := 16) hx hb hts hin_Mod hown hK hP 0 rfl rfl 8 (by decide) (hts _ (nw_mc 89 rfl)) (fun _ h9 => h9) rfl d_Mod_steps_228 ?_
                        refine lv_iload hx hb d_Mod_steps_231 (lv_at hl 4 rfl) ?_
                        refine lv_bipush (v := nI 61) hx hb d_Mod_steps_233 (by decide) ?_
                        refine lv_imul hx hb d_Mod_steps_235 ?_
                        refine nw_ti (pk_mul a 61) ?_
                        refine lv_iload hx hb d_Mod_steps_236 (lv_at hl 3 rfl) ?_
                        refine lv_iadd hx hb d_Mod_steps_238 ?_
                        refine nw_ti (nI_add (a * 61) b) ?_
                        refine lv_iload hx hb d_Mod_steps_239 (lv_at hl 0 rfl) ?_
                        refine nw_ti (y := nI (nw_D (fun k => X (i * 60 + k)) I a b)) (congrArg nI (by rw [nw_D_rec (fun k => X (i * 60 + k)) I (a := a) (b := b) (by omega) (by omega), if_neg (fun h => hd2 h.2.2.2), if_neg hc7])) ?_
                        refine nw_iast hx hb hK hP hD hS 4 1 rfl rfl (k := ((a * 61) + b)) (v := (nw_D (fun k => X (i * 60 + k)) I a b)) (by omega) (by first | decide | omega) d_Mod_steps_241 (fun H locs hP hD hS => ?_)
                        replace hP : va_P (dC, dI) nw_cls [(hM, .inr (1, [.ref ai, .ref aw, .ref ar, .ref al, .ref aL, .ref aD, .ref ac, .ref af, .ref ap, .ref an, .ref ax, .int (nI isz), .int (nI wn), .int (nI chn), .int (nI rn), .int (nI th)])), (ai, nw_ai cB 60 I), (aw, nw_ai cB 60000 X), (al, nw_ai cI 1000 Ln), (ap, nw_ai cI 3721 (va_up f ((a * 61) + b) (nw_D (fun k => X (i * 60 + k)) I a b)))] H := hP
                        replace hD : va_D A [(hM, .inr (1, [.ref ai, .ref aw, .ref ar, .ref al, .ref aL, .ref aD, .ref ac, .ref af, .ref ap, .ref an, .ref ax, .int (nI isz), .int (nI wn), .int (nI chn), .int (nI rn), .int (nI th)])), (ai, nw_ai cB 60 I), (aw, nw_ai cB 60000 X), (al, nw_ai cI 1000 Ln), (ap, nw_ai cI 3721 (va_up f ((a * 61) + b) (nw_D (fun k => X (i * 60 + k)) I a b)))] := hD
                        refine lv_iinc (v := nI (b + 1)) hx hb d_Mod_steps_242 hl (k := 3) rfl (nI_add b 1) (by decide) rfl (fun ls hl => ?_)
                        have hl : lv_has ls 9 [(5, .int (nI (b + 1))), (6, .int (nI (min ((min (nw_D (fun k => X (i * 60 + k)) I (a - 1) b) (nw_D (fun k => X (i * 60 + k)) I a (b - 1))) + 1) ((nw_D (fun k => X (i * 60 + k)) I (a - 1) (b - 1)) + 1)))), (8, .int (nI (I (b - 1)))), (7, .int (nI (X (i * 60 + (a - 1))))), (4, .int (nI a)), (3, .int (nI (Ln i))), (0, .ref hM), (1, .int (nI i)), (2, .int (nI n))] := hl
                        refine lv_goto hx hb d_Mod_steps_245 (tgt := 19) (by decide) ?_
                        exact ih2 (b + 1, va_up f ((a * 61) + b) (nw_D (fun k => X (i * 60 + k)) I a b)) (⟨by omega, fun p q h => by
                          by_cases e : p * 61 + q = a * 61 + b
                          · have e1 : p = a := by omega
                            have e2 : q = b := by omega
                            rw [e1, e2]; exact va_up_self f _ _
                          · exact (va_up_ne f _ e).trans (hT p q (by omega))⟩) (show n + 1 - (b + 1) < n + 1 - b by omega) _ _ _ (lv_sub hl [0, 4, 5, 6, 7, 8] rfl) hP hD hS
                      · rw [nI_eq (by omega) (by omega)] at hd2
                        refine lv_iload hx hb d_Mod_steps_201 (lv_at hl 0 rfl) ?_
                        refine lv_aload_n hx hb d_Mod_steps_203 rfl (lv_at hl 6 rfl) ?_
                        refine va_get (D := (dC, dI)) (ci := 1) (v := .ref ap) (C := R_Mod) (T := F_Mod) (N := 16) hx hb hts hin_Mod hown hK hP 0 rfl rfl 8 (by decide) (hts _ (nw_mc 89 rfl)) (fun _ h9 => h9) rfl d_Mod_steps_204 ?_
                        refine lv_iload hx hb d_Mod_steps_207 (lv_at hl 4 rfl) ?_
                        refine lv_iconst (v := nI 2) hx hb d_Mod_steps_209 (by decide) ?_
                        refine lv_isub hx hb d_Mod_steps_210 ?_
                        refine nw_ti (pk_sub (a := a) (b := 2) (by omega)) ?_
                        refine lv_bipush (v := nI 61) hx hb d_Mod_steps_211 (by decide) ?_
                        refine lv_imul hx hb d_Mod_steps_213 ?_
                        refine nw_ti (pk_mul (a - 2) 61) ?_
                        refine lv_iload hx hb d_Mod_steps_214 (lv_at hl 3 rfl) ?_
                        refine lv_iadd hx hb d_Mod_steps_216 ?_
                        refine nw_ti (nI_add ((a - 2) * 61) b) ?_
                        refine lv_iconst (v := nI 2) hx hb d_Mod_steps_217 (by decide) ?_
                        refine lv_isub hx hb d_Mod_steps_218 ?_
                        refine nw_ti (pk_sub (a := (((a - 2) * 61) + b)) (b := 2) (by omega)) ?_
                        refine nw_ti (y := nI ((a - 2) * 61 + (b - 2))) (congrArg nI (show (((a - 2) * 61) + b) - 2 = (a - 2) * 61 + (b - 2) by omega)) ?_
                        refine nw_iald hx hb hK hP 4 1 rfl rfl (k := ((a - 2) * 61 + (b - 2))) (by omega) (by first | decide | omega) d_Mod_steps_219 ?_
                        refine nw_ti (y := nI (nw_D (fun k => X (i * 60 + k)) I (a - 2) (b - 2))) (congrArg nI (hT _ _ (Or.inl ⟨by omega, by omega⟩))) ?_
                        refine lv_iconst (v := nI 1) hx hb d_Mod_steps_220 (by decide) ?_
                        refine lv_iadd hx hb d_Mod_steps_221 ?_
                        refine nw_ti (nI_add (nw_D (fun k => X (i * 60 + k)) I (a - 2) (b - 2)) 1) ?_
                        refine vp_callSi (va_Run.run (va_runS (As := [.int (nI (min ((min (nw_D (fun k => X (i * 60 + k)) I (a - 1) b) (nw_D (fun k => X (i * 60 + k)) I a (b - 1))) + 1) ((nw_D (fun k => X (i * 60 + k)) I (a - 1) (b - 1)) + 1))), .int (nI ((nw_D (fun k => X (i * 60 + k)) I (a - 2) (b - 2)) + 1))]) (rest := []) ⟨hx, hb, hml, hown, hts⟩ (c_Mod_least l dC dI (min ((min (nw_D (fun k => X (i * 60 + k)) I (a - 1) b) (nw_D (fun k => X (i * 60 + k)) I a (b - 1))) + 1) ((nw_D (fun k => X (i * 60 + k)) I (a - 1) (b - 1)) + 1)) ((nw_D (fun k => X (i * 60 + k)) I (a - 2) (b - 2)) + 1) (by omega) (by omega)) (cwS 2 hts (nw_GS (nw_m 65 rfl) (nw_m 66 rfl) (nw_m 67 rfl) (nw_m 68 rfl)) rfl rfl rfl (by decide +kernel) ⟨Nat.le_of_ble_eq_true rfl, Nat.le_of_ble_eq_true rfl⟩) (nw_preS hK hP [] [] rfl rfl) rfl rfl hl.1 rfl (lv_room (Nat.le_of_ble_eq_true rfl)) d_Mod_steps_222 ⟨Nat.le_of_ble_eq_true rfl, Nat.le_of_ble_eq_true rfl⟩)) (fun r her => ?_)
                        subst her
                        refine lv_istore hx hb d_Mod_steps_225 hl (by decide) rfl (fun ls hl => ?_)
                        replace hl : lv_has ls 9 [(6, .int (nI (min (min ((min (nw_D (fun k => X (i * 60 + k)) I (a - 1) b) (nw_D (fun k => X (i * 60 + k)) I a (b - 1))) + 1) ((nw_D (fun k => X (i * 60 + k)) I (a - 1) (b - 1)) + 1)) ((nw_D (fun k => X (i * 60 + k)) I (a - 2) (b - 2)) + 1)))), (8, .int (nI (I (b - 1)))), (7, .int (nI (X (i * 60 + (a - 1))))), (5, .int (nI b)), (4, .int (nI a)), (3, .int (nI (Ln i))), (0, .ref hM), (1, .int (nI i)), (2, .int (nI n))] := hl
                        refine lv_aload_n hx hb d_Mod_steps_227 rfl (lv_at hl 6 rfl) ?_
                        refine va_get (D := (dC, dI)) (ci := 1) (v := .ref ap) (C := R_Mod) (T := F_Mod) (N := 16) hx hb hts hin_Mod hown hK hP 0 rfl rfl 8 (by decide) (hts _ (nw_mc 89 rfl)) (fun _ h9 => h9) rfl d_Mod_steps_228 ?_
                        refine lv_iload hx hb d_Mod_steps_231 (lv_at hl 4 rfl) ?_
                        refine lv_bipush (v := nI 61) hx hb d_Mod_steps_233 (by decide) ?_
                        refine lv_imul hx hb d_Mod_steps_235 ?_
                        refine nw_ti (pk_mul a 61) ?_
                        refine lv_iload hx hb d_Mod_steps_236 (lv_at hl 3 rfl) ?_
                        refine lv_iadd hx hb d_Mod_steps_238 ?_
                        refine nw_ti (nI_add (a * 61) b) ?_
                        refine lv_iload hx hb d_Mod_steps_239 (lv_at hl 0 rfl) ?_
                        refine nw_ti (y := nI (nw_D (fun k => X (i * 60 + k)) I a b)) (congrArg nI (by rw [nw_D_rec (fun k => X (i * 60 + k)) I (a := a) (b := b) (by omega) (by omega), if_pos ⟨by omega, by omega, hd1, hd2⟩, if_neg hc7])) ?_
                        refine nw_iast hx hb hK hP hD hS 4 1 rfl rfl (k := ((a * 61) + b)) (v := (nw_D (fun k => X (i * 60 + k)) I a b)) (by omega) (by first | decide | omega) d_Mod_steps_241 (fun H locs hP hD hS => ?_)
                        replace hP : va_P (dC, dI) nw_cls [(hM, .inr (1, [.ref ai, .ref aw, .ref ar, .ref al, .ref aL, .ref aD, .ref ac, .ref af, .ref ap, .ref an, .ref ax, .int (nI isz), .int (nI wn), .int (nI chn), .int (nI rn), .int (nI th)])), (ai, nw_ai cB 60 I), (aw, nw_ai cB 60000 X), (al, nw_ai cI 1000 Ln), (ap, nw_ai cI 3721 (va_up f ((a * 61) + b) (nw_D (fun k => X (i * 60 + k)) I a b)))] H := hP
                        replace hD : va_D A [(hM, .inr (1, [.ref ai, .ref aw, .ref ar, .ref al, .ref aL, .ref aD, .ref ac, .ref af, .ref ap, .ref an, .ref ax, .int (nI isz), .int (nI wn), .int (nI chn), .int (nI rn), .int (nI th)])), (ai, nw_ai cB 60 I), (aw, nw_ai cB 60000 X), (al, nw_ai cI 1000 Ln), (ap, nw_ai cI 3721 (va_up f ((a * 61) + b) (nw_D (fun k => X (i * 60 + k)) I a b)))] := hD
                        refine lv_iinc (v := nI (b + 1)) hx hb d_Mod_steps_242 hl (k := 3) rfl (nI_add b 1) (by decide) rfl (fun ls hl => ?_)
                        have hl : lv_has ls 9 [(5, .int (nI (b + 1))), (6, .int (nI (min (min ((min (nw_D (fun k => X (i * 60 + k)) I (a - 1) b) (nw_D (fun k => X (i * 60 + k)) I a (b - 1))) + 1) ((nw_D (fun k => X (i * 60 + k)) I (a - 1) (b - 1)) + 1)) ((nw_D (fun k => X (i * 60 + k)) I (a - 2) (b - 2)) + 1)))), (8, .int (nI (I (b - 1)))), (7, .int (nI (X (i * 60 + (a - 1))))), (4, .int (nI a)), (3, .int (nI (Ln i))), (0, .ref hM), (1, .int (nI i)), (2, .int (nI n))] := hl
                        refine lv_goto hx hb d_Mod_steps_245 (tgt := 19) (by decide) ?_
                        exact ih2 (b + 1, va_up f ((a * 61) + b) (nw_D (fun k => X (i * 60 + k)) I a b)) (⟨by omega, fun p q h => by
                          by_cases e : p * 61 + q = a * 61 + b
                          · have e1 : p = a := by omega
                            have e2 : q = b := by omega
                            rw [e1, e2]; exact va_up_self f _ _
                          · exact (va_up_ne f _ e).trans (hT p q (by omega))⟩) (show n + 1 - (b + 1) < n + 1 - b by omega) _ _ _ (lv_sub hl [0, 4, 5, 6, 7, 8] rfl) hP hD hS
              · rw [nI_eq (by omega) (by omega)] at hc7
                refine lv_iconst (v := nI 0) hx hb d_Mod_steps_145 (by decide) ?_
                refine lv_goto hx hb d_Mod_steps_146 (tgt := 150) (by decide) ?_
                refine lv_iadd hx hb d_Mod_steps_150 ?_
                refine nw_ti (nI_add (nw_D (fun k => X (i * 60 + k)) I (a - 1) (b - 1)) 0) ?_
                refine vp_callSi (va_Run.run (va_runS (As := [.int (nI ((min (nw_D (fun k => X (i * 60 + k)) I (a - 1) b) (nw_D (fun k => X (i * 60 + k)) I a (b - 1))) + 1)), .int (nI ((nw_D (fun k => X (i * 60 + k)) I (a - 1) (b - 1)) + 0))]) (rest := []) ⟨hx, hb, hml, hown, hts⟩ (c_Mod_least l dC dI ((min (nw_D (fun k => X (i * 60 + k)) I (a - 1) b) (nw_D (fun k => X (i * 60 + k)) I a (b - 1))) + 1) ((nw_D (fun k => X (i * 60 + k)) I (a - 1) (b - 1)) + 0) (by omega) (by omega)) (cwS 2 hts (nw_GS (nw_m 65 rfl) (nw_m 66 rfl) (nw_m 67 rfl) (nw_m 68 rfl)) rfl rfl rfl (by decide +kernel) ⟨Nat.le_of_ble_eq_true rfl, Nat.le_of_ble_eq_true rfl⟩) (nw_preS hK hP [] [] rfl rfl) rfl rfl hl.1 rfl (lv_room (Nat.le_of_ble_eq_true rfl)) d_Mod_steps_151 ⟨Nat.le_of_ble_eq_true rfl, Nat.le_of_ble_eq_true rfl⟩)) (fun r her => ?_)
                subst her
                refine lv_istore hx hb d_Mod_steps_154 hl (by decide) rfl (fun ls hl => ?_)
                replace hl : lv_has ls 9 [(6, .int (nI (min ((min (nw_D (fun k => X (i * 60 + k)) I (a - 1) b) (nw_D (fun k => X (i * 60 + k)) I a (b - 1))) + 1) ((nw_D (fun k => X (i * 60 + k)) I (a - 1) (b - 1)) + 0)))), (8, .int (nI (I (b - 1)))), (7, .int (nI (X (i * 60 + (a - 1))))), (5, .int (nI b)), (4, .int (nI a)), (3, .int (nI (Ln i))), (0, .ref hM), (1, .int (nI i)), (2, .int (nI n))] := hl
                refine lv_iload hx hb d_Mod_steps_156 (lv_at hl 4 rfl) ?_
                refine lv_iconst (v := nI 1) hx hb d_Mod_steps_158 (by decide) ?_
                refine lv_icmp_le hx hb d_Mod_steps_159 (tgt := 227) (by decide) (fun hc8 => ?_) (fun hc8 => ?_)
                · rw [nI_leI (by omega) (by omega)] at hc8
                  refine lv_aload_n hx hb d_Mod_steps_227 rfl (lv_at hl 6 rfl) ?_
                  refine va_get (D := (dC, dI)) (ci := 1) (v := .ref ap) (C := R_Mod) (T := F_Mod) (N := 16) hx hb hts hin_Mod hown hK hP 0 rfl rfl 8 (by decide) (hts _ (nw_mc 89 rfl)) (fun _ h9 => h9) rfl d_Mod_steps_228 ?_
                  refine lv_iload hx hb d_Mod_steps_231 (lv_at hl 4 rfl) ?_
                  refine lv_bipush (v := nI 61) hx hb d_Mod_steps_233 (by decide) ?_
                  refine lv_imul hx hb d_Mod_steps_235 ?_
                  refine nw_ti (pk_mul a 61) ?_
                  refine lv_iload hx hb d_Mod_steps_236 (lv_at hl 3 rfl) ?_
                  refine lv_iadd hx hb d_Mod_steps_238 ?_
                  refine nw_ti (nI_add (a * 61) b) ?_
                  refine lv_iload hx hb d_Mod_steps_239 (lv_at hl 0 rfl) ?_
                  refine nw_ti (y := nI (nw_D (fun k => X (i * 60 + k)) I a b)) (congrArg nI (by rw [nw_D_rec (fun k => X (i * 60 + k)) I (a := a) (b := b) (by omega) (by omega), if_neg (by omega), if_pos hc7])) ?_
                  refine nw_iast hx hb hK hP hD hS 4 1 rfl rfl (k := ((a * 61) + b)) (v := (nw_D (fun k => X (i * 60 + k)) I a b)) (by omega) (by first | decide | omega) d_Mod_steps_241 (fun H locs hP hD hS => ?_)
                  replace hP : va_P (dC, dI) nw_cls [(hM, .inr (1, [.ref ai, .ref aw, .ref ar, .ref al, .ref aL, .ref aD, .ref ac, .ref af, .ref ap, .ref an, .ref ax, .int (nI isz), .int (nI wn), .int (nI chn), .int (nI rn), .int (nI th)])), (ai, nw_ai cB 60 I), (aw, nw_ai cB 60000 X), (al, nw_ai cI 1000 Ln), (ap, nw_ai cI 3721 (va_up f ((a * 61) + b) (nw_D (fun k => X (i * 60 + k)) I a b)))] H := hP
                  replace hD : va_D A [(hM, .inr (1, [.ref ai, .ref aw, .ref ar, .ref al, .ref aL, .ref aD, .ref ac, .ref af, .ref ap, .ref an, .ref ax, .int (nI isz), .int (nI wn), .int (nI chn), .int (nI rn), .int (nI th)])), (ai, nw_ai cB 60 I), (aw, nw_ai cB 60000 X), (al, nw_ai cI 1000 Ln), (ap, nw_ai cI 3721 (va_up f ((a * 61) + b) (nw_D (fun k => X (i * 60 + k)) I a b)))] := hD
                  refine lv_iinc (v := nI (b + 1)) hx hb d_Mod_steps_242 hl (k := 3) rfl (nI_add b 1) (by decide) rfl (fun ls hl => ?_)
                  have hl : lv_has ls 9 [(5, .int (nI (b + 1))), (6, .int (nI (min ((min (nw_D (fun k => X (i * 60 + k)) I (a - 1) b) (nw_D (fun k => X (i * 60 + k)) I a (b - 1))) + 1) ((nw_D (fun k => X (i * 60 + k)) I (a - 1) (b - 1)) + 0)))), (8, .int (nI (I (b - 1)))), (7, .int (nI (X (i * 60 + (a - 1))))), (4, .int (nI a)), (3, .int (nI (Ln i))), (0, .ref hM), (1, .int (nI i)), (2, .int (nI n))] := hl
                  refine lv_goto hx hb d_Mod_steps_245 (tgt := 19) (by decide) ?_
                  exact ih2 (b + 1, va_up f ((a * 61) + b) (nw_D (fun k => X (i * 60 + k)) I a b)) (⟨by omega, fun p q h => by
                    by_cases e : p * 61 + q = a * 61 + b
                    · have e1 : p = a := by omega
                      have e2 : q = b := by omega
                      rw [e1, e2]; exact va_up_self f _ _
                    · exact (va_up_ne f _ e).trans (hT p q (by omega))⟩) (show n + 1 - (b + 1) < n + 1 - b by omega) _ _ _ (lv_sub hl [0, 4, 5, 6, 7, 8] rfl) hP hD hS
                · rw [nI_leI (by omega) (by omega)] at hc8
                  refine lv_iload hx hb d_Mod_steps_162 (lv_at hl 3 rfl) ?_
                  refine lv_iconst (v := nI 1) hx hb d_Mod_steps_164 (by decide) ?_
                  refine lv_icmp_le hx hb d_Mod_steps_165 (tgt := 227) (by decide) (fun hc9 => ?_) (fun hc9 => ?_)
                  · rw [nI_leI (by omega) (by omega)] at hc9
                    refine lv_aload_n hx hb d_Mod_steps_227 rfl (lv_at hl 6 rfl) ?_
                    refine va_get (D := (dC, dI)) (ci := 1) (v := .ref ap) (C := R_Mod) (T := F_Mod) (N := 16) hx hb hts hin_Mod hown hK hP 0 rfl rfl 8 (by decide) (hts _ (nw_mc 89 rfl)) (fun _ h9 => h9) rfl d_Mod_steps_228 ?_
                    refine lv_iload hx hb d_Mod_steps_231 (lv_at hl 4 rfl) ?_
                    refine lv_bipush (v := nI 61) hx hb d_Mod_steps_233 (by decide) ?_
                    refine lv_imul hx hb d_Mod_steps_235 ?_
                    refine nw_ti (pk_mul a 61) ?_
                    refine lv_iload hx hb d_Mod_steps_236 (lv_at hl 3 rfl) ?_
                    refine lv_iadd hx hb d_Mod_steps_238 ?_
                    refine nw_ti (nI_add (a * 61) b) ?_
                    refine lv_iload hx hb d_Mod_steps_239 (lv_at hl 0 rfl) ?_
                    refine nw_ti (y := nI (nw_D (fun k => X (i * 60 + k)) I a b)) (congrArg nI (by rw [nw_D_rec (fun k => X (i * 60 + k)) I (a := a) (b := b) (by omega) (by omega), if_neg (by omega), if_pos hc7])) ?_
                    refine nw_iast hx hb hK hP hD hS 4 1 rfl rfl (k := ((a * 61) + b)) (v := (nw_D (fun k => X (i * 60 + k)) I a b)) (by omega) (by first | decide | omega) d_Mod_steps_241 (fun H locs hP hD hS => ?_)
                    replace hP : va_P (dC, dI) nw_cls [(hM, .inr (1, [.ref ai, .ref aw, .ref ar, .ref al, .ref aL, .ref aD, .ref ac, .ref af, .ref ap, .ref an, .ref ax, .int (nI isz), .int (nI wn), .int (nI chn), .int (nI rn), .int (nI th)])), (ai, nw_ai cB 60 I), (aw, nw_ai cB 60000 X), (al, nw_ai cI 1000 Ln), (ap, nw_ai cI 3721 (va_up f ((a * 61) + b) (nw_D (fun k => X (i * 60 + k)) I a b)))] H := hP
                    replace hD : va_D A [(hM, .inr (1, [.ref ai, .ref aw, .ref ar, .ref al, .ref aL, .ref aD, .ref ac, .ref af, .ref ap, .ref an, .ref ax, .int (nI isz), .int (nI wn), .int (nI chn), .int (nI rn), .int (nI th)])), (ai, nw_ai cB 60 I), (aw, nw_ai cB 60000 X), (al, nw_ai cI 1000 Ln), (ap, nw_ai cI 3721 (va_up f ((a * 61) + b) (nw_D (fun k => X (i * 60 + k)) I a b)))] := hD
                    refine lv_iinc (v := nI (b + 1)) hx hb d_Mod_steps_242 hl (k := 3) rfl (nI_add b 1) (by decide) rfl (fun ls hl => ?_)
                    have hl : lv_has ls 9 [(5, .int (nI (b + 1))), (6, .int (nI (min ((min (nw_D (fun k => X (i * 60 + k)) I (a - 1) b) (nw_D (fun k => X (i * 60 + k)) I a (b - 1))) + 1) ((nw_D (fun k => X (i * 60 + k)) I (a - 1) (b - 1)) + 0)))), (8, .int (nI (I (b - 1)))), (7, .int (nI (X (i * 60 + (a - 1))))), (4, .int (nI a)), (3, .int (nI (Ln i))), (0, .ref hM), (1, .int (nI i)), (2, .int (nI n))] := hl
                    refine lv_goto hx hb d_Mod_steps_245 (tgt := 19) (by decide) ?_
                    exact ih2 (b + 1, va_up f ((a * 61) + b) (nw_D (fun k => X (i * 60 + k)) I a b)) (⟨by omega, fun p q h => by
                      by_cases e : p * 61 + q = a * 61 + b
                      · have e1 : p = a := by omega
                        have e2 : q = b := by omega
                        rw [e1, e2]; exact va_up_self f _ _
                      · exact (va_up_ne f _ e).trans (hT p q (by omega))⟩) (show n + 1 - (b + 1) < n + 1 - b by omega) _ _ _ (lv_sub hl [0, 4, 5, 6, 7, 8] rfl) hP hD hS
                  · rw [nI_leI (by omega) (by omega)] at hc9
                    refine lv_iload hx hb d_Mod_steps_168 (lv_at hl 2 rfl) ?_
                    refine lv_aload_n hx hb d_Mod_steps_170 rfl (lv_at hl 6 rfl) ?_
                    refine va_get (D := (dC, dI)) (ci := 1) (v := .ref ai) (C := R_Mod) (T := F_Mod) (N := 16) hx hb hts hin_Mod hown hK hP 0 rfl rfl 0 (by decide) (hts _ (nw_mc 70 rfl)) (fun _ h9 => h9) rfl d_Mod_steps_171 ?_
                    refine lv_iload hx hb d_Mod_steps_174 (lv_at hl 3 rfl) ?_
                    refine lv_iconst (v := nI 2) hx hb d_Mod_steps_176 (by decide) ?_
                    refine lv_isub hx hb d_Mod_steps_177 ?_
                    refine nw_ti (pk_sub (a := b) (b := 2) (by omega)) ?_
                    refine nw_bald hx hb hK hP 1 0 rfl rfl (k := (b - 2)) (by omega) (by first | decide | omega) d_Mod_steps_178 ?_
                    refine lv_icmp_ne hx hb d_Mod_steps_179 (tgt := 227) (by decide) (fun hd1 => ?_) (fun hd1 => ?_)
                    · rw [nI_eq (by omega) (by omega)] at hd1
                      refine lv_aload_n hx hb d_Mod_steps_227 rfl (lv_at hl 6 rfl) ?_
                      refine va_get (D := (dC, dI)) (ci := 1) (v := .ref ap) (C := R_Mod) (T := F_Mod) (N := 16) hx hb hts hin_Mod hown hK hP 0 rfl rfl 8 (by decide) (hts _ (nw_mc 89 rfl)) (fun _ h9 => h9) rfl d_Mod_steps_228 ?_
                      refine lv_iload hx hb d_Mod_steps_231 (lv_at hl 4 rfl) ?_
                      refine lv_bipush (v := nI 61) hx hb d_Mod_steps_233 (by decide) ?_
                      refine lv_imul hx hb d_Mod_steps_235 ?_
                      refine nw_ti (pk_mul a 61) ?_
                      refine lv_iload hx hb d_Mod_steps_236 (lv_at hl 3 rfl) ?_
                      refine lv_iadd hx hb d_Mod_steps_238 ?_
                      refine nw_ti (nI_add (a * 61) b) ?_
                      refine lv_iload hx hb d_Mod_steps_239 (lv_at hl 0 rfl) ?_
                      refine nw_ti (y := nI (nw_D (fun k => X (i * 60 + k)) I a b)) (congrArg nI (by rw [nw_D_rec (fun k => X (i * 60 + k)) I (a := a) (b := b) (by omega) (by omega), if_neg (fun h => hd1 h.2.2.1), if_pos hc7])) ?_
                      refine nw_iast hx hb hK hP hD hS 4 1 rfl rfl (k := ((a * 61) + b)) (v := (nw_D (fun k => X (i * 60 + k)) I a b)) (by omega) (by first | decide | omega) d_Mod_steps_241 (fun H locs hP hD hS => ?_)
                      replace hP : va_P (dC, dI) nw_cls [(hM, .inr (1, [.ref ai, .ref aw, .ref ar, .ref al, .ref aL, .ref aD, .ref ac, .ref af, .ref ap, .ref an, .ref ax, .int (nI isz), .int (nI wn), .int (nI chn), .int (nI rn), .int (nI th)])), (ai, nw_ai cB 60 I), (aw, nw_ai cB 60000 X), (al, nw_ai cI 1000 Ln), (ap, nw_ai cI 3721 (va_up f ((a * 61) + b) (nw_D (fun k => X (i * 60 + k)) I a b)))] H := hP
                      replace hD : va_D A [(hM, .inr (1, [.ref ai, .ref aw, .ref ar, .ref al, .ref aL, .ref aD, .ref ac, .ref af, .ref ap, .ref an, .ref ax, .int (nI isz), .int (nI wn), .int (nI chn), .int (nI rn), .int (nI th)])), (ai, nw_ai cB 60 I), (aw, nw_ai cB 60000 X), (al, nw_ai cI 1000 Ln), (ap, nw_ai cI 3721 (va_up f ((a * 61) + b) (nw_D (fun k => X (i * 60 + k)) I a b)))] := hD
                      refine lv_iinc (v := nI (b + 1)) hx hb d_Mod_steps_242 hl (k := 3) rfl (nI_add b 1) (by decide) rfl (fun ls hl => ?_)
                      have hl : lv_has ls 9 [(5, .int (nI (b + 1))), (6, .int (nI (min ((min (nw_D (fun k => X (i * 60 + k)) I (a - 1) b) (nw_D (fun k => X (i * 60 + k)) I a (b - 1))) + 1) ((nw_D (fun k => X (i * 60 + k)) I (a - 1) (b - 1)) + 0)))), (8, .int (nI (I (b - 1)))), (7, .int (nI (X (i * 60 + (a - 1))))), (4, .int (nI a)), (3, .int (nI (Ln i))), (0, .ref hM), (1, .int (nI i)), (2, .int (nI n))] := hl
                      refine lv_goto hx hb d_Mod_steps_245 (tgt := 19) (by decide) ?_
                      exact ih2 (b + 1, va_up f ((a * 61) + b) (nw_D (fun k => X (i * 60 + k)) I a b)) (⟨by omega, fun p q h => by
                        by_cases e : p * 61 + q = a * 61 + b
                        · have e1 : p = a := by omega
                          have e2 : q = b := by omega
                          rw [e1, e2]; exact va_up_self f _ _
                        · exact (va_up_ne f _ e).trans (hT p q (by omega))⟩) (show n + 1 - (b + 1) < n + 1 - b by omega) _ _ _ (lv_sub hl [0, 4, 5, 6, 7, 8] rfl) hP hD hS
                    · rw [nI_eq (by omega) (by omega)] at hd1
                      refine lv_aload_n hx hb d_Mod_steps_182 rfl (lv_at hl 6 rfl) ?_
                      refine va_get (D := (dC, dI)) (ci := 1) (v := .ref aw) (C := R_Mod) (T := F_Mod) (N := 16) hx hb hts hin_Mod hown hK hP 0 rfl rfl 1 (by decide) (hts _ (nw_mc 69 rfl)) (fun _ h9 => h9) rfl d_Mod_steps_183 ?_
                      refine lv_iload_n hx hb d_Mod_steps_186 rfl (lv_at hl 7 rfl) ?_
                      refine lv_bipush (v := nI 60) hx hb d_Mod_steps_187 (by decide) ?_
                      refine lv_imul hx hb d_Mod_steps_189 ?_
                      refine nw_ti (pk_mul i 60) ?_
                      refine lv_iload hx hb d_Mod_steps_190 (lv_at hl 4 rfl) ?_
                      refine lv_iadd hx hb d_Mod_steps_192 ?_
                      refine nw_ti (nI_add (i * 60) a) ?_
                      refine lv_iconst (v := nI 2) hx hb d_Mod_steps_193 (by decide) ?_
                      refine lv_isub hx hb d_Mod_steps_194 ?_
                      refine nw_ti (pk_sub (a := ((i * 60) + a)) (b := 2) (by omega)) ?_
                      refine nw_ti (y := nI (i * 60 + (a - 2))) (congrArg nI (show ((i * 60) + a) - 2 = i * 60 + (a - 2) by omega)) ?_
                      refine nw_bald hx hb hK hP 2 0 rfl rfl (k := (i * 60 + (a - 2))) (by omega) (by first | decide | omega) d_Mod_steps_195 ?_
                      refine lv_iload hx hb d_Mod_steps_196 (lv_at hl 1 rfl) ?_
                      refine lv_icmp_ne hx hb d_Mod_steps_198 (tgt := 227) (by decide) (fun hd2 => ?_) (fun hd2 => ?_)
                      · rw [nI_eq (by omega) (by omega)] at hd2
                        refine lv_aload_n hx hb d_Mod_steps_227 rfl (lv_at hl 6 rfl) ?_
                        refine va_get (D := (dC, dI)) (ci := 1) (v := .ref ap) (C := R_Mod) (T := F_Mod) (N := 16) hx hb hts hin_Mod hown hK hP 0 rfl rfl 8 (by decide) (hts _ (nw_mc 89 rfl)) (fun _ h9 => h9) rfl d_Mod_steps_228 ?_
                        refine lv_iload hx hb d_Mod_steps_231 (lv_at hl 4 rfl) ?_
                        refine lv_bipush (v := nI 61) hx hb d_Mod_steps_233 (by decide) ?_
                        refine lv_imul hx hb d_Mod_steps_235 ?_
                        refine nw_ti (pk_mul a 61) ?_
                        refine lv_iload hx hb d_Mod_steps_236 (lv_at hl 3 rfl) ?_
                        refine lv_iadd hx hb d_Mod_steps_238 ?_
                        refine nw_ti (nI_add (a * 61) b) ?_
                        refine lv_iload hx hb d_Mod_steps_239 (lv_at hl 0 rfl) ?_
                        refine nw_ti (y := nI (nw_D (fun k => X (i * 60 + k)) I a b)) (congrArg nI (by rw [nw_D_rec (fun k => X (i * 60 + k)) I (a := a) (b := b) (by omega) (by omega), if_neg (fun h => hd2 h.2.2.2), if_pos hc7])) ?_
                        refine nw_iast hx hb hK hP hD hS 4 1 rfl rfl (k := ((a * 61) + b)) (v := (nw_D (fun k => X (i * 60 + k)) I a b)) (by omega) (by first | decide | omega) d_Mod_steps_241 (fun H locs hP hD hS => ?_)
                        replace hP : va_P (dC, dI) nw_cls [(hM, .inr (1, [.ref ai, .ref aw, .ref ar, .ref al, .ref aL, .ref aD, .ref ac, .ref af, .ref ap, .ref an, .ref ax, .int (nI isz), .int (nI wn), .int (nI chn), .int (nI rn), .int (nI th)])), (ai, nw_ai cB 60 I), (aw, nw_ai cB 60000 X), (al, nw_ai cI 1000 Ln), (ap, nw_ai cI 3721 (va_up f ((a * 61) + b) (nw_D (fun k => X (i * 60 + k)) I a b)))] H := hP
                        replace hD : va_D A [(hM, .inr (1, [.ref ai, .ref aw, .ref ar, .ref al, .ref aL, .ref aD, .ref ac, .ref af, .ref ap, .ref an, .ref ax, .int (nI isz), .int (nI wn), .int (nI chn), .int (nI rn), .int (nI th)])), (ai, nw_ai cB 60 I), (aw, nw_ai cB 60000 X), (al, nw_ai cI 1000 Ln), (ap, nw_ai cI 3721 (va_up f ((a * 61) + b) (nw_D (fun k => X (i * 60 + k)) I a b)))] := hD
                        refine lv_iinc (v := nI (b + 1)) hx hb d_Mod_steps_242 hl (k := 3) rfl (nI_add b 1) (by decide) rfl (fun ls hl => ?_)
                        have hl : lv_has ls 9 [(5, .int (nI (b + 1))), (6, .int (nI (min ((min (nw_D (fun k => X (i * 60 + k)) I (a - 1) b) (nw_D (fun k => X (i * 60 + k)) I a (b - 1))) + 1) ((nw_D (fun k => X (i * 60 + k)) I (a - 1) (b - 1)) + 0)))), (8, .int (nI (I (b - 1)))), (7, .int (nI (X (i * 60 + (a - 1))))), (4, .int (nI a)), (3, .int (nI (Ln i))), (0, .ref hM), (1, .int (nI i)), (2, .int (nI n))] := hl
                        refine lv_goto hx hb d_Mod_steps_245 (tgt := 19) (by decide) ?_
                        exact ih2 (b + 1, va_up f ((a * 61) + b) (nw_D (fun k => X (i * 60 + k)) I a b)) (⟨by omega, fun p q h => by
                          by_cases e : p * 61 + q = a * 61 + b
                          · have e1 : p = a := by omega
                            have e2 : q = b := by omega
                            rw [e1, e2]; exact va_up_self f _ _
                          · exact (va_up_ne f _ e).trans (hT p q (by omega))⟩) (show n + 1 - (b + 1) < n + 1 - b by omega) _ _ _ (lv_sub hl [0, 4, 5, 6, 7, 8] rfl) hP hD hS
                      · rw [nI_eq (by omega) (by omega)] at hd2
                        refine lv_iload hx hb d_Mod_steps_201 (lv_at hl 0 rfl) ?_
                        refine lv_aload_n hx hb d_Mod_steps_203 rfl (lv_at hl 6 rfl) ?_
                        refine va_get (D := (dC, dI)) (ci := 1) (v := .ref ap) (C := R_Mod) (T := F_Mod) (N := 16) hx hb hts hin_Mod hown hK hP 0 rfl rfl 8 (by decide) (hts _ (nw_mc 89 rfl)) (fun _ h9 => h9) rfl d_Mod_steps_204 ?_
                        refine lv_iload hx hb d_Mod_steps_207 (lv_at hl 4 rfl) ?_
                        refine lv_iconst (v := nI 2) hx hb d_Mod_steps_209 (by decide) ?_
                        refine lv_isub hx hb d_Mod_steps_210 ?_
                        refine nw_ti (pk_sub (a := a) (b := 2) (by omega)) ?_
                        refine lv_bipush (v := nI 61) hx hb d_Mod_steps_211 (by decide) ?_
                        refine lv_imul hx hb d_Mod_steps_213 ?_
                        refine nw_ti (pk_mul (a - 2) 61) ?_
                        refine lv_iload hx hb d_Mod_steps_214 (lv_at hl 3 rfl) ?_
                        refine lv_iadd hx hb d_Mod_steps_216 ?_
                        refine nw_ti (nI_add ((a - 2) * 61) b) ?_
                        refine lv_iconst (v := nI 2) hx hb d_Mod_steps_217 (by decide) ?_
                        refine lv_isub hx hb d_Mod_steps_218 ?_
                        refine nw_ti (pk_sub (a := (((a - 2) * 61) + b)) (b := 2) (by omega)) ?_
                        refine nw_ti (y := nI ((a - 2) * 61 + (b - 2))) (congrArg nI (show (((a - 2) * 61) + b) - 2 = (a - 2) * 61 + (b - 2) by omega)) ?_
                        refine nw_iald hx hb hK hP 4 1 rfl rfl (k := ((a - 2) * 61 + (b - 2))) (by omega) (by first | decide | omega) d_Mod_steps_219 ?_
                        refine nw_ti (y := nI (nw_D (fun k => X (i * 60 + k)) I (a - 2) (b - 2))) (congrArg nI (hT _ _ (Or.inl ⟨by omega, by omega⟩))) ?_
                        refine lv_iconst (v := nI 1) hx hb d_Mod_steps_220 (by decide) ?_
                        refine lv_iadd hx hb d_Mod_steps_221 ?_
                        refine nw_ti (nI_add (nw_D (fun k => X (i * 60 + k)) I (a - 2) (b - 2)) 1) ?_
                        refine vp_callSi (va_Run.run (va_runS (As := [.int (nI (min ((min (nw_D (fun k => X (i * 60 + k)) I (a - 1) b) (nw_D (fun k => X (i * 60 + k)) I a (b - 1))) + 1) ((nw_D (fun k => X (i * 60 + k)) I (a - 1) (b - 1)) + 0))), .int (nI ((nw_D (fun k => X (i * 60 + k)) I (a - 2) (b - 2)) + 1))]) (rest := []) ⟨hx, hb, hml, hown, hts⟩ (c_Mod_least l dC dI (min ((min (nw_D (fun k => X (i * 60 + k)) I (a - 1) b) (nw_D (fun k => X (i * 60 + k)) I a (b - 1))) + 1) ((nw_D (fun k => X (i * 60 + k)) I (a - 1) (b - 1)) + 0)) ((nw_D (fun k => X (i * 60 + k)) I (a - 2) (b - 2)) + 1) (by omega) (by omega)) (cwS 2 hts (nw_GS (nw_m 65 rfl) (nw_m 66 rfl) (nw_m 67 rfl) (nw_m 68 rfl)) rfl rfl rfl (by decide +kernel) ⟨Nat.le_of_ble_eq_true rfl, Nat.le_of_ble_eq_true rfl⟩) (nw_preS hK hP [] [] rfl rfl) rfl rfl hl.1 rfl (lv_room (Nat.le_of_ble_eq_true rfl)) d_Mod_steps_222 ⟨Nat.le_of_ble_eq_true rfl, Nat.le_of_ble_eq_true rfl⟩)) (fun r her => ?_)
                        subst her
                        refine lv_istore hx hb d_Mod_steps_225 hl (by decide) rfl (fun ls hl => ?_)
                        replace hl : lv_has ls 9 [(6, .int (nI (min (min ((min (nw_D (fun k => X (i * 60 + k)) I (a - 1) b) (nw_D (fun k => X (i * 60 + k)) I a (b - 1))) + 1) ((nw_D (fun k => X (i * 60 + k)) I (a - 1) (b - 1)) + 0)) ((nw_D (fun k => X (i * 60 + k)) I (a - 2) (b - 2)) + 1)))), (8, .int (nI (I (b - 1)))), (7, .int (nI (X (i * 60 + (a - 1))))), (5, .int (nI b)), (4, .int (nI a)), (3, .int (nI (Ln i))), (0, .ref hM), (1, .int (nI i)), (2, .int (nI n))] := hl
                        refine lv_aload_n hx hb d_Mod_steps_227 rfl (lv_at hl 6 rfl) ?_
                        refine va_get (D := (dC, dI)) (ci := 1) (v := .ref ap) (C := R_Mod) (T := F_Mod) (N := 16) hx hb hts hin_Mod hown hK hP 0 rfl rfl 8 (by decide) (hts _ (nw_mc 89 rfl)) (fun _ h9 => h9) rfl d_Mod_steps_228 ?_
                        refine lv_iload hx hb d_Mod_steps_231 (lv_at hl 4 rfl) ?_
                        refine lv_bipush (v := nI 61) hx hb d_Mod_steps_233 (by decide) ?_
                        refine lv_imul hx hb d_Mod_steps_235 ?_
                        refine nw_ti (pk_mul a 61) ?_
                        refine lv_iload hx hb d_Mod_steps_236 (lv_at hl 3 rfl) ?_
                        refine lv_iadd hx hb d_Mod_steps_238 ?_
                        refine nw_ti (nI_add (a * 61) b) ?_
                        refine lv_iload hx hb d_Mod_steps_239 (lv_at hl 0 rfl) ?_
                        refine nw_ti (y := nI (nw_D (fun k => X (i * 60 + k)) I a b)) (congrArg nI (by rw [nw_D_rec (fun k => X (i * 60 + k)) I (a := a) (b := b) (by omega) (by omega), if_pos ⟨by omega, by omega, hd1, hd2⟩, if_pos hc7])) ?_
                        refine nw_iast hx hb hK hP hD hS 4 1 rfl rfl (k := ((a * 61) + b)) (v := (nw_D (fun k => X (i * 60 + k)) I a b)) (by omega) (by first | decide | omega) d_Mod_steps_241 (fun H locs hP hD hS => ?_)
                        replace hP : va_P (dC, dI) nw_cls [(hM, .inr (1, [.ref ai, .ref aw, .ref ar, .ref al, .ref aL, .ref aD, .ref ac, .ref af, .ref ap, .ref an, .ref ax, .int (nI isz), .int (nI wn), .int (nI chn), .int (nI rn), .int (nI th)])), (ai, nw_ai cB 60 I), (aw, nw_ai cB 60000 X), (al, nw_ai cI 1000 Ln), (ap, nw_ai cI 3721 (va_up f ((a * 61) + b) (nw_D (fun k => X (i * 60 + k)) I a b)))] H := hP
                        replace hD : va_D A [(hM, .inr (1, [.ref ai, .ref aw, .ref ar, .ref al, .ref aL, .ref aD, .ref ac, .ref af, .ref ap, .ref an, .ref ax, .int (nI isz), .int (nI wn), .int (nI chn), .int (nI rn), .int (nI th)])), (ai, nw_ai cB 60 I), (aw, nw_ai cB 60000 X), (al, nw_ai cI 1000 Ln), (ap, nw_ai cI 3721 (va_up f ((a * 61) + b) (nw_D (fun k => X (i * 60 + k)) I a b)))] := hD
                        refine lv_iinc (v := nI (b + 1)) hx hb d_Mod_steps_242 hl (k := 3) rfl (nI_add b 1) (by decide) rfl (fun ls hl => ?_)
                        have hl : lv_has ls 9 [(5, .int (nI (b + 1))), (6, .int (nI (min (min ((min (nw_D (fun k => X (i * 60 + k)) I (a - 1) b) (nw_D (fun k => X (i * 60 + k)) I a (b - 1))) + 1) ((nw_D (fun k => X (i * 60 + k)) I (a - 1) (b - 1)) + 0)) ((nw_D (fun k => X (i * 60 + k)) I (a - 2) (b - 2)) + 1)))), (8, .int (nI (I (b - 1)))), (7, .int (nI (X (i * 60 + (a - 1))))), (4, .int (nI a)), (3, .int (nI (Ln i))), (0, .ref hM), (1, .int (nI i)), (2, .int (nI n))] := hl
                        refine lv_goto hx hb d_Mod_steps_245 (tgt := 19) (by decide) ?_
                        exact ih2 (b + 1, va_up f ((a * 61) + b) (nw_D (fun k => X (i * 60 + k)) I a b)) (⟨by omega, fun p q h => by
                          by_cases e : p * 61 + q = a * 61 + b
                          · have e1 : p = a := by omega
                            have e2 : q = b := by omega
                            rw [e1, e2]; exact va_up_self f _ _
                          · exact (va_up_ne f _ e).trans (hT p q (by omega))⟩) (show n + 1 - (b + 1) < n + 1 - b by omega) _ _ _ (lv_sub hl [0, 4, 5, 6, 7, 8] rfl) hP hD hS
        · rw [nw_eq0 (by omega)] at hc4
          refine lv_iload hx hb d_Mod_steps_40 (lv_at hl 1 rfl) ?_
          refine lv_goto hx hb d_Mod_steps_42 (tgt := 80) (by decide) ?_
          refine lv_istore hx hb d_Mod_steps_80 hl (by decide) rfl (fun ls hl => ?_)
          replace hl : lv_has ls 9 [(6, .int (nI a)), (5, .int (nI b)), (4, .int (nI a)), (3, .int (nI (Ln i))), (0, .ref hM), (1, .int (nI i)), (2, .int (nI n))] := hl
          refine lv_iload hx hb d_Mod_steps_82 (lv_at hl 2 rfl) ?_
          refine lv_if_le hx hb d_Mod_steps_84 (tgt := 227) (by decide) (fun hc5 => ?_) (fun hc5 => ?_)
          · rw [nw_le0 (by omega)] at hc5
            omega
          · rw [nw_le0 (by omega)] at hc5
            refine lv_iload hx hb d_Mod_steps_87 (lv_at hl 1 rfl) ?_
            refine lv_if_le hx hb d_Mod_steps_89 (tgt := 227) (by decide) (fun hc6 => ?_) (fun hc6 => ?_)
            · rw [nw_le0 (by omega)] at hc6
              refine lv_aload_n hx hb d_Mod_steps_227 rfl (lv_at hl 4 rfl) ?_
              refine va_get (D := (dC, dI)) (ci := 1) (v := .ref ap) (C := R_Mod) (T := F_Mod) (N := 16) hx hb hts hin_Mod hown hK hP 0 rfl rfl 8 (by decide) (hts _ (nw_mc 89 rfl)) (fun _ h9 => h9) rfl d_Mod_steps_228 ?_
              refine lv_iload hx hb d_Mod_steps_231 (lv_at hl 2 rfl) ?_
              refine lv_bipush (v := nI 61) hx hb d_Mod_steps_233 (by decide) ?_
              refine lv_imul hx hb d_Mod_steps_235 ?_
              refine nw_ti (pk_mul a 61) ?_
              refine lv_iload hx hb d_Mod_steps_236 (lv_at hl 1 rfl) ?_
              refine lv_iadd hx hb d_Mod_steps_238 ?_
              refine nw_ti (nI_add (a * 61) b) ?_
              refine lv_iload hx hb d_Mod_steps_239 (lv_at hl 0 rfl) ?_
              refine nw_ti (y := nI (nw_D (fun k => X (i * 60 + k)) I a b)) (congrArg nI (by rw [hc4, nw_D_i0])) ?_
              refine nw_iast hx hb hK hP hD hS 4 1 rfl rfl (k := ((a * 61) + b)) (v := (nw_D (fun k => X (i * 60 + k)) I a b)) (by omega) (by first | decide | omega) d_Mod_steps_241 (fun H locs hP hD hS => ?_)
              replace hP : va_P (dC, dI) nw_cls [(hM, .inr (1, [.ref ai, .ref aw, .ref ar, .ref al, .ref aL, .ref aD, .ref ac, .ref af, .ref ap, .ref an, .ref ax, .int (nI isz), .int (nI wn), .int (nI chn), .int (nI rn), .int (nI th)])), (ai, nw_ai cB 60 I), (aw, nw_ai cB 60000 X), (al, nw_ai cI 1000 Ln), (ap, nw_ai cI 3721 (va_up f ((a * 61) + b) (nw_D (fun k => X (i * 60 + k)) I a b)))] H := hP
              replace hD : va_D A [(hM, .inr (1, [.ref ai, .ref aw, .ref ar, .ref al, .ref aL, .ref aD, .ref ac, .ref af, .ref ap, .ref an, .ref ax, .int (nI isz), .int (nI wn), .int (nI chn), .int (nI rn), .int (nI th)])), (ai, nw_ai cB 60 I), (aw, nw_ai cB 60000 X), (al, nw_ai cI 1000 Ln), (ap, nw_ai cI 3721 (va_up f ((a * 61) + b) (nw_D (fun k => X (i * 60 + k)) I a b)))] := hD
              refine lv_iinc (v := nI (b + 1)) hx hb d_Mod_steps_242 hl (k := 1) rfl (nI_add b 1) (by decide) rfl (fun ls hl => ?_)
              have hl : lv_has ls 9 [(5, .int (nI (b + 1))), (6, .int (nI a)), (4, .int (nI a)), (3, .int (nI (Ln i))), (0, .ref hM), (1, .int (nI i)), (2, .int (nI n))] := hl
              refine lv_goto hx hb d_Mod_steps_245 (tgt := 19) (by decide) ?_
              exact ih2 (b + 1, va_up f ((a * 61) + b) (nw_D (fun k => X (i * 60 + k)) I a b)) (⟨by omega, fun p q h => by
                by_cases e : p * 61 + q = a * 61 + b
                · have e1 : p = a := by omega
                  have e2 : q = b := by omega
                  rw [e1, e2]; exact va_up_self f _ _
                · exact (va_up_ne f _ e).trans (hT p q (by omega))⟩) (show n + 1 - (b + 1) < n + 1 - b by omega) _ _ _ (lv_sub hl [0, 2, 3, 4, 5, 6] rfl) hP hD hS
            · rw [nw_le0 (by omega)] at hc6
              omega
      · rw [nw_eq0 (by omega)] at hc3
        refine lv_iload hx hb d_Mod_steps_30 (lv_at hl 0 rfl) ?_
        refine lv_goto hx hb d_Mod_steps_32 (tgt := 80) (by decide) ?_
        refine lv_istore hx hb d_Mod_steps_80 hl (by decide) rfl (fun ls hl => ?_)
        replace hl : lv_has ls 9 [(6, .int (nI b)), (5, .int (nI b)), (4, .int (nI a)), (3, .int (nI (Ln i))), (0, .ref hM), (1, .int (nI i)), (2, .int (nI n))] := hl
        refine lv_iload hx hb d_Mod_steps_82 (lv_at hl 2 rfl) ?_
        refine lv_if_le hx hb d_Mod_steps_84 (tgt := 227) (by decide) (fun hc4 => ?_) (fun hc4 => ?_)
        · rw [nw_le0 (by omega)] at hc4
          refine lv_aload_n hx hb d_Mod_steps_227 rfl (lv_at hl 4 rfl) ?_
          refine va_get (D := (dC, dI)) (ci := 1) (v := .ref ap) (C := R_Mod) (T := F_Mod) (N := 16) hx hb hts hin_Mod hown hK hP 0 rfl rfl 8 (by decide) (hts _ (nw_mc 89 rfl)) (fun _ h9 => h9) rfl d_Mod_steps_228 ?_
          refine lv_iload hx hb d_Mod_steps_231 (lv_at hl 2 rfl) ?_
          refine lv_bipush (v := nI 61) hx hb d_Mod_steps_233 (by decide) ?_
          refine lv_imul hx hb d_Mod_steps_235 ?_
          refine nw_ti (pk_mul a 61) ?_
          refine lv_iload hx hb d_Mod_steps_236 (lv_at hl 1 rfl) ?_
          refine lv_iadd hx hb d_Mod_steps_238 ?_
          refine nw_ti (nI_add (a * 61) b) ?_
          refine lv_iload hx hb d_Mod_steps_239 (lv_at hl 0 rfl) ?_
          refine nw_ti (y := nI (nw_D (fun k => X (i * 60 + k)) I a b)) (congrArg nI (by rw [hc3, nw_D_0])) ?_
          refine nw_iast hx hb hK hP hD hS 4 1 rfl rfl (k := ((a * 61) + b)) (v := (nw_D (fun k => X (i * 60 + k)) I a b)) (by omega) (by first | decide | omega) d_Mod_steps_241 (fun H locs hP hD hS => ?_)
          replace hP : va_P (dC, dI) nw_cls [(hM, .inr (1, [.ref ai, .ref aw, .ref ar, .ref al, .ref aL, .ref aD, .ref ac, .ref af, .ref ap, .ref an, .ref ax, .int (nI isz), .int (nI wn), .int (nI chn), .int (nI rn), .int (nI th)])), (ai, nw_ai cB 60 I), (aw, nw_ai cB 60000 X), (al, nw_ai cI 1000 Ln), (ap, nw_ai cI 3721 (va_up f ((a * 61) + b) (nw_D (fun k => X (i * 60 + k)) I a b)))] H := hP
          replace hD : va_D A [(hM, .inr (1, [.ref ai, .ref aw, .ref ar, .ref al, .ref aL, .ref aD, .ref ac, .ref af, .ref ap, .ref an, .ref ax, .int (nI isz), .int (nI wn), .int (nI chn), .int (nI rn), .int (nI th)])), (ai, nw_ai cB 60 I), (aw, nw_ai cB 60000 X), (al, nw_ai cI 1000 Ln), (ap, nw_ai cI 3721 (va_up f ((a * 61) + b) (nw_D (fun k => X (i * 60 + k)) I a b)))] := hD
          refine lv_iinc (v := nI (b + 1)) hx hb d_Mod_steps_242 hl (k := 1) rfl (nI_add b 1) (by decide) rfl (fun ls hl => ?_)
          have hl : lv_has ls 9 [(5, .int (nI (b + 1))), (6, .int (nI b)), (4, .int (nI a)), (3, .int (nI (Ln i))), (0, .ref hM), (1, .int (nI i)), (2, .int (nI n))] := hl
          refine lv_goto hx hb d_Mod_steps_245 (tgt := 19) (by decide) ?_
          exact ih2 (b + 1, va_up f ((a * 61) + b) (nw_D (fun k => X (i * 60 + k)) I a b)) (⟨by omega, fun p q h => by
            by_cases e : p * 61 + q = a * 61 + b
            · have e1 : p = a := by omega
              have e2 : q = b := by omega
              rw [e1, e2]; exact va_up_self f _ _
            · exact (va_up_ne f _ e).trans (hT p q (by omega))⟩) (show n + 1 - (b + 1) < n + 1 - b by omega) _ _ _ (lv_sub hl [0, 2, 3, 4, 5, 6] rfl) hP hD hS
        · rw [nw_le0 (by omega)] at hc4
          omega

set_option maxHeartbeats 4000000 in
set_option maxRecDepth 100000 in
theorem c_Mod_fits (l : Launch) (dC : Nat → ClassId) (dI : Nat → Nat → Nat) (sz : Nat) (cB cI cZ : ClassId) (hM ai aw ar al aL aD ac af ap an ax isz wn chn rn th : Nat) (I X Ln NO NE : Nat → Nat) (i n : Nat) (hi : i < 1000) (hn : n ≤ 60) (hL : Ln i ≤ 60) (hX : ∀ j, X j < 128) (hI0 : ∀ j, I j < 128) : Met l y_Mod_fits w_Mod_fits ({ frames := 0, cells := 0, slots := 0, locals := 0 }) (nw_Pw [.ref hM, .int (nI i), .int (nI n)] (dC, dI) nw_cls [(cB, .byte), (cI, .int), (cZ, .boolean)] [(hM, .inr (1, [.ref ai, .ref aw, .ref ar, .ref al, .ref aL, .ref aD, .ref ac, .ref af, .ref ap, .ref an, .ref ax, .int (nI isz), .int (nI wn), .int (nI chn), .int (nI rn), .int (nI th)])), (ai, nw_ai cB 60 I), (aw, nw_ai cB 60000 X), (al, nw_ai cI 1000 Ln), (an, nw_ai cZ 61 NO), (ax, nw_ai cZ 61 NE)] sz) (va_Qi (fun (r : Int32) (_ : (Nat → Nat) × (Nat → Nat)) => r = nI ((nw_M I (fun k => X (i * 60 + k)) (Ln i) n).toNat)) (nw_B (dC, dI) nw_cls (va_A [(hM, .inr (1, [.ref ai, .ref aw, .ref ar, .ref al, .ref aL, .ref aD, .ref ac, .ref af, .ref ap, .ref an, .ref ax, .int (nI isz), .int (nI wn), .int (nI chn), .int (nI rn), .int (nI th)])), (ai, nw_ai cB 60 I), (aw, nw_ai cB 60000 X), (al, nw_ai cI 1000 Ln), (an, nw_ai cZ 61 NO), (ax, nw_ai cZ 61 NE)] sz) (fun u => [(hM, .inr (1, [.ref ai, .ref aw, .ref ar, .ref al, .ref aL, .ref aD, .ref ac, .ref af, .ref ap, .ref an, .ref ax, .int (nI isz), .int (nI wn), .int (nI chn), .int (nI rn), .int (nI th)])), (ai, nw_ai cB 60 I), (aw, nw_ai cB 60000 X), (al, nw_ai cI 1000 Ln), (an, nw_ai cZ 61 u.1), (ax, nw_ai cZ 61 u.2)])) (va_A [(hM, .inr (1, [.ref ai, .ref aw, .ref ar, .ref al, .ref aL, .ref aD, .ref ac, .ref af, .ref ap, .ref an, .ref ax, .int (nI isz), .int (nI wn), .int (nI chn), .int (nI rn), .int (nI th)])), (ai, nw_ai cB 60 I), (aw, nw_ai cB 60000 X), (al, nw_ai cI 1000 Ln), (an, nw_ai cZ 61 NO), (ax, nw_ai cZ 61 NE)] sz)) 0 0 (va_A [(hM, .inr (1, [.ref ai, .ref aw, .ref ar, .ref al, .ref aL, .ref aD, .ref ac, .ref af, .ref ap, .ref an, .ref ax, .int (nI isz), .int (nI wn), .int (nI chn), .int (nI rn), .int (nI th)])), (ai, nw_ai cB 60 I), (aw, nw_ai cB 60000 X), (al, nw_ai cI 1000 Ln), (an, nw_ai cZ 61 NO), (ax, nw_ai cZ 61 NE)] sz) := by
  refine Met.ofW (cc := b_Mod_fits) (maxL := 7) (ret := (some .boolean)) (by decide) rfl ?_
  intro p e s m args below meth cd s₁ B hml hv0
  obtain ⟨rfl, hsz, hP, hK, hD0⟩ := hv0
  have hx := B.exec
  have hb := B.bytes
  have hr := B.returns
  have hts := atoms_spec (ws := w_Mod_fits) B.pre
  have hown : s.vm.findClass R_Mod = some m.cls := findClass_of_methodNamed B.named
  have hlocks := B.notSynchronized
  subst hsz
  have hD := hD0.self (sz := s.heap.size)
  generalize hAe : va_A [(hM, .inr (1, [.ref ai, .ref aw, .ref ar, .ref al, .ref aL, .ref aD, .ref ac, .ref af, .ref ap, .ref an, .ref ax, .int (nI isz), .int (nI wn), .int (nI chn), .int (nI rn), .int (nI th)])), (ai, nw_ai cB 60 I), (aw, nw_ai cB 60000 X), (al, nw_ai cI 1000 Ln), (an, nw_ai cZ 61 NO), (ax, nw_ai cZ 61 NE)] s.heap.size = A at hD ⊢
  have hA : ∀ q : Nat, s.heap.size ≤ q → A q := fun q h => by rw [← hAe]; exact Or.inr h
  have hS : va_S A s.heap s.heap [] := va_S.rf
  have hl := lv_entry ([.ref hM, .int (nI i), .int (nI n)]) (n := 7) (Nat.le_of_ble_eq_true rfl)
  rw [lg_entry_eq]
  generalize (lg_sl ([.ref hM, .int (nI i), .int (nI n)]) ++ List.replicate (7 - (lg_sl ([.ref hM, .int (nI i), .int (nI n)])).length) Slot.unset).toArray = ls at hl ⊢
  have hl : lv_has ls 7 [(0, .ref hM), (1, .int (nI i)), (2, .int (nI n))] := hl
  refine lv_aload_n hx hb d_Mod_fits_0 rfl (lv_at hl 0 rfl) ?_
  refine va_get (D := (dC, dI)) (ci := 1) (v := .ref an) (C := R_Mod) (T := F_Mod) (N := 16) hx hb hts hin_Mod hown hK hP 0 rfl rfl 9 (by decide) (hts _ (nw_mc 90 rfl)) (fun _ h9 => h9) rfl d_Mod_fits_1 ?_
  refine lv_iconst (v := nI 0) hx hb d_Mod_fits_4 (by decide) ?_
  refine lv_iconst (v := nI 1) hx hb d_Mod_fits_5 (by decide) ?_
  refine nw_zast hx hb hK hP hD hS 4 2 rfl rfl (k := 0) (v := 1) (by omega) (by first | decide | omega) (by omega) d_Mod_fits_6 (fun H locs hP hD hS => ?_)
  replace hP : va_P (dC, dI) nw_cls [(hM, .inr (1, [.ref ai, .ref aw, .ref ar, .ref al, .ref aL, .ref aD, .ref ac, .ref af, .ref ap, .ref an, .ref ax, .int (nI isz), .int (nI wn), .int (nI chn), .int (nI rn), .int (nI th)])), (ai, nw_ai cB 60 I), (aw, nw_ai cB 60000 X), (al, nw_ai cI 1000 Ln), (an, nw_ai cZ 61 (va_up NO 0 1)), (ax, nw_ai cZ 61 NE)] H := hP
  replace hD : va_D A [(hM, .inr (1, [.ref ai, .ref aw, .ref ar, .ref al, .ref aL, .ref aD, .ref ac, .ref af, .ref ap, .ref an, .ref ax, .int (nI isz), .int (nI wn), .int (nI chn), .int (nI rn), .int (nI th)])), (ai, nw_ai cB 60 I), (aw, nw_ai cB 60000 X), (al, nw_ai cI 1000 Ln), (an, nw_ai cZ 61 (va_up NO 0 1)), (ax, nw_ai cZ 61 NE)] := hD
  refine lv_iconst (v := nI 1) hx hb d_Mod_fits_7 (by decide) ?_
  refine lv_istore_n hx hb d_Mod_fits_8 rfl hl (by decide) rfl (fun ls hl => ?_)
  replace hl : lv_has ls 7 [(3, .int (nI 1)), (0, .ref hM), (1, .int (nI i)), (2, .int (nI n))] := hl
  refine nw_loopW (σ := Nat × (Nat → Nat)) (fun x => match x with | (j, f) => 1 ≤ j ∧ j ≤ n + 1 ∧ ∀ t, t < j → f t = (nw_M I (fun k => X (i * 60 + k)) 0 t).toNat) (fun x => match x with | (j, f) => [(3, .int (nI j)), (0, .ref hM), (1, .int (nI i)), (2, .int (nI n))]) (fun x => match x with | (j, f) => [(hM, .inr (1, [.ref ai, .ref aw, .ref ar, .ref al, .ref aL, .ref aD, .ref ac, .ref af, .ref ap, .ref an, .ref ax, .int (nI isz), .int (nI wn), .int (nI chn), .int (nI rn), .int (nI th)])), (ai, nw_ai cB 60 I), (aw, nw_ai cB 60000 X), (al, nw_ai cI 1000 Ln), (an, nw_ai cZ 61 f), (ax, nw_ai cZ 61 NE)]) (fun x => match x with | (j, f) => n + 1 - j) (fun x hA1 ih1 ls H locs hl hP hD hS => ?_) (1, va_up NO 0 1) (⟨Nat.le_refl _, by omega, fun t h => by rw [show t = 0 by omega, va_up_self, nw_M_00]; rfl⟩) hl hP hD hS
  obtain ⟨j, f⟩ := x
  replace hA1 : 1 ≤ j ∧ j ≤ n + 1 ∧ ∀ t, t < j → f t = (nw_M I (fun k => X (i * 60 + k)) 0 t).toNat := hA1
  replace hl : lv_has ls 7 [(3, .int (nI j)), (0, .ref hM), (1, .int (nI i)), (2, .int (nI n))] := hl
  replace hP : va_P (dC, dI) nw_cls [(hM, .inr (1, [.ref ai, .ref aw, .ref ar, .ref al, .ref aL, .ref aD, .ref ac, .ref af, .ref ap, .ref an, .ref ax, .int (nI isz), .int (nI wn), .int (nI chn), .int (nI rn), .int (nI th)])), (ai, nw_ai cB 60 I), (aw, nw_ai cB 60000 X), (al, nw_ai cI 1000 Ln), (an, nw_ai cZ 61 f), (ax, nw_ai cZ 61 NE)] H := hP
  replace hD : va_D A [(hM, .inr (1, [.ref ai, .ref aw, .ref ar, .ref al, .ref aL, .ref aD, .ref ac, .ref af, .ref ap, .ref an, .ref ax, .int (nI isz), .int (nI wn), .int (nI chn), .int (nI rn), .int (nI th)])), (ai, nw_ai cB 60 I), (aw, nw_ai cB 60000 X), (al, nw_ai cI 1000 Ln), (an, nw_ai cZ 61 f), (ax, nw_ai cZ 61 NE)] := hD
  obtain ⟨hj1, hj2, hT⟩ := hA1
  refine lv_iload_n hx hb d_Mod_fits_9 rfl (lv_at hl 0 rfl) ?_
  refine lv_iload_n hx hb d_Mod_fits_10 rfl (lv_at hl 3 rfl) ?_
  refine lv_icmp_gt hx hb d_Mod_fits_11 (tgt := 55) (by decide) (fun hc1 => ?_) (fun hc1 => ?_)
  · rw [nI_ltI (by omega) (by omega)] at hc1
    refine lv_iconst (v := nI 0) hx hb d_Mod_fits_55 (by decide) ?_
    refine lv_istore_n hx hb d_Mod_fits_56 rfl hl (by decide) rfl (fun ls hl => ?_)
    replace hl : lv_has ls 7 [(3, .int (nI 0)), (0, .ref hM), (1, .int (nI i)), (2, .int (nI n))] := hl
    refine nw_loopW (σ := Nat × (Nat → Nat) × (Nat → Nat)) (fun x => match x with | (a, f, g) => a ≤ Ln i ∧ ∀ t, t ≤ n → f t = (nw_M I (fun k => X (i * 60 + k)) a t).toNat) (fun x => match x with | (a, f, g) => [(3, .int (nI a)), (0, .ref hM), (1, .int (nI i)), (2, .int (nI n))]) (fun x => match x with | (a, f, g) => [(hM, .inr (1, [.ref ai, .ref aw, .ref ar, .ref al, .ref aL, .ref aD, .ref ac, .ref af, .ref ap, .ref an, .ref ax, .int (nI isz), .int (nI wn), .int (nI chn), .int (nI rn), .int (nI th)])), (ai, nw_ai cB 60 I), (aw, nw_ai cB 60000 X), (al, nw_ai cI 1000 Ln), (an, nw_ai cZ 61 f), (ax, nw_ai cZ 61 g)]) (fun x => match x with | (a, f, g) => Ln i - a) (fun x hA2 ih2 ls H locs hl hP hD hS => ?_) (0, f, NE) (⟨Nat.zero_le _, fun t h => hT t (by omega)⟩) hl hP hD hS
    obtain ⟨a, f, g⟩ := x
    replace hA2 : a ≤ Ln i ∧ ∀ t, t ≤ n → f t = (nw_M I (fun k => X (i * 60 + k)) a t).toNat := hA2
    replace hl : lv_has ls 7 [(3, .int (nI a)), (0, .ref hM), (1, .int (nI i)), (2, .int (nI n))] := hl
    replace hP : va_P (dC, dI) nw_cls [(hM, .inr (1, [.ref ai, .ref aw, .ref ar, .ref al, .ref aL, .ref aD, .ref ac, .ref af, .ref ap, .ref an, .ref ax, .int (nI isz), .int (nI wn), .int (nI chn), .int (nI rn), .int (nI th)])), (ai, nw_ai cB 60 I), (aw, nw_ai cB 60000 X), (al, nw_ai cI 1000 Ln), (an, nw_ai cZ 61 f), (ax, nw_ai cZ 61 g)] H := hP
    replace hD : va_D A [(hM, .inr (1, [.ref ai, .ref aw, .ref ar, .ref al, .ref aL, .ref aD, .ref ac, .ref af, .ref ap, .ref an, .ref ax, .int (nI isz), .int (nI wn), .int (nI chn), .int (nI rn), .int (nI th)])), (ai, nw_ai cB 60 I), (aw, nw_ai cB 60000 X), (al, nw_ai cI 1000 Ln), (an, nw_ai cZ 61 f), (ax, nw_ai cZ 61 g)] := hD
    obtain ⟨ha, hF⟩ := hA2
    refine lv_iload_n hx hb d_Mod_fits_57 rfl (lv_at hl 0 rfl) ?_
    refine lv_aload_n hx hb d_Mod_fits_58 rfl (lv_at hl 1 rfl) ?_
    refine va_get (D := (dC, dI)) (ci := 1) (v := .ref al) (C := R_Mod) (T := F_Mod) (N := 16) hx hb hts hin_Mod hown hK hP 0 rfl rfl 3 (by decide) (hts _ (nw_mc 64 rfl)) (fun _ h9 => h9) rfl d_Mod_fits_59 ?_
    refine lv_iload_n hx hb d_Mod_fits_62 rfl (lv_at hl 2 rfl) ?_
    refine nw_iald hx hb hK hP 3 1 rfl rfl (k := i) (by omega) (by first | decide | omega) d_Mod_fits_63 ?_
    refine lv_icmp_ge hx hb d_Mod_fits_64 (tgt := 223) (by decide) (fun hc4 => ?_) (fun hc4 => ?_)
    · rw [nI_leI (by omega) (by omega)] at hc4
      have ha9 : a = Ln i := by omega
      refine lv_aload_n hx hb d_Mod_fits_223 rfl (lv_at hl 1 rfl) ?_
      refine va_get (D := (dC, dI)) (ci := 1) (v := .ref an) (C := R_Mod) (T := F_Mod) (N := 16) hx hb hts hin_Mod hown hK hP 0 rfl rfl 9 (by decide) (hts _ (nw_mc 90 rfl)) (fun _ h9 => h9) rfl d_Mod_fits_224 ?_
      refine lv_iload_n hx hb d_Mod_fits_227 rfl (lv_at hl 3 rfl) ?_
      refine nw_zald hx hb hK hP 4 2 rfl rfl (k := n) (by omega) (by first | decide | omega) d_Mod_fits_228 ?_
      refine nw_ti (y := nI ((nw_M I (fun k => X (i * 60 + k)) (Ln i) n).toNat)) (congrArg nI (by rw [hF n (Nat.le_refl _), ha9])) ?_
      exact W.zret (v := nI ((nw_M I (fun k => X (i * 60 + k)) (Ln i) n).toNat)) hx hb hr (nw_zb _) (fun t ht hW => ⟨⟨_, (f, g), rfl, rfl, by rw [ht]; exact hP, hD⟩, hS.F ht⟩) hS.2.2 d_Mod_fits_229
    · rw [nI_leI (by omega) (by omega)] at hc4
      refine lv_aload_n hx hb d_Mod_fits_67 rfl (lv_at hl 1 rfl) ?_
      refine va_get (D := (dC, dI)) (ci := 1) (v := .ref aw) (C := R_Mod) (T := F_Mod) (N := 16) hx hb hts hin_Mod hown hK hP 0 rfl rfl 1 (by decide) (hts _ (nw_mc 69 rfl)) (fun _ h9 => h9) rfl d_Mod_fits_68 ?_
      refine lv_iload_n hx hb d_Mod_fits_71 rfl (lv_at hl 2 rfl) ?_
      refine lv_bipush (v := nI 60) hx hb d_Mod_fits_72 (by decide) ?_
      refine lv_imul hx hb d_Mod_fits_74 ?_
      refine nw_ti (pk_mul i 60) ?_
      refine lv_iload_n hx hb d_Mod_fits_75 rfl (lv_at hl 0 rfl) ?_
      refine lv_iadd hx hb d_Mod_fits_76 ?_
      refine nw_ti (nI_add (i * 60) a) ?_
      refine nw_bald hx hb hK hP 2 0 rfl rfl (k := ((i * 60) + a)) (by omega) (by first | decide | omega) d_Mod_fits_77 ?_
      refine lv_istore hx hb d_Mod_fits_78 hl (by decide) rfl (fun ls hl => ?_)
      replace hl : lv_has ls 7 [(4, .int (nI (X ((i * 60) + a)))), (3, .int (nI a)), (0, .ref hM), (1, .int (nI i)), (2, .int (nI n))] := hl
      refine lv_aload_n hx hb d_Mod_fits_80 rfl (lv_at hl 2 rfl) ?_
      refine va_get (D := (dC, dI)) (ci := 1) (v := .ref ax) (C := R_Mod) (T := F_Mod) (N := 16) hx hb hts hin_Mod hown hK hP 0 rfl rfl 10 (by decide) (hts _ (nw_mc 91 rfl)) (fun _ h9 => h9) rfl d_Mod_fits_81 ?_
      refine lv_iconst (v := nI 0) hx hb d_Mod_fits_84 (by decide) ?_
      refine lv_iconst (v := nI 0) hx hb d_Mod_fits_85 (by decide) ?_
      refine nw_zast hx hb hK hP hD hS 5 2 rfl rfl (k := 0) (v := 0) (by omega) (by first | decide | omega) (by omega) d_Mod_fits_86 (fun H locs hP hD hS => ?_)
      replace hP : va_P (dC, dI) nw_cls [(hM, .inr (1, [.ref ai, .ref aw, .ref ar, .ref al, .ref aL, .ref aD, .ref ac, .ref af, .ref ap, .ref an, .ref ax, .int (nI isz), .int (nI wn), .int (nI chn), .int (nI rn), .int (nI th)])), (ai, nw_ai cB 60 I), (aw, nw_ai cB 60000 X), (al, nw_ai cI 1000 Ln), (an, nw_ai cZ 61 f), (ax, nw_ai cZ 61 (va_up g 0 0))] H := hP
      replace hD : va_D A [(hM, .inr (1, [.ref ai, .ref aw, .ref ar, .ref al, .ref aL, .ref aD, .ref ac, .ref af, .ref ap, .ref an, .ref ax, .int (nI isz), .int (nI wn), .int (nI chn), .int (nI rn), .int (nI th)])), (ai, nw_ai cB 60 I), (aw, nw_ai cB 60000 X), (al, nw_ai cI 1000 Ln), (an, nw_ai cZ 61 f), (ax, nw_ai cZ 61 (va_up g 0 0))] := hD
      refine lv_iconst (v := nI 1) hx hb d_Mod_fits_87 (by decide) ?_
      refine lv_istore hx hb d_Mod_fits_88 hl (by decide) rfl (fun ls hl => ?_)
      replace hl : lv_has ls 7 [(5, .int (nI 1)), (4, .int (nI (X ((i * 60) + a)))), (3, .int (nI a)), (0, .ref hM), (1, .int (nI i)), (2, .int (nI n))] := hl
      refine nw_loopW (σ := Nat × (Nat → Nat)) (fun x => match x with | (j, g) => 1 ≤ j ∧ j ≤ n + 1 ∧ ∀ t, t < j → g t = (nw_M I (fun k => X (i * 60 + k)) (a + 1) t).toNat) (fun x => match x with | (j, g) => [(5, .int (nI j)), (4, .int (nI (X ((i * 60) + a)))), (3, .int (nI a)), (0, .ref hM), (1, .int (nI i)), (2, .int (nI n))]) (fun x => match x with | (j, g) => [(hM, .inr (1, [.ref ai, .ref aw, .ref ar, .ref al, .ref aL, .ref aD, .ref ac, .ref af, .ref ap, .ref an, .ref ax, .int (nI isz), .int (nI wn), .int (nI chn), .int (nI rn), .int (nI th)])), (ai, nw_ai cB 60 I), (aw, nw_ai cB 60000 X), (al, nw_ai cI 1000 Ln), (an, nw_ai cZ 61 f), (ax, nw_ai cZ 61 g)]) (fun x => match x with | (j, g) => n + 1 - j) (fun x hA3 ih3 ls H locs hl hP hD hS => ?_) (1, va_up g 0 0) (⟨Nat.le_refl _, by omega, fun t h => by rw [show t = 0 by omega, va_up_self, nw_M_s0]; rfl⟩) hl hP hD hS
      obtain ⟨j, g⟩ := x
      replace hA3 : 1 ≤ j ∧ j ≤ n + 1 ∧ ∀ t, t < j → g t = (nw_M I (fun k => X (i * 60 + k)) (a + 1) t).toNat := hA3
      replace hl : lv_has ls 7 [(5, .int (nI j)), (4, .int (nI (X ((i * 60) + a)))), (3, .int (nI a)), (0, .ref hM), (1, .int (nI i)), (2, .int (nI n))] := hl
      replace hP : va_P (dC, dI) nw_cls [(hM, .inr (1, [.ref ai, .ref aw, .ref ar, .ref al, .ref aL, .ref aD, .ref ac, .ref af, .ref ap, .ref an, .ref ax, .int (nI isz), .int (nI wn), .int (nI chn), .int (nI rn), .int (nI th)])), (ai, nw_ai cB 60 I), (aw, nw_ai cB 60000 X), (al, nw_ai cI 1000 Ln), (an, nw_ai cZ 61 f), (ax, nw_ai cZ 61 g)] H := hP
      replace hD : va_D A [(hM, .inr (1, [.ref ai, .ref aw, .ref ar, .ref al, .ref aL, .ref aD, .ref ac, .ref af, .ref ap, .ref an, .ref ax, .int (nI isz), .int (nI wn), .int (nI chn), .int (nI rn), .int (nI th)])), (ai, nw_ai cB 60 I), (aw, nw_ai cB 60000 X), (al, nw_ai cI 1000 Ln), (an, nw_ai cZ 61 f), (ax, nw_ai cZ 61 g)] := hD
      obtain ⟨hj1, hj2, hG⟩ := hA3
      refine lv_iload hx hb d_Mod_fits_90 (lv_at hl 0 rfl) ?_
      refine lv_iload_n hx hb d_Mod_fits_92 rfl (lv_at hl 5 rfl) ?_
      refine lv_icmp_gt hx hb d_Mod_fits_93 (tgt := 188) (by decide) (fun hc5 => ?_) (fun hc5 => ?_)
      · rw [nI_ltI (by omega) (by omega)] at hc5
        refine lv_iconst (v := nI 0) hx hb d_Mod_fits_188 (by decide) ?_
        refine lv_istore hx hb d_Mod_fits_189 hl (by decide) rfl (fun ls hl => ?_)
        replace hl : lv_has ls 7 [(5, .int (nI 0)), (4, .int (nI (X ((i * 60) + a)))), (3, .int (nI a)), (0, .ref hM), (1, .int (nI i)), (2, .int (nI n))] := hl
        refine nw_loopW (σ := Nat × (Nat → Nat)) (fun x => match x with | (j, f) => j ≤ n + 1 ∧ ∀ t, t < j → f t = (nw_M I (fun k => X (i * 60 + k)) (a + 1) t).toNat) (fun x => match x with | (j, f) => [(5, .int (nI j)), (4, .int (nI (X ((i * 60) + a)))), (3, .int (nI a)), (0, .ref hM), (1, .int (nI i)), (2, .int (nI n))]) (fun x => match x with | (j, f) => [(hM, .inr (1, [.ref ai, .ref aw, .ref ar, .ref al, .ref aL, .ref aD, .ref ac, .ref af, .ref ap, .ref an, .ref ax, .int (nI isz), .int (nI wn), .int (nI chn), .int (nI rn), .int (nI th)])), (ai, nw_ai cB 60 I), (aw, nw_ai cB 60000 X), (al, nw_ai cI 1000 Ln), (an, nw_ai cZ 61 f), (ax, nw_ai cZ 61 g)]) (fun x => match x with | (j, f) => n + 1 - j) (fun x hA4 ih4 ls H locs hl hP hD hS => ?_) (0, f) (⟨Nat.zero_le _, fun t h => absurd h (Nat.not_lt_zero t)⟩) hl hP hD hS
        obtain ⟨j, f⟩ := x
        replace hA4 : j ≤ n + 1 ∧ ∀ t, t < j → f t = (nw_M I (fun k => X (i * 60 + k)) (a + 1) t).toNat := hA4
        replace hl : lv_has ls 7 [(5, .int (nI j)), (4, .int (nI (X ((i * 60) + a)))), (3, .int (nI a)), (0, .ref hM), (1, .int (nI i)), (2, .int (nI n))] := hl
        replace hP : va_P (dC, dI) nw_cls [(hM, .inr (1, [.ref ai, .ref aw, .ref ar, .ref al, .ref aL, .ref aD, .ref ac, .ref af, .ref ap, .ref an, .ref ax, .int (nI isz), .int (nI wn), .int (nI chn), .int (nI rn), .int (nI th)])), (ai, nw_ai cB 60 I), (aw, nw_ai cB 60000 X), (al, nw_ai cI 1000 Ln), (an, nw_ai cZ 61 f), (ax, nw_ai cZ 61 g)] H := hP
        replace hD : va_D A [(hM, .inr (1, [.ref ai, .ref aw, .ref ar, .ref al, .ref aL, .ref aD, .ref ac, .ref af, .ref ap, .ref an, .ref ax, .int (nI isz), .int (nI wn), .int (nI chn), .int (nI rn), .int (nI th)])), (ai, nw_ai cB 60 I), (aw, nw_ai cB 60000 X), (al, nw_ai cI 1000 Ln), (an, nw_ai cZ 61 f), (ax, nw_ai cZ 61 g)] := hD
        obtain ⟨hj3, hF2⟩ := hA4
        refine lv_iload hx hb d_Mod_fits_191 (lv_at hl 0 rfl) ?_
        refine lv_iload_n hx hb d_Mod_fits_193 rfl (lv_at hl 5 rfl) ?_
        refine lv_icmp_gt hx hb d_Mod_fits_194 (tgt := 217) (by decide) (fun hc7 => ?_) (fun hc7 => ?_)
        · rw [nI_ltI (by omega) (by omega)] at hc7
          refine lv_iinc (v := nI (a + 1)) hx hb d_Mod_fits_217 hl (k := 2) rfl (nI_add a 1) (by decide) rfl (fun ls hl => ?_)
          have hl : lv_has ls 7 [(3, .int (nI (a + 1))), (5, .int (nI j)), (4, .int (nI (X ((i * 60) + a)))), (0, .ref hM), (1, .int (nI i)), (2, .int (nI n))] := hl
          refine lv_goto hx hb d_Mod_fits_220 (tgt := 57) (by decide) ?_
          exact ih2 (a + 1, f, g) (⟨by omega, fun t h => hF2 t (by omega)⟩) (show Ln i - (a + 1) < Ln i - a by omega) _ _ _ (lv_sub hl [0, 3, 4, 5] rfl) hP hD hS
        · rw [nI_ltI (by omega) (by omega)] at hc7
          have hg1 := hG j (by omega)
          have z9 := nw_b2 (nw_M I (fun k => X (i * 60 + k)) (a + 1) j)
          refine lv_aload_n hx hb d_Mod_fits_197 rfl (lv_at hl 3 rfl) ?_
          refine va_get (D := (dC, dI)) (ci := 1) (v := .ref an) (C := R_Mod) (T := F_Mod) (N := 16) hx hb hts hin_Mod hown hK hP 0 rfl rfl 9 (by decide) (hts _ (nw_mc 90 rfl)) (fun _ h9 => h9) rfl d_Mod_fits_198 ?_
          refine lv_iload hx hb d_Mod_fits_201 (lv_at hl 0 rfl) ?_
          refine lv_aload_n hx hb d_Mod_fits_203 rfl (lv_at hl 3 rfl) ?_
          refine va_get (D := (dC, dI)) (ci := 1) (v := .ref ax) (C := R_Mod) (T := F_Mod) (N := 16) hx hb hts hin_Mod hown hK hP 0 rfl rfl 10 (by decide) (hts _ (nw_mc 91 rfl)) (fun _ h9 => h9) rfl d_Mod_fits_204 ?_
          refine lv_iload hx hb d_Mod_fits_207 (lv_at hl 0 rfl) ?_
          refine nw_zald hx hb hK hP 5 2 rfl rfl (k := j) (by omega) (by first | decide | omega) d_Mod_fits_209 ?_
          refine nw_zast hx hb hK hP hD hS 4 2 rfl rfl (k := j) (v := (g j)) (by omega) (by first | decide | omega) (by omega) d_Mod_fits_210 (fun H locs hP hD hS => ?_)
          replace hP : va_P (dC, dI) nw_cls [(hM, .inr (1, [.ref ai, .ref aw, .ref ar, .ref al, .ref aL, .ref aD, .ref ac, .ref af, .ref ap, .ref an, .ref ax, .int (nI isz), .int (nI wn), .int (nI chn), .int (nI rn), .int (nI th)])), (ai, nw_ai cB 60 I), (aw, nw_ai cB 60000 X), (al, nw_ai cI 1000 Ln), (an, nw_ai cZ 61 (va_up f j (g j))), (ax, nw_ai cZ 61 g)] H := hP
          replace hD : va_D A [(hM, .inr (1, [.ref ai, .ref aw, .ref ar, .ref al, .ref aL, .ref aD, .ref ac, .ref af, .ref ap, .ref an, .ref ax, .int (nI isz), .int (nI wn), .int (nI chn), .int (nI rn), .int (nI th)])), (ai, nw_ai cB 60 I), (aw, nw_ai cB 60000 X), (al, nw_ai cI 1000 Ln), (an, nw_ai cZ 61 (va_up f j (g j))), (ax, nw_ai cZ 61 g)] := hD
          refine lv_iinc (v := nI (j + 1)) hx hb d_Mod_fits_211 hl (k := 0) rfl (nI_add j 1) (by decide) rfl (fun ls hl => ?_)
          have hl : lv_has ls 7 [(5, .int (nI (j + 1))), (4, .int (nI (X ((i * 60) + a)))), (3, .int (nI a)), (0, .ref hM), (1, .int (nI i)), (2, .int (nI n))] := hl
          refine lv_goto hx hb d_Mod_fits_214 (tgt := 191) (by decide) ?_
          exact ih4 (j + 1, va_up f j (g j)) (⟨by omega, fun t h => by
            by_cases e : t = j
            · rw [e]; exact (va_up_self f _ _).trans hg1
            · exact (va_up_ne f _ e).trans (hF2 t (by omega))⟩) (show n + 1 - (j + 1) < n + 1 - j by omega) _ _ _ hl hP hD hS
      · rw [nI_ltI (by omega) (by omega)] at hc5
        refine lv_aload_n hx hb d_Mod_fits_96 rfl (lv_at hl 3 rfl) ?_
        refine va_get (D := (dC, dI)) (ci := 1) (v := .ref ai) (C := R_Mod) (T := F_Mod) (N := 16) hx hb hts hin_Mod hown hK hP 0 rfl rfl 0 (by decide) (hts _ (nw_mc 70 rfl)) (fun _ h9 => h9) rfl d_Mod_fits_97 ?_
        refine lv_iload hx hb d_Mod_fits_100 (lv_at hl 0 rfl) ?_
        refine lv_iconst (v := nI 1) hx hb d_Mod_fits_102 (by decide) ?_
        refine lv_isub hx hb d_Mod_fits_103 ?_
        refine nw_ti (pk_sub (a := j) (b := 1) (by omega)) ?_
        have y1 := hI0 (j - 1)
        have x1 := hX (i * 60 + a)
        have z1 := nw_b2 (nw_M I (fun k => X (i * 60 + k)) (a + 1) (j - 1))
        have z2 := nw_b2 (nw_M I (fun k => X (i * 60 + k)) a j)
        have z3 := nw_b2 (nw_M I (fun k => X (i * 60 + k)) a (j - 1))
        refine nw_bald hx hb hK hP 1 0 rfl rfl (k := (j - 1)) (by omega) (by first | decide | omega) d_Mod_fits_104 ?_
        refine lv_istore hx hb d_Mod_fits_105 hl (by decide) rfl (fun ls hl => ?_)
        replace hl : lv_has ls 7 [(6, .int (nI (I (j - 1)))), (5, .int (nI j)), (4, .int (nI (X ((i * 60) + a)))), (3, .int (nI a)), (0, .ref hM), (1, .int (nI i)), (2, .int (nI n))] := hl
        refine lv_aload_n hx hb d_Mod_fits_107 rfl (lv_at hl 4 rfl) ?_
        refine va_get (D := (dC, dI)) (ci := 1) (v := .ref ax) (C := R_Mod) (T := F_Mod) (N := 16) hx hb hts hin_Mod hown hK hP 0 rfl rfl 10 (by decide) (hts _ (nw_mc 91 rfl)) (fun _ h9 => h9) rfl d_Mod_fits_108 ?_
        refine lv_iload hx hb d_Mod_fits_111 (lv_at hl 1 rfl) ?_
        refine lv_iload hx hb d_Mod_fits_113 (lv_at hl 0 rfl) ?_
        refine lv_bipush (v := nI 42) hx hb d_Mod_fits_115 (by decide) ?_
        refine lv_icmp_ne hx hb d_Mod_fits_117 (tgt := 150) (by decide) (fun hc6 => ?_) (fun hc6 => ?_)
        · rw [nI_eq (by omega) (by omega)] at hc6
          refine lv_aload_n hx hb d_Mod_fits_150 rfl (lv_at hl 4 rfl) ?_
          refine va_get (D := (dC, dI)) (ci := 1) (v := .ref an) (C := R_Mod) (T := F_Mod) (N := 16) hx hb hts hin_Mod hown hK hP 0 rfl rfl 9 (by decide) (hts _ (nw_mc 90 rfl)) (fun _ h9 => h9) rfl d_Mod_fits_151 ?_
          refine lv_iload hx hb d_Mod_fits_154 (lv_at hl 1 rfl) ?_
          refine lv_iconst (v := nI 1) hx hb d_Mod_fits_156 (by decide) ?_
          refine lv_isub hx hb d_Mod_fits_157 ?_
          refine nw_ti (pk_sub (a := j) (b := 1) (by omega)) ?_
          refine nw_zald hx hb hK hP 4 2 rfl rfl (k := (j - 1)) (by omega) (by first | decide | omega) d_Mod_fits_158 ?_
          refine nw_ti (y := nI ((nw_M I (fun k => X (i * 60 + k)) a (j - 1)).toNat)) (congrArg nI (hF _ (by omega))) ?_
          refine lv_if_eq hx hb d_Mod_fits_159 (tgt := 180) (by decide) (fun hc7 => ?_) (fun hc7 => ?_)
          · rw [nw_eq0 (by omega)] at hc7
            refine lv_iconst (v := nI 0) hx hb d_Mod_fits_180 (by decide) ?_
            refine nw_ti (y := nI ((nw_M I (fun k => X (i * 60 + k)) (a + 1) j).toNat)) (congrArg nI (by rw [nw_M_rn (by omega) hc6, nw_bf.mp hc7]; rfl)) ?_
            have z9 := nw_b2 (nw_M I (fun k => X (i * 60 + k)) (a + 1) j)
            refine nw_zast hx hb hK hP hD hS 5 2 rfl rfl (k := j) (v := ((nw_M I (fun k => X (i * 60 + k)) (a + 1) j).toNat)) (by omega) (by first | decide | omega) (by omega) d_Mod_fits_181 (fun H locs hP hD hS => ?_)
            replace hP : va_P (dC, dI) nw_cls [(hM, .inr (1, [.ref ai, .ref aw, .ref ar, .ref al, .ref aL, .ref aD, .ref ac, .ref af, .ref ap, .ref an, .ref ax, .int (nI isz), .int (nI wn), .int (nI chn), .int (nI rn), .int (nI th)])), (ai, nw_ai cB 60 I), (aw, nw_ai cB 60000 X), (al, nw_ai cI 1000 Ln), (an, nw_ai cZ 61 f), (ax, nw_ai cZ 61 (va_up g j ((nw_M I (fun k => X (i * 60 + k)) (a + 1) j).toNat)))] H := hP
            replace hD : va_D A [(hM, .inr (1, [.ref ai, .ref aw, .ref ar, .ref al, .ref aL, .ref aD, .ref ac, .ref af, .ref ap, .ref an, .ref ax, .int (nI isz), .int (nI wn), .int (nI chn), .int (nI rn), .int (nI th)])), (ai, nw_ai cB 60 I), (aw, nw_ai cB 60000 X), (al, nw_ai cI 1000 Ln), (an, nw_ai cZ 61 f), (ax, nw_ai cZ 61 (va_up g j ((nw_M I (fun k => X (i * 60 + k)) (a + 1) j).toNat)))] := hD
            refine lv_iinc (v := nI (j + 1)) hx hb d_Mod_fits_182 hl (k := 1) rfl (nI_add j 1) (by decide) rfl (fun ls hl => ?_)
            have hl : lv_has ls 7 [(5, .int (nI (j + 1))), (6, .int (nI (I (j - 1)))), (4, .int (nI (X ((i * 60) + a)))), (3, .int (nI a)), (0, .ref hM), (1, .int (nI i)), (2, .int (nI n))] := hl
            refine lv_goto hx hb d_Mod_fits_185 (tgt := 90) (by decide) ?_
            exact ih3 (j + 1, va_up g j ((nw_M I (fun k => X (i * 60 + k)) (a + 1) j).toNat)) (⟨by omega, by omega, fun t h => by
              by_cases e : t = j
              · rw [e]; exact va_up_self g _ _
              · exact (va_up_ne g _ e).trans (hG t (by omega))⟩) (show n + 1 - (j + 1) < n + 1 - j by omega) _ _ _ (lv_sub hl [0, 2, 3, 4, 5, 6] rfl) hP hD hS
          · rw [nw_eq0 (by omega)] at hc7
            refine lv_iload hx hb d_Mod_fits_162 (lv_at hl 0 rfl) ?_
            refine lv_bipush (v := nI 63) hx hb d_Mod_fits_164 (by decide) ?_
            refine lv_icmp_eq hx hb d_Mod_fits_166 (tgt := 176) (by decide) (fun hc8 => ?_) (fun hc8 => ?_)
            · rw [nI_eq (by omega) (by omega)] at hc8
              refine lv_iconst (v := nI 1) hx hb d_Mod_fits_176 (by decide) ?_
              refine lv_goto hx hb d_Mod_fits_177 (tgt := 181) (by decide) ?_
              refine nw_ti (y := nI ((nw_M I (fun k => X (i * 60 + k)) (a + 1) j).toNat)) (congrArg nI (by rw [nw_M_rn (by omega) hc6, nw_bt.mp hc7, decide_eq_true hc8]; rfl)) ?_
              have z9 := nw_b2 (nw_M I (fun k => X (i * 60 + k)) (a + 1) j)
              refine nw_zast hx hb hK hP hD hS 5 2 rfl rfl (k := j) (v := ((nw_M I (fun k => X (i * 60 + k)) (a + 1) j).toNat)) (by omega) (by first | decide | omega) (by omega) d_Mod_fits_181 (fun H locs hP hD hS => ?_)
              replace hP : va_P (dC, dI) nw_cls [(hM, .inr (1, [.ref ai, .ref aw, .ref ar, .ref al, .ref aL, .ref aD, .ref ac, .ref af, .ref ap, .ref an, .ref ax, .int (nI isz), .int (nI wn), .int (nI chn), .int (nI rn), .int (nI th)])), (ai, nw_ai cB 60 I), (aw, nw_ai cB 60000 X), (al, nw_ai cI 1000 Ln), (an, nw_ai cZ 61 f), (ax, nw_ai cZ 61 (va_up g j ((nw_M I (fun k => X (i * 60 + k)) (a + 1) j).toNat)))] H := hP
              replace hD : va_D A [(hM, .inr (1, [.ref ai, .ref aw, .ref ar, .ref al, .ref aL, .ref aD, .ref ac, .ref af, .ref ap, .ref an, .ref ax, .int (nI isz), .int (nI wn), .int (nI chn), .int (nI rn), .int (nI th)])), (ai, nw_ai cB 60 I), (aw, nw_ai cB 60000 X), (al, nw_ai cI 1000 Ln), (an, nw_ai cZ 61 f), (ax, nw_ai cZ 61 (va_up g j ((nw_M I (fun k => X (i * 60 + k)) (a + 1) j).toNat)))] := hD
              refine lv_iinc (v := nI (j + 1)) hx hb d_Mod_fits_182 hl (k := 1) rfl (nI_add j 1) (by decide) rfl (fun ls hl => ?_)
              have hl : lv_has ls 7 [(5, .int (nI (j + 1))), (6, .int (nI (I (j - 1)))), (4, .int (nI (X ((i * 60) + a)))), (3, .int (nI a)), (0, .ref hM), (1, .int (nI i)), (2, .int (nI n))] := hl
              refine lv_goto hx hb d_Mod_fits_185 (tgt := 90) (by decide) ?_
              exact ih3 (j + 1, va_up g j ((nw_M I (fun k => X (i * 60 + k)) (a + 1) j).toNat)) (⟨by omega, by omega, fun t h => by
                by_cases e : t = j
                · rw [e]; exact va_up_self g _ _
                · exact (va_up_ne g _ e).trans (hG t (by omega))⟩) (show n + 1 - (j + 1) < n + 1 - j by omega) _ _ _ (lv_sub hl [0, 2, 3, 4, 5, 6] rfl) hP hD hS
            · rw [nI_eq (by omega) (by omega)] at hc8
              refine lv_iload hx hb d_Mod_fits_169 (lv_at hl 0 rfl) ?_
              refine lv_iload hx hb d_Mod_fits_171 (lv_at hl 2 rfl) ?_
              refine lv_icmp_ne hx hb d_Mod_fits_173 (tgt := 180) (by decide) (fun hc9 => ?_) (fun hc9 => ?_)
              · rw [nI_eq (by omega) (by omega)] at hc9
                refine lv_iconst (v := nI 0) hx hb d_Mod_fits_180 (by decide) ?_
                refine nw_ti (y := nI ((nw_M I (fun k => X (i * 60 + k)) (a + 1) j).toNat)) (congrArg nI (by rw [nw_M_rn (by omega) hc6, nw_bt.mp hc7, decide_eq_false hc8, decide_eq_false hc9]; rfl)) ?_
                have z9 := nw_b2 (nw_M I (fun k => X (i * 60 + k)) (a + 1) j)
                refine nw_zast hx hb hK hP hD hS 5 2 rfl rfl (k := j) (v := ((nw_M I (fun k => X (i * 60 + k)) (a + 1) j).toNat)) (by omega) (by first | decide | omega) (by omega) d_Mod_fits_181 (fun H locs hP hD hS => ?_)
                replace hP : va_P (dC, dI) nw_cls [(hM, .inr (1, [.ref ai, .ref aw, .ref ar, .ref al, .ref aL, .ref aD, .ref ac, .ref af, .ref ap, .ref an, .ref ax, .int (nI isz), .int (nI wn), .int (nI chn), .int (nI rn), .int (nI th)])), (ai, nw_ai cB 60 I), (aw, nw_ai cB 60000 X), (al, nw_ai cI 1000 Ln), (an, nw_ai cZ 61 f), (ax, nw_ai cZ 61 (va_up g j ((nw_M I (fun k => X (i * 60 + k)) (a + 1) j).toNat)))] H := hP
                replace hD : va_D A [(hM, .inr (1, [.ref ai, .ref aw, .ref ar, .ref al, .ref aL, .ref aD, .ref ac, .ref af, .ref ap, .ref an, .ref ax, .int (nI isz), .int (nI wn), .int (nI chn), .int (nI rn), .int (nI th)])), (ai, nw_ai cB 60 I), (aw, nw_ai cB 60000 X), (al, nw_ai cI 1000 Ln), (an, nw_ai cZ 61 f), (ax, nw_ai cZ 61 (va_up g j ((nw_M I (fun k => X (i * 60 + k)) (a + 1) j).toNat)))] := hD
                refine lv_iinc (v := nI (j + 1)) hx hb d_Mod_fits_182 hl (k := 1) rfl (nI_add j 1) (by decide) rfl (fun ls hl => ?_)
                have hl : lv_has ls 7 [(5, .int (nI (j + 1))), (6, .int (nI (I (j - 1)))), (4, .int (nI (X ((i * 60) + a)))), (3, .int (nI a)), (0, .ref hM), (1, .int (nI i)), (2, .int (nI n))] := hl
                refine lv_goto hx hb d_Mod_fits_185 (tgt := 90) (by decide) ?_
                exact ih3 (j + 1, va_up g j ((nw_M I (fun k => X (i * 60 + k)) (a + 1) j).toNat)) (⟨by omega, by omega, fun t h => by
                  by_cases e : t = j
                  · rw [e]; exact va_up_self g _ _
                  · exact (va_up_ne g _ e).trans (hG t (by omega))⟩) (show n + 1 - (j + 1) < n + 1 - j by omega) _ _ _ (lv_sub hl [0, 2, 3, 4, 5, 6] rfl) hP hD hS
              · rw [nI_eq (by omega) (by omega)] at hc9
                refine lv_iconst (v := nI 1) hx hb d_Mod_fits_176 (by decide) ?_
                refine lv_goto hx hb d_Mod_fits_177 (tgt := 181) (by decide) ?_
                refine nw_ti (y := nI ((nw_M I (fun k => X (i * 60 + k)) (a + 1) j).toNat)) (congrArg nI (by rw [nw_M_rn (by omega) hc6, nw_bt.mp hc7, decide_eq_false hc8, decide_eq_true hc9]; rfl)) ?_
                have z9 := nw_b2 (nw_M I (fun k => X (i * 60 + k)) (a + 1) j)
                refine nw_zast hx hb hK hP hD hS 5 2 rfl rfl (k := j) (v := ((nw_M I (fun k => X (i * 60 + k)) (a + 1) j).toNat)) (by omega) (by first | decide | omega) (by omega) d_Mod_fits_181 (fun H locs hP hD hS => ?_)
                replace hP : va_P (dC, dI) nw_cls [(hM, .inr (1, [.ref ai, .ref aw, .ref ar, .ref al, .ref aL, .ref aD, .ref ac, .ref af, .ref ap, .ref an, .ref ax, .int (nI isz), .int (nI wn), .int (nI chn), .int (nI rn), .int (nI th)])), (ai, nw_ai cB 60 I), (aw, nw_ai cB 60000 X), (al, nw_ai cI 1000 Ln), (an, nw_ai cZ 61 f), (ax, nw_ai cZ 61 (va_up g j ((nw_M I (fun k => X (i * 60 + k)) (a + 1) j).toNat)))] H := hP
                replace hD : va_D A [(hM, .inr (1, [.ref ai, .ref aw, .ref ar, .ref al, .ref aL, .ref aD, .ref ac, .ref af, .ref ap, .ref an, .ref ax, .int (nI isz), .int (nI wn), .int (nI chn), .int (nI rn), .int (nI th)])), (ai, nw_ai cB 60 I), (aw, nw_ai cB 60000 X), (al, nw_ai cI 1000 Ln), (an, nw_ai cZ 61 f), (ax, nw_ai cZ 61 (va_up g j ((nw_M I (fun k => X (i * 60 + k)) (a + 1) j).toNat)))] := hD
                refine lv_iinc (v := nI (j + 1)) hx hb d_Mod_fits_182 hl (k := 1) rfl (nI_add j 1) (by decide) rfl (fun ls hl => ?_)
                have hl : lv_has ls 7 [(5, .int (nI (j + 1))), (6, .int (nI (I (j - 1)))), (4, .int (nI (X ((i * 60) + a)))), (3, .int (nI a)), (0, .ref hM), (1, .int (nI i)), (2, .int (nI n))] := hl
                refine lv_goto hx hb d_Mod_fits_185 (tgt := 90) (by decide) ?_
                exact ih3 (j + 1, va_up g j ((nw_M I (fun k => X (i * 60 + k)) (a + 1) j).toNat)) (⟨by omega, by omega, fun t h => by
                  by_cases e : t = j
                  · rw [e]; exact va_up_self g _ _
                  · exact (va_up_ne g _ e).trans (hG t (by omega))⟩) (show n + 1 - (j + 1) < n + 1 - j by omega) _ _ _ (lv_sub hl [0, 2, 3, 4, 5, 6] rfl) hP hD hS
        · rw [nI_eq (by omega) (by omega)] at hc6
          refine lv_aload_n hx hb d_Mod_fits_120 rfl (lv_at hl 4 rfl) ?_
          refine va_get (D := (dC, dI)) (ci := 1) (v := .ref ax) (C := R_Mod) (T := F_Mod) (N := 16) hx hb hts hin_Mod hown hK hP 0 rfl rfl 10 (by decide) (hts _ (nw_mc 91 rfl)) (fun _ h9 => h9) rfl d_Mod_fits_121 ?_
          refine lv_iload hx hb d_Mod_fits_124 (lv_at hl 1 rfl) ?_
          refine lv_iconst (v := nI 1) hx hb d_Mod_fits_126 (by decide) ?_
          refine lv_isub hx hb d_Mod_fits_127 ?_
          refine nw_ti (pk_sub (a := j) (b := 1) (by omega)) ?_
          refine nw_zald hx hb hK hP 5 2 rfl rfl (k := (j - 1)) (by omega) (by first | decide | omega) d_Mod_fits_128 ?_
          refine nw_ti (y := nI ((nw_M I (fun k => X (i * 60 + k)) (a + 1) (j - 1)).toNat)) (congrArg nI (hG _ (by omega))) ?_
          refine lv_if_ne hx hb d_Mod_fits_129 (tgt := 142) (by decide) (fun hc7 => ?_) (fun hc7 => ?_)
          · rw [nw_eq0 (by omega)] at hc7
            refine lv_iconst (v := nI 1) hx hb d_Mod_fits_142 (by decide) ?_
            refine lv_goto hx hb d_Mod_fits_143 (tgt := 181) (by decide) ?_
            refine nw_ti (y := nI ((nw_M I (fun k => X (i * 60 + k)) (a + 1) j).toNat)) (congrArg nI (by rw [nw_M_rs (by omega) hc6, nw_bt.mp hc7]; rfl)) ?_
            have z9 := nw_b2 (nw_M I (fun k => X (i * 60 + k)) (a + 1) j)
            refine nw_zast hx hb hK hP hD hS 5 2 rfl rfl (k := j) (v := ((nw_M I (fun k => X (i * 60 + k)) (a + 1) j).toNat)) (by omega) (by first | decide | omega) (by omega) d_Mod_fits_181 (fun H locs hP hD hS => ?_)
            replace hP : va_P (dC, dI) nw_cls [(hM, .inr (1, [.ref ai, .ref aw, .ref ar, .ref al, .ref aL, .ref aD, .ref ac, .ref af, .ref ap, .ref an, .ref ax, .int (nI isz), .int (nI wn), .int (nI chn), .int (nI rn), .int (nI th)])), (ai, nw_ai cB 60 I), (aw, nw_ai cB 60000 X), (al, nw_ai cI 1000 Ln), (an, nw_ai cZ 61 f), (ax, nw_ai cZ 61 (va_up g j ((nw_M I (fun k => X (i * 60 + k)) (a + 1) j).toNat)))] H := hP
            replace hD : va_D A [(hM, .inr (1, [.ref ai, .ref aw, .ref ar, .ref al, .ref aL, .ref aD, .ref ac, .ref af, .ref ap, .ref an, .ref ax, .int (nI isz), .int (nI wn), .int (nI chn), .int (nI rn), .int (nI th)])), (ai, nw_ai cB 60 I), (aw, nw_ai cB 60000 X), (al, nw_ai cI 1000 Ln), (an, nw_ai cZ 61 f), (ax, nw_ai cZ 61 (va_up g j ((nw_M I (fun k => X (i * 60 + k)) (a + 1) j).toNat)))] := hD
            refine lv_iinc (v := nI (j + 1)) hx hb d_Mod_fits_182 hl (k := 1) rfl (nI_add j 1) (by decide) rfl (fun ls hl => ?_)
            have hl : lv_has ls 7 [(5, .int (nI (j + 1))), (6, .int (nI (I (j - 1)))), (4, .int (nI (X ((i * 60) + a)))), (3, .int (nI a)), (0, .ref hM), (1, .int (nI i)), (2, .int (nI n))] := hl
            refine lv_goto hx hb d_Mod_fits_185 (tgt := 90) (by decide) ?_
            exact ih3 (j + 1, va_up g j ((nw_M I (fun k => X (i * 60 + k)) (a + 1) j).toNat)) (⟨by omega, by omega, fun t h => by
              by_cases e : t = j
              · rw [e]; exact va_up_self g _ _
              · exact (va_up_ne g _ e).trans (hG t (by omega))⟩) (show n + 1 - (j + 1) < n + 1 - j by omega) _ _ _ (lv_sub hl [0, 2, 3, 4, 5, 6] rfl) hP hD hS
          · rw [nw_eq0 (by omega)] at hc7
            refine lv_aload_n hx hb d_Mod_fits_132 rfl (lv_at hl 4 rfl) ?_
            refine va_get (D := (dC, dI)) (ci := 1) (v := .ref an) (C := R_Mod) (T := F_Mod) (N := 16) hx hb hts hin_Mod hown hK hP 0 rfl rfl 9 (by decide) (hts _ (nw_mc 90 rfl)) (fun _ h9 => h9) rfl d_Mod_fits_133 ?_
            refine lv_iload hx hb d_Mod_fits_136 (lv_at hl 1 rfl) ?_
            refine nw_zald hx hb hK hP 4 2 rfl rfl (k := j) (by omega) (by first | decide | omega) d_Mod_fits_138 ?_
            refine nw_ti (y := nI ((nw_M I (fun k => X (i * 60 + k)) a j).toNat)) (congrArg nI (hF _ (by omega))) ?_
            refine lv_if_eq hx hb d_Mod_fits_139 (tgt := 146) (by decide) (fun hc8 => ?_) (fun hc8 => ?_)
            · rw [nw_eq0 (by omega)] at hc8
              refine lv_iconst (v := nI 0) hx hb d_Mod_fits_146 (by decide) ?_
              refine lv_goto hx hb d_Mod_fits_147 (tgt := 181) (by decide) ?_
              refine nw_ti (y := nI ((nw_M I (fun k => X (i * 60 + k)) (a + 1) j).toNat)) (congrArg nI (by rw [nw_M_rs (by omega) hc6, nw_bf.mp hc7, nw_bf.mp hc8]; rfl)) ?_
              have z9 := nw_b2 (nw_M I (fun k => X (i * 60 + k)) (a + 1) j)
              refine nw_zast hx hb hK hP hD hS 5 2 rfl rfl (k := j) (v := ((nw_M I (fun k => X (i * 60 + k)) (a + 1) j).toNat)) (by omega) (by first | decide | omega) (by omega) d_Mod_fits_181 (fun H locs hP hD hS => ?_)
              replace hP : va_P (dC, dI) nw_cls [(hM, .inr (1, [.ref ai, .ref aw, .ref ar, .ref al, .ref aL, .ref aD, .ref ac, .ref af, .ref ap, .ref an, .ref ax, .int (nI isz), .int (nI wn), .int (nI chn), .int (nI rn), .int (nI th)])), (ai, nw_ai cB 60 I), (aw, nw_ai cB 60000 X), (al, nw_ai cI 1000 Ln), (an, nw_ai cZ 61 f), (ax, nw_ai cZ 61 (va_up g j ((nw_M I (fun k => X (i * 60 + k)) (a + 1) j).toNat)))] H := hP
              replace hD : va_D A [(hM, .inr (1, [.ref ai, .ref aw, .ref ar, .ref al, .ref aL, .ref aD, .ref ac, .ref af, .ref ap, .ref an, .ref ax, .int (nI isz), .int (nI wn), .int (nI chn), .int (nI rn), .int (nI th)])), (ai, nw_ai cB 60 I), (aw, nw_ai cB 60000 X), (al, nw_ai cI 1000 Ln), (an, nw_ai cZ 61 f), (ax, nw_ai cZ 61 (va_up g j ((nw_M I (fun k => X (i * 60 + k)) (a + 1) j).toNat)))] := hD
              refine lv_iinc (v := nI (j + 1)) hx hb d_Mod_fits_182 hl (k := 1) rfl (nI_add j 1) (by decide) rfl (fun ls hl => ?_)
              have hl : lv_has ls 7 [(5, .int (nI (j + 1))), (6, .int (nI (I (j - 1)))), (4, .int (nI (X ((i * 60) + a)))), (3, .int (nI a)), (0, .ref hM), (1, .int (nI i)), (2, .int (nI n))] := hl
              refine lv_goto hx hb d_Mod_fits_185 (tgt := 90) (by decide) ?_
              exact ih3 (j + 1, va_up g j ((nw_M I (fun k => X (i * 60 + k)) (a + 1) j).toNat)) (⟨by omega, by omega, fun t h => by
                by_cases e : t = j
                · rw [e]; exact va_up_self g _ _
                · exact (va_up_ne g _ e).trans (hG t (by omega))⟩) (show n + 1 - (j + 1) < n + 1 - j by omega) _ _ _ (lv_sub hl [0, 2, 3, 4, 5, 6] rfl) hP hD hS
            · rw [nw_eq0 (by omega)] at hc8
              refine lv_iconst (v := nI 1) hx hb d_Mod_fits_142 (by decide) ?_
              refine lv_goto hx hb d_Mod_fits_143 (tgt := 181) (by decide) ?_
              refine nw_ti (y := nI ((nw_M I (fun k => X (i * 60 + k)) (a + 1) j).toNat)) (congrArg nI (by rw [nw_M_rs (by omega) hc6, nw_bf.mp hc7, nw_bt.mp hc8]; rfl)) ?_
              have z9 := nw_b2 (nw_M I (fun k => X (i * 60 + k)) (a + 1) j)
              refine nw_zast hx hb hK hP hD hS 5 2 rfl rfl (k := j) (v := ((nw_M I (fun k => X (i * 60 + k)) (a + 1) j).toNat)) (by omega) (by first | decide | omega) (by omega) d_Mod_fits_181 (fun H locs hP hD hS => ?_)
              replace hP : va_P (dC, dI) nw_cls [(hM, .inr (1, [.ref ai, .ref aw, .ref ar, .ref al, .ref aL, .ref aD, .ref ac, .ref af, .ref ap, .ref an, .ref ax, .int (nI isz), .int (nI wn), .int (nI chn), .int (nI rn), .int (nI th)])), (ai, nw_ai cB 60 I), (aw, nw_ai cB 60000 X), (al, nw_ai cI 1000 Ln), (an, nw_ai cZ 61 f), (ax, nw_ai cZ 61 (va_up g j ((nw_M I (fun k => X (i * 60 + k)) (a + 1) j).toNat)))] H := hP
              replace hD : va_D A [(hM, .inr (1, [.ref ai, .ref aw, .ref ar, .ref al, .ref aL, .ref aD, .ref ac, .ref af, .ref ap, .ref an, .ref ax, .int (nI isz), .int (nI wn), .int (nI chn), .int (nI rn), .int (nI th)])), (ai, nw_ai cB 60 I), (aw, nw_ai cB 60000 X), (al, nw_ai cI 1000 Ln), (an, nw_ai cZ 61 f), (ax, nw_ai cZ 61 (va_up g j ((nw_M I (fun k => X (i * 60 + k)) (a + 1) j).toNat)))] := hD
              refine lv_iinc (v := nI (j + 1)) hx hb d_Mod_fits_182 hl (k := 1) rfl (nI_add j 1) (by decide) rfl (fun ls hl => ?_)
              have hl : lv_has ls 7 [(5, .int (nI (j + 1))), (6, .int (nI (I (j - 1)))), (4, .int (nI (X ((i * 60) + a)))), (3, .int (nI a)), (0, .ref hM), (1, .int (nI i)), (2, .int (nI n))] := hl
              refine lv_goto hx hb d_Mod_fits_185 (tgt := 90) (by decide) ?_
              exact ih3 (j + 1, va_up g j ((nw_M I (fun k => X (i * 60 + k)) (a + 1) j).toNat)) (⟨by omega, by omega, fun t h => by
                by_cases e : t = j
                · rw [e]; exact va_up_self g _ _
                · exact (va_up_ne g _ e).trans (hG t (by omega))⟩) (show n + 1 - (j + 1) < n + 1 - j by omega) _ _ _ (lv_sub hl [0, 2, 3, 4, 5, 6] rfl) hP hD hS
  · rw [nI_ltI (by omega) (by omega)] at hc1
    refine lv_aload_n hx hb d_Mod_fits_14 rfl (lv_at hl 1 rfl) ?_
    refine va_get (D := (dC, dI)) (ci := 1) (v := .ref an) (C := R_Mod) (T := F_Mod) (N := 16) hx hb hts hin_Mod hown hK hP 0 rfl rfl 9 (by decide) (hts _ (nw_mc 90 rfl)) (fun _ h9 => h9) rfl d_Mod_fits_15 ?_
    refine lv_iload_n hx hb d_Mod_fits_18 rfl (lv_at hl 0 rfl) ?_
    refine lv_aload_n hx hb d_Mod_fits_19 rfl (lv_at hl 1 rfl) ?_
    refine va_get (D := (dC, dI)) (ci := 1) (v := .ref an) (C := R_Mod) (T := F_Mod) (N := 16) hx hb hts hin_Mod hown hK hP 0 rfl rfl 9 (by decide) (hts _ (nw_mc 90 rfl)) (fun _ h9 => h9) rfl d_Mod_fits_20 ?_
    refine lv_iload_n hx hb d_Mod_fits_23 rfl (lv_at hl 0 rfl) ?_
    refine lv_iconst (v := nI 1) hx hb d_Mod_fits_24 (by decide) ?_
    refine lv_isub hx hb d_Mod_fits_25 ?_
    refine nw_ti (pk_sub (a := j) (b := 1) (by omega)) ?_
    have z1 := nw_b2 (nw_M I (fun k => X (i * 60 + k)) 0 (j - 1))
    refine nw_zald hx hb hK hP 4 2 rfl rfl (k := (j - 1)) (by omega) (by first | decide | omega) d_Mod_fits_26 ?_
    refine nw_ti (y := nI ((nw_M I (fun k => X (i * 60 + k)) 0 (j - 1)).toNat)) (congrArg nI (hT _ (by omega))) ?_
    refine lv_if_eq hx hb d_Mod_fits_27 (tgt := 47) (by decide) (fun hc2 => ?_) (fun hc2 => ?_)
    · rw [nw_eq0 (by omega)] at hc2
      refine lv_iconst (v := nI 0) hx hb d_Mod_fits_47 (by decide) ?_
      refine nw_ti (y := nI ((nw_M I (fun k => X (i * 60 + k)) 0 j).toNat)) (congrArg nI (by rw [nw_M_r0 _ _ (by omega), nw_bf.mp hc2]; rfl)) ?_
      have z9 := nw_b2 (nw_M I (fun k => X (i * 60 + k)) 0 j)
      refine nw_zast hx hb hK hP hD hS 4 2 rfl rfl (k := j) (v := ((nw_M I (fun k => X (i * 60 + k)) 0 j).toNat)) (by omega) (by first | decide | omega) (by omega) d_Mod_fits_48 (fun H locs hP hD hS => ?_)
      replace hP : va_P (dC, dI) nw_cls [(hM, .inr (1, [.ref ai, .ref aw, .ref ar, .ref al, .ref aL, .ref aD, .ref ac, .ref af, .ref ap, .ref an, .ref ax, .int (nI isz), .int (nI wn), .int (nI chn), .int (nI rn), .int (nI th)])), (ai, nw_ai cB 60 I), (aw, nw_ai cB 60000 X), (al, nw_ai cI 1000 Ln), (an, nw_ai cZ 61 (va_up f j ((nw_M I (fun k => X (i * 60 + k)) 0 j).toNat))), (ax, nw_ai cZ 61 NE)] H := hP
      replace hD : va_D A [(hM, .inr (1, [.ref ai, .ref aw, .ref ar, .ref al, .ref aL, .ref aD, .ref ac, .ref af, .ref ap, .ref an, .ref ax, .int (nI isz), .int (nI wn), .int (nI chn), .int (nI rn), .int (nI th)])), (ai, nw_ai cB 60 I), (aw, nw_ai cB 60000 X), (al, nw_ai cI 1000 Ln), (an, nw_ai cZ 61 (va_up f j ((nw_M I (fun k => X (i * 60 + k)) 0 j).toNat))), (ax, nw_ai cZ 61 NE)] := hD
      refine lv_iinc (v := nI (j + 1)) hx hb d_Mod_fits_49 hl (k := 0) rfl (nI_add j 1) (by decide) rfl (fun ls hl => ?_)
      have hl : lv_has ls 7 [(3, .int (nI (j + 1))), (0, .ref hM), (1, .int (nI i)), (2, .int (nI n))] := hl
      refine lv_goto hx hb d_Mod_fits_52 (tgt := 9) (by decide) ?_
      exact ih1 (j + 1, va_up f j ((nw_M I (fun k => X (i * 60 + k)) 0 j).toNat)) (⟨by omega, by omega, fun t h => by
        by_cases e : t = j
        · rw [e]; exact va_up_self f _ _
        · exact (va_up_ne f _ e).trans (hT t (by omega))⟩) (show n + 1 - (j + 1) < n + 1 - j by omega) _ _ _ hl hP hD hS
    · rw [nw_eq0 (by omega)] at hc2
      refine lv_aload_n hx hb d_Mod_fits_30 rfl (lv_at hl 1 rfl) ?_
      refine va_get (D := (dC, dI)) (ci := 1) (v := .ref ai) (C := R_Mod) (T := F_Mod) (N := 16) hx hb hts hin_Mod hown hK hP 0 rfl rfl 0 (by decide) (hts _ (nw_mc 70 rfl)) (fun _ h9 => h9) rfl d_Mod_fits_31 ?_
      refine lv_iload_n hx hb d_Mod_fits_34 rfl (lv_at hl 0 rfl) ?_
      refine lv_iconst (v := nI 1) hx hb d_Mod_fits_35 (by decide) ?_
      refine lv_isub hx hb d_Mod_fits_36 ?_
      refine nw_ti (pk_sub (a := j) (b := 1) (by omega)) ?_
      have y1 := hI0 (j - 1)
      refine nw_bald hx hb hK hP 1 0 rfl rfl (k := (j - 1)) (by omega) (by first | decide | omega) d_Mod_fits_37 ?_
      refine lv_bipush (v := nI 42) hx hb d_Mod_fits_38 (by decide) ?_
      refine lv_icmp_ne hx hb d_Mod_fits_40 (tgt := 47) (by decide) (fun hc3 => ?_) (fun hc3 => ?_)
      · rw [nI_eq (by omega) (by omega)] at hc3
        refine lv_iconst (v := nI 0) hx hb d_Mod_fits_47 (by decide) ?_
        refine nw_ti (y := nI ((nw_M I (fun k => X (i * 60 + k)) 0 j).toNat)) (congrArg nI (by rw [nw_M_r0 _ _ (by omega), nw_bt.mp hc2, decide_eq_false hc3]; rfl)) ?_
        have z9 := nw_b2 (nw_M I (fun k => X (i * 60 + k)) 0 j)
        refine nw_zast hx hb hK hP hD hS 4 2 rfl rfl (k := j) (v := ((nw_M I (fun k => X (i * 60 + k)) 0 j).toNat)) (by omega) (by first | decide | omega) (by omega) d_Mod_fits_48 (fun H locs hP hD hS => ?_)
        replace hP : va_P (dC, dI) nw_cls [(hM, .inr (1, [.ref ai, .ref aw, .ref ar, .ref al, .ref aL, .ref aD, .ref ac, .ref af, .ref ap, .ref an, .ref ax, .int (nI isz), .int (nI wn), .int (nI chn), .int (nI rn), .int (nI th)])), (ai, nw_ai cB 60 I), (aw, nw_ai cB 60000 X), (al, nw_ai cI 1000 Ln), (an, nw_ai cZ 61 (va_up f j ((nw_M I (fun k => X (i * 60 + k)) 0 j).toNat))), (ax, nw_ai cZ 61 NE)] H := hP
        replace hD : va_D A [(hM, .inr (1, [.ref ai, .ref aw, .ref ar, .ref al, .ref aL, .ref aD, .ref ac, .ref af, .ref ap, .ref an, .ref ax, .int (nI isz), .int (nI wn), .int (nI chn), .int (nI rn), .int (nI th)])), (ai, nw_ai cB 60 I), (aw, nw_ai cB 60000 X), (al, nw_ai cI 1000 Ln), (an, nw_ai cZ 61 (va_up f j ((nw_M I (fun k => X (i * 60 + k)) 0 j).toNat))), (ax, nw_ai cZ 61 NE)] := hD
        refine lv_iinc (v := nI (j + 1)) hx hb d_Mod_fits_49 hl (k := 0) rfl (nI_add j 1) (by decide) rfl (fun ls hl => ?_)
        have hl : lv_has ls 7 [(3, .int (nI (j + 1))), (0, .ref hM), (1, .int (nI i)), (2, .int (nI n))] := hl
        refine lv_goto hx hb d_Mod_fits_52 (tgt := 9) (by decide) ?_
        exact ih1 (j + 1, va_up f j ((nw_M I (fun k => X (i * 60 + k)) 0 j).toNat)) (⟨by omega, by omega, fun t h => by
          by_cases e : t = j
          · rw [e]; exact va_up_self f _ _
          · exact (va_up_ne f _ e).trans (hT t (by omega))⟩) (show n + 1 - (j + 1) < n + 1 - j by omega) _ _ _ hl hP hD hS
      · rw [nI_eq (by omega) (by omega)] at hc3
        refine lv_iconst (v := nI 1) hx hb d_Mod_fits_43 (by decide) ?_
        refine lv_goto hx hb d_Mod_fits_44 (tgt := 48) (by decide) ?_
        refine nw_ti (y := nI ((nw_M I (fun k => X (i * 60 + k)) 0 j).toNat)) (congrArg nI (by rw [nw_M_r0 _ _ (by omega), nw_bt.mp hc2, decide_eq_true hc3]; rfl)) ?_
        have z9 := nw_b2 (nw_M I (fun k => X (i * 60 + k)) 0 j)
        refine nw_zast hx hb hK hP hD hS 4 2 rfl rfl (k := j) (v := ((nw_M I (fun k => X (i * 60 + k)) 0 j).toNat)) (by omega) (by first | decide | omega) (by omega) d_Mod_fits_48 (fun H locs hP hD hS => ?_)
        replace hP : va_P (dC, dI) nw_cls [(hM, .inr (1, [.ref ai, .ref aw, .ref ar, .ref al, .ref aL, .ref aD, .ref ac, .ref af, .ref ap, .ref an, .ref ax, .int (nI isz), .int (nI wn), .int (nI chn), .int (nI rn), .int (nI th)])), (ai, nw_ai cB 60 I), (aw, nw_ai cB 60000 X), (al, nw_ai cI 1000 Ln), (an, nw_ai cZ 61 (va_up f j ((nw_M I (fun k => X (i * 60 + k)) 0 j).toNat))), (ax, nw_ai cZ 61 NE)] H := hP
        replace hD : va_D A [(hM, .inr (1, [.ref ai, .ref aw, .ref ar, .ref al, .ref aL, .ref aD, .ref ac, .ref af, .ref ap, .ref an, .ref ax, .int (nI isz), .int (nI wn), .int (nI chn), .int (nI rn), .int (nI th)])), (ai, nw_ai cB 60 I), (aw, nw_ai cB 60000 X), (al, nw_ai cI 1000 Ln), (an, nw_ai cZ 61 (va_up f j ((nw_M I (fun k => X (i * 60 + k)) 0 j).toNat))), (ax, nw_ai cZ 61 NE)] := hD
        refine lv_iinc (v := nI (j + 1)) hx hb d_Mod_fits_49 hl (k := 0) rfl (nI_add j 1) (by decide) rfl (fun ls hl => ?_)
        have hl : lv_has ls 7 [(3, .int (nI (j + 1))), (0, .ref hM), (1, .int (nI i)), (2, .int (nI n))] := hl
        refine lv_goto hx hb d_Mod_fits_52 (tgt := 9) (by decide) ?_
        exact ih1 (j + 1, va_up f j ((nw_M I (fun k => X (i * 60 + k)) 0 j).toNat)) (⟨by omega, by omega, fun t h => by
          by_cases e : t = j
          · rw [e]; exact va_up_self f _ _
          · exact (va_up_ne f _ e).trans (hT t (by omega))⟩) (show n + 1 - (j + 1) < n + 1 - j by omega) _ _ _ hl hP hD hS
end
section
set_option maxHeartbeats 4000000 in
set_option maxRecDepth 100000 in
theorem c_Mod_add_bad (l : Launch) (dC : Nat → ClassId) (dI : Nat → Nat → Nat) (sz : Nat) (hM ai aw ar al aL aD ac af ap an ax isz wn chn rn th : Nat) (hz : isz = 0) : Met l y_Mod_add w_Mod_add ({ frames := 1, cells := 0, slots := 0, locals := 21 }) (nw_Pw [.ref hM] (dC, dI) nw_cls [] [(hM, .inr (1, [.ref ai, .ref aw, .ref ar, .ref al, .ref aL, .ref aD, .ref ac, .ref af, .ref ap, .ref an, .ref ax, .int (nI isz), .int (nI wn), .int (nI chn), .int (nI rn), .int (nI th)]))] sz) (va_Qi (fun (r : Int32) (_ : Unit) => r = nI 0) (nw_B (dC, dI) nw_cls (va_A [(hM, .inr (1, [.ref ai, .ref aw, .ref ar, .ref al, .ref aL, .ref aD, .ref ac, .ref af, .ref ap, .ref an, .ref ax, .int (nI isz), .int (nI wn), .int (nI chn), .int (nI rn), .int (nI th)]))] sz) (fun _ : Unit => [(hM, .inr (1, [.ref ai, .ref aw, .ref ar, .ref al, .ref aL, .ref aD, .ref ac, .ref af, .ref ap, .ref an, .ref ax, .int (nI 0), .int (nI wn), .int (nI chn), .int (nI rn), .int (nI 1)]))])) (va_A [(hM, .inr (1, [.ref ai, .ref aw, .ref ar, .ref al, .ref aL, .ref aD, .ref ac, .ref af, .ref ap, .ref an, .ref ax, .int (nI isz), .int (nI wn), .int (nI chn), .int (nI rn), .int (nI th)]))] sz)) 0 0 (va_A [(hM, .inr (1, [.ref ai, .ref aw, .ref ar, .ref al, .ref aL, .ref aD, .ref ac, .ref af, .ref ap, .ref an, .ref ax, .int (nI isz), .int (nI wn), .int (nI chn), .int (nI rn), .int (nI th)]))] sz) := by
  refine Met.ofW (cc := b_Mod_add) (maxL := 4) (ret := (some .int)) (by decide) rfl ?_
  intro p e s m args below meth cd s₁ B hml hv0
  obtain ⟨rfl, hsz, hP, hK, hD0⟩ := hv0
  have hx := B.exec
  have hb := B.bytes
  have hr := B.returns
  have hts := atoms_spec (ws := w_Mod_add) B.pre
  have hown : s.vm.findClass R_Mod = some m.cls := findClass_of_methodNamed B.named
  have hlocks := B.notSynchronized
  subst hsz
  have hD := hD0.self (sz := s.heap.size)
  generalize hAe : va_A [(hM, .inr (1, [.ref ai, .ref aw, .ref ar, .ref al, .ref aL, .ref aD, .ref ac, .ref af, .ref ap, .ref an, .ref ax, .int (nI isz), .int (nI wn), .int (nI chn), .int (nI rn), .int (nI th)]))] s.heap.size = A at hD ⊢
  have hA : ∀ q : Nat, s.heap.size ≤ q → A q := fun q h => by rw [← hAe]; exact Or.inr h
  have hS : va_S A s.heap s.heap [] := va_S.rf
  have hl := lv_entry ([.ref hM]) (n := 4) (Nat.le_of_ble_eq_true rfl)
  rw [lg_entry_eq]
  generalize (lg_sl ([.ref hM]) ++ List.replicate (4 - (lg_sl ([.ref hM])).length) Slot.unset).toArray = ls at hl ⊢
  have hl : lv_has ls 4 [(0, .ref hM)] := hl
  refine lv_aload_n hx hb d_Mod_add_0 rfl (lv_at hl 0 rfl) ?_
  refine nw_calli (wc := [(hM, .inr (1, [.ref ai, .ref aw, .ref ar, .ref al, .ref aL, .ref aD, .ref ac, .ref af, .ref ap, .ref an, .ref ax, .int (nI isz), .int (nI wn), .int (nI chn), .int (nI rn), .int (nI th)]))]) (wr := []) hP hD hS hA [0] [] rfl rfl (by decide) (by decide) (va_runV (As := []) (rest := []) ⟨hx, hb, hml, hown, hts⟩ (c_Mod_take l dC dI _ hM ai aw ar al aL aD ac af ap an ax isz wn chn rn th) (cwV (C := R_Mod) 0 hts (nw_GV (nw_m 76 rfl) (nw_m 77 rfl) (nw_m 78 rfl) (nw_m 67 rfl) (nw_m 79 rfl)) rfl rfl rfl (by decide +kernel) ⟨Nat.le_of_ble_eq_true rfl, Nat.le_of_ble_eq_true rfl⟩) (nw_prewV (q0 := 0) (ci := 1) (q := (R_Mod, F_Mod, 16)) hK hP hD [0] [] (by decide) rfl rfl rfl rfl) rfl rfl hl.1 rfl (lv_room (Nat.le_of_ble_eq_true rfl)) d_Mod_add_1 ⟨Nat.le_of_ble_eq_true rfl, Nat.le_of_ble_eq_true rfl⟩) (fun r _ H locs hw hP hD hS => ?_)
  replace hP : va_P (dC, dI) nw_cls [(hM, .inr (1, [.ref ai, .ref aw, .ref ar, .ref al, .ref aL, .ref aD, .ref ac, .ref af, .ref ap, .ref an, .ref ax, .int (nI 0), .int (nI wn), .int (nI chn), .int (nI rn), .int (nI th)]))] H := hP
  replace hD : va_D A [(hM, .inr (1, [.ref ai, .ref aw, .ref ar, .ref al, .ref aL, .ref aD, .ref ac, .ref af, .ref ap, .ref an, .ref ax, .int (nI 0), .int (nI wn), .int (nI chn), .int (nI rn), .int (nI th)]))] := hD
  obtain rfl : r = nI isz := hw
  refine lv_istore_n hx hb d_Mod_add_4 rfl hl (by decide) rfl (fun ls hl => ?_)
  replace hl : lv_has ls 4 [(1, .int (nI isz)), (0, .ref hM)] := hl
  refine lv_aload_n hx hb d_Mod_add_5 rfl (lv_at hl 1 rfl) ?_
  refine lv_iload_n hx hb d_Mod_add_6 rfl (lv_at hl 0 rfl) ?_
  refine lv_if_ne hx hb d_Mod_add_7 (tgt := 14) (by decide) (fun q1 => ?_) (fun q1 => ?_)
  · rw [nw_eq0 (by omega)] at q1
    omega
  · rw [nw_eq0 (by omega)] at q1
    refine lv_iconst (v := nI 1) hx hb d_Mod_add_10 (by decide) ?_
    refine lv_goto hx hb d_Mod_add_11 (tgt := 15) (by decide) ?_
    refine va_put (D := (dC, dI)) (ci := 1) (v := .int (nI 1)) (ty := .int) (C := R_Mod) (T := F_Mod) (N := 16) hx hb hts hin_Mod t_Mod t_Mod_ok n_Mod hown hK hP hD hS 0 rfl rfl 15 (by decide) (hts _ (nw_mc 62 rfl)) (fun _ h9 => h9) rfl (by decide +kernel) rfl rfl (Nat.le_of_ble_eq_true rfl) d_Mod_add_15 (fun H locs hP hD hS => ?_)
    replace hP : va_P (dC, dI) nw_cls [(hM, .inr (1, [.ref ai, .ref aw, .ref ar, .ref al, .ref aL, .ref aD, .ref ac, .ref af, .ref ap, .ref an, .ref ax, .int (nI 0), .int (nI wn), .int (nI chn), .int (nI rn), .int (nI 1)]))] H := hP
    replace hD : va_D A [(hM, .inr (1, [.ref ai, .ref aw, .ref ar, .ref al, .ref aL, .ref aD, .ref ac, .ref af, .ref ap, .ref an, .ref ax, .int (nI 0), .int (nI wn), .int (nI chn), .int (nI rn), .int (nI 1)]))] := hD
    refine lv_iload_n hx hb d_Mod_add_18 rfl (lv_at hl 0 rfl) ?_
    refine lv_if_ne hx hb d_Mod_add_19 (tgt := 24) (by decide) (fun q2 => ?_) (fun q2 => ?_)
    · rw [nw_eq0 (by omega)] at q2
      omega
    · rw [nw_eq0 (by omega)] at q2
      refine lv_iconst (v := nI 0) hx hb d_Mod_add_22 (by decide) ?_
      exact W.iret (v := nI 0) hx hb hr (fun t ht hW => ⟨⟨_, (), rfl, rfl, by rw [ht]; exact hP, hD⟩, hS.F ht⟩) hS.2.2 d_Mod_add_23

set_option maxHeartbeats 4000000 in
set_option maxRecDepth 100000 in
theorem c_Mod_remove_bad (l : Launch) (dC : Nat → ClassId) (dI : Nat → Nat → Nat) (sz : Nat) (hM ai aw ar al aL aD ac af ap an ax isz wn chn rn th : Nat) (hz : isz = 0) : Met l y_Mod_remove w_Mod_remove ({ frames := 1, cells := 0, slots := 0, locals := 21 }) (nw_Pw [.ref hM] (dC, dI) nw_cls [] [(hM, .inr (1, [.ref ai, .ref aw, .ref ar, .ref al, .ref aL, .ref aD, .ref ac, .ref af, .ref ap, .ref an, .ref ax, .int (nI isz), .int (nI wn), .int (nI chn), .int (nI rn), .int (nI th)]))] sz) (va_Qi (fun (r : Int32) (_ : Unit) => r = nI 0) (nw_B (dC, dI) nw_cls (va_A [(hM, .inr (1, [.ref ai, .ref aw, .ref ar, .ref al, .ref aL, .ref aD, .ref ac, .ref af, .ref ap, .ref an, .ref ax, .int (nI isz), .int (nI wn), .int (nI chn), .int (nI rn), .int (nI th)]))] sz) (fun _ : Unit => [(hM, .inr (1, [.ref ai, .ref aw, .ref ar, .ref al, .ref aL, .ref aD, .ref ac, .ref af, .ref ap, .ref an, .ref ax, .int (nI 0), .int (nI wn), .int (nI chn), .int (nI rn), .int (nI 1)]))])) (va_A [(hM, .inr (1, [.ref ai, .ref aw, .ref ar, .ref al, .ref aL, .ref aD, .ref ac, .ref af, .ref ap, .ref an, .ref ax, .int (nI isz), .int (nI wn), .int (nI chn), .int (nI rn), .int (nI th)]))] sz)) 0 0 (va_A [(hM, .inr (1, [.ref ai, .ref aw, .ref ar, .ref al, .ref aL, .ref aD, .ref ac, .ref af, .ref ap, .ref an, .ref ax, .int (nI isz), .int (nI wn), .int (nI chn), .int (nI rn), .int (nI th)]))] sz) := by
  refine Met.ofW (cc := b_Mod_remove) (maxL := 4) (ret := (some .int)) (by decide) rfl ?_
  intro p e s m args below meth cd s₁ B hml hv0
  obtain ⟨rfl, hsz, hP, hK, hD0⟩ := hv0
  have hx := B.exec
  have hb := B.bytes
  have hr := B.returns
  have hts := atoms_spec (ws := w_Mod_remove) B.pre
  have hown : s.vm.findClass R_Mod = some m.cls := findClass_of_methodNamed B.named
  have hlocks := B.notSynchronized
  subst hsz
  have hD := hD0.self (sz := s.heap.size)
  generalize hAe : va_A [(hM, .inr (1, [.ref ai, .ref aw, .ref ar, .ref al, .ref aL, .ref aD, .ref ac, .ref af, .ref ap, .ref an, .ref ax, .int (nI isz), .int (nI wn), .int (nI chn), .int (nI rn), .int (nI th)]))] s.heap.size = A at hD ⊢
  have hA : ∀ q : Nat, s.heap.size ≤ q → A q := fun q h => by rw [← hAe]; exact Or.inr h
  have hS : va_S A s.heap s.heap [] := va_S.rf
  have hl := lv_entry ([.ref hM]) (n := 4) (Nat.le_of_ble_eq_true rfl)
  rw [lg_entry_eq]
  generalize (lg_sl ([.ref hM]) ++ List.replicate (4 - (lg_sl ([.ref hM])).length) Slot.unset).toArray = ls at hl ⊢
  have hl : lv_has ls 4 [(0, .ref hM)] := hl
  refine lv_aload_n hx hb d_Mod_remove_0 rfl (lv_at hl 0 rfl) ?_
  refine nw_calli (wc := [(hM, .inr (1, [.ref ai, .ref aw, .ref ar, .ref al, .ref aL, .ref aD, .ref ac, .ref af, .ref ap, .ref an, .ref ax, .int (nI isz), .int (nI wn), .int (nI chn), .int (nI rn), .int (nI th)]))]) (wr := []) hP hD hS hA [0] [] rfl rfl (by decide) (by decide) (va_runV (As := []) (rest := []) ⟨hx, hb, hml, hown, hts⟩ (c_Mod_take l dC dI _ hM ai aw ar al aL aD ac af ap an ax isz wn chn rn th) (cwV (C := R_Mod) 0 hts (nw_GV (nw_m 76 rfl) (nw_m 77 rfl) (nw_m 78 rfl) (nw_m 67 rfl) (nw_m 79 rfl)) rfl rfl rfl (by decide +kernel) ⟨Nat.le_of_ble_eq_true rfl, Nat.le_of_ble_eq_true rfl⟩) (nw_prewV (q0 := 0) (ci := 1) (q := (R_Mod, F_Mod, 16)) hK hP hD [0] [] (by decide) rfl rfl rfl rfl) rfl rfl hl.1 rfl (lv_room (Nat.le_of_ble_eq_true rfl)) d_Mod_remove_1 ⟨Nat.le_of_ble_eq_true rfl, Nat.le_of_ble_eq_true rfl⟩) (fun r _ H locs hw hP hD hS => ?_)
  replace hP : va_P (dC, dI) nw_cls [(hM, .inr (1, [.ref ai, .ref aw, .ref ar, .ref al, .ref aL, .ref aD, .ref ac, .ref af, .ref ap, .ref an, .ref ax, .int (nI 0), .int (nI wn), .int (nI chn), .int (nI rn), .int (nI th)]))] H := hP
  replace hD : va_D A [(hM, .inr (1, [.ref ai, .ref aw, .ref ar, .ref al, .ref aL, .ref aD, .ref ac, .ref af, .ref ap, .ref an, .ref ax, .int (nI 0), .int (nI wn), .int (nI chn), .int (nI rn), .int (nI th)]))] := hD
  obtain rfl : r = nI isz := hw
  refine lv_istore_n hx hb d_Mod_remove_4 rfl hl (by decide) rfl (fun ls hl => ?_)
  replace hl : lv_has ls 4 [(1, .int (nI isz)), (0, .ref hM)] := hl
  refine lv_aload_n hx hb d_Mod_remove_5 rfl (lv_at hl 1 rfl) ?_
  refine lv_iload_n hx hb d_Mod_remove_6 rfl (lv_at hl 0 rfl) ?_
  refine lv_if_ne hx hb d_Mod_remove_7 (tgt := 14) (by decide) (fun q1 => ?_) (fun q1 => ?_)
  · rw [nw_eq0 (by omega)] at q1
    omega
  · rw [nw_eq0 (by omega)] at q1
    refine lv_iconst (v := nI 1) hx hb d_Mod_remove_10 (by decide) ?_
    refine lv_goto hx hb d_Mod_remove_11 (tgt := 15) (by decide) ?_
    refine va_put (D := (dC, dI)) (ci := 1) (v := .int (nI 1)) (ty := .int) (C := R_Mod) (T := F_Mod) (N := 16) hx hb hts hin_Mod t_Mod t_Mod_ok n_Mod hown hK hP hD hS 0 rfl rfl 15 (by decide) (hts _ (nw_mc 62 rfl)) (fun _ h9 => h9) rfl (by decide +kernel) rfl rfl (Nat.le_of_ble_eq_true rfl) d_Mod_remove_15 (fun H locs hP hD hS => ?_)
    replace hP : va_P (dC, dI) nw_cls [(hM, .inr (1, [.ref ai, .ref aw, .ref ar, .ref al, .ref aL, .ref aD, .ref ac, .ref af, .ref ap, .ref an, .ref ax, .int (nI 0), .int (nI wn), .int (nI chn), .int (nI rn), .int (nI 1)]))] H := hP
    replace hD : va_D A [(hM, .inr (1, [.ref ai, .ref aw, .ref ar, .ref al, .ref aL, .ref aD, .ref ac, .ref af, .ref ap, .ref an, .ref ax, .int (nI 0), .int (nI wn), .int (nI chn), .int (nI rn), .int (nI 1)]))] := hD
    refine lv_iload_n hx hb d_Mod_remove_18 rfl (lv_at hl 0 rfl) ?_
    refine lv_if_ne hx hb d_Mod_remove_19 (tgt := 24) (by decide) (fun q2 => ?_) (fun q2 => ?_)
    · rw [nw_eq0 (by omega)] at q2
      omega
    · rw [nw_eq0 (by omega)] at q2
      refine lv_iconst (v := nI 0) hx hb d_Mod_remove_22 (by decide) ?_
      exact W.iret (v := nI 0) hx hb hr (fun t ht hW => ⟨⟨_, (), rfl, rfl, by rw [ht]; exact hP, hD⟩, hS.F ht⟩) hS.2.2 d_Mod_remove_23

set_option maxHeartbeats 4000000 in
set_option maxRecDepth 100000 in
theorem c_Mod_add_old (l : Launch) (dC : Nat → ClassId) (dI : Nat → Nat → Nat) (sz : Nat) (cB cI : ClassId) (hM ai aw ar al aL aD ac af ap an ax isz wn chn rn th : Nat) (I X Ln : Nat → Nat) (at0 : Nat) (hat : at0 = nw_cnt (fun i => nw_cm (fun k => X (i * 60 + k)) (Ln i) I isz < 0) wn) (h1 : 1 ≤ isz) (hw : wn ≤ 1000) (hn : isz ≤ 60) (hL : ∀ i, i < wn → Ln i ≤ 60) (hX : ∀ j, X j < 128) (hI0 : ∀ j, I j < 128) (ho : at0 < wn) (hc : nw_cm (fun k => X (at0 * 60 + k)) (Ln at0) I isz = 0) : Met l y_Mod_add w_Mod_add ({ frames := 3, cells := 0, slots := 0, locals := 68 }) (nw_Pw [.ref hM] (dC, dI) nw_cls [(cB, .byte), (cI, .int)] [(hM, .inr (1, [.ref ai, .ref aw, .ref ar, .ref al, .ref aL, .ref aD, .ref ac, .ref af, .ref ap, .ref an, .ref ax, .int (nI isz), .int (nI wn), .int (nI chn), .int (nI rn), .int (nI th)])), (ai, nw_ai cB 60 I), (aw, nw_ai cB 60000 X), (al, nw_ai cI 1000 Ln)] sz) (va_Qi (fun (r : Int32) (_ : Unit) => r = nI wn) (nw_B (dC, dI) nw_cls (va_A [(hM, .inr (1, [.ref ai, .ref aw, .ref ar, .ref al, .ref aL, .ref aD, .ref ac, .ref af, .ref ap, .ref an, .ref ax, .int (nI isz), .int (nI wn), .int (nI chn), .int (nI rn), .int (nI th)])), (ai, nw_ai cB 60 I), (aw, nw_ai cB 60000 X), (al, nw_ai cI 1000 Ln)] sz) (fun _ : Unit => [(hM, .inr (1, [.ref ai, .ref aw, .ref ar, .ref al, .ref aL, .ref aD, .ref ac, .ref af, .ref ap, .ref an, .ref ax, .int (nI 0), .int (nI wn), .int (nI chn), .int (nI rn), .int (nI 0)])), (ai, nw_ai cB 60 I), (aw, nw_ai cB 60000 X), (al, nw_ai cI 1000 Ln)])) (va_A [(hM, .inr (1, [.ref ai, .ref aw, .ref ar, .ref al, .ref aL, .ref aD, .ref ac, .ref af, .ref ap, .ref an, .ref ax, .int (nI isz), .int (nI wn), .int (nI chn), .int (nI rn), .int (nI th)])), (ai, nw_ai cB 60 I), (aw, nw_ai cB 60000 X), (al, nw_ai cI 1000 Ln)] sz)) 0 0 (va_A [(hM, .inr (1, [.ref ai, .ref aw, .ref ar, .ref al, .ref aL, .ref aD, .ref ac, .ref af, .ref ap, .ref an, .ref ax, .int (nI isz), .int (nI wn), .int (nI chn), .int (nI rn), .int (nI th)])), (ai, nw_ai cB 60 I), (aw, nw_ai cB 60000 X), (al, nw_ai cI 1000 Ln)] sz) := by
  refine Met.ofW (cc := b_Mod_add) (maxL := 4) (ret := (some .int)) (by decide) rfl ?_
  intro p e s m args below meth cd s₁ B hml hv0
  obtain ⟨rfl, hsz, hP, hK, hD0⟩ := hv0
  have hx := B.exec
  have hb := B.bytes
  have hr := B.returns
  have hts := atoms_spec (ws := w_Mod_add) B.pre
  have hown : s.vm.findClass R_Mod = some m.cls := findClass_of_methodNamed B.named
  have hlocks := B.notSynchronized
  subst hsz
  have hD := hD0.self (sz := s.heap.size)
  generalize hAe : va_A [(hM, .inr (1, [.ref ai, .ref aw, .ref ar, .ref al, .ref aL, .ref aD, .ref ac, .ref af, .ref ap, .ref an, .ref ax, .int (nI isz), .int (nI wn), .int (nI chn), .int (nI rn), .int (nI th)])), (ai, nw_ai cB 60 I), (aw, nw_ai cB 60000 X), (al, nw_ai cI 1000 Ln)] s.heap.size = A at hD ⊢
  have hA : ∀ q : Nat, s.heap.size ≤ q → A q := fun q h => by rw [← hAe]; exact Or.inr h
  have hS : va_S A s.heap s.heap [] := va_S.rf
  have hl := lv_entry ([.ref hM]) (n := 4) (Nat.le_of_ble_eq_true rfl)
  rw [lg_entry_eq]
  generalize (lg_sl ([.ref hM]) ++ List.replicate (4 - (lg_sl ([.ref hM])).length) Slot.unset).toArray = ls at hl ⊢
  have hl : lv_has ls 4 [(0, .ref hM)] := hl
  have hat1 := nw_cnt_le (fun i => nw_cm (fun k => X (i * 60 + k)) (Ln i) I isz < 0) wn
  refine lv_aload_n hx hb d_Mod_add_0 rfl (lv_at hl 0 rfl) ?_
  refine nw_calli (wc := [(hM, .inr (1, [.ref ai, .ref aw, .ref ar, .ref al, .ref aL, .ref aD, .ref ac, .ref af, .ref ap, .ref an, .ref ax, .int (nI isz), .int (nI wn), .int (nI chn), .int (nI rn), .int (nI th)]))]) (wr := [(ai, nw_ai cB 60 I), (aw, nw_ai cB 60000 X), (al, nw_ai cI 1000 Ln)]) hP hD hS hA [0] [1, 2, 3] rfl rfl (by decide) (by decide) (va_runV (As := []) (rest := []) ⟨hx, hb, hml, hown, hts⟩ (c_Mod_take l dC dI _ hM ai aw ar al aL aD ac af ap an ax isz wn chn rn th) (cwV (C := R_Mod) 0 hts (nw_GV (nw_m 76 rfl) (nw_m 77 rfl) (nw_m 78 rfl) (nw_m 67 rfl) (nw_m 79 rfl)) rfl rfl rfl (by decide +kernel) ⟨Nat.le_of_ble_eq_true rfl, Nat.le_of_ble_eq_true rfl⟩) (nw_prewV (q0 := 0) (ci := 1) (q := (R_Mod, F_Mod, 16)) hK hP hD [0] [] (by decide) rfl rfl rfl rfl) rfl rfl hl.1 rfl (lv_room (Nat.le_of_ble_eq_true rfl)) d_Mod_add_1 ⟨Nat.le_of_ble_eq_true rfl, Nat.le_of_ble_eq_true rfl⟩) (fun r _ H locs hw hP hD hS => ?_)
  replace hP : va_P (dC, dI) nw_cls [(ai, nw_ai cB 60 I), (aw, nw_ai cB 60000 X), (al, nw_ai cI 1000 Ln), (hM, .inr (1, [.ref ai, .ref aw, .ref ar, .ref al, .ref aL, .ref aD, .ref ac, .ref af, .ref ap, .ref an, .ref ax, .int (nI 0), .int (nI wn), .int (nI chn), .int (nI rn), .int (nI th)]))] H := hP
  replace hD : va_D A [(ai, nw_ai cB 60 I), (aw, nw_ai cB 60000 X), (al, nw_ai cI 1000 Ln), (hM, .inr (1, [.ref ai, .ref aw, .ref ar, .ref al, .ref aL, .ref aD, .ref ac, .ref af, .ref ap, .ref an, .ref ax, .int (nI 0), .int (nI wn), .int (nI chn), .int (nI rn), .int (nI th)]))] := hD
  obtain rfl : r = nI isz := hw
  refine lv_istore_n hx hb d_Mod_add_4 rfl hl (by decide) rfl (fun ls hl => ?_)
  replace hl : lv_has ls 4 [(1, .int (nI isz)), (0, .ref hM)] := hl
  refine lv_aload_n hx hb d_Mod_add_5 rfl (lv_at hl 1 rfl) ?_
  refine lv_iload_n hx hb d_Mod_add_6 rfl (lv_at hl 0 rfl) ?_
  refine lv_if_ne hx hb d_Mod_add_7 (tgt := 14) (by decide) (fun q1 => ?_) (fun q1 => ?_)
  · rw [nw_eq0 (by omega)] at q1
    refine lv_iconst (v := nI 0) hx hb d_Mod_add_14 (by decide) ?_
    refine va_put (D := (dC, dI)) (ci := 1) (v := .int (nI 0)) (ty := .int) (C := R_Mod) (T := F_Mod) (N := 16) hx hb hts hin_Mod t_Mod t_Mod_ok n_Mod hown hK hP hD hS 3 rfl rfl 15 (by decide) (hts _ (nw_mc 62 rfl)) (fun _ h9 => h9) rfl (by decide +kernel) rfl rfl (Nat.le_of_ble_eq_true rfl) d_Mod_add_15 (fun H locs hP hD hS => ?_)
    replace hP : va_P (dC, dI) nw_cls [(ai, nw_ai cB 60 I), (aw, nw_ai cB 60000 X), (al, nw_ai cI 1000 Ln), (hM, .inr (1, [.ref ai, .ref aw, .ref ar, .ref al, .ref aL, .ref aD, .ref ac, .ref af, .ref ap, .ref an, .ref ax, .int (nI 0), .int (nI wn), .int (nI chn), .int (nI rn), .int (nI 0)]))] H := hP
    replace hD : va_D A [(ai, nw_ai cB 60 I), (aw, nw_ai cB 60000 X), (al, nw_ai cI 1000 Ln), (hM, .inr (1, [.ref ai, .ref aw, .ref ar, .ref al, .ref aL, .ref aD, .ref ac, .ref af, .ref ap, .ref an, .ref ax, .int (nI 0), .int (nI wn), .int (nI chn), .int (nI rn), .int (nI 0)]))] := hD
    refine lv_iload_n hx hb d_Mod_add_18 rfl (lv_at hl 0 rfl) ?_
    refine lv_if_ne hx hb d_Mod_add_19 (tgt := 24) (by decide) (fun q2 => ?_) (fun q2 => ?_)
    · rw [nw_eq0 (by omega)] at q2
      refine lv_aload_n hx hb d_Mod_add_24 rfl (lv_at hl 1 rfl) ?_
      refine lv_iload_n hx hb d_Mod_add_25 rfl (lv_at hl 0 rfl) ?_
      refine vp_callSi (va_Run.run (va_runV (As := [.int (nI isz)]) (rest := []) ⟨hx, hb, hml, hown, hts⟩ (c_Mod_standing l dC dI cB cI hM ai aw ar al aL aD ac af ap an ax 0 wn chn rn 0 I X Ln isz (by omega) (by omega) hL hX hI0) (cwV (C := R_Mod) 1 hts (nw_GV (nw_m 80 rfl) (nw_m 81 rfl) (nw_m 82 rfl) (nw_m 67 rfl) (nw_m 83 rfl)) rfl rfl rfl (by decide +kernel) ⟨Nat.le_of_ble_eq_true rfl, Nat.le_of_ble_eq_true rfl⟩) (nw_preV (q0 := 3) (ci := 1) (q := (R_Mod, F_Mod, 16)) hK hP [3, 0, 1, 2] [0, 1] rfl rfl rfl rfl) rfl rfl hl.1 rfl (lv_room (Nat.le_of_ble_eq_true rfl)) d_Mod_add_26 ⟨Nat.le_of_ble_eq_true rfl, Nat.le_of_ble_eq_true rfl⟩)) (fun r her => ?_)
      subst her
      refine nw_ti (y := nI at0) (congrArg nI hat.symm) ?_
      refine lv_istore_n hx hb d_Mod_add_29 rfl hl (by decide) rfl (fun ls hl => ?_)
      replace hl : lv_has ls 4 [(2, .int (nI at0)), (1, .int (nI isz)), (0, .ref hM)] := hl
      refine lv_iload_n hx hb d_Mod_add_30 rfl (lv_at hl 0 rfl) ?_
      refine lv_aload_n hx hb d_Mod_add_31 rfl (lv_at hl 2 rfl) ?_
      refine va_get (D := (dC, dI)) (ci := 1) (v := .int (nI wn)) (C := R_Mod) (T := F_Mod) (N := 16) hx hb hts hin_Mod hown hK hP 3 rfl rfl 12 (by decide) (hts _ (nw_mc 71 rfl)) (fun _ h9 => h9) rfl d_Mod_add_32 ?_
      refine lv_icmp_ge hx hb d_Mod_add_35 (tgt := 52) (by decide) (fun q3 => ?_) (fun q3 => ?_)
      · rw [nI_leI (by omega) (by omega)] at q3
        omega
      · rw [nI_leI (by omega) (by omega)] at q3
        refine lv_aload_n hx hb d_Mod_add_38 rfl (lv_at hl 2 rfl) ?_
        refine lv_iload_n hx hb d_Mod_add_39 rfl (lv_at hl 0 rfl) ?_
        refine lv_iload_n hx hb d_Mod_add_40 rfl (lv_at hl 1 rfl) ?_
        refine vp_callSi (va_Run.run (va_runV (As := [.int (nI at0), .int (nI isz)]) (rest := []) ⟨hx, hb, hml, hown, hts⟩ (c_Mod_order l dC dI cB cI hM ai aw ar al aL aD ac af ap an ax 0 wn chn rn 0 I X Ln at0 isz (by omega) (by omega) (hL _ (by omega)) hX hI0) (cwV (C := R_Mod) 2 hts (nw_GV (nw_m 72 rfl) (nw_m 73 rfl) (nw_m 74 rfl) (nw_m 67 rfl) (nw_m 75 rfl)) rfl rfl rfl (by decide +kernel) ⟨Nat.le_of_ble_eq_true rfl, Nat.le_of_ble_eq_true rfl⟩) (nw_preV (q0 := 3) (ci := 1) (q := (R_Mod, F_Mod, 16)) hK hP [3, 0, 1, 2] [0, 1] rfl rfl rfl rfl) rfl rfl hl.1 rfl (lv_room (Nat.le_of_ble_eq_true rfl)) d_Mod_add_41 ⟨Nat.le_of_ble_eq_true rfl, Nat.le_of_ble_eq_true rfl⟩)) (fun r her => ?_)
        subst her
        refine lv_if_ne hx hb d_Mod_add_44 (tgt := 52) (by decide) (fun q4 => ?_) (fun q4 => ?_)
        · exact absurd hc q4
        · refine lv_aload_n hx hb d_Mod_add_47 rfl (lv_at hl 2 rfl) ?_
          refine va_get (D := (dC, dI)) (ci := 1) (v := .int (nI wn)) (C := R_Mod) (T := F_Mod) (N := 16) hx hb hts hin_Mod hown hK hP 3 rfl rfl 12 (by decide) (hts _ (nw_mc 71 rfl)) (fun _ h9 => h9) rfl d_Mod_add_48 ?_
          have hP := hP.sub (ws' := [(hM, .inr (1, [.ref ai, .ref aw, .ref ar, .ref al, .ref aL, .ref aD, .ref ac, .ref af, .ref ap, .ref an, .ref ax, .int (nI 0), .int (nI wn), .int (nI chn), .int (nI rn), .int (nI 0)])), (ai, nw_ai cB 60 I), (aw, nw_ai cB 60000 X), (al, nw_ai cI 1000 Ln)]) [3, 0, 1, 2] rfl
          have hD := hD.sub (ws' := [(hM, .inr (1, [.ref ai, .ref aw, .ref ar, .ref al, .ref aL, .ref aD, .ref ac, .ref af, .ref ap, .ref an, .ref ax, .int (nI 0), .int (nI wn), .int (nI chn), .int (nI rn), .int (nI 0)])), (ai, nw_ai cB 60 I), (aw, nw_ai cB 60000 X), (al, nw_ai cI 1000 Ln)]) [3, 0, 1, 2] (by decide) rfl
          exact W.iret (v := nI wn) hx hb hr (fun t ht hW => ⟨⟨_, (), rfl, rfl, by rw [ht]; exact hP, hD⟩, hS.F ht⟩) hS.2.2 d_Mod_add_51
    · rw [nw_eq0 (by omega)] at q2
      omega
  · rw [nw_eq0 (by omega)] at q1
    omega

set_option maxHeartbeats 4000000 in
set_option maxRecDepth 100000 in
theorem c_Mod_add_new (l : Launch) (dC : Nat → ClassId) (dI : Nat → Nat → Nat) (sz : Nat) (cB cI : ClassId) (hM ai aw ar al aL aD ac af ap an ax isz wn chn rn th : Nat) (I X Ln : Nat → Nat) (at0 : Nat) (hat : at0 = nw_cnt (fun i => nw_cm (fun k => X (i * 60 + k)) (Ln i) I isz < 0) wn) (h1 : 1 ≤ isz) (hw : wn ≤ 1000) (hn : isz ≤ 60) (hL : ∀ i, i < wn → Ln i ≤ 60) (hX : ∀ j, X j < 128) (hI0 : ∀ j, I j < 128) (ho : ¬ (at0 < wn ∧ nw_cm (fun k => X (at0 * 60 + k)) (Ln at0) I isz = 0)) (hw2 : wn < 1000) (hch : chn + isz ≤ 12000) : Met l y_Mod_add w_Mod_add ({ frames := 3, cells := 0, slots := 0, locals := 68 }) (nw_Pw [.ref hM] (dC, dI) nw_cls [(cB, .byte), (cI, .int)] [(hM, .inr (1, [.ref ai, .ref aw, .ref ar, .ref al, .ref aL, .ref aD, .ref ac, .ref af, .ref ap, .ref an, .ref ax, .int (nI isz), .int (nI wn), .int (nI chn), .int (nI rn), .int (nI th)])), (ai, nw_ai cB 60 I), (aw, nw_ai cB 60000 X), (al, nw_ai cI 1000 Ln)] sz) (va_Qi (fun (r : Int32) (u : (Nat → Nat) × (Nat → Nat)) => r = nI (wn + 1) ∧ (∀ v, v < at0 → u.2 v = Ln v ∧ ∀ k, k < Ln v → u.1 (v * 60 + k) = X (v * 60 + k)) ∧ (u.2 at0 = isz ∧ ∀ k, k < isz → u.1 (at0 * 60 + k) = I k) ∧ (∀ v, at0 < v → v ≤ wn → u.2 v = Ln (v - 1) ∧ ∀ k, k < Ln (v - 1) → u.1 (v * 60 + k) = X ((v - 1) * 60 + k)) ∧ ∀ j, u.1 j < 128) (nw_B (dC, dI) nw_cls (va_A [(hM, .inr (1, [.ref ai, .ref aw, .ref ar, .ref al, .ref aL, .ref aD, .ref ac, .ref af, .ref ap, .ref an, .ref ax, .int (nI isz), .int (nI wn), .int (nI chn), .int (nI rn), .int (nI th)])), (ai, nw_ai cB 60 I), (aw, nw_ai cB 60000 X), (al, nw_ai cI 1000 Ln)] sz) (fun u => [(hM, .inr (1, [.ref ai, .ref aw, .ref ar, .ref al, .ref aL, .ref aD, .ref ac, .ref af, .ref ap, .ref an, .ref ax, .int (nI 0), .int (nI (wn + 1)), .int (nI (chn + isz)), .int (nI rn), .int (nI 0)])), (ai, nw_ai cB 60 I), (aw, nw_ai cB 60000 u.1), (al, nw_ai cI 1000 u.2)])) (va_A [(hM, .inr (1, [.ref ai, .ref aw, .ref ar, .ref al, .ref aL, .ref aD, .ref ac, .ref af, .ref ap, .ref an, .ref ax, .int (nI isz), .int (nI wn), .int (nI chn), .int (nI rn), .int (nI th)])), (ai, nw_ai cB 60 I), (aw, nw_ai cB 60000 X), (al, nw_ai cI 1000 Ln)] sz)) 0 0 (va_A [(hM, .inr (1, [.ref ai, .ref aw, .ref ar, .ref al, .ref aL, .ref aD, .ref ac, .ref af, .ref ap, .ref an, .ref ax, .int (nI isz), .int (nI wn), .int (nI chn), .int (nI rn), .int (nI th)])), (ai, nw_ai cB 60 I), (aw, nw_ai cB 60000 X), (al, nw_ai cI 1000 Ln)] sz) := by
  refine Met.ofW (cc := b_Mod_add) (maxL := 4) (ret := (some .int)) (by decide) rfl ?_
  intro p e s m args below meth cd s₁ B hml hv0
  obtain ⟨rfl, hsz, hP, hK, hD0⟩ := hv0
  have hx := B.exec
  have hb := B.bytes
  have hr := B.returns
  have hts := atoms_spec (ws := w_Mod_add) B.pre
  have hown : s.vm.findClass R_Mod = some m.cls := findClass_of_methodNamed B.named
  have hlocks := B.notSynchronized
  subst hsz
  have hD := hD0.self (sz := s.heap.size)
  generalize hAe : va_A [(hM, .inr (1, [.ref ai, .ref aw, .ref ar, .ref al, .ref aL, .ref aD, .ref ac, .ref af, .ref ap, .ref an, .ref ax, .int (nI isz), .int (nI wn), .int (nI chn), .int (nI rn), .int (nI th)])), (ai, nw_ai cB 60 I), (aw, nw_ai cB 60000 X), (al, nw_ai cI 1000 Ln)] s.heap.size = A at hD ⊢
  have hA : ∀ q : Nat, s.heap.size ≤ q → A q := fun q h => by rw [← hAe]; exact Or.inr h
  have hS : va_S A s.heap s.heap [] := va_S.rf
  have hl := lv_entry ([.ref hM]) (n := 4) (Nat.le_of_ble_eq_true rfl)
  rw [lg_entry_eq]
  generalize (lg_sl ([.ref hM]) ++ List.replicate (4 - (lg_sl ([.ref hM])).length) Slot.unset).toArray = ls at hl ⊢
  have hl : lv_has ls 4 [(0, .ref hM)] := hl
  have hat1 := nw_cnt_le (fun i => nw_cm (fun k => X (i * 60 + k)) (Ln i) I isz < 0) wn
  refine lv_aload_n hx hb d_Mod_add_0 rfl (lv_at hl 0 rfl) ?_
  refine nw_calli (wc := [(hM, .inr (1, [.ref ai, .ref aw, .ref ar, .ref al, .ref aL, .ref aD, .ref ac, .ref af, .ref ap, .ref an, .ref ax, .int (nI isz), .int (nI wn), .int (nI chn), .int (nI rn), .int (nI th)]))]) (wr := [(ai, nw_ai cB 60 I), (aw, nw_ai cB 60000 X), (al, nw_ai cI 1000 Ln)]) hP hD hS hA [0] [1, 2, 3] rfl rfl (by decide) (by decide) (va_runV (As := []) (rest := []) ⟨hx, hb, hml, hown, hts⟩ (c_Mod_take l dC dI _ hM ai aw ar al aL aD ac af ap an ax isz wn chn rn th) (cwV (C := R_Mod) 0 hts (nw_GV (nw_m 76 rfl) (nw_m 77 rfl) (nw_m 78 rfl) (nw_m 67 rfl) (nw_m 79 rfl)) rfl rfl rfl (by decide +kernel) ⟨Nat.le_of_ble_eq_true rfl, Nat.le_of_ble_eq_true rfl⟩) (nw_prewV (q0 := 0) (ci := 1) (q := (R_Mod, F_Mod, 16)) hK hP hD [0] [] (by decide) rfl rfl rfl rfl) rfl rfl hl.1 rfl (lv_room (Nat.le_of_ble_eq_true rfl)) d_Mod_add_1 ⟨Nat.le_of_ble_eq_true rfl, Nat.le_of_ble_eq_true rfl⟩) (fun r _ H locs hw hP hD hS => ?_)
  replace hP : va_P (dC, dI) nw_cls [(ai, nw_ai cB 60 I), (aw, nw_ai cB 60000 X), (al, nw_ai cI 1000 Ln), (hM, .inr (1, [.ref ai, .ref aw, .ref ar, .ref al, .ref aL, .ref aD, .ref ac, .ref af, .ref ap, .ref an, .ref ax, .int (nI 0), .int (nI wn), .int (nI chn), .int (nI rn), .int (nI th)]))] H := hP
  replace hD : va_D A [(ai, nw_ai cB 60 I), (aw, nw_ai cB 60000 X), (al, nw_ai cI 1000 Ln), (hM, .inr (1, [.ref ai, .ref aw, .ref ar, .ref al, .ref aL, .ref aD, .ref ac, .ref af, .ref ap, .ref an, .ref ax, .int (nI 0), .int (nI wn), .int (nI chn), .int (nI rn), .int (nI th)]))] := hD
  obtain rfl : r = nI isz := hw
  refine lv_istore_n hx hb d_Mod_add_4 rfl hl (by decide) rfl (fun ls hl => ?_)
  replace hl : lv_has ls 4 [(1, .int (nI isz)), (0, .ref hM)] := hl
  refine lv_aload_n hx hb d_Mod_add_5 rfl (lv_at hl 1 rfl) ?_
  refine lv_iload_n hx hb d_Mod_add_6 rfl (lv_at hl 0 rfl) ?_
  refine lv_if_ne hx hb d_Mod_add_7 (tgt := 14) (by decide) (fun q1 => ?_) (fun q1 => ?_)
  · rw [nw_eq0 (by omega)] at q1
    refine lv_iconst (v := nI 0) hx hb d_Mod_add_14 (by decide) ?_
    refine va_put (D := (dC, dI)) (ci := 1) (v := .int (nI 0)) (ty := .int) (C := R_Mod) (T := F_Mod) (N := 16) hx hb hts hin_Mod t_Mod t_Mod_ok n_Mod hown hK hP hD hS 3 rfl rfl 15 (by decide) (hts _ (nw_mc 62 rfl)) (fun _ h9 => h9) rfl (by decide +kernel) rfl rfl (Nat.le_of_ble_eq_true rfl) d_Mod_add_15 (fun H locs hP hD hS => ?_)
    replace hP : va_P (dC, dI) nw_cls [(ai, nw_ai cB 60 I), (aw, nw_ai cB 60000 X), (al, nw_ai cI 1000 Ln), (hM, .inr (1, [.ref ai, .ref aw, .ref ar, .ref al, .ref aL, .ref aD, .ref ac, .ref af, .ref ap, .ref an, .ref ax, .int (nI 0), .int (nI wn), .int (nI chn), .int (nI rn), .int (nI 0)]))] H := hP
    replace hD : va_D A [(ai, nw_ai cB 60 I), (aw, nw_ai cB 60000 X), (al, nw_ai cI 1000 Ln), (hM, .inr (1, [.ref ai, .ref aw, .ref ar, .ref al, .ref aL, .ref aD, .ref ac, .ref af, .ref ap, .ref an, .ref ax, .int (nI 0), .int (nI wn), .int (nI chn), .int (nI rn), .int (nI 0)]))] := hD
    refine lv_iload_n hx hb d_Mod_add_18 rfl (lv_at hl 0 rfl) ?_
    refine lv_if_ne hx hb d_Mod_add_19 (tgt := 24) (by decide) (fun q2 => ?_) (fun q2 => ?_)
    · rw [nw_eq0 (by omega)] at q2
      refine lv_aload_n hx hb d_Mod_add_24 rfl (lv_at hl 1 rfl) ?_
      refine lv_iload_n hx hb d_Mod_add_25 rfl (lv_at hl 0 rfl) ?_
      refine vp_callSi (va_Run.run (va_runV (As := [.int (nI isz)]) (rest := []) ⟨hx, hb, hml, hown, hts⟩ (c_Mod_standing l dC dI cB cI hM ai aw ar al aL aD ac af ap an ax 0 wn chn rn 0 I X Ln isz (by omega) (by omega) hL hX hI0) (cwV (C := R_Mod) 1 hts (nw_GV (nw_m 80 rfl) (nw_m 81 rfl) (nw_m 82 rfl) (nw_m 67 rfl) (nw_m 83 rfl)) rfl rfl rfl (by decide +kernel) ⟨Nat.le_of_ble_eq_true rfl, Nat.le_of_ble_eq_true rfl⟩) (nw_preV (q0 := 3) (ci := 1) (q := (R_Mod, F_Mod, 16)) hK hP [3, 0, 1, 2] [0, 1] rfl rfl rfl rfl) rfl rfl hl.1 rfl (lv_room (Nat.le_of_ble_eq_true rfl)) d_Mod_add_26 ⟨Nat.le_of_ble_eq_true rfl, Nat.le_of_ble_eq_true rfl⟩)) (fun r her => ?_)
      subst her
      refine nw_ti (y := nI at0) (congrArg nI hat.symm) ?_
      refine lv_istore_n hx hb d_Mod_add_29 rfl hl (by decide) rfl (fun ls hl => ?_)
      replace hl : lv_has ls 4 [(2, .int (nI at0)), (1, .int (nI isz)), (0, .ref hM)] := hl
      refine lv_iload_n hx hb d_Mod_add_30 rfl (lv_at hl 0 rfl) ?_
      refine lv_aload_n hx hb d_Mod_add_31 rfl (lv_at hl 2 rfl) ?_
      refine va_get (D := (dC, dI)) (ci := 1) (v := .int (nI wn)) (C := R_Mod) (T := F_Mod) (N := 16) hx hb hts hin_Mod hown hK hP 3 rfl rfl 12 (by decide) (hts _ (nw_mc 71 rfl)) (fun _ h9 => h9) rfl d_Mod_add_32 ?_
      refine lv_icmp_ge hx hb d_Mod_add_35 (tgt := 52) (by decide) (fun q3 => ?_) (fun q3 => ?_)
      · rw [nI_leI (by omega) (by omega)] at q3
        refine lv_aload_n hx hb d_Mod_add_52 rfl (lv_at hl 2 rfl) ?_
        refine va_get (D := (dC, dI)) (ci := 1) (v := .int (nI wn)) (C := R_Mod) (T := F_Mod) (N := 16) hx hb hts hin_Mod hown hK hP 3 rfl rfl 12 (by decide) (hts _ (nw_mc 71 rfl)) (fun _ h9 => h9) rfl d_Mod_add_53 ?_
        refine lv_sipush (v := nI 1000) hx hb d_Mod_add_56 (by decide) ?_
        refine lv_icmp_eq hx hb d_Mod_add_59 (tgt := 74) (by decide) (fun q5 => ?_) (fun q5 => ?_)
        · rw [nI_eq (by omega) (by omega)] at q5
          omega
        · rw [nI_eq (by omega) (by omega)] at q5
          refine lv_aload_n hx hb d_Mod_add_62 rfl (lv_at hl 2 rfl) ?_
          refine va_get (D := (dC, dI)) (ci := 1) (v := .int (nI chn)) (C := R_Mod) (T := F_Mod) (N := 16) hx hb hts hin_Mod hown hK hP 3 rfl rfl 13 (by decide) (hts _ (nw_mc 84 rfl)) (fun _ h9 => h9) rfl d_Mod_add_63 ?_
          refine lv_iload_n hx hb d_Mod_add_66 rfl (lv_at hl 1 rfl) ?_
          refine lv_iadd hx hb d_Mod_add_67 ?_
          refine nw_ti (nI_add chn isz) ?_
          refine lv_sipush (v := nI 12000) hx hb d_Mod_add_68 (by decide) ?_
          refine lv_icmp_le hx hb d_Mod_add_71 (tgt := 81) (by decide) (fun q6 => ?_) (fun q6 => ?_)
          · rw [nI_leI (by omega) (by omega)] at q6
            refine lv_aload_n hx hb d_Mod_add_81 rfl (lv_at hl 2 rfl) ?_
            refine va_get (D := (dC, dI)) (ci := 1) (v := .int (nI wn)) (C := R_Mod) (T := F_Mod) (N := 16) hx hb hts hin_Mod hown hK hP 3 rfl rfl 12 (by decide) (hts _ (nw_mc 71 rfl)) (fun _ h9 => h9) rfl d_Mod_add_82 ?_
            refine lv_istore_n hx hb d_Mod_add_85 rfl hl (by decide) rfl (fun ls hl => ?_)
            replace hl : lv_has ls 4 [(3, .int (nI wn)), (2, .int (nI at0)), (1, .int (nI isz)), (0, .ref hM)] := hl
            have hP := hP.sub (ws' := [(hM, .inr (1, [.ref ai, .ref aw, .ref ar, .ref al, .ref aL, .ref aD, .ref ac, .ref af, .ref ap, .ref an, .ref ax, .int (nI 0), .int (nI wn), .int (nI chn), .int (nI rn), .int (nI 0)])), (ai, nw_ai cB 60 I), (aw, nw_ai cB 60000 X), (al, nw_ai cI 1000 Ln)]) [3, 0, 1, 2] rfl
            have hD := hD.sub (ws' := [(hM, .inr (1, [.ref ai, .ref aw, .ref ar, .ref al, .ref aL, .ref aD, .ref ac, .ref af, .ref ap, .ref an, .ref ax, .int (nI 0), .int (nI wn), .int (nI chn), .int (nI rn), .int (nI 0)])), (ai, nw_ai cB 60 I), (aw, nw_ai cB 60000 X), (al, nw_ai cI 1000 Ln)]) [3, 0, 1, 2] (by decide) rfl
            refine nw_loopW (σ := Nat × (Nat → Nat) × (Nat → Nat)) (fun x => match x with | (w, f, g) => at0 ≤ w ∧ w ≤ wn ∧ (∀ v, v < w → g v = Ln v ∧ ∀ k, k < Ln v → f (v * 60 + k) = X (v * 60 + k)) ∧ (∀ v, w < v → v ≤ wn → g v = Ln (v - 1) ∧ ∀ k, k < Ln (v - 1) → f (v * 60 + k) = X ((v - 1) * 60 + k)) ∧ ∀ j, f j < 128) (fun x => match x with | (w, f, g) => [(3, .int (nI w)), (2, .int (nI at0)), (1, .int (nI isz)), (0, .ref hM)]) (fun x => match x with | (w, f, g) => [(hM, .inr (1, [.ref ai, .ref aw, .ref ar, .ref al, .ref aL, .ref aD, .ref ac, .ref af, .ref ap, .ref an, .ref ax, .int (nI 0), .int (nI wn), .int (nI chn), .int (nI rn), .int (nI 0)])), (ai, nw_ai cB 60 I), (aw, nw_ai cB 60000 f), (al, nw_ai cI 1000 g)]) (fun x => match x with | (w, f, g) => w) (fun x hA1 ih1 ls H locs hl hP hD hS => ?_) (wn, X, Ln) (⟨by omega, Nat.le_refl _, fun v _ => ⟨rfl, fun k _ => rfl⟩, fun v h1 h2 => by omega, hX⟩) hl hP hD hS
            obtain ⟨w, f, g⟩ := x
            replace hA1 : at0 ≤ w ∧ w ≤ wn ∧ (∀ v, v < w → g v = Ln v ∧ ∀ k, k < Ln v → f (v * 60 + k) = X (v * 60 + k)) ∧ (∀ v, w < v → v ≤ wn → g v = Ln (v - 1) ∧ ∀ k, k < Ln (v - 1) → f (v * 60 + k) = X ((v - 1) * 60 + k)) ∧ ∀ j, f j < 128 := hA1
            replace hl : lv_has ls 4 [(3, .int (nI w)), (2, .int (nI at0)), (1, .int (nI isz)), (0, .ref hM)] := hl
            replace hP : va_P (dC, dI) nw_cls [(hM, .inr (1, [.ref ai, .ref aw, .ref ar, .ref al, .ref aL, .ref aD, .ref ac, .ref af, .ref ap, .ref an, .ref ax, .int (nI 0), .int (nI wn), .int (nI chn), .int (nI rn), .int (nI 0)])), (ai, nw_ai cB 60 I), (aw, nw_ai cB 60000 f), (al, nw_ai cI 1000 g)] H := hP
            replace hD : va_D A [(hM, .inr (1, [.ref ai, .ref aw, .ref ar, .ref al, .ref aL, .ref aD, .ref ac, .ref af, .ref ap, .ref an, .ref ax, .int (nI 0), .int (nI wn), .int (nI chn), .int (nI rn), .int (nI 0)])), (ai, nw_ai cB 60 I), (aw, nw_ai cB 60000 f), (al, nw_ai cI 1000 g)] := hD
            obtain ⟨hw1, hw3, hlo, hhi, hf⟩ := hA1
            refine lv_iload_n hx hb d_Mod_add_86 rfl (lv_at hl 0 rfl) ?_
            refine lv_iload_n hx hb d_Mod_add_87 rfl (lv_at hl 1 rfl) ?_
            refine lv_icmp_le hx hb d_Mod_add_88 (tgt := 113) (by decide) (fun q7 => ?_) (fun q7 => ?_)
            · rw [nI_leI (by omega) (by omega)] at q7
              have hw9 : w = at0 := by omega
              refine lv_iconst (v := nI 0) hx hb d_Mod_add_113 (by decide) ?_
              refine lv_istore_n hx hb d_Mod_add_114 rfl hl (by decide) rfl (fun ls hl => ?_)
              replace hl : lv_has ls 4 [(3, .int (nI 0)), (2, .int (nI at0)), (1, .int (nI isz)), (0, .ref hM)] := hl
              refine nw_loopW (σ := Nat × (Nat → Nat)) (fun x => match x with | (k, y) => k ≤ isz ∧ ∀ x, y x = va_cpy I f 0 (at0 * 60) k x) (fun x => match x with | (k, y) => [(3, .int (nI k)), (2, .int (nI at0)), (1, .int (nI isz)), (0, .ref hM)]) (fun x => match x with | (k, y) => [(hM, .inr (1, [.ref ai, .ref aw, .ref ar, .ref al, .ref aL, .ref aD, .ref ac, .ref af, .ref ap, .ref an, .ref ax, .int (nI 0), .int (nI wn), .int (nI chn), .int (nI rn), .int (nI 0)])), (ai, nw_ai cB 60 I), (aw, nw_ai cB 60000 y), (al, nw_ai cI 1000 g)]) (fun x => match x with | (k, y) => isz - k) (fun x hA2 ih2 ls H locs hl hP hD hS => ?_) (0, f) (⟨Nat.zero_le _, fun x => (nw_cpy_0 I f _ _ x).symm⟩) hl hP hD hS
              obtain ⟨k, y⟩ := x
              replace hA2 : k ≤ isz ∧ ∀ x, y x = va_cpy I f 0 (at0 * 60) k x := hA2
              replace hl : lv_has ls 4 [(3, .int (nI k)), (2, .int (nI at0)), (1, .int (nI isz)), (0, .ref hM)] := hl
              replace hP : va_P (dC, dI) nw_cls [(hM, .inr (1, [.ref ai, .ref aw, .ref ar, .ref al, .ref aL, .ref aD, .ref ac, .ref af, .ref ap, .ref an, .ref ax, .int (nI 0), .int (nI wn), .int (nI chn), .int (nI rn), .int (nI 0)])), (ai, nw_ai cB 60 I), (aw, nw_ai cB 60000 y), (al, nw_ai cI 1000 g)] H := hP
              replace hD : va_D A [(hM, .inr (1, [.ref ai, .ref aw, .ref ar, .ref al, .ref aL, .ref aD, .ref ac, .ref af, .ref ap, .ref an, .ref ax, .int (nI 0), .int (nI wn), .int (nI chn), .int (nI rn), .int (nI 0)])), (ai, nw_ai cB 60 I), (aw, nw_ai cB 60000 y), (al, nw_ai cI 1000 g)] := hD
              obtain ⟨hk1, hy⟩ := hA2
              refine lv_iload_n hx hb d_Mod_add_115 rfl (lv_at hl 0 rfl) ?_
              refine lv_iload_n hx hb d_Mod_add_116 rfl (lv_at hl 2 rfl) ?_
              refine lv_icmp_ge hx hb d_Mod_add_117 (tgt := 143) (by decide) (fun q8 => ?_) (fun q8 => ?_)
              · rw [nI_leI (by omega) (by omega)] at q8
                have hk9 : k = isz := by omega
                refine lv_aload_n hx hb d_Mod_add_143 rfl (lv_at hl 3 rfl) ?_
                refine va_get (D := (dC, dI)) (ci := 1) (v := .ref al) (C := R_Mod) (T := F_Mod) (N := 16) hx hb hts hin_Mod hown hK hP 0 rfl rfl 3 (by decide) (hts _ (nw_mc 64 rfl)) (fun _ h9 => h9) rfl d_Mod_add_144 ?_
                refine lv_iload_n hx hb d_Mod_add_147 rfl (lv_at hl 1 rfl) ?_
                refine lv_iload_n hx hb d_Mod_add_148 rfl (lv_at hl 2 rfl) ?_
                refine nw_iast hx hb hK hP hD hS 3 1 rfl rfl (k := at0) (v := isz) (by omega) (by first | decide | omega) d_Mod_add_149 (fun H locs hP hD hS => ?_)
                replace hP : va_P (dC, dI) nw_cls [(hM, .inr (1, [.ref ai, .ref aw, .ref ar, .ref al, .ref aL, .ref aD, .ref ac, .ref af, .ref ap, .ref an, .ref ax, .int (nI 0), .int (nI wn), .int (nI chn), .int (nI rn), .int (nI 0)])), (ai, nw_ai cB 60 I), (aw, nw_ai cB 60000 y), (al, nw_ai cI 1000 (va_up g at0 isz))] H := hP
                replace hD : va_D A [(hM, .inr (1, [.ref ai, .ref aw, .ref ar, .ref al, .ref aL, .ref aD, .ref ac, .ref af, .ref ap, .ref an, .ref ax, .int (nI 0), .int (nI wn), .int (nI chn), .int (nI rn), .int (nI 0)])), (ai, nw_ai cB 60 I), (aw, nw_ai cB 60000 y), (al, nw_ai cI 1000 (va_up g at0 isz))] := hD
                refine lv_aload_n hx hb d_Mod_add_150 rfl (lv_at hl 3 rfl) ?_
                refine lv_dup hx hb d_Mod_add_151 rfl ?_
                refine va_get (D := (dC, dI)) (ci := 1) (v := .int (nI wn)) (C := R_Mod) (T := F_Mod) (N := 16) hx hb hts hin_Mod hown hK hP 0 rfl rfl 12 (by decide) (hts _ (nw_mc 71 rfl)) (fun _ h9 => h9) rfl d_Mod_add_152 ?_
                refine lv_iconst (v := nI 1) hx hb d_Mod_add_155 (by decide) ?_
                refine lv_iadd hx hb d_Mod_add_156 ?_
                refine nw_ti (nI_add wn 1) ?_
                refine va_put (D := (dC, dI)) (ci := 1) (v := .int (nI (wn + 1))) (ty := .int) (C := R_Mod) (T := F_Mod) (N := 16) hx hb hts hin_Mod t_Mod t_Mod_ok n_Mod hown hK hP hD hS 0 rfl rfl 12 (by decide) (hts _ (nw_mc 71 rfl)) (fun _ h9 => h9) rfl (by decide +kernel) rfl rfl (Nat.le_of_ble_eq_true rfl) d_Mod_add_157 (fun H locs hP hD hS => ?_)
                replace hP : va_P (dC, dI) nw_cls [(hM, .inr (1, [.ref ai, .ref aw, .ref ar, .ref al, .ref aL, .ref aD, .ref ac, .ref af, .ref ap, .ref an, .ref ax, .int (nI 0), .int (nI (wn + 1)), .int (nI chn), .int (nI rn), .int (nI 0)])), (ai, nw_ai cB 60 I), (aw, nw_ai cB 60000 y), (al, nw_ai cI 1000 (va_up g at0 isz))] H := hP
                replace hD : va_D A [(hM, .inr (1, [.ref ai, .ref aw, .ref ar, .ref al, .ref aL, .ref aD, .ref ac, .ref af, .ref ap, .ref an, .ref ax, .int (nI 0), .int (nI (wn + 1)), .int (nI chn), .int (nI rn), .int (nI 0)])), (ai, nw_ai cB 60 I), (aw, nw_ai cB 60000 y), (al, nw_ai cI 1000 (va_up g at0 isz))] := hD
                refine lv_aload_n hx hb d_Mod_add_160 rfl (lv_at hl 3 rfl) ?_
                refine lv_dup hx hb d_Mod_add_161 rfl ?_
                refine va_get (D := (dC, dI)) (ci := 1) (v := .int (nI chn)) (C := R_Mod) (T := F_Mod) (N := 16) hx hb hts hin_Mod hown hK hP 0 rfl rfl 13 (by decide) (hts _ (nw_mc 84 rfl)) (fun _ h9 => h9) rfl d_Mod_add_162 ?_
                refine lv_iload_n hx hb d_Mod_add_165 rfl (lv_at hl 2 rfl) ?_
                refine lv_iadd hx hb d_Mod_add_166 ?_
                refine nw_ti (nI_add chn isz) ?_
                refine va_put (D := (dC, dI)) (ci := 1) (v := .int (nI (chn + isz))) (ty := .int) (C := R_Mod) (T := F_Mod) (N := 16) hx hb hts hin_Mod t_Mod t_Mod_ok n_Mod hown hK hP hD hS 0 rfl rfl 13 (by decide) (hts _ (nw_mc 84 rfl)) (fun _ h9 => h9) rfl (by decide +kernel) rfl rfl (Nat.le_of_ble_eq_true rfl) d_Mod_add_167 (fun H locs hP hD hS => ?_)
                replace hP : va_P (dC, dI) nw_cls [(hM, .inr (1, [.ref ai, .ref aw, .ref ar, .ref al, .ref aL, .ref aD, .ref ac, .ref af, .ref ap, .ref an, .ref ax, .int (nI 0), .int (nI (wn + 1)), .int (nI (chn + isz)), .int (nI rn), .int (nI 0)])), (ai, nw_ai cB 60 I), (aw, nw_ai cB 60000 y), (al, nw_ai cI 1000 (va_up g at0 isz))] H := hP
                replace hD : va_D A [(hM, .inr (1, [.ref ai, .ref aw, .ref ar, .ref al, .ref aL, .ref aD, .ref ac, .ref af, .ref ap, .ref an, .ref ax, .int (nI 0), .int (nI (wn + 1)), .int (nI (chn + isz)), .int (nI rn), .int (nI 0)])), (ai, nw_ai cB 60 I), (aw, nw_ai cB 60000 y), (al, nw_ai cI 1000 (va_up g at0 isz))] := hD
                refine lv_aload_n hx hb d_Mod_add_170 rfl (lv_at hl 3 rfl) ?_
                refine va_get (D := (dC, dI)) (ci := 1) (v := .int (nI (wn + 1))) (C := R_Mod) (T := F_Mod) (N := 16) hx hb hts hin_Mod hown hK hP 0 rfl rfl 12 (by decide) (hts _ (nw_mc 71 rfl)) (fun _ h9 => h9) rfl d_Mod_add_171 ?_
                exact W.iret (v := nI (wn + 1)) hx hb hr (fun t ht hW => ⟨⟨_, (y, va_up g at0 isz), rfl, ⟨rfl, fun v hv => ⟨(va_up_ne g _ (by omega)).trans (hlo v (by omega)).1, fun j hj => by
                      have := hL v (by omega)
                      show y _ = _
                      rw [hy, hk9, pk_cpy_out (by omega)]; exact (hlo v (by omega)).2 j hj⟩, ⟨va_up_self g _ _, fun j hj => by show y _ = _; rw [hy, hk9, pk_cpy_in (by omega) (by omega)]; congr 1; omega⟩, fun v h1 h2 => ⟨(va_up_ne g _ (by omega)).trans (hhi v (by omega) h2).1, fun j hj => by
                      show y _ = _
                      rw [hy, hk9, pk_cpy_out (by omega)]; exact (hhi v (by omega) h2).2 j hj⟩, fun j => by
                      show y j < 128
                      rw [hy, hk9]
                      by_cases e : at0 * 60 ≤ j ∧ j < at0 * 60 + isz
                      · rw [pk_cpy_in e.1 e.2]; exact hI0 _
                      · rw [pk_cpy_out (by omega)]; exact hf _⟩, by rw [ht]; exact hP, hD⟩, hS.F ht⟩) hS.2.2 d_Mod_add_174
              · rw [nI_leI (by omega) (by omega)] at q8
                have hv2 := hI0 k
                refine lv_aload_n hx hb d_Mod_add_120 rfl (lv_at hl 3 rfl) ?_
                refine va_get (D := (dC, dI)) (ci := 1) (v := .ref aw) (C := R_Mod) (T := F_Mod) (N := 16) hx hb hts hin_Mod hown hK hP 0 rfl rfl 1 (by decide) (hts _ (nw_mc 69 rfl)) (fun _ h9 => h9) rfl d_Mod_add_121 ?_
                refine lv_iload_n hx hb d_Mod_add_124 rfl (lv_at hl 1 rfl) ?_
                refine lv_bipush (v := nI 60) hx hb d_Mod_add_125 (by decide) ?_
                refine lv_imul hx hb d_Mod_add_127 ?_
                refine nw_ti (pk_mul at0 60) ?_
                refine lv_iload_n hx hb d_Mod_add_128 rfl (lv_at hl 0 rfl) ?_
                refine lv_iadd hx hb d_Mod_add_129 ?_
                refine nw_ti (nI_add (at0 * 60) k) ?_
                refine lv_aload_n hx hb d_Mod_add_130 rfl (lv_at hl 3 rfl) ?_
                refine va_get (D := (dC, dI)) (ci := 1) (v := .ref ai) (C := R_Mod) (T := F_Mod) (N := 16) hx hb hts hin_Mod hown hK hP 0 rfl rfl 0 (by decide) (hts _ (nw_mc 70 rfl)) (fun _ h9 => h9) rfl d_Mod_add_131 ?_
                refine lv_iload_n hx hb d_Mod_add_134 rfl (lv_at hl 0 rfl) ?_
                refine nw_bald hx hb hK hP 1 0 rfl rfl (k := k) (by omega) (by first | decide | omega) d_Mod_add_135 ?_
                refine nw_bast hx hb hK hP hD hS 2 0 rfl rfl (k := ((at0 * 60) + k)) (v := (I k)) (by omega) (by first | decide | omega) (by omega) d_Mod_add_136 (fun H locs hP hD hS => ?_)
                replace hP : va_P (dC, dI) nw_cls [(hM, .inr (1, [.ref ai, .ref aw, .ref ar, .ref al, .ref aL, .ref aD, .ref ac, .ref af, .ref ap, .ref an, .ref ax, .int (nI 0), .int (nI wn), .int (nI chn), .int (nI rn), .int (nI 0)])), (ai, nw_ai cB 60 I), (aw, nw_ai cB 60000 (va_up y ((at0 * 60) + k) (I k))), (al, nw_ai cI 1000 g)] H := hP
                replace hD : va_D A [(hM, .inr (1, [.ref ai, .ref aw, .ref ar, .ref al, .ref aL, .ref aD, .ref ac, .ref af, .ref ap, .ref an, .ref ax, .int (nI 0), .int (nI wn), .int (nI chn), .int (nI rn), .int (nI 0)])), (ai, nw_ai cB 60 I), (aw, nw_ai cB 60000 (va_up y ((at0 * 60) + k) (I k))), (al, nw_ai cI 1000 g)] := hD
                refine lv_iinc (v := nI (k + 1)) hx hb d_Mod_add_137 hl (k := 0) rfl (nI_add k 1) (by decide) rfl (fun ls hl => ?_)
                have hl : lv_has ls 4 [(3, .int (nI (k + 1))), (2, .int (nI at0)), (1, .int (nI isz)), (0, .ref hM)] := hl
                refine lv_goto hx hb d_Mod_add_140 (tgt := 115) (by decide) ?_
                exact ih2 (k + 1, va_up y ((at0 * 60) + k) (I k)) (⟨by omega, nw_cpy_s hy (by rw [Nat.zero_add])⟩) (show isz - (k + 1) < isz - k by omega) _ _ _ hl hP hD hS
            · rw [nI_leI (by omega) (by omega)] at q7
              have hg1 := (hlo (w - 1) (by omega)).1
              have hl1 := hL (w - 1) (by omega)
              refine lv_aload_n hx hb d_Mod_add_91 rfl (lv_at hl 3 rfl) ?_
              refine lv_iload_n hx hb d_Mod_add_92 rfl (lv_at hl 0 rfl) ?_
              refine lv_iconst (v := nI 1) hx hb d_Mod_add_93 (by decide) ?_
              refine lv_isub hx hb d_Mod_add_94 ?_
              refine nw_ti (pk_sub (a := w) (b := 1) (by omega)) ?_
              refine lv_iload_n hx hb d_Mod_add_95 rfl (lv_at hl 0 rfl) ?_
              refine lv_aload_n hx hb d_Mod_add_96 rfl (lv_at hl 3 rfl) ?_
              refine va_get (D := (dC, dI)) (ci := 1) (v := .ref al) (C := R_Mod) (T := F_Mod) (N := 16) hx hb hts hin_Mod hown hK hP 0 rfl rfl 3 (by decide) (hts _ (nw_mc 64 rfl)) (fun _ h9 => h9) rfl d_Mod_add_97 ?_
              refine lv_iload_n hx hb d_Mod_add_100 rfl (lv_at hl 0 rfl) ?_
              refine lv_iconst (v := nI 1) hx hb d_Mod_add_101 (by decide) ?_
              refine lv_isub hx hb d_Mod_add_102 ?_
              refine nw_ti (pk_sub (a := w) (b := 1) (by omega)) ?_
              refine nw_iald hx hb hK hP 3 1 rfl rfl (k := (w - 1)) (by omega) (by first | decide | omega) d_Mod_add_103 ?_
              refine nw_callv (wc := [(hM, .inr (1, [.ref ai, .ref aw, .ref ar, .ref al, .ref aL, .ref aD, .ref ac, .ref af, .ref ap, .ref an, .ref ax, .int (nI 0), .int (nI wn), .int (nI chn), .int (nI rn), .int (nI 0)])), (aw, nw_ai cB 60000 f), (al, nw_ai cI 1000 g)]) (wr := [(ai, nw_ai cB 60 I)]) hP hD hS hA [0, 2, 3] [1] rfl rfl (by decide) (by decide) (va_runV (As := [.int (nI (w - 1)), .int (nI w), .int (nI (g (w - 1)))]) (rest := []) ⟨hx, hb, hml, hown, hts⟩ (c_Mod_shift l dC dI _ cB cI hM ai aw ar al aL aD ac af ap an ax 0 wn chn rn 0 f g (w - 1) w (g (w - 1)) (by omega) (by omega) (by omega) (by omega) hf) (cwV (C := R_Mod) 3 hts (nw_GV (nw_m 92 rfl) (nw_m 93 rfl) (nw_m 94 rfl) (nw_m 67 rfl) (nw_m 95 rfl)) rfl rfl rfl (by decide +kernel) ⟨Nat.le_of_ble_eq_true rfl, Nat.le_of_ble_eq_true rfl⟩) (nw_prewV (q0 := 0) (ci := 1) (q := (R_Mod, F_Mod, 16)) hK hP hD [0, 2, 3] [0, 1] (by decide) rfl rfl rfl rfl) rfl rfl hl.1 rfl (lv_room (Nat.le_of_ble_eq_true rfl)) d_Mod_add_104 ⟨Nat.le_of_ble_eq_true rfl, Nat.le_of_ble_eq_true rfl⟩) (fun _ H locs hw hP hD hS => ?_)
              replace hP : va_P (dC, dI) nw_cls [(ai, nw_ai cB 60 I), (hM, .inr (1, [.ref ai, .ref aw, .ref ar, .ref al, .ref aL, .ref aD, .ref ac, .ref af, .ref ap, .ref an, .ref ax, .int (nI 0), .int (nI wn), .int (nI chn), .int (nI rn), .int (nI 0)])), (aw, nw_ai cB 60000 (va_cpy f f ((w - 1) * 60) (w * 60) (g (w - 1)))), (al, nw_ai cI 1000 (va_up g w (g (w - 1))))] H := hP
              replace hD : va_D A [(ai, nw_ai cB 60 I), (hM, .inr (1, [.ref ai, .ref aw, .ref ar, .ref al, .ref aL, .ref aD, .ref ac, .ref af, .ref ap, .ref an, .ref ax, .int (nI 0), .int (nI wn), .int (nI chn), .int (nI rn), .int (nI 0)])), (aw, nw_ai cB 60000 (va_cpy f f ((w - 1) * 60) (w * 60) (g (w - 1)))), (al, nw_ai cI 1000 (va_up g w (g (w - 1))))] := hD
              refine lv_iinc (v := nI (w - 1)) hx hb d_Mod_add_107 hl (k := 0) rfl (nw_dec 1 (by omega)) (by decide) rfl (fun ls hl => ?_)
              have hl : lv_has ls 4 [(3, .int (nI (w - 1))), (2, .int (nI at0)), (1, .int (nI isz)), (0, .ref hM)] := hl
              refine lv_goto hx hb d_Mod_add_110 (tgt := 86) (by decide) ?_
              exact ih1 (w - 1, va_cpy f f ((w - 1) * 60) (w * 60) (g (w - 1)), va_up g w (g (w - 1))) (⟨by omega, by omega, fun v hv => ⟨(va_up_ne g _ (by omega)).trans (hlo v (by omega)).1, fun k hk => by
                have := hL v (by omega)
                rw [pk_cpy_out (by omega)]; exact (hlo v (by omega)).2 k hk⟩, fun v h1 h2 => by
                by_cases e : v = w
                · refine ⟨by rw [e, va_up_self]; exact hg1, fun k hk => ?_⟩
                  rw [e] at hk ⊢
                  rw [pk_cpy_in (by omega) (by omega), show (w - 1) * 60 + (w * 60 + k - w * 60) = (w - 1) * 60 + k by omega]
                  exact (hlo (w - 1) (by omega)).2 k hk
                · refine ⟨(va_up_ne g _ e).trans (hhi v (by omega) h2).1, fun k hk => ?_⟩
                  rw [pk_cpy_out (by omega)]; exact (hhi v (by omega) h2).2 k hk, fun j => by
                by_cases e : w * 60 ≤ j ∧ j < w * 60 + g (w - 1)
                · rw [pk_cpy_in e.1 e.2]; exact hf _
                · rw [pk_cpy_out (by omega)]; exact hf _⟩) (show w - 1 < w by omega) _ _ _ hl (hP.sub [1, 0, 2, 3] rfl) (hD.sub [1, 0, 2, 3] (by decide) rfl) hS
          · rw [nI_leI (by omega) (by omega)] at q6
            omega
      · rw [nI_leI (by omega) (by omega)] at q3
        refine lv_aload_n hx hb d_Mod_add_38 rfl (lv_at hl 2 rfl) ?_
        refine lv_iload_n hx hb d_Mod_add_39 rfl (lv_at hl 0 rfl) ?_
        refine lv_iload_n hx hb d_Mod_add_40 rfl (lv_at hl 1 rfl) ?_
        refine vp_callSi (va_Run.run (va_runV (As := [.int (nI at0), .int (nI isz)]) (rest := []) ⟨hx, hb, hml, hown, hts⟩ (c_Mod_order l dC dI cB cI hM ai aw ar al aL aD ac af ap an ax 0 wn chn rn 0 I X Ln at0 isz (by omega) (by omega) (hL _ (by omega)) hX hI0) (cwV (C := R_Mod) 2 hts (nw_GV (nw_m 72 rfl) (nw_m 73 rfl) (nw_m 74 rfl) (nw_m 67 rfl) (nw_m 75 rfl)) rfl rfl rfl (by decide +kernel) ⟨Nat.le_of_ble_eq_true rfl, Nat.le_of_ble_eq_true rfl⟩) (nw_preV (q0 := 3) (ci := 1) (q := (R_Mod, F_Mod, 16)) hK hP [3, 0, 1, 2] [0, 1] rfl rfl rfl rfl) rfl rfl hl.1 rfl (lv_room (Nat.le_of_ble_eq_true rfl)) d_Mod_add_41 ⟨Nat.le_of_ble_eq_true rfl, Nat.le_of_ble_eq_true rfl⟩)) (fun r her => ?_)
        subst her
        refine lv_if_ne hx hb d_Mod_add_44 (tgt := 52) (by decide) (fun q4 => ?_) (fun q4 => ?_)
        · refine lv_aload_n hx hb d_Mod_add_52 rfl (lv_at hl 2 rfl) ?_
          refine va_get (D := (dC, dI)) (ci := 1) (v := .int (nI wn)) (C := R_Mod) (T := F_Mod) (N := 16) hx hb hts hin_Mod hown hK hP 3 rfl rfl 12 (by decide) (hts _ (nw_mc 71 rfl)) (fun _ h9 => h9) rfl d_Mod_add_53 ?_
          refine lv_sipush (v := nI 1000) hx hb d_Mod_add_56 (by decide) ?_
          refine lv_icmp_eq hx hb d_Mod_add_59 (tgt := 74) (by decide) (fun q5 => ?_) (fun q5 => ?_)
          · rw [nI_eq (by omega) (by omega)] at q5
            omega
          · rw [nI_eq (by omega) (by omega)] at q5
            refine lv_aload_n hx hb d_Mod_add_62 rfl (lv_at hl 2 rfl) ?_
            refine va_get (D := (dC, dI)) (ci := 1) (v := .int (nI chn)) (C := R_Mod) (T := F_Mod) (N := 16) hx hb hts hin_Mod hown hK hP 3 rfl rfl 13 (by decide) (hts _ (nw_mc 84 rfl)) (fun _ h9 => h9) rfl d_Mod_add_63 ?_
            refine lv_iload_n hx hb d_Mod_add_66 rfl (lv_at hl 1 rfl) ?_
            refine lv_iadd hx hb d_Mod_add_67 ?_
            refine nw_ti (nI_add chn isz) ?_
            refine lv_sipush (v := nI 12000) hx hb d_Mod_add_68 (by decide) ?_
            refine lv_icmp_le hx hb d_Mod_add_71 (tgt := 81) (by decide) (fun q6 => ?_) (fun q6 => ?_)
            · rw [nI_leI (by omega) (by omega)] at q6
              refine lv_aload_n hx hb d_Mod_add_81 rfl (lv_at hl 2 rfl) ?_
              refine va_get (D := (dC, dI)) (ci := 1) (v := .int (nI wn)) (C := R_Mod) (T := F_Mod) (N := 16) hx hb hts hin_Mod hown hK hP 3 rfl rfl 12 (by decide) (hts _ (nw_mc 71 rfl)) (fun _ h9 => h9) rfl d_Mod_add_82 ?_
              refine lv_istore_n hx hb d_Mod_add_85 rfl hl (by decide) rfl (fun ls hl => ?_)
              replace hl : lv_has ls 4 [(3, .int (nI wn)), (2, .int (nI at0)), (1, .int (nI isz)), (0, .ref hM)] := hl
              have hP := hP.sub (ws' := [(hM, .inr (1, [.ref ai, .ref aw, .ref ar, .ref al, .ref aL, .ref aD, .ref ac, .ref af, .ref ap, .ref an, .ref ax, .int (nI 0), .int (nI wn), .int (nI chn), .int (nI rn), .int (nI 0)])), (ai, nw_ai cB 60 I), (aw, nw_ai cB 60000 X), (al, nw_ai cI 1000 Ln)]) [3, 0, 1, 2] rfl
              have hD := hD.sub (ws' := [(hM, .inr (1, [.ref ai, .ref aw, .ref ar, .ref al, .ref aL, .ref aD, .ref ac, .ref af, .ref ap, .ref an, .ref ax, .int (nI 0), .int (nI wn), .int (nI chn), .int (nI rn), .int (nI 0)])), (ai, nw_ai cB 60 I), (aw, nw_ai cB 60000 X), (al, nw_ai cI 1000 Ln)]) [3, 0, 1, 2] (by decide) rfl
              refine nw_loopW (σ := Nat × (Nat → Nat) × (Nat → Nat)) (fun x => match x with | (w, f, g) => at0 ≤ w ∧ w ≤ wn ∧ (∀ v, v < w → g v = Ln v ∧ ∀ k, k < Ln v → f (v * 60 + k) = X (v * 60 + k)) ∧ (∀ v, w < v → v ≤ wn → g v = Ln (v - 1) ∧ ∀ k, k < Ln (v - 1) → f (v * 60 + k) = X ((v - 1) * 60 + k)) ∧ ∀ j, f j < 128) (fun x => match x with | (w, f, g) => [(3, .int (nI w)), (2, .int (nI at0)), (1, .int (nI isz)), (0, .ref hM)]) (fun x => match x with | (w, f, g) => [(hM, .inr (1, [.ref ai, .ref aw, .ref ar, .ref al, .ref aL, .ref aD, .ref ac, .ref af, .ref ap, .ref an, .ref ax, .int (nI 0), .int (nI wn), .int (nI chn), .int (nI rn), .int (nI 0)])), (ai, nw_ai cB 60 I), (aw, nw_ai cB 60000 f), (al, nw_ai cI 1000 g)]) (fun x => match x with | (w, f, g) => w) (fun x hA1 ih1 ls H locs hl hP hD hS => ?_) (wn, X, Ln) (⟨by omega, Nat.le_refl _, fun v _ => ⟨rfl, fun k _ => rfl⟩, fun v h1 h2 => by omega, hX⟩) hl hP hD hS
              obtain ⟨w, f, g⟩ := x
              replace hA1 : at0 ≤ w ∧ w ≤ wn ∧ (∀ v, v < w → g v = Ln v ∧ ∀ k, k < Ln v → f (v * 60 + k) = X (v * 60 + k)) ∧ (∀ v, w < v → v ≤ wn → g v = Ln (v - 1) ∧ ∀ k, k < Ln (v - 1) → f (v * 60 + k) = X ((v - 1) * 60 + k)) ∧ ∀ j, f j < 128 := hA1
              replace hl : lv_has ls 4 [(3, .int (nI w)), (2, .int (nI at0)), (1, .int (nI isz)), (0, .ref hM)] := hl
              replace hP : va_P (dC, dI) nw_cls [(hM, .inr (1, [.ref ai, .ref aw, .ref ar, .ref al, .ref aL, .ref aD, .ref ac, .ref af, .ref ap, .ref an, .ref ax, .int (nI 0), .int (nI wn), .int (nI chn), .int (nI rn), .int (nI 0)])), (ai, nw_ai cB 60 I), (aw, nw_ai cB 60000 f), (al, nw_ai cI 1000 g)] H := hP
              replace hD : va_D A [(hM, .inr (1, [.ref ai, .ref aw, .ref ar, .ref al, .ref aL, .ref aD, .ref ac, .ref af, .ref ap, .ref an, .ref ax, .int (nI 0), .int (nI wn), .int (nI chn), .int (nI rn), .int (nI 0)])), (ai, nw_ai cB 60 I), (aw, nw_ai cB 60000 f), (al, nw_ai cI 1000 g)] := hD
              obtain ⟨hw1, hw3, hlo, hhi, hf⟩ := hA1
              refine lv_iload_n hx hb d_Mod_add_86 rfl (lv_at hl 0 rfl) ?_
              refine lv_iload_n hx hb d_Mod_add_87 rfl (lv_at hl 1 rfl) ?_
              refine lv_icmp_le hx hb d_Mod_add_88 (tgt := 113) (by decide) (fun q7 => ?_) (fun q7 => ?_)
              · rw [nI_leI (by omega) (by omega)] at q7
                have hw9 : w = at0 := by omega
                refine lv_iconst (v := nI 0) hx hb d_Mod_add_113 (by decide) ?_
                refine lv_istore_n hx hb d_Mod_add_114 rfl hl (by decide) rfl (fun ls hl => ?_)
                replace hl : lv_has ls 4 [(3, .int (nI 0)), (2, .int (nI at0)), (1, .int (nI isz)), (0, .ref hM)] := hl
                refine nw_loopW (σ := Nat × (Nat → Nat)) (fun x => match x with | (k, y) => k ≤ isz ∧ ∀ x, y x = va_cpy I f 0 (at0 * 60) k x) (fun x => match x with | (k, y) => [(3, .int (nI k)), (2, .int (nI at0)), (1, .int (nI isz)), (0, .ref hM)]) (fun x => match x with | (k, y) => [(hM, .inr (1, [.ref ai, .ref aw, .ref ar, .ref al, .ref aL, .ref aD, .ref ac, .ref af, .ref ap, .ref an, .ref ax, .int (nI 0), .int (nI wn), .int (nI chn), .int (nI rn), .int (nI 0)])), (ai, nw_ai cB 60 I), (aw, nw_ai cB 60000 y), (al, nw_ai cI 1000 g)]) (fun x => match x with | (k, y) => isz - k) (fun x hA2 ih2 ls H locs hl hP hD hS => ?_) (0, f) (⟨Nat.zero_le _, fun x => (nw_cpy_0 I f _ _ x).symm⟩) hl hP hD hS
                obtain ⟨k, y⟩ := x
                replace hA2 : k ≤ isz ∧ ∀ x, y x = va_cpy I f 0 (at0 * 60) k x := hA2
                replace hl : lv_has ls 4 [(3, .int (nI k)), (2, .int (nI at0)), (1, .int (nI isz)), (0, .ref hM)] := hl
                replace hP : va_P (dC, dI) nw_cls [(hM, .inr (1, [.ref ai, .ref aw, .ref ar, .ref al, .ref aL, .ref aD, .ref ac, .ref af, .ref ap, .ref an, .ref ax, .int (nI 0), .int (nI wn), .int (nI chn), .int (nI rn), .int (nI 0)])), (ai, nw_ai cB 60 I), (aw, nw_ai cB 60000 y), (al, nw_ai cI 1000 g)] H := hP
                replace hD : va_D A [(hM, .inr (1, [.ref ai, .ref aw, .ref ar, .ref al, .ref aL, .ref aD, .ref ac, .ref af, .ref ap, .ref an, .ref ax, .int (nI 0), .int (nI wn), .int (nI chn), .int (nI rn), .int (nI 0)])), (ai, nw_ai cB 60 I), (aw, nw_ai cB 60000 y), (al, nw_ai cI 1000 g)] := hD
                obtain ⟨hk1, hy⟩ := hA2
                refine lv_iload_n hx hb d_Mod_add_115 rfl (lv_at hl 0 rfl) ?_
                refine lv_iload_n hx hb d_Mod_add_116 rfl (lv_at hl 2 rfl) ?_
                refine lv_icmp_ge hx hb d_Mod_add_117 (tgt := 143) (by decide) (fun q8 => ?_) (fun q8 => ?_)
                · rw [nI_leI (by omega) (by omega)] at q8
                  have hk9 : k = isz := by omega
                  refine lv_aload_n hx hb d_Mod_add_143 rfl (lv_at hl 3 rfl) ?_
                  refine va_get (D := (dC, dI)) (ci := 1) (v := .ref al) (C := R_Mod) (T := F_Mod) (N := 16) hx hb hts hin_Mod hown hK hP 0 rfl rfl 3 (by decide) (hts _ (nw_mc 64 rfl)) (fun _ h9 => h9) rfl d_Mod_add_144 ?_
                  refine lv_iload_n hx hb d_Mod_add_147 rfl (lv_at hl 1 rfl) ?_
                  refine lv_iload_n hx hb d_Mod_add_148 rfl (lv_at hl 2 rfl) ?_
                  refine nw_iast hx hb hK hP hD hS 3 1 rfl rfl (k := at0) (v := isz) (by omega) (by first | decide | omega) d_Mod_add_149 (fun H locs hP hD hS => ?_)
                  replace hP : va_P (dC, dI) nw_cls [(hM, .inr (1, [.ref ai, .ref aw, .ref ar, .ref al, .ref aL, .ref aD, .ref ac, .ref af, .ref ap, .ref an, .ref ax, .int (nI 0), .int (nI wn), .int (nI chn), .int (nI rn), .int (nI 0)])), (ai, nw_ai cB 60 I), (aw, nw_ai cB 60000 y), (al, nw_ai cI 1000 (va_up g at0 isz))] H := hP
                  replace hD : va_D A [(hM, .inr (1, [.ref ai, .ref aw, .ref ar, .ref al, .ref aL, .ref aD, .ref ac, .ref af, .ref ap, .ref an, .ref ax, .int (nI 0), .int (nI wn), .int (nI chn), .int (nI rn), .int (nI 0)])), (ai, nw_ai cB 60 I), (aw, nw_ai cB 60000 y), (al, nw_ai cI 1000 (va_up g at0 isz))] := hD
                  refine lv_aload_n hx hb d_Mod_add_150 rfl (lv_at hl 3 rfl) ?_
                  refine lv_dup hx hb d_Mod_add_151 rfl ?_
                  refine va_get (D := (dC, dI)) (ci := 1) (v := .int (nI wn)) (C := R_Mod) (T := F_Mod) (N := 16) hx hb hts hin_Mod hown hK hP 0 rfl rfl 12 (by decide) (hts _ (nw_mc 71 rfl)) (fun _ h9 => h9) rfl d_Mod_add_152 ?_
                  refine lv_iconst (v := nI 1) hx hb d_Mod_add_155 (by decide) ?_
                  refine lv_iadd hx hb d_Mod_add_156 ?_
                  refine nw_ti (nI_add wn 1) ?_
                  refine va_put (D := (dC, dI)) (ci := 1) (v := .int (nI (wn + 1))) (ty := .int) (C := R_Mod) (T := F_Mod) (N := 16) hx hb hts hin_Mod t_Mod t_Mod_ok n_Mod hown hK hP hD hS 0 rfl rfl 12 (by decide) (hts _ (nw_mc 71 rfl)) (fun _ h9 => h9) rfl (by decide +kernel) rfl rfl (Nat.le_of_ble_eq_true rfl) d_Mod_add_157 (fun H locs hP hD hS => ?_)
                  replace hP : va_P (dC, dI) nw_cls [(hM, .inr (1, [.ref ai, .ref aw, .ref ar, .ref al, .ref aL, .ref aD, .ref ac, .ref af, .ref ap, .ref an, .ref ax, .int (nI 0), .int (nI (wn + 1)), .int (nI chn), .int (nI rn), .int (nI 0)])), (ai, nw_ai cB 60 I), (aw, nw_ai cB 60000 y), (al, nw_ai cI 1000 (va_up g at0 isz))] H := hP
                  replace hD : va_D A [(hM, .inr (1, [.ref ai, .ref aw, .ref ar, .ref al, .ref aL, .ref aD, .ref ac, .ref af, .ref ap, .ref an, .ref ax, .int (nI 0), .int (nI (wn + 1)), .int (nI chn), .int (nI rn), .int (nI 0)])), (ai, nw_ai cB 60 I), (aw, nw_ai cB 60000 y), (al, nw_ai cI 1000 (va_up g at0 isz))] := hD
                  refine lv_aload_n hx hb d_Mod_add_160 rfl (lv_at hl 3 rfl) ?_
                  refine lv_dup hx hb d_Mod_add_161 rfl ?_
                  refine va_get (D := (dC, dI)) (ci := 1) (v := .int (nI chn)) (C := R_Mod) (T := F_Mod) (N := 16) hx hb hts hin_Mod hown hK hP 0 rfl rfl 13 (by decide) (hts _ (nw_mc 84 rfl)) (fun _ h9 => h9) rfl d_Mod_add_162 ?_
                  refine lv_iload_n hx hb d_Mod_add_165 rfl (lv_at hl 2 rfl) ?_
                  refine lv_iadd hx hb d_Mod_add_166 ?_
                  refine nw_ti (nI_add chn isz) ?_
                  refine va_put (D := (dC, dI)) (ci := 1) (v := .int (nI (chn + isz))) (ty := .int) (C := R_Mod) (T := F_Mod) (N := 16) hx hb hts hin_Mod t_Mod t_Mod_ok n_Mod hown hK hP hD hS 0 rfl rfl 13 (by decide) (hts _ (nw_mc 84 rfl)) (fun _ h9 => h9) rfl (by decide +kernel) rfl rfl (Nat.le_of_ble_eq_true rfl) d_Mod_add_167 (fun H locs hP hD hS => ?_)
                  replace hP : va_P (dC, dI) nw_cls [(hM, .inr (1, [.ref ai, .ref aw, .ref ar, .ref al, .ref aL, .ref aD, .ref ac, .ref af, .ref ap, .ref an, .ref ax, .int (nI 0), .int (nI (wn + 1)), .int (nI (chn + isz)), .int (nI rn), .int (nI 0)])), (ai, nw_ai cB 60 I), (aw, nw_ai cB 60000 y), (al, nw_ai cI 1000 (va_up g at0 isz))] H := hP
                  replace hD : va_D A [(hM, .inr (1, [.ref ai, .ref aw, .ref ar, .ref al, .ref aL, .ref aD, .ref ac, .ref af, .ref ap, .ref an, .ref ax, .int (nI 0), .int (nI (wn + 1)), .int (nI (chn + isz)), .int (nI rn), .int (nI 0)])), (ai, nw_ai cB 60 I), (aw, nw_ai cB 60000 y), (al, nw_ai cI 1000 (va_up g at0 isz))] := hD
                  refine lv_aload_n hx hb d_Mod_add_170 rfl (lv_at hl 3 rfl) ?_
                  refine va_get (D := (dC, dI)) (ci := 1) (v := .int (nI (wn + 1))) (C := R_Mod) (T := F_Mod) (N := 16) hx hb hts hin_Mod hown hK hP 0 rfl rfl 12 (by decide) (hts _ (nw_mc 71 rfl)) (fun _ h9 => h9) rfl d_Mod_add_171 ?_
                  exact W.iret (v := nI (wn + 1)) hx hb hr (fun t ht hW => ⟨⟨_, (y, va_up g at0 isz), rfl, ⟨rfl, fun v hv => ⟨(va_up_ne g _ (by omega)).trans (hlo v (by omega)).1, fun j hj => by
                        have := hL v (by omega)
                        show y _ = _
                        rw [hy, hk9, pk_cpy_out (by omega)]; exact (hlo v (by omega)).2 j hj⟩, ⟨va_up_self g _ _, fun j hj => by show y _ = _; rw [hy, hk9, pk_cpy_in (by omega) (by omega)]; congr 1; omega⟩, fun v h1 h2 => ⟨(va_up_ne g _ (by omega)).trans (hhi v (by omega) h2).1, fun j hj => by
                        show y _ = _
                        rw [hy, hk9, pk_cpy_out (by omega)]; exact (hhi v (by omega) h2).2 j hj⟩, fun j => by
                        show y j < 128
                        rw [hy, hk9]
                        by_cases e : at0 * 60 ≤ j ∧ j < at0 * 60 + isz
                        · rw [pk_cpy_in e.1 e.2]; exact hI0 _
                        · rw [pk_cpy_out (by omega)]; exact hf _⟩, by rw [ht]; exact hP, hD⟩, hS.F ht⟩) hS.2.2 d_Mod_add_174
                · rw [nI_leI (by omega) (by omega)] at q8
                  have hv2 := hI0 k
                  refine lv_aload_n hx hb d_Mod_add_120 rfl (lv_at hl 3 rfl) ?_
                  refine va_get (D := (dC, dI)) (ci := 1) (v := .ref aw) (C := R_Mod) (T := F_Mod) (N := 16) hx hb hts hin_Mod hown hK hP 0 rfl rfl 1 (by decide) (hts _ (nw_mc 69 rfl)) (fun _ h9 => h9) rfl d_Mod_add_121 ?_
                  refine lv_iload_n hx hb d_Mod_add_124 rfl (lv_at hl 1 rfl) ?_
                  refine lv_bipush (v := nI 60) hx hb d_Mod_add_125 (by decide) ?_
                  refine lv_imul hx hb d_Mod_add_127 ?_
                  refine nw_ti (pk_mul at0 60) ?_
                  refine lv_iload_n hx hb d_Mod_add_128 rfl (lv_at hl 0 rfl) ?_
                  refine lv_iadd hx hb d_Mod_add_129 ?_
                  refine nw_ti (nI_add (at0 * 60) k) ?_
                  refine lv_aload_n hx hb d_Mod_add_130 rfl (lv_at hl 3 rfl) ?_
                  refine va_get (D := (dC, dI)) (ci := 1) (v := .ref ai) (C := R_Mod) (T := F_Mod) (N := 16) hx hb hts hin_Mod hown hK hP 0 rfl rfl 0 (by decide) (hts _ (nw_mc 70 rfl)) (fun _ h9 => h9) rfl d_Mod_add_131 ?_
                  refine lv_iload_n hx hb d_Mod_add_134 rfl (lv_at hl 0 rfl) ?_
                  refine nw_bald hx hb hK hP 1 0 rfl rfl (k := k) (by omega) (by first | decide | omega) d_Mod_add_135 ?_
                  refine nw_bast hx hb hK hP hD hS 2 0 rfl rfl (k := ((at0 * 60) + k)) (v := (I k)) (by omega) (by first | decide | omega) (by omega) d_Mod_add_136 (fun H locs hP hD hS => ?_)
                  replace hP : va_P (dC, dI) nw_cls [(hM, .inr (1, [.ref ai, .ref aw, .ref ar, .ref al, .ref aL, .ref aD, .ref ac, .ref af, .ref ap, .ref an, .ref ax, .int (nI 0), .int (nI wn), .int (nI chn), .int (nI rn), .int (nI 0)])), (ai, nw_ai cB 60 I), (aw, nw_ai cB 60000 (va_up y ((at0 * 60) + k) (I k))), (al, nw_ai cI 1000 g)] H := hP
                  replace hD : va_D A [(hM, .inr (1, [.ref ai, .ref aw, .ref ar, .ref al, .ref aL, .ref aD, .ref ac, .ref af, .ref ap, .ref an, .ref ax, .int (nI 0), .int (nI wn), .int (nI chn), .int (nI rn), .int (nI 0)])), (ai, nw_ai cB 60 I), (aw, nw_ai cB 60000 (va_up y ((at0 * 60) + k) (I k))), (al, nw_ai cI 1000 g)] := hD
                  refine lv_iinc (v := nI (k + 1)) hx hb d_Mod_add_137 hl (k := 0) rfl (nI_add k 1) (by decide) rfl (fun ls hl => ?_)
                  have hl : lv_has ls 4 [(3, .int (nI (k + 1))), (2, .int (nI at0)), (1, .int (nI isz)), (0, .ref hM)] := hl
                  refine lv_goto hx hb d_Mod_add_140 (tgt := 115) (by decide) ?_
                  exact ih2 (k + 1, va_up y ((at0 * 60) + k) (I k)) (⟨by omega, nw_cpy_s hy (by rw [Nat.zero_add])⟩) (show isz - (k + 1) < isz - k by omega) _ _ _ hl hP hD hS
              · rw [nI_leI (by omega) (by omega)] at q7
                have hg1 := (hlo (w - 1) (by omega)).1
                have hl1 := hL (w - 1) (by omega)
                refine lv_aload_n hx hb d_Mod_add_91 rfl (lv_at hl 3 rfl) ?_
                refine lv_iload_n hx hb d_Mod_add_92 rfl (lv_at hl 0 rfl) ?_
                refine lv_iconst (v := nI 1) hx hb d_Mod_add_93 (by decide) ?_
                refine lv_isub hx hb d_Mod_add_94 ?_
                refine nw_ti (pk_sub (a := w) (b := 1) (by omega)) ?_
                refine lv_iload_n hx hb d_Mod_add_95 rfl (lv_at hl 0 rfl) ?_
                refine lv_aload_n hx hb d_Mod_add_96 rfl (lv_at hl 3 rfl) ?_
                refine va_get (D := (dC, dI)) (ci := 1) (v := .ref al) (C := R_Mod) (T := F_Mod) (N := 16) hx hb hts hin_Mod hown hK hP 0 rfl rfl 3 (by decide) (hts _ (nw_mc 64 rfl)) (fun _ h9 => h9) rfl d_Mod_add_97 ?_
                refine lv_iload_n hx hb d_Mod_add_100 rfl (lv_at hl 0 rfl) ?_
                refine lv_iconst (v := nI 1) hx hb d_Mod_add_101 (by decide) ?_
                refine lv_isub hx hb d_Mod_add_102 ?_
                refine nw_ti (pk_sub (a := w) (b := 1) (by omega)) ?_
                refine nw_iald hx hb hK hP 3 1 rfl rfl (k := (w - 1)) (by omega) (by first | decide | omega) d_Mod_add_103 ?_
                refine nw_callv (wc := [(hM, .inr (1, [.ref ai, .ref aw, .ref ar, .ref al, .ref aL, .ref aD, .ref ac, .ref af, .ref ap, .ref an, .ref ax, .int (nI 0), .int (nI wn), .int (nI chn), .int (nI rn), .int (nI 0)])), (aw, nw_ai cB 60000 f), (al, nw_ai cI 1000 g)]) (wr := [(ai, nw_ai cB 60 I)]) hP hD hS hA [0, 2, 3] [1] rfl rfl (by decide) (by decide) (va_runV (As := [.int (nI (w - 1)), .int (nI w), .int (nI (g (w - 1)))]) (rest := []) ⟨hx, hb, hml, hown, hts⟩ (c_Mod_shift l dC dI _ cB cI hM ai aw ar al aL aD ac af ap an ax 0 wn chn rn 0 f g (w - 1) w (g (w - 1)) (by omega) (by omega) (by omega) (by omega) hf) (cwV (C := R_Mod) 3 hts (nw_GV (nw_m 92 rfl) (nw_m 93 rfl) (nw_m 94 rfl) (nw_m 67 rfl) (nw_m 95 rfl)) rfl rfl rfl (by decide +kernel) ⟨Nat.le_of_ble_eq_true rfl, Nat.le_of_ble_eq_true rfl⟩) (nw_prewV (q0 := 0) (ci := 1) (q := (R_Mod, F_Mod, 16)) hK hP hD [0, 2, 3] [0, 1] (by decide) rfl rfl rfl rfl) rfl rfl hl.1 rfl (lv_room (Nat.le_of_ble_eq_true rfl)) d_Mod_add_104 ⟨Nat.le_of_ble_eq_true rfl, Nat.le_of_ble_eq_true rfl⟩) (fun _ H locs hw hP hD hS => ?_)
                replace hP : va_P (dC, dI) nw_cls [(ai, nw_ai cB 60 I), (hM, .inr (1, [.ref ai, .ref aw, .ref ar, .ref al, .ref aL, .ref aD, .ref ac, .ref af, .ref ap, .ref an, .ref ax, .int (nI 0), .int (nI wn), .int (nI chn), .int (nI rn), .int (nI 0)])), (aw, nw_ai cB 60000 (va_cpy f f ((w - 1) * 60) (w * 60) (g (w - 1)))), (al, nw_ai cI 1000 (va_up g w (g (w - 1))))] H := hP
                replace hD : va_D A [(ai, nw_ai cB 60 I), (hM, .inr (1, [.ref ai, .ref aw, .ref ar, .ref al, .ref aL, .ref aD, .ref ac, .ref af, .ref ap, .ref an, .ref ax, .int (nI 0), .int (nI wn), .int (nI chn), .int (nI rn), .int (nI 0)])), (aw, nw_ai cB 60000 (va_cpy f f ((w - 1) * 60) (w * 60) (g (w - 1)))), (al, nw_ai cI 1000 (va_up g w (g (w - 1))))] := hD
                refine lv_iinc (v := nI (w - 1)) hx hb d_Mod_add_107 hl (k := 0) rfl (nw_dec 1 (by omega)) (by decide) rfl (fun ls hl => ?_)
                have hl : lv_has ls 4 [(3, .int (nI (w - 1))), (2, .int (nI at0)), (1, .int (nI isz)), (0, .ref hM)] := hl
                refine lv_goto hx hb d_Mod_add_110 (tgt := 86) (by decide) ?_
                exact ih1 (w - 1, va_cpy f f ((w - 1) * 60) (w * 60) (g (w - 1)), va_up g w (g (w - 1))) (⟨by omega, by omega, fun v hv => ⟨(va_up_ne g _ (by omega)).trans (hlo v (by omega)).1, fun k hk => by
                  have := hL v (by omega)
                  rw [pk_cpy_out (by omega)]; exact (hlo v (by omega)).2 k hk⟩, fun v h1 h2 => by
                  by_cases e : v = w
                  · refine ⟨by rw [e, va_up_self]; exact hg1, fun k hk => ?_⟩
                    rw [e] at hk ⊢
                    rw [pk_cpy_in (by omega) (by omega), show (w - 1) * 60 + (w * 60 + k - w * 60) = (w - 1) * 60 + k by omega]
                    exact (hlo (w - 1) (by omega)).2 k hk
                  · refine ⟨(va_up_ne g _ e).trans (hhi v (by omega) h2).1, fun k hk => ?_⟩
                    rw [pk_cpy_out (by omega)]; exact (hhi v (by omega) h2).2 k hk, fun j => by
                  by_cases e : w * 60 ≤ j ∧ j < w * 60 + g (w - 1)
                  · rw [pk_cpy_in e.1 e.2]; exact hf _
                  · rw [pk_cpy_out (by omega)]; exact hf _⟩) (show w - 1 < w by omega) _ _ _ hl (hP.sub [1, 0, 2, 3] rfl) (hD.sub [1, 0, 2, 3] (by decide) rfl) hS
            · rw [nI_leI (by omega) (by omega)] at q6
              omega
        · exact absurd ⟨by omega, q4⟩ ho
    · rw [nw_eq0 (by omega)] at q2
      omega
  · rw [nw_eq0 (by omega)] at q1
    omega

set_option maxHeartbeats 4000000 in
set_option maxRecDepth 100000 in
theorem c_Mod_remove_no (l : Launch) (dC : Nat → ClassId) (dI : Nat → Nat → Nat) (sz : Nat) (cB cI : ClassId) (hM ai aw ar al aL aD ac af ap an ax isz wn chn rn th : Nat) (I X Ln : Nat → Nat) (at0 : Nat) (hat : at0 = nw_cnt (fun i => nw_cm (fun k => X (i * 60 + k)) (Ln i) I isz < 0) wn) (h1 : 1 ≤ isz) (hw : wn ≤ 1000) (hn : isz ≤ 60) (hL : ∀ i, i < wn → Ln i ≤ 60) (hX : ∀ j, X j < 128) (hI0 : ∀ j, I j < 128) (ho : ¬ (at0 < wn ∧ nw_cm (fun k => X (at0 * 60 + k)) (Ln at0) I isz = 0)) : Met l y_Mod_remove w_Mod_remove ({ frames := 3, cells := 0, slots := 0, locals := 68 }) (nw_Pw [.ref hM] (dC, dI) nw_cls [(cB, .byte), (cI, .int)] [(hM, .inr (1, [.ref ai, .ref aw, .ref ar, .ref al, .ref aL, .ref aD, .ref ac, .ref af, .ref ap, .ref an, .ref ax, .int (nI isz), .int (nI wn), .int (nI chn), .int (nI rn), .int (nI th)])), (ai, nw_ai cB 60 I), (aw, nw_ai cB 60000 X), (al, nw_ai cI 1000 Ln)] sz) (va_Qi (fun (r : Int32) (_ : Unit) => r = nI wn) (nw_B (dC, dI) nw_cls (va_A [(hM, .inr (1, [.ref ai, .ref aw, .ref ar, .ref al, .ref aL, .ref aD, .ref ac, .ref af, .ref ap, .ref an, .ref ax, .int (nI isz), .int (nI wn), .int (nI chn), .int (nI rn), .int (nI th)])), (ai, nw_ai cB 60 I), (aw, nw_ai cB 60000 X), (al, nw_ai cI 1000 Ln)] sz) (fun _ : Unit => [(hM, .inr (1, [.ref ai, .ref aw, .ref ar, .ref al, .ref aL, .ref aD, .ref ac, .ref af, .ref ap, .ref an, .ref ax, .int (nI 0), .int (nI wn), .int (nI chn), .int (nI rn), .int (nI 0)])), (ai, nw_ai cB 60 I), (aw, nw_ai cB 60000 X), (al, nw_ai cI 1000 Ln)])) (va_A [(hM, .inr (1, [.ref ai, .ref aw, .ref ar, .ref al, .ref aL, .ref aD, .ref ac, .ref af, .ref ap, .ref an, .ref ax, .int (nI isz), .int (nI wn), .int (nI chn), .int (nI rn), .int (nI th)])), (ai, nw_ai cB 60 I), (aw, nw_ai cB 60000 X), (al, nw_ai cI 1000 Ln)] sz)) 0 0 (va_A [(hM, .inr (1, [.ref ai, .ref aw, .ref ar, .ref al, .ref aL, .ref aD, .ref ac, .ref af, .ref ap, .ref an, .ref ax, .int (nI isz), .int (nI wn), .int (nI chn), .int (nI rn), .int (nI th)])), (ai, nw_ai cB 60 I), (aw, nw_ai cB 60000 X), (al, nw_ai cI 1000 Ln)] sz) := by
  refine Met.ofW (cc := b_Mod_remove) (maxL := 4) (ret := (some .int)) (by decide) rfl ?_
  intro p e s m args below meth cd s₁ B hml hv0
  obtain ⟨rfl, hsz, hP, hK, hD0⟩ := hv0
  have hx := B.exec
  have hb := B.bytes
  have hr := B.returns
  have hts := atoms_spec (ws := w_Mod_remove) B.pre
  have hown : s.vm.findClass R_Mod = some m.cls := findClass_of_methodNamed B.named
  have hlocks := B.notSynchronized
  subst hsz
  have hD := hD0.self (sz := s.heap.size)
  generalize hAe : va_A [(hM, .inr (1, [.ref ai, .ref aw, .ref ar, .ref al, .ref aL, .ref aD, .ref ac, .ref af, .ref ap, .ref an, .ref ax, .int (nI isz), .int (nI wn), .int (nI chn), .int (nI rn), .int (nI th)])), (ai, nw_ai cB 60 I), (aw, nw_ai cB 60000 X), (al, nw_ai cI 1000 Ln)] s.heap.size = A at hD ⊢
  have hA : ∀ q : Nat, s.heap.size ≤ q → A q := fun q h => by rw [← hAe]; exact Or.inr h
  have hS : va_S A s.heap s.heap [] := va_S.rf
  have hl := lv_entry ([.ref hM]) (n := 4) (Nat.le_of_ble_eq_true rfl)
  rw [lg_entry_eq]
  generalize (lg_sl ([.ref hM]) ++ List.replicate (4 - (lg_sl ([.ref hM])).length) Slot.unset).toArray = ls at hl ⊢
  have hl : lv_has ls 4 [(0, .ref hM)] := hl
  have hat1 := nw_cnt_le (fun i => nw_cm (fun k => X (i * 60 + k)) (Ln i) I isz < 0) wn
  refine lv_aload_n hx hb d_Mod_remove_0 rfl (lv_at hl 0 rfl) ?_
  refine nw_calli (wc := [(hM, .inr (1, [.ref ai, .ref aw, .ref ar, .ref al, .ref aL, .ref aD, .ref ac, .ref af, .ref ap, .ref an, .ref ax, .int (nI isz), .int (nI wn), .int (nI chn), .int (nI rn), .int (nI th)]))]) (wr := [(ai, nw_ai cB 60 I), (aw, nw_ai cB 60000 X), (al, nw_ai cI 1000 Ln)]) hP hD hS hA [0] [1, 2, 3] rfl rfl (by decide) (by decide) (va_runV (As := []) (rest := []) ⟨hx, hb, hml, hown, hts⟩ (c_Mod_take l dC dI _ hM ai aw ar al aL aD ac af ap an ax isz wn chn rn th) (cwV (C := R_Mod) 0 hts (nw_GV (nw_m 76 rfl) (nw_m 77 rfl) (nw_m 78 rfl) (nw_m 67 rfl) (nw_m 79 rfl)) rfl rfl rfl (by decide +kernel) ⟨Nat.le_of_ble_eq_true rfl, Nat.le_of_ble_eq_true rfl⟩) (nw_prewV (q0 := 0) (ci := 1) (q := (R_Mod, F_Mod, 16)) hK hP hD [0] [] (by decide) rfl rfl rfl rfl) rfl rfl hl.1 rfl (lv_room (Nat.le_of_ble_eq_true rfl)) d_Mod_remove_1 ⟨Nat.le_of_ble_eq_true rfl, Nat.le_of_ble_eq_true rfl⟩) (fun r _ H locs hw hP hD hS => ?_)
  replace hP : va_P (dC, dI) nw_cls [(ai, nw_ai cB 60 I), (aw, nw_ai cB 60000 X), (al, nw_ai cI 1000 Ln), (hM, .inr (1, [.ref ai, .ref aw, .ref ar, .ref al, .ref aL, .ref aD, .ref ac, .ref af, .ref ap, .ref an, .ref ax, .int (nI 0), .int (nI wn), .int (nI chn), .int (nI rn), .int (nI th)]))] H := hP
  replace hD : va_D A [(ai, nw_ai cB 60 I), (aw, nw_ai cB 60000 X), (al, nw_ai cI 1000 Ln), (hM, .inr (1, [.ref ai, .ref aw, .ref ar, .ref al, .ref aL, .ref aD, .ref ac, .ref af, .ref ap, .ref an, .ref ax, .int (nI 0), .int (nI wn), .int (nI chn), .int (nI rn), .int (nI th)]))] := hD
  obtain rfl : r = nI isz := hw
  refine lv_istore_n hx hb d_Mod_remove_4 rfl hl (by decide) rfl (fun ls hl => ?_)
  replace hl : lv_has ls 4 [(1, .int (nI isz)), (0, .ref hM)] := hl
  refine lv_aload_n hx hb d_Mod_remove_5 rfl (lv_at hl 1 rfl) ?_
  refine lv_iload_n hx hb d_Mod_remove_6 rfl (lv_at hl 0 rfl) ?_
  refine lv_if_ne hx hb d_Mod_remove_7 (tgt := 14) (by decide) (fun q1 => ?_) (fun q1 => ?_)
  · rw [nw_eq0 (by omega)] at q1
    refine lv_iconst (v := nI 0) hx hb d_Mod_remove_14 (by decide) ?_
    refine va_put (D := (dC, dI)) (ci := 1) (v := .int (nI 0)) (ty := .int) (C := R_Mod) (T := F_Mod) (N := 16) hx hb hts hin_Mod t_Mod t_Mod_ok n_Mod hown hK hP hD hS 3 rfl rfl 15 (by decide) (hts _ (nw_mc 62 rfl)) (fun _ h9 => h9) rfl (by decide +kernel) rfl rfl (Nat.le_of_ble_eq_true rfl) d_Mod_remove_15 (fun H locs hP hD hS => ?_)
    replace hP : va_P (dC, dI) nw_cls [(ai, nw_ai cB 60 I), (aw, nw_ai cB 60000 X), (al, nw_ai cI 1000 Ln), (hM, .inr (1, [.ref ai, .ref aw, .ref ar, .ref al, .ref aL, .ref aD, .ref ac, .ref af, .ref ap, .ref an, .ref ax, .int (nI 0), .int (nI wn), .int (nI chn), .int (nI rn), .int (nI 0)]))] H := hP
    replace hD : va_D A [(ai, nw_ai cB 60 I), (aw, nw_ai cB 60000 X), (al, nw_ai cI 1000 Ln), (hM, .inr (1, [.ref ai, .ref aw, .ref ar, .ref al, .ref aL, .ref aD, .ref ac, .ref af, .ref ap, .ref an, .ref ax, .int (nI 0), .int (nI wn), .int (nI chn), .int (nI rn), .int (nI 0)]))] := hD
    refine lv_iload_n hx hb d_Mod_remove_18 rfl (lv_at hl 0 rfl) ?_
    refine lv_if_ne hx hb d_Mod_remove_19 (tgt := 24) (by decide) (fun q2 => ?_) (fun q2 => ?_)
    · rw [nw_eq0 (by omega)] at q2
      refine lv_aload_n hx hb d_Mod_remove_24 rfl (lv_at hl 1 rfl) ?_
      refine lv_iload_n hx hb d_Mod_remove_25 rfl (lv_at hl 0 rfl) ?_
      refine vp_callSi (va_Run.run (va_runV (As := [.int (nI isz)]) (rest := []) ⟨hx, hb, hml, hown, hts⟩ (c_Mod_standing l dC dI cB cI hM ai aw ar al aL aD ac af ap an ax 0 wn chn rn 0 I X Ln isz (by omega) (by omega) hL hX hI0) (cwV (C := R_Mod) 1 hts (nw_GV (nw_m 80 rfl) (nw_m 81 rfl) (nw_m 82 rfl) (nw_m 67 rfl) (nw_m 83 rfl)) rfl rfl rfl (by decide +kernel) ⟨Nat.le_of_ble_eq_true rfl, Nat.le_of_ble_eq_true rfl⟩) (nw_preV (q0 := 3) (ci := 1) (q := (R_Mod, F_Mod, 16)) hK hP [3, 0, 1, 2] [0, 1] rfl rfl rfl rfl) rfl rfl hl.1 rfl (lv_room (Nat.le_of_ble_eq_true rfl)) d_Mod_remove_26 ⟨Nat.le_of_ble_eq_true rfl, Nat.le_of_ble_eq_true rfl⟩)) (fun r her => ?_)
      subst her
      refine nw_ti (y := nI at0) (congrArg nI hat.symm) ?_
      refine lv_istore_n hx hb d_Mod_remove_29 rfl hl (by decide) rfl (fun ls hl => ?_)
      replace hl : lv_has ls 4 [(2, .int (nI at0)), (1, .int (nI isz)), (0, .ref hM)] := hl
      refine lv_iload_n hx hb d_Mod_remove_30 rfl (lv_at hl 0 rfl) ?_
      refine lv_aload_n hx hb d_Mod_remove_31 rfl (lv_at hl 2 rfl) ?_
      refine va_get (D := (dC, dI)) (ci := 1) (v := .int (nI wn)) (C := R_Mod) (T := F_Mod) (N := 16) hx hb hts hin_Mod hown hK hP 3 rfl rfl 12 (by decide) (hts _ (nw_mc 71 rfl)) (fun _ h9 => h9) rfl d_Mod_remove_32 ?_
      refine lv_icmp_eq hx hb d_Mod_remove_35 (tgt := 47) (by decide) (fun q3 => ?_) (fun q3 => ?_)
      · rw [nI_eq (by omega) (by omega)] at q3
        refine lv_aload_n hx hb d_Mod_remove_47 rfl (lv_at hl 2 rfl) ?_
        refine va_get (D := (dC, dI)) (ci := 1) (v := .int (nI wn)) (C := R_Mod) (T := F_Mod) (N := 16) hx hb hts hin_Mod hown hK hP 3 rfl rfl 12 (by decide) (hts _ (nw_mc 71 rfl)) (fun _ h9 => h9) rfl d_Mod_remove_48 ?_
        have hP := hP.sub (ws' := [(hM, .inr (1, [.ref ai, .ref aw, .ref ar, .ref al, .ref aL, .ref aD, .ref ac, .ref af, .ref ap, .ref an, .ref ax, .int (nI 0), .int (nI wn), .int (nI chn), .int (nI rn), .int (nI 0)])), (ai, nw_ai cB 60 I), (aw, nw_ai cB 60000 X), (al, nw_ai cI 1000 Ln)]) [3, 0, 1, 2] rfl
        have hD := hD.sub (ws' := [(hM, .inr (1, [.ref ai, .ref aw, .ref ar, .ref al, .ref aL, .ref aD, .ref ac, .ref af, .ref ap, .ref an, .ref ax, .int (nI 0), .int (nI wn), .int (nI chn), .int (nI rn), .int (nI 0)])), (ai, nw_ai cB 60 I), (aw, nw_ai cB 60000 X), (al, nw_ai cI 1000 Ln)]) [3, 0, 1, 2] (by decide) rfl
        exact W.iret (v := nI wn) hx hb hr (fun t ht hW => ⟨⟨_, (), rfl, rfl, by rw [ht]; exact hP, hD⟩, hS.F ht⟩) hS.2.2 d_Mod_remove_51
      · rw [nI_eq (by omega) (by omega)] at q3
        refine lv_aload_n hx hb d_Mod_remove_38 rfl (lv_at hl 2 rfl) ?_
        refine lv_iload_n hx hb d_Mod_remove_39 rfl (lv_at hl 0 rfl) ?_
        refine lv_iload_n hx hb d_Mod_remove_40 rfl (lv_at hl 1 rfl) ?_
        refine vp_callSi (va_Run.run (va_runV (As := [.int (nI at0), .int (nI isz)]) (rest := []) ⟨hx, hb, hml, hown, hts⟩ (c_Mod_order l dC dI cB cI hM ai aw ar al aL aD ac af ap an ax 0 wn chn rn 0 I X Ln at0 isz (by omega) (by omega) (hL _ (by omega)) hX hI0) (cwV (C := R_Mod) 2 hts (nw_GV (nw_m 72 rfl) (nw_m 73 rfl) (nw_m 74 rfl) (nw_m 67 rfl) (nw_m 75 rfl)) rfl rfl rfl (by decide +kernel) ⟨Nat.le_of_ble_eq_true rfl, Nat.le_of_ble_eq_true rfl⟩) (nw_preV (q0 := 3) (ci := 1) (q := (R_Mod, F_Mod, 16)) hK hP [3, 0, 1, 2] [0, 1] rfl rfl rfl rfl) rfl rfl hl.1 rfl (lv_room (Nat.le_of_ble_eq_true rfl)) d_Mod_remove_41 ⟨Nat.le_of_ble_eq_true rfl, Nat.le_of_ble_eq_true rfl⟩)) (fun r her => ?_)
        subst her
        refine lv_if_eq hx hb d_Mod_remove_44 (tgt := 52) (by decide) (fun q4 => ?_) (fun q4 => ?_)
        · exact absurd ⟨by omega, q4⟩ ho
        · refine lv_aload_n hx hb d_Mod_remove_47 rfl (lv_at hl 2 rfl) ?_
          refine va_get (D := (dC, dI)) (ci := 1) (v := .int (nI wn)) (C := R_Mod) (T := F_Mod) (N := 16) hx hb hts hin_Mod hown hK hP 3 rfl rfl 12 (by decide) (hts _ (nw_mc 71 rfl)) (fun _ h9 => h9) rfl d_Mod_remove_48 ?_
          have hP := hP.sub (ws' := [(hM, .inr (1, [.ref ai, .ref aw, .ref ar, .ref al, .ref aL, .ref aD, .ref ac, .ref af, .ref ap, .ref an, .ref ax, .int (nI 0), .int (nI wn), .int (nI chn), .int (nI rn), .int (nI 0)])), (ai, nw_ai cB 60 I), (aw, nw_ai cB 60000 X), (al, nw_ai cI 1000 Ln)]) [3, 0, 1, 2] rfl
          have hD := hD.sub (ws' := [(hM, .inr (1, [.ref ai, .ref aw, .ref ar, .ref al, .ref aL, .ref aD, .ref ac, .ref af, .ref ap, .ref an, .ref ax, .int (nI 0), .int (nI wn), .int (nI chn), .int (nI rn), .int (nI 0)])), (ai, nw_ai cB 60 I), (aw, nw_ai cB 60000 X), (al, nw_ai cI 1000 Ln)]) [3, 0, 1, 2] (by decide) rfl
          exact W.iret (v := nI wn) hx hb hr (fun t ht hW => ⟨⟨_, (), rfl, rfl, by rw [ht]; exact hP, hD⟩, hS.F ht⟩) hS.2.2 d_Mod_remove_51
    · rw [nw_eq0 (by omega)] at q2
      omega
  · rw [nw_eq0 (by omega)] at q1
    omega

set_option maxHeartbeats 4000000 in
set_option maxRecDepth 100000 in
theorem c_Mod_remove_yes (l : Launch) (dC : Nat → ClassId) (dI : Nat → Nat → Nat) (sz : Nat) (cB cI : ClassId) (hM ai aw ar al aL aD ac af ap an ax isz wn chn rn th : Nat) (I X Ln : Nat → Nat) (at0 : Nat) (hat : at0 = nw_cnt (fun i => nw_cm (fun k => X (i * 60 + k)) (Ln i) I isz < 0) wn) (h1 : 1 ≤ isz) (hw : wn ≤ 1000) (hn : isz ≤ 60) (hL : ∀ i, i < wn → Ln i ≤ 60) (hX : ∀ j, X j < 128) (hI0 : ∀ j, I j < 128) (ho : at0 < wn) (hc : nw_cm (fun k => X (at0 * 60 + k)) (Ln at0) I isz = 0) (hch : isz ≤ chn) : Met l y_Mod_remove w_Mod_remove ({ frames := 3, cells := 0, slots := 0, locals := 68 }) (nw_Pw [.ref hM] (dC, dI) nw_cls [(cB, .byte), (cI, .int)] [(hM, .inr (1, [.ref ai, .ref aw, .ref ar, .ref al, .ref aL, .ref aD, .ref ac, .ref af, .ref ap, .ref an, .ref ax, .int (nI isz), .int (nI wn), .int (nI chn), .int (nI rn), .int (nI th)])), (ai, nw_ai cB 60 I), (aw, nw_ai cB 60000 X), (al, nw_ai cI 1000 Ln)] sz) (va_Qi (fun (r : Int32) (u : (Nat → Nat) × (Nat → Nat)) => r = nI (wn - 1) ∧ (∀ v, v < at0 → u.2 v = Ln v ∧ ∀ k, k < Ln v → u.1 (v * 60 + k) = X (v * 60 + k)) ∧ (∀ v, at0 ≤ v → v + 1 < wn → u.2 v = Ln (v + 1) ∧ ∀ k, k < Ln (v + 1) → u.1 (v * 60 + k) = X ((v + 1) * 60 + k)) ∧ ∀ j, u.1 j < 128) (nw_B (dC, dI) nw_cls (va_A [(hM, .inr (1, [.ref ai, .ref aw, .ref ar, .ref al, .ref aL, .ref aD, .ref ac, .ref af, .ref ap, .ref an, .ref ax, .int (nI isz), .int (nI wn), .int (nI chn), .int (nI rn), .int (nI th)])), (ai, nw_ai cB 60 I), (aw, nw_ai cB 60000 X), (al, nw_ai cI 1000 Ln)] sz) (fun u => [(hM, .inr (1, [.ref ai, .ref aw, .ref ar, .ref al, .ref aL, .ref aD, .ref ac, .ref af, .ref ap, .ref an, .ref ax, .int (nI 0), .int (nI (wn - 1)), .int (nI (chn - isz)), .int (nI rn), .int (nI 0)])), (ai, nw_ai cB 60 I), (aw, nw_ai cB 60000 u.1), (al, nw_ai cI 1000 u.2)])) (va_A [(hM, .inr (1, [.ref ai, .ref aw, .ref ar, .ref al, .ref aL, .ref aD, .ref ac, .ref af, .ref ap, .ref an, .ref ax, .int (nI isz), .int (nI wn), .int (nI chn), .int (nI rn), .int (nI th)])), (ai, nw_ai cB 60 I), (aw, nw_ai cB 60000 X), (al, nw_ai cI 1000 Ln)] sz)) 0 0 (va_A [(hM, .inr (1, [.ref ai, .ref aw, .ref ar, .ref al, .ref aL, .ref aD, .ref ac, .ref af, .ref ap, .ref an, .ref ax, .int (nI isz), .int (nI wn), .int (nI chn), .int (nI rn), .int (nI th)])), (ai, nw_ai cB 60 I), (aw, nw_ai cB 60000 X), (al, nw_ai cI 1000 Ln)] sz) := by
  refine Met.ofW (cc := b_Mod_remove) (maxL := 4) (ret := (some .int)) (by decide) rfl ?_
  intro p e s m args below meth cd s₁ B hml hv0
  obtain ⟨rfl, hsz, hP, hK, hD0⟩ := hv0
  have hx := B.exec
  have hb := B.bytes
  have hr := B.returns
  have hts := atoms_spec (ws := w_Mod_remove) B.pre
  have hown : s.vm.findClass R_Mod = some m.cls := findClass_of_methodNamed B.named
  have hlocks := B.notSynchronized
  subst hsz
  have hD := hD0.self (sz := s.heap.size)
  generalize hAe : va_A [(hM, .inr (1, [.ref ai, .ref aw, .ref ar, .ref al, .ref aL, .ref aD, .ref ac, .ref af, .ref ap, .ref an, .ref ax, .int (nI isz), .int (nI wn), .int (nI chn), .int (nI rn), .int (nI th)])), (ai, nw_ai cB 60 I), (aw, nw_ai cB 60000 X), (al, nw_ai cI 1000 Ln)] s.heap.size = A at hD ⊢
  have hA : ∀ q : Nat, s.heap.size ≤ q → A q := fun q h => by rw [← hAe]; exact Or.inr h
  have hS : va_S A s.heap s.heap [] := va_S.rf
  have hl := lv_entry ([.ref hM]) (n := 4) (Nat.le_of_ble_eq_true rfl)
  rw [lg_entry_eq]
  generalize (lg_sl ([.ref hM]) ++ List.replicate (4 - (lg_sl ([.ref hM])).length) Slot.unset).toArray = ls at hl ⊢
  have hl : lv_has ls 4 [(0, .ref hM)] := hl
  have hat1 := nw_cnt_le (fun i => nw_cm (fun k => X (i * 60 + k)) (Ln i) I isz < 0) wn
  refine lv_aload_n hx hb d_Mod_remove_0 rfl (lv_at hl 0 rfl) ?_
  refine nw_calli (wc := [(hM, .inr (1, [.ref ai, .ref aw, .ref ar, .ref al, .ref aL, .ref aD, .ref ac, .ref af, .ref ap, .ref an, .ref ax, .int (nI isz), .int (nI wn), .int (nI chn), .int (nI rn), .int (nI th)]))]) (wr := [(ai, nw_ai cB 60 I), (aw, nw_ai cB 60000 X), (al, nw_ai cI 1000 Ln)]) hP hD hS hA [0] [1, 2, 3] rfl rfl (by decide) (by decide) (va_runV (As := []) (rest := []) ⟨hx, hb, hml, hown, hts⟩ (c_Mod_take l dC dI _ hM ai aw ar al aL aD ac af ap an ax isz wn chn rn th) (cwV (C := R_Mod) 0 hts (nw_GV (nw_m 76 rfl) (nw_m 77 rfl) (nw_m 78 rfl) (nw_m 67 rfl) (nw_m 79 rfl)) rfl rfl rfl (by decide +kernel) ⟨Nat.le_of_ble_eq_true rfl, Nat.le_of_ble_eq_true rfl⟩) (nw_prewV (q0 := 0) (ci := 1) (q := (R_Mod, F_Mod, 16)) hK hP hD [0] [] (by decide) rfl rfl rfl rfl) rfl rfl hl.1 rfl (lv_room (Nat.le_of_ble_eq_true rfl)) d_Mod_remove_1 ⟨Nat.le_of_ble_eq_true rfl, Nat.le_of_ble_eq_true rfl⟩) (fun r _ H locs hw hP hD hS => ?_)
  replace hP : va_P (dC, dI) nw_cls [(ai, nw_ai cB 60 I), (aw, nw_ai cB 60000 X), (al, nw_ai cI 1000 Ln), (hM, .inr (1, [.ref ai, .ref aw, .ref ar, .ref al, .ref aL, .ref aD, .ref ac, .ref af, .ref ap, .ref an, .ref ax, .int (nI 0), .int (nI wn), .int (nI chn), .int (nI rn), .int (nI th)]))] H := hP
  replace hD : va_D A [(ai, nw_ai cB 60 I), (aw, nw_ai cB 60000 X), (al, nw_ai cI 1000 Ln), (hM, .inr (1, [.ref ai, .ref aw, .ref ar, .ref al, .ref aL, .ref aD, .ref ac, .ref af, .ref ap, .ref an, .ref ax, .int (nI 0), .int (nI wn), .int (nI chn), .int (nI rn), .int (nI th)]))] := hD
  obtain rfl : r = nI isz := hw
  refine lv_istore_n hx hb d_Mod_remove_4 rfl hl (by decide) rfl (fun ls hl => ?_)
  replace hl : lv_has ls 4 [(1, .int (nI isz)), (0, .ref hM)] := hl
  refine lv_aload_n hx hb d_Mod_remove_5 rfl (lv_at hl 1 rfl) ?_
  refine lv_iload_n hx hb d_Mod_remove_6 rfl (lv_at hl 0 rfl) ?_
  refine lv_if_ne hx hb d_Mod_remove_7 (tgt := 14) (by decide) (fun q1 => ?_) (fun q1 => ?_)
  · rw [nw_eq0 (by omega)] at q1
    refine lv_iconst (v := nI 0) hx hb d_Mod_remove_14 (by decide) ?_
    refine va_put (D := (dC, dI)) (ci := 1) (v := .int (nI 0)) (ty := .int) (C := R_Mod) (T := F_Mod) (N := 16) hx hb hts hin_Mod t_Mod t_Mod_ok n_Mod hown hK hP hD hS 3 rfl rfl 15 (by decide) (hts _ (nw_mc 62 rfl)) (fun _ h9 => h9) rfl (by decide +kernel) rfl rfl (Nat.le_of_ble_eq_true rfl) d_Mod_remove_15 (fun H locs hP hD hS => ?_)
    replace hP : va_P (dC, dI) nw_cls [(ai, nw_ai cB 60 I), (aw, nw_ai cB 60000 X), (al, nw_ai cI 1000 Ln), (hM, .inr (1, [.ref ai, .ref aw, .ref ar, .ref al, .ref aL, .ref aD, .ref ac, .ref af, .ref ap, .ref an, .ref ax, .int (nI 0), .int (nI wn), .int (nI chn), .int (nI rn), .int (nI 0)]))] H := hP
    replace hD : va_D A [(ai, nw_ai cB 60 I), (aw, nw_ai cB 60000 X), (al, nw_ai cI 1000 Ln), (hM, .inr (1, [.ref ai, .ref aw, .ref ar, .ref al, .ref aL, .ref aD, .ref ac, .ref af, .ref ap, .ref an, .ref ax, .int (nI 0), .int (nI wn), .int (nI chn), .int (nI rn), .int (nI 0)]))] := hD
    refine lv_iload_n hx hb d_Mod_remove_18 rfl (lv_at hl 0 rfl) ?_
    refine lv_if_ne hx hb d_Mod_remove_19 (tgt := 24) (by decide) (fun q2 => ?_) (fun q2 => ?_)
    · rw [nw_eq0 (by omega)] at q2
      refine lv_aload_n hx hb d_Mod_remove_24 rfl (lv_at hl 1 rfl) ?_
      refine lv_iload_n hx hb d_Mod_remove_25 rfl (lv_at hl 0 rfl) ?_
      refine vp_callSi (va_Run.run (va_runV (As := [.int (nI isz)]) (rest := []) ⟨hx, hb, hml, hown, hts⟩ (c_Mod_standing l dC dI cB cI hM ai aw ar al aL aD ac af ap an ax 0 wn chn rn 0 I X Ln isz (by omega) (by omega) hL hX hI0) (cwV (C := R_Mod) 1 hts (nw_GV (nw_m 80 rfl) (nw_m 81 rfl) (nw_m 82 rfl) (nw_m 67 rfl) (nw_m 83 rfl)) rfl rfl rfl (by decide +kernel) ⟨Nat.le_of_ble_eq_true rfl, Nat.le_of_ble_eq_true rfl⟩) (nw_preV (q0 := 3) (ci := 1) (q := (R_Mod, F_Mod, 16)) hK hP [3, 0, 1, 2] [0, 1] rfl rfl rfl rfl) rfl rfl hl.1 rfl (lv_room (Nat.le_of_ble_eq_true rfl)) d_Mod_remove_26 ⟨Nat.le_of_ble_eq_true rfl, Nat.le_of_ble_eq_true rfl⟩)) (fun r her => ?_)
      subst her
      refine nw_ti (y := nI at0) (congrArg nI hat.symm) ?_
      refine lv_istore_n hx hb d_Mod_remove_29 rfl hl (by decide) rfl (fun ls hl => ?_)
      replace hl : lv_has ls 4 [(2, .int (nI at0)), (1, .int (nI isz)), (0, .ref hM)] := hl
      refine lv_iload_n hx hb d_Mod_remove_30 rfl (lv_at hl 0 rfl) ?_
      refine lv_aload_n hx hb d_Mod_remove_31 rfl (lv_at hl 2 rfl) ?_
      refine va_get (D := (dC, dI)) (ci := 1) (v := .int (nI wn)) (C := R_Mod) (T := F_Mod) (N := 16) hx hb hts hin_Mod hown hK hP 3 rfl rfl 12 (by decide) (hts _ (nw_mc 71 rfl)) (fun _ h9 => h9) rfl d_Mod_remove_32 ?_
      refine lv_icmp_eq hx hb d_Mod_remove_35 (tgt := 47) (by decide) (fun q3 => ?_) (fun q3 => ?_)
      · rw [nI_eq (by omega) (by omega)] at q3
        omega
      · rw [nI_eq (by omega) (by omega)] at q3
        refine lv_aload_n hx hb d_Mod_remove_38 rfl (lv_at hl 2 rfl) ?_
        refine lv_iload_n hx hb d_Mod_remove_39 rfl (lv_at hl 0 rfl) ?_
        refine lv_iload_n hx hb d_Mod_remove_40 rfl (lv_at hl 1 rfl) ?_
        refine vp_callSi (va_Run.run (va_runV (As := [.int (nI at0), .int (nI isz)]) (rest := []) ⟨hx, hb, hml, hown, hts⟩ (c_Mod_order l dC dI cB cI hM ai aw ar al aL aD ac af ap an ax 0 wn chn rn 0 I X Ln at0 isz (by omega) (by omega) (hL _ (by omega)) hX hI0) (cwV (C := R_Mod) 2 hts (nw_GV (nw_m 72 rfl) (nw_m 73 rfl) (nw_m 74 rfl) (nw_m 67 rfl) (nw_m 75 rfl)) rfl rfl rfl (by decide +kernel) ⟨Nat.le_of_ble_eq_true rfl, Nat.le_of_ble_eq_true rfl⟩) (nw_preV (q0 := 3) (ci := 1) (q := (R_Mod, F_Mod, 16)) hK hP [3, 0, 1, 2] [0, 1] rfl rfl rfl rfl) rfl rfl hl.1 rfl (lv_room (Nat.le_of_ble_eq_true rfl)) d_Mod_remove_41 ⟨Nat.le_of_ble_eq_true rfl, Nat.le_of_ble_eq_true rfl⟩)) (fun r her => ?_)
        subst her
        refine lv_if_eq hx hb d_Mod_remove_44 (tgt := 52) (by decide) (fun q4 => ?_) (fun q4 => ?_)
        · refine lv_iload_n hx hb d_Mod_remove_52 rfl (lv_at hl 0 rfl) ?_
          refine lv_istore_n hx hb d_Mod_remove_53 rfl hl (by decide) rfl (fun ls hl => ?_)
          replace hl : lv_has ls 4 [(3, .int (nI at0)), (2, .int (nI at0)), (1, .int (nI isz)), (0, .ref hM)] := hl
          have hP := hP.sub (ws' := [(hM, .inr (1, [.ref ai, .ref aw, .ref ar, .ref al, .ref aL, .ref aD, .ref ac, .ref af, .ref ap, .ref an, .ref ax, .int (nI 0), .int (nI wn), .int (nI chn), .int (nI rn), .int (nI 0)])), (ai, nw_ai cB 60 I), (aw, nw_ai cB 60000 X), (al, nw_ai cI 1000 Ln)]) [3, 0, 1, 2] rfl
          have hD := hD.sub (ws' := [(hM, .inr (1, [.ref ai, .ref aw, .ref ar, .ref al, .ref aL, .ref aD, .ref ac, .ref af, .ref ap, .ref an, .ref ax, .int (nI 0), .int (nI wn), .int (nI chn), .int (nI rn), .int (nI 0)])), (ai, nw_ai cB 60 I), (aw, nw_ai cB 60000 X), (al, nw_ai cI 1000 Ln)]) [3, 0, 1, 2] (by decide) rfl
          refine nw_loopW (σ := Nat × (Nat → Nat) × (Nat → Nat)) (fun x => match x with | (w, f, g) => at0 ≤ w ∧ w < wn ∧ (∀ v, v < at0 → g v = Ln v ∧ ∀ k, k < Ln v → f (v * 60 + k) = X (v * 60 + k)) ∧ (∀ v, at0 ≤ v → v < w → g v = Ln (v + 1) ∧ ∀ k, k < Ln (v + 1) → f (v * 60 + k) = X ((v + 1) * 60 + k)) ∧ (∀ v, w < v → v < wn → g v = Ln v ∧ ∀ k, k < Ln v → f (v * 60 + k) = X (v * 60 + k)) ∧ ∀ j, f j < 128) (fun x => match x with | (w, f, g) => [(3, .int (nI w)), (2, .int (nI at0)), (1, .int (nI isz)), (0, .ref hM)]) (fun x => match x with | (w, f, g) => [(hM, .inr (1, [.ref ai, .ref aw, .ref ar, .ref al, .ref aL, .ref aD, .ref ac, .ref af, .ref ap, .ref an, .ref ax, .int (nI 0), .int (nI wn), .int (nI chn), .int (nI rn), .int (nI 0)])), (ai, nw_ai cB 60 I), (aw, nw_ai cB 60000 f), (al, nw_ai cI 1000 g)]) (fun x => match x with | (w, f, g) => wn - w) (fun x hA1 ih1 ls H locs hl hP hD hS => ?_) (at0, X, Ln) (⟨Nat.le_refl _, ho, fun v _ => ⟨rfl, fun k _ => rfl⟩, fun v h1 h2 => by omega, fun v _ _ => ⟨rfl, fun k _ => rfl⟩, hX⟩) hl hP hD hS
          obtain ⟨w, f, g⟩ := x
          replace hA1 : at0 ≤ w ∧ w < wn ∧ (∀ v, v < at0 → g v = Ln v ∧ ∀ k, k < Ln v → f (v * 60 + k) = X (v * 60 + k)) ∧ (∀ v, at0 ≤ v → v < w → g v = Ln (v + 1) ∧ ∀ k, k < Ln (v + 1) → f (v * 60 + k) = X ((v + 1) * 60 + k)) ∧ (∀ v, w < v → v < wn → g v = Ln v ∧ ∀ k, k < Ln v → f (v * 60 + k) = X (v * 60 + k)) ∧ ∀ j, f j < 128 := hA1
          replace hl : lv_has ls 4 [(3, .int (nI w)), (2, .int (nI at0)), (1, .int (nI isz)), (0, .ref hM)] := hl
          replace hP : va_P (dC, dI) nw_cls [(hM, .inr (1, [.ref ai, .ref aw, .ref ar, .ref al, .ref aL, .ref aD, .ref ac, .ref af, .ref ap, .ref an, .ref ax, .int (nI 0), .int (nI wn), .int (nI chn), .int (nI rn), .int (nI 0)])), (ai, nw_ai cB 60 I), (aw, nw_ai cB 60000 f), (al, nw_ai cI 1000 g)] H := hP
          replace hD : va_D A [(hM, .inr (1, [.ref ai, .ref aw, .ref ar, .ref al, .ref aL, .ref aD, .ref ac, .ref af, .ref ap, .ref an, .ref ax, .int (nI 0), .int (nI wn), .int (nI chn), .int (nI rn), .int (nI 0)])), (ai, nw_ai cB 60 I), (aw, nw_ai cB 60000 f), (al, nw_ai cI 1000 g)] := hD
          obtain ⟨hw1, hw3, hlo, hmi, hhi, hf⟩ := hA1
          refine lv_iload_n hx hb d_Mod_remove_54 rfl (lv_at hl 0 rfl) ?_
          refine lv_iconst (v := nI 1) hx hb d_Mod_remove_55 (by decide) ?_
          refine lv_iadd hx hb d_Mod_remove_56 ?_
          refine nw_ti (nI_add w 1) ?_
          refine lv_aload_n hx hb d_Mod_remove_57 rfl (lv_at hl 3 rfl) ?_
          refine va_get (D := (dC, dI)) (ci := 1) (v := .int (nI wn)) (C := R_Mod) (T := F_Mod) (N := 16) hx hb hts hin_Mod hown hK hP 0 rfl rfl 12 (by decide) (hts _ (nw_mc 71 rfl)) (fun _ h9 => h9) rfl d_Mod_remove_58 ?_
          refine lv_icmp_ge hx hb d_Mod_remove_61 (tgt := 86) (by decide) (fun q7 => ?_) (fun q7 => ?_)
          · rw [nI_leI (by omega) (by omega)] at q7
            refine lv_aload_n hx hb d_Mod_remove_86 rfl (lv_at hl 3 rfl) ?_
            refine lv_dup hx hb d_Mod_remove_87 rfl ?_
            refine va_get (D := (dC, dI)) (ci := 1) (v := .int (nI wn)) (C := R_Mod) (T := F_Mod) (N := 16) hx hb hts hin_Mod hown hK hP 0 rfl rfl 12 (by decide) (hts _ (nw_mc 71 rfl)) (fun _ h9 => h9) rfl d_Mod_remove_88 ?_
            refine lv_iconst (v := nI 1) hx hb d_Mod_remove_91 (by decide) ?_
            refine lv_isub hx hb d_Mod_remove_92 ?_
            refine nw_ti (pk_sub (a := wn) (b := 1) (by omega)) ?_
            refine va_put (D := (dC, dI)) (ci := 1) (v := .int (nI (wn - 1))) (ty := .int) (C := R_Mod) (T := F_Mod) (N := 16) hx hb hts hin_Mod t_Mod t_Mod_ok n_Mod hown hK hP hD hS 0 rfl rfl 12 (by decide) (hts _ (nw_mc 71 rfl)) (fun _ h9 => h9) rfl (by decide +kernel) rfl rfl (Nat.le_of_ble_eq_true rfl) d_Mod_remove_93 (fun H locs hP hD hS => ?_)
            replace hP : va_P (dC, dI) nw_cls [(hM, .inr (1, [.ref ai, .ref aw, .ref ar, .ref al, .ref aL, .ref aD, .ref ac, .ref af, .ref ap, .ref an, .ref ax, .int (nI 0), .int (nI (wn - 1)), .int (nI chn), .int (nI rn), .int (nI 0)])), (ai, nw_ai cB 60 I), (aw, nw_ai cB 60000 f), (al, nw_ai cI 1000 g)] H := hP
            replace hD : va_D A [(hM, .inr (1, [.ref ai, .ref aw, .ref ar, .ref al, .ref aL, .ref aD, .ref ac, .ref af, .ref ap, .ref an, .ref ax, .int (nI 0), .int (nI (wn - 1)), .int (nI chn), .int (nI rn), .int (nI 0)])), (ai, nw_ai cB 60 I), (aw, nw_ai cB 60000 f), (al, nw_ai cI 1000 g)] := hD
            refine lv_aload_n hx hb d_Mod_remove_96 rfl (lv_at hl 3 rfl) ?_
            refine lv_dup hx hb d_Mod_remove_97 rfl ?_
            refine va_get (D := (dC, dI)) (ci := 1) (v := .int (nI chn)) (C := R_Mod) (T := F_Mod) (N := 16) hx hb hts hin_Mod hown hK hP 0 rfl rfl 13 (by decide) (hts _ (nw_mc 84 rfl)) (fun _ h9 => h9) rfl d_Mod_remove_98 ?_
            refine lv_iload_n hx hb d_Mod_remove_101 rfl (lv_at hl 2 rfl) ?_
            refine lv_isub hx hb d_Mod_remove_102 ?_
            refine nw_ti (pk_sub (a := chn) (b := isz) (by omega)) ?_
            refine va_put (D := (dC, dI)) (ci := 1) (v := .int (nI (chn - isz))) (ty := .int) (C := R_Mod) (T := F_Mod) (N := 16) hx hb hts hin_Mod t_Mod t_Mod_ok n_Mod hown hK hP hD hS 0 rfl rfl 13 (by decide) (hts _ (nw_mc 84 rfl)) (fun _ h9 => h9) rfl (by decide +kernel) rfl rfl (Nat.le_of_ble_eq_true rfl) d_Mod_remove_103 (fun H locs hP hD hS => ?_)
            replace hP : va_P (dC, dI) nw_cls [(hM, .inr (1, [.ref ai, .ref aw, .ref ar, .ref al, .ref aL, .ref aD, .ref ac, .ref af, .ref ap, .ref an, .ref ax, .int (nI 0), .int (nI (wn - 1)), .int (nI (chn - isz)), .int (nI rn), .int (nI 0)])), (ai, nw_ai cB 60 I), (aw, nw_ai cB 60000 f), (al, nw_ai cI 1000 g)] H := hP
            replace hD : va_D A [(hM, .inr (1, [.ref ai, .ref aw, .ref ar, .ref al, .ref aL, .ref aD, .ref ac, .ref af, .ref ap, .ref an, .ref ax, .int (nI 0), .int (nI (wn - 1)), .int (nI (chn - isz)), .int (nI rn), .int (nI 0)])), (ai, nw_ai cB 60 I), (aw, nw_ai cB 60000 f), (al, nw_ai cI 1000 g)] := hD
            refine lv_aload_n hx hb d_Mod_remove_106 rfl (lv_at hl 3 rfl) ?_
            refine va_get (D := (dC, dI)) (ci := 1) (v := .int (nI (wn - 1))) (C := R_Mod) (T := F_Mod) (N := 16) hx hb hts hin_Mod hown hK hP 0 rfl rfl 12 (by decide) (hts _ (nw_mc 71 rfl)) (fun _ h9 => h9) rfl d_Mod_remove_107 ?_
            exact W.iret (v := nI (wn - 1)) hx hb hr (fun t ht hW => ⟨⟨_, (f, g), rfl, ⟨rfl, hlo, fun v h1 h2 => hmi v h1 (by omega), hf⟩, by rw [ht]; exact hP, hD⟩, hS.F ht⟩) hS.2.2 d_Mod_remove_110
          · rw [nI_leI (by omega) (by omega)] at q7
            have hg1 := (hhi (w + 1) (by omega) (by omega)).1
            have hl1 := hL (w + 1) (by omega)
            refine lv_aload_n hx hb d_Mod_remove_64 rfl (lv_at hl 3 rfl) ?_
            refine lv_iload_n hx hb d_Mod_remove_65 rfl (lv_at hl 0 rfl) ?_
            refine lv_iconst (v := nI 1) hx hb d_Mod_remove_66 (by decide) ?_
            refine lv_iadd hx hb d_Mod_remove_67 ?_
            refine nw_ti (nI_add w 1) ?_
            refine lv_iload_n hx hb d_Mod_remove_68 rfl (lv_at hl 0 rfl) ?_
            refine lv_aload_n hx hb d_Mod_remove_69 rfl (lv_at hl 3 rfl) ?_
            refine va_get (D := (dC, dI)) (ci := 1) (v := .ref al) (C := R_Mod) (T := F_Mod) (N := 16) hx hb hts hin_Mod hown hK hP 0 rfl rfl 3 (by decide) (hts _ (nw_mc 64 rfl)) (fun _ h9 => h9) rfl d_Mod_remove_70 ?_
            refine lv_iload_n hx hb d_Mod_remove_73 rfl (lv_at hl 0 rfl) ?_
            refine lv_iconst (v := nI 1) hx hb d_Mod_remove_74 (by decide) ?_
            refine lv_iadd hx hb d_Mod_remove_75 ?_
            refine nw_ti (nI_add w 1) ?_
            refine nw_iald hx hb hK hP 3 1 rfl rfl (k := (w + 1)) (by omega) (by first | decide | omega) d_Mod_remove_76 ?_
            refine nw_callv (wc := [(hM, .inr (1, [.ref ai, .ref aw, .ref ar, .ref al, .ref aL, .ref aD, .ref ac, .ref af, .ref ap, .ref an, .ref ax, .int (nI 0), .int (nI wn), .int (nI chn), .int (nI rn), .int (nI 0)])), (aw, nw_ai cB 60000 f), (al, nw_ai cI 1000 g)]) (wr := [(ai, nw_ai cB 60 I)]) hP hD hS hA [0, 2, 3] [1] rfl rfl (by decide) (by decide) (va_runV (As := [.int (nI (w + 1)), .int (nI w), .int (nI (g (w + 1)))]) (rest := []) ⟨hx, hb, hml, hown, hts⟩ (c_Mod_shift l dC dI _ cB cI hM ai aw ar al aL aD ac af ap an ax 0 wn chn rn 0 f g (w + 1) w (g (w + 1)) (by omega) (by omega) (by omega) (by omega) hf) (cwV (C := R_Mod) 3 hts (nw_GV (nw_m 92 rfl) (nw_m 93 rfl) (nw_m 94 rfl) (nw_m 67 rfl) (nw_m 95 rfl)) rfl rfl rfl (by decide +kernel) ⟨Nat.le_of_ble_eq_true rfl, Nat.le_of_ble_eq_true rfl⟩) (nw_prewV (q0 := 0) (ci := 1) (q := (R_Mod, F_Mod, 16)) hK hP hD [0, 2, 3] [0, 1] (by decide) rfl rfl rfl rfl) rfl rfl hl.1 rfl (lv_room (Nat.le_of_ble_eq_true rfl)) d_Mod_remove_77 ⟨Nat.le_of_ble_eq_true rfl, Nat.le_of_ble_eq_true rfl⟩) (fun _ H locs hw hP hD hS => ?_)
            replace hP : va_P (dC, dI) nw_cls [(ai, nw_ai cB 60 I), (hM, .inr (1, [.ref ai, .ref aw, .ref ar, .ref al, .ref aL, .ref aD, .ref ac, .ref af, .ref ap, .ref an, .ref ax, .int (nI 0), .int (nI wn), .int (nI chn), .int (nI rn), .int (nI 0)])), (aw, nw_ai cB 60000 (va_cpy f f ((w + 1) * 60) (w * 60) (g (w + 1)))), (al, nw_ai cI 1000 (va_up g w (g (w + 1))))] H := hP
            replace hD : va_D A [(ai, nw_ai cB 60 I), (hM, .inr (1, [.ref ai, .ref aw, .ref ar, .ref al, .ref aL, .ref aD, .ref ac, .ref af, .ref ap, .ref an, .ref ax, .int (nI 0), .int (nI wn), .int (nI chn), .int (nI rn), .int (nI 0)])), (aw, nw_ai cB 60000 (va_cpy f f ((w + 1) * 60) (w * 60) (g (w + 1)))), (al, nw_ai cI 1000 (va_up g w (g (w + 1))))] := hD
            refine lv_iinc (v := nI (w + 1)) hx hb d_Mod_remove_80 hl (k := 0) rfl (nI_add w 1) (by decide) rfl (fun ls hl => ?_)
            have hl : lv_has ls 4 [(3, .int (nI (w + 1))), (2, .int (nI at0)), (1, .int (nI isz)), (0, .ref hM)] := hl
            refine lv_goto hx hb d_Mod_remove_83 (tgt := 54) (by decide) ?_
            exact ih1 (w + 1, va_cpy f f ((w + 1) * 60) (w * 60) (g (w + 1)), va_up g w (g (w + 1))) (⟨by omega, by omega, fun v hv => ⟨(va_up_ne g _ (by omega)).trans (hlo v hv).1, fun k hk => by
              have := hL v (by omega)
              rw [pk_cpy_out (by omega)]; exact (hlo v hv).2 k hk⟩, fun v h1 h2 => by
              have hl2 := hL (v + 1) (by omega)
              by_cases e : v = w
              · refine ⟨by rw [e, va_up_self]; exact hg1, fun k hk => ?_⟩
                rw [e] at hk ⊢
                rw [pk_cpy_in (by omega) (by omega), show (w + 1) * 60 + (w * 60 + k - w * 60) = (w + 1) * 60 + k by omega]
                exact (hhi (w + 1) (by omega) (by omega)).2 k hk
              · refine ⟨(va_up_ne g _ e).trans (hmi v h1 (by omega)).1, fun k hk => ?_⟩
                rw [pk_cpy_out (by omega)]; exact (hmi v h1 (by omega)).2 k hk, fun v h1 h2 => ⟨(va_up_ne g _ (by omega)).trans (hhi v (by omega) h2).1, fun k hk => by
              rw [pk_cpy_out (by omega)]; exact (hhi v (by omega) h2).2 k hk⟩, fun j => by
              by_cases e : w * 60 ≤ j ∧ j < w * 60 + g (w + 1)
              · rw [pk_cpy_in e.1 e.2]; exact hf _
              · rw [pk_cpy_out (by omega)]; exact hf _⟩) (show wn - (w + 1) < wn - w by omega) _ _ _ hl (hP.sub [1, 0, 2, 3] rfl) (hD.sub [1, 0, 2, 3] (by decide) rfl) hS
        · exact absurd hc q4
    · rw [nw_eq0 (by omega)] at q2
      omega
  · rw [nw_eq0 (by omega)] at q1
    omega
end
section
set_option maxHeartbeats 4000000 in
set_option maxRecDepth 100000 in
theorem c_Mod_like (l : Launch) (dC : Nat → ClassId) (dI : Nat → Nat → Nat) (sz : Nat) (cB cI cZ : ClassId) (hM ai aw ar al aL aD ac af ap an ax isz wn chn rn th : Nat) (I X Ln NO NE Y RL RD : Nat → Nat) (hw : wn ≤ 1000) (hn : isz ≤ 60) (hL : ∀ i, i < wn → Ln i ≤ 60) (hX : ∀ j, X j < 128) (hI0 : ∀ j, I j < 128) (hY : ∀ j, Y j < 128) : Met l y_Mod_like w_Mod_like ({ frames := 1, cells := 0, slots := 0, locals := 26 }) (nw_Pw [.ref hM] (dC, dI) nw_cls [(cB, .byte), (cI, .int), (cZ, .boolean)] [(hM, .inr (1, [.ref ai, .ref aw, .ref ar, .ref al, .ref aL, .ref aD, .ref ac, .ref af, .ref ap, .ref an, .ref ax, .int (nI isz), .int (nI wn), .int (nI chn), .int (nI rn), .int (nI th)])), (ai, nw_ai cB 60 I), (aw, nw_ai cB 60000 X), (al, nw_ai cI 1000 Ln), (an, nw_ai cZ 61 NO), (ax, nw_ai cZ 61 NE), (ar, nw_ai cB 3000 Y), (aL, nw_ai cI 50 RL), (aD, nw_ai cI 50 RD)] sz) (va_Qi (fun (r : Int32) (u : (Nat → Nat) × (Nat → Nat) × (Nat → Nat) × (Nat → Nat) × (Nat → Nat)) => r = nI (nw_cnt (fun i => nw_M I (fun k => X (i * 60 + k)) (Ln i) isz = true) wn) ∧ nw_kp (fun i => nw_M I (fun k => X (i * 60 + k)) (Ln i) isz = true) (fun _ => 0) wn (fun i k => X (i * 60 + k)) Ln (fun r k => u.2.2.1 (r * 60 + k)) u.2.2.2.1 u.2.2.2.2 ∧ ∀ j, u.2.2.1 j < 128) (nw_B (dC, dI) nw_cls (va_A [(hM, .inr (1, [.ref ai, .ref aw, .ref ar, .ref al, .ref aL, .ref aD, .ref ac, .ref af, .ref ap, .ref an, .ref ax, .int (nI isz), .int (nI wn), .int (nI chn), .int (nI rn), .int (nI th)])), (ai, nw_ai cB 60 I), (aw, nw_ai cB 60000 X), (al, nw_ai cI 1000 Ln), (an, nw_ai cZ 61 NO), (ax, nw_ai cZ 61 NE), (ar, nw_ai cB 3000 Y), (aL, nw_ai cI 50 RL), (aD, nw_ai cI 50 RD)] sz) (fun u => [(hM, .inr (1, [.ref ai, .ref aw, .ref ar, .ref al, .ref aL, .ref aD, .ref ac, .ref af, .ref ap, .ref an, .ref ax, .int (nI 0), .int (nI wn), .int (nI chn), .int (nI (min (nw_cnt (fun i => nw_M I (fun k => X (i * 60 + k)) (Ln i) isz = true) wn) 50)), .int (nI 0)])), (ai, nw_ai cB 60 I), (aw, nw_ai cB 60000 X), (al, nw_ai cI 1000 Ln), (an, nw_ai cZ 61 u.1), (ax, nw_ai cZ 61 u.2.1), (ar, nw_ai cB 3000 u.2.2.1), (aL, nw_ai cI 50 u.2.2.2.1), (aD, nw_ai cI 50 u.2.2.2.2)])) (va_A [(hM, .inr (1, [.ref ai, .ref aw, .ref ar, .ref al, .ref aL, .ref aD, .ref ac, .ref af, .ref ap, .ref an, .ref ax, .int (nI isz), .int (nI wn), .int (nI chn), .int (nI rn), .int (nI th)])), (ai, nw_ai cB 60 I), (aw, nw_ai cB 60000 X), (al, nw_ai cI 1000 Ln), (an, nw_ai cZ 61 NO), (ax, nw_ai cZ 61 NE), (ar, nw_ai cB 3000 Y), (aL, nw_ai cI 50 RL), (aD, nw_ai cI 50 RD)] sz)) 0 0 (va_A [(hM, .inr (1, [.ref ai, .ref aw, .ref ar, .ref al, .ref aL, .ref aD, .ref ac, .ref af, .ref ap, .ref an, .ref ax, .int (nI isz), .int (nI wn), .int (nI chn), .int (nI rn), .int (nI th)])), (ai, nw_ai cB 60 I), (aw, nw_ai cB 60000 X), (al, nw_ai cI 1000 Ln), (an, nw_ai cZ 61 NO), (ax, nw_ai cZ 61 NE), (ar, nw_ai cB 3000 Y), (aL, nw_ai cI 50 RL), (aD, nw_ai cI 50 RD)] sz) := by
  refine Met.ofW (cc := b_Mod_like) (maxL := 4) (ret := (some .int)) (by decide) rfl ?_
  intro p e s m args below meth cd s₁ B hml hv0
  obtain ⟨rfl, hsz, hP, hK, hD0⟩ := hv0
  have hx := B.exec
  have hb := B.bytes
  have hr := B.returns
  have hts := atoms_spec (ws := w_Mod_like) B.pre
  have hown : s.vm.findClass R_Mod = some m.cls := findClass_of_methodNamed B.named
  have hlocks := B.notSynchronized
  subst hsz
  have hD := hD0.self (sz := s.heap.size)
  generalize hAe : va_A [(hM, .inr (1, [.ref ai, .ref aw, .ref ar, .ref al, .ref aL, .ref aD, .ref ac, .ref af, .ref ap, .ref an, .ref ax, .int (nI isz), .int (nI wn), .int (nI chn), .int (nI rn), .int (nI th)])), (ai, nw_ai cB 60 I), (aw, nw_ai cB 60000 X), (al, nw_ai cI 1000 Ln), (an, nw_ai cZ 61 NO), (ax, nw_ai cZ 61 NE), (ar, nw_ai cB 3000 Y), (aL, nw_ai cI 50 RL), (aD, nw_ai cI 50 RD)] s.heap.size = A at hD ⊢
  have hA : ∀ q : Nat, s.heap.size ≤ q → A q := fun q h => by rw [← hAe]; exact Or.inr h
  have hS : va_S A s.heap s.heap [] := va_S.rf
  have hl := lv_entry ([.ref hM]) (n := 4) (Nat.le_of_ble_eq_true rfl)
  rw [lg_entry_eq]
  generalize (lg_sl ([.ref hM]) ++ List.replicate (4 - (lg_sl ([.ref hM])).length) Slot.unset).toArray = ls at hl ⊢
  have hl : lv_has ls 4 [(0, .ref hM)] := hl
  refine lv_aload_n hx hb d_Mod_like_0 rfl (lv_at hl 0 rfl) ?_
  refine nw_calli (wc := [(hM, .inr (1, [.ref ai, .ref aw, .ref ar, .ref al, .ref aL, .ref aD, .ref ac, .ref af, .ref ap, .ref an, .ref ax, .int (nI isz), .int (nI wn), .int (nI chn), .int (nI rn), .int (nI th)]))]) (wr := [(ai, nw_ai cB 60 I), (aw, nw_ai cB 60000 X), (al, nw_ai cI 1000 Ln), (an, nw_ai cZ 61 NO), (ax, nw_ai cZ 61 NE), (ar, nw_ai cB 3000 Y), (aL, nw_ai cI 50 RL), (aD, nw_ai cI 50 RD)]) hP hD hS hA [0] [1, 2, 3, 4, 5, 6, 7, 8] rfl rfl (by decide) (by decide) (va_runV (As := []) (rest := []) ⟨hx, hb, hml, hown, hts⟩ (c_Mod_take l dC dI _ hM ai aw ar al aL aD ac af ap an ax isz wn chn rn th) (cwV (C := R_Mod) 0 hts (nw_GV (nw_m 76 rfl) (nw_m 77 rfl) (nw_m 78 rfl) (nw_m 67 rfl) (nw_m 79 rfl)) rfl rfl rfl (by decide +kernel) ⟨Nat.le_of_ble_eq_true rfl, Nat.le_of_ble_eq_true rfl⟩) (nw_prewV (q0 := 0) (ci := 1) (q := (R_Mod, F_Mod, 16)) hK hP hD [0] [] (by decide) rfl rfl rfl rfl) rfl rfl hl.1 rfl (lv_room (Nat.le_of_ble_eq_true rfl)) d_Mod_like_1 ⟨Nat.le_of_ble_eq_true rfl, Nat.le_of_ble_eq_true rfl⟩) (fun r _ H locs hw hP hD hS => ?_)
  replace hP : va_P (dC, dI) nw_cls [(ai, nw_ai cB 60 I), (aw, nw_ai cB 60000 X), (al, nw_ai cI 1000 Ln), (an, nw_ai cZ 61 NO), (ax, nw_ai cZ 61 NE), (ar, nw_ai cB 3000 Y), (aL, nw_ai cI 50 RL), (aD, nw_ai cI 50 RD), (hM, .inr (1, [.ref ai, .ref aw, .ref ar, .ref al, .ref aL, .ref aD, .ref ac, .ref af, .ref ap, .ref an, .ref ax, .int (nI 0), .int (nI wn), .int (nI chn), .int (nI rn), .int (nI th)]))] H := hP
  replace hD : va_D A [(ai, nw_ai cB 60 I), (aw, nw_ai cB 60000 X), (al, nw_ai cI 1000 Ln), (an, nw_ai cZ 61 NO), (ax, nw_ai cZ 61 NE), (ar, nw_ai cB 3000 Y), (aL, nw_ai cI 50 RL), (aD, nw_ai cI 50 RD), (hM, .inr (1, [.ref ai, .ref aw, .ref ar, .ref al, .ref aL, .ref aD, .ref ac, .ref af, .ref ap, .ref an, .ref ax, .int (nI 0), .int (nI wn), .int (nI chn), .int (nI rn), .int (nI th)]))] := hD
  obtain rfl : r = nI isz := hw
  refine lv_istore_n hx hb d_Mod_like_4 rfl hl (by decide) rfl (fun ls hl => ?_)
  replace hl : lv_has ls 4 [(1, .int (nI isz)), (0, .ref hM)] := hl
  refine lv_aload_n hx hb d_Mod_like_5 rfl (lv_at hl 1 rfl) ?_
  refine lv_iconst (v := nI 0) hx hb d_Mod_like_6 (by decide) ?_
  refine va_put (D := (dC, dI)) (ci := 1) (v := .int (nI 0)) (ty := .int) (C := R_Mod) (T := F_Mod) (N := 16) hx hb hts hin_Mod t_Mod t_Mod_ok n_Mod hown hK hP hD hS 8 rfl rfl 15 (by decide) (hts _ (nw_mc 62 rfl)) (fun _ h9 => h9) rfl (by decide +kernel) rfl rfl (Nat.le_of_ble_eq_true rfl) d_Mod_like_7 (fun H locs hP hD hS => ?_)
  replace hP : va_P (dC, dI) nw_cls [(ai, nw_ai cB 60 I), (aw, nw_ai cB 60000 X), (al, nw_ai cI 1000 Ln), (an, nw_ai cZ 61 NO), (ax, nw_ai cZ 61 NE), (ar, nw_ai cB 3000 Y), (aL, nw_ai cI 50 RL), (aD, nw_ai cI 50 RD), (hM, .inr (1, [.ref ai, .ref aw, .ref ar, .ref al, .ref aL, .ref aD, .ref ac, .ref af, .ref ap, .ref an, .ref ax, .int (nI 0), .int (nI wn), .int (nI chn), .int (nI rn), .int (nI 0)]))] H := hP
  replace hD : va_D A [(ai, nw_ai cB 60 I), (aw, nw_ai cB 60000 X), (al, nw_ai cI 1000 Ln), (an, nw_ai cZ 61 NO), (ax, nw_ai cZ 61 NE), (ar, nw_ai cB 3000 Y), (aL, nw_ai cI 50 RL), (aD, nw_ai cI 50 RD), (hM, .inr (1, [.ref ai, .ref aw, .ref ar, .ref al, .ref aL, .ref aD, .ref ac, .ref af, .ref ap, .ref an, .ref ax, .int (nI 0), .int (nI wn), .int (nI chn), .int (nI rn), .int (nI 0)]))] := hD
  refine lv_iconst (v := nI 0) hx hb d_Mod_like_10 (by decide) ?_
  refine lv_istore_n hx hb d_Mod_like_11 rfl hl (by decide) rfl (fun ls hl => ?_)
  replace hl : lv_has ls 4 [(2, .int (nI 0)), (1, .int (nI isz)), (0, .ref hM)] := hl
  refine lv_iconst (v := nI 0) hx hb d_Mod_like_12 (by decide) ?_
  refine lv_istore_n hx hb d_Mod_like_13 rfl hl (by decide) rfl (fun ls hl => ?_)
  replace hl : lv_has ls 4 [(3, .int (nI 0)), (2, .int (nI 0)), (1, .int (nI isz)), (0, .ref hM)] := hl
  have hP := hP.sub (ws' := [(hM, .inr (1, [.ref ai, .ref aw, .ref ar, .ref al, .ref aL, .ref aD, .ref ac, .ref af, .ref ap, .ref an, .ref ax, .int (nI 0), .int (nI wn), .int (nI chn), .int (nI rn), .int (nI 0)])), (ai, nw_ai cB 60 I), (aw, nw_ai cB 60000 X), (al, nw_ai cI 1000 Ln), (an, nw_ai cZ 61 NO), (ax, nw_ai cZ 61 NE), (ar, nw_ai cB 3000 Y), (aL, nw_ai cI 50 RL), (aD, nw_ai cI 50 RD)]) [8, 0, 1, 2, 3, 4, 5, 6, 7] rfl
  have hD := hD.sub (ws' := [(hM, .inr (1, [.ref ai, .ref aw, .ref ar, .ref al, .ref aL, .ref aD, .ref ac, .ref af, .ref ap, .ref an, .ref ax, .int (nI 0), .int (nI wn), .int (nI chn), .int (nI rn), .int (nI 0)])), (ai, nw_ai cB 60 I), (aw, nw_ai cB 60000 X), (al, nw_ai cI 1000 Ln), (an, nw_ai cZ 61 NO), (ax, nw_ai cZ 61 NE), (ar, nw_ai cB 3000 Y), (aL, nw_ai cI 50 RL), (aD, nw_ai cI 50 RD)]) [8, 0, 1, 2, 3, 4, 5, 6, 7] (by decide) rfl
  refine nw_loopW (σ := Nat × (Nat → Nat) × (Nat → Nat) × (Nat → Nat) × (Nat → Nat) × (Nat → Nat)) (fun x => match x with | (w, no, ne, y, rl, rd) => w ≤ wn ∧ nw_kp (fun i => nw_M I (fun k => X (i * 60 + k)) (Ln i) isz = true) (fun _ => 0) w (fun i k => X (i * 60 + k)) Ln (fun r k => y (r * 60 + k)) rl rd ∧ ∀ j, y j < 128) (fun x => match x with | (w, no, ne, y, rl, rd) => [(3, .int (nI w)), (2, .int (nI (nw_cnt (fun i => nw_M I (fun k => X (i * 60 + k)) (Ln i) isz = true) w))), (1, .int (nI isz)), (0, .ref hM)]) (fun x => match x with | (w, no, ne, y, rl, rd) => [(hM, .inr (1, [.ref ai, .ref aw, .ref ar, .ref al, .ref aL, .ref aD, .ref ac, .ref af, .ref ap, .ref an, .ref ax, .int (nI 0), .int (nI wn), .int (nI chn), .int (nI rn), .int (nI 0)])), (ai, nw_ai cB 60 I), (aw, nw_ai cB 60000 X), (al, nw_ai cI 1000 Ln), (an, nw_ai cZ 61 no), (ax, nw_ai cZ 61 ne), (ar, nw_ai cB 3000 y), (aL, nw_ai cI 50 rl), (aD, nw_ai cI 50 rd)]) (fun x => match x with | (w, no, ne, y, rl, rd) => wn - w) (fun x hA1 ih1 ls H locs hl hP hD hS => ?_) (0, NO, NE, Y, RL, RD) (⟨Nat.zero_le _, nw_kp_0, hY⟩) hl hP hD hS
  obtain ⟨w, no, ne, y, rl, rd⟩ := x
  replace hA1 : w ≤ wn ∧ nw_kp (fun i => nw_M I (fun k => X (i * 60 + k)) (Ln i) isz = true) (fun _ => 0) w (fun i k => X (i * 60 + k)) Ln (fun r k => y (r * 60 + k)) rl rd ∧ ∀ j, y j < 128 := hA1
  replace hl : lv_has ls 4 [(3, .int (nI w)), (2, .int (nI (nw_cnt (fun i => nw_M I (fun k => X (i * 60 + k)) (Ln i) isz = true) w))), (1, .int (nI isz)), (0, .ref hM)] := hl
  replace hP : va_P (dC, dI) nw_cls [(hM, .inr (1, [.ref ai, .ref aw, .ref ar, .ref al, .ref aL, .ref aD, .ref ac, .ref af, .ref ap, .ref an, .ref ax, .int (nI 0), .int (nI wn), .int (nI chn), .int (nI rn), .int (nI 0)])), (ai, nw_ai cB 60 I), (aw, nw_ai cB 60000 X), (al, nw_ai cI 1000 Ln), (an, nw_ai cZ 61 no), (ax, nw_ai cZ 61 ne), (ar, nw_ai cB 3000 y), (aL, nw_ai cI 50 rl), (aD, nw_ai cI 50 rd)] H := hP
  replace hD : va_D A [(hM, .inr (1, [.ref ai, .ref aw, .ref ar, .ref al, .ref aL, .ref aD, .ref ac, .ref af, .ref ap, .ref an, .ref ax, .int (nI 0), .int (nI wn), .int (nI chn), .int (nI rn), .int (nI 0)])), (ai, nw_ai cB 60 I), (aw, nw_ai cB 60000 X), (al, nw_ai cI 1000 Ln), (an, nw_ai cZ 61 no), (ax, nw_ai cZ 61 ne), (ar, nw_ai cB 3000 y), (aL, nw_ai cI 50 rl), (aD, nw_ai cI 50 rd)] := hD
  obtain ⟨hw1, hkp, hy⟩ := hA1
  have hcn := nw_cnt_le (fun i => nw_M I (fun k => X (i * 60 + k)) (Ln i) isz = true) w
  refine lv_iload_n hx hb d_Mod_like_14 rfl (lv_at hl 0 rfl) ?_
  refine lv_aload_n hx hb d_Mod_like_15 rfl (lv_at hl 3 rfl) ?_
  refine va_get (D := (dC, dI)) (ci := 1) (v := .int (nI wn)) (C := R_Mod) (T := F_Mod) (N := 16) hx hb hts hin_Mod hown hK hP 0 rfl rfl 12 (by decide) (hts _ (nw_mc 71 rfl)) (fun _ h9 => h9) rfl d_Mod_like_16 ?_
  refine lv_icmp_ge hx hb d_Mod_like_19 (tgt := 56) (by decide) (fun q1 => ?_) (fun q1 => ?_)
  · rw [nI_leI (by omega) (by omega)] at q1
    have hw9 : w = wn := by omega
    refine lv_aload_n hx hb d_Mod_like_56 rfl (lv_at hl 3 rfl) ?_
    refine lv_iload_n hx hb d_Mod_like_57 rfl (lv_at hl 1 rfl) ?_
    refine lv_bipush (v := nI 50) hx hb d_Mod_like_58 (by decide) ?_
    refine vp_callSi (va_Run.run (va_runS (As := [.int (nI (nw_cnt (fun i => nw_M I (fun k => X (i * 60 + k)) (Ln i) isz = true) w)), .int (nI 50)]) (rest := [.ref hM]) ⟨hx, hb, hml, hown, hts⟩ (c_Mod_least l dC dI (nw_cnt (fun i => nw_M I (fun k => X (i * 60 + k)) (Ln i) isz = true) w) 50 (by omega) (by omega)) (cwS 2 hts (nw_GS (nw_m 65 rfl) (nw_m 66 rfl) (nw_m 67 rfl) (nw_m 68 rfl)) rfl rfl rfl (by decide +kernel) ⟨Nat.le_of_ble_eq_true rfl, Nat.le_of_ble_eq_true rfl⟩) (nw_preS hK hP [] [] rfl rfl) rfl rfl hl.1 rfl (lv_room (Nat.le_of_ble_eq_true rfl)) d_Mod_like_60 ⟨Nat.le_of_ble_eq_true rfl, Nat.le_of_ble_eq_true rfl⟩)) (fun r her => ?_)
    subst her
    refine va_put (D := (dC, dI)) (ci := 1) (v := .int (nI (min (nw_cnt (fun i => nw_M I (fun k => X (i * 60 + k)) (Ln i) isz = true) w) 50))) (ty := .int) (C := R_Mod) (T := F_Mod) (N := 16) hx hb hts hin_Mod t_Mod t_Mod_ok n_Mod hown hK hP hD hS 0 rfl rfl 14 (by decide) (hts _ (nw_mc 85 rfl)) (fun _ h9 => h9) rfl (by decide +kernel) rfl rfl (Nat.le_of_ble_eq_true rfl) d_Mod_like_63 (fun H locs hP hD hS => ?_)
    replace hP : va_P (dC, dI) nw_cls [(hM, .inr (1, [.ref ai, .ref aw, .ref ar, .ref al, .ref aL, .ref aD, .ref ac, .ref af, .ref ap, .ref an, .ref ax, .int (nI 0), .int (nI wn), .int (nI chn), .int (nI (min (nw_cnt (fun i => nw_M I (fun k => X (i * 60 + k)) (Ln i) isz = true) w) 50)), .int (nI 0)])), (ai, nw_ai cB 60 I), (aw, nw_ai cB 60000 X), (al, nw_ai cI 1000 Ln), (an, nw_ai cZ 61 no), (ax, nw_ai cZ 61 ne), (ar, nw_ai cB 3000 y), (aL, nw_ai cI 50 rl), (aD, nw_ai cI 50 rd)] H := hP
    replace hD : va_D A [(hM, .inr (1, [.ref ai, .ref aw, .ref ar, .ref al, .ref aL, .ref aD, .ref ac, .ref af, .ref ap, .ref an, .ref ax, .int (nI 0), .int (nI wn), .int (nI chn), .int (nI (min (nw_cnt (fun i => nw_M I (fun k => X (i * 60 + k)) (Ln i) isz = true) w) 50)), .int (nI 0)])), (ai, nw_ai cB 60 I), (aw, nw_ai cB 60000 X), (al, nw_ai cI 1000 Ln), (an, nw_ai cZ 61 no), (ax, nw_ai cZ 61 ne), (ar, nw_ai cB 3000 y), (aL, nw_ai cI 50 rl), (aD, nw_ai cI 50 rd)] := hD
    refine lv_iload_n hx hb d_Mod_like_66 rfl (lv_at hl 1 rfl) ?_
    rw [hw9] at hkp
    have hfin : min (nw_cnt (fun i => nw_M I (fun k => X (i * 60 + k)) (Ln i) isz = true) w) 50 = min (nw_cnt (fun i => nw_M I (fun k => X (i * 60 + k)) (Ln i) isz = true) wn) 50 := by rw [hw9]
    rw [hfin] at hP hD
    replace hP : va_P (dC, dI) nw_cls [(hM, .inr (1, [.ref ai, .ref aw, .ref ar, .ref al, .ref aL, .ref aD, .ref ac, .ref af, .ref ap, .ref an, .ref ax, .int (nI 0), .int (nI wn), .int (nI chn), .int (nI (min (nw_cnt (fun i => nw_M I (fun k => X (i * 60 + k)) (Ln i) isz = true) wn) 50)), .int (nI 0)])), (ai, nw_ai cB 60 I), (aw, nw_ai cB 60000 X), (al, nw_ai cI 1000 Ln), (an, nw_ai cZ 61 no), (ax, nw_ai cZ 61 ne), (ar, nw_ai cB 3000 y), (aL, nw_ai cI 50 rl), (aD, nw_ai cI 50 rd)] H := hP
    replace hD : va_D A [(hM, .inr (1, [.ref ai, .ref aw, .ref ar, .ref al, .ref aL, .ref aD, .ref ac, .ref af, .ref ap, .ref an, .ref ax, .int (nI 0), .int (nI wn), .int (nI chn), .int (nI (min (nw_cnt (fun i => nw_M I (fun k => X (i * 60 + k)) (Ln i) isz = true) wn) 50)), .int (nI 0)])), (ai, nw_ai cB 60 I), (aw, nw_ai cB 60000 X), (al, nw_ai cI 1000 Ln), (an, nw_ai cZ 61 no), (ax, nw_ai cZ 61 ne), (ar, nw_ai cB 3000 y), (aL, nw_ai cI 50 rl), (aD, nw_ai cI 50 rd)] := hD
    exact W.iret (v := nI (nw_cnt (fun i => nw_M I (fun k => X (i * 60 + k)) (Ln i) isz = true) w)) hx hb hr (fun t ht hW => ⟨⟨_, (no, ne, y, rl, rd), rfl, ⟨by rw [hw9], hkp, hy⟩, by rw [ht]; exact hP, hD⟩, hS.F ht⟩) hS.2.2 d_Mod_like_67
  · rw [nI_leI (by omega) (by omega)] at q1
    have hlw := hL w (by omega)
    refine lv_aload_n hx hb d_Mod_like_22 rfl (lv_at hl 3 rfl) ?_
    refine lv_iload_n hx hb d_Mod_like_23 rfl (lv_at hl 0 rfl) ?_
    refine lv_iload_n hx hb d_Mod_like_24 rfl (lv_at hl 2 rfl) ?_
    refine nw_calli (wc := [(hM, .inr (1, [.ref ai, .ref aw, .ref ar, .ref al, .ref aL, .ref aD, .ref ac, .ref af, .ref ap, .ref an, .ref ax, .int (nI 0), .int (nI wn), .int (nI chn), .int (nI rn), .int (nI 0)])), (ai, nw_ai cB 60 I), (aw, nw_ai cB 60000 X), (al, nw_ai cI 1000 Ln), (an, nw_ai cZ 61 no), (ax, nw_ai cZ 61 ne)]) (wr := [(ar, nw_ai cB 3000 y), (aL, nw_ai cI 50 rl), (aD, nw_ai cI 50 rd)]) hP hD hS hA [0, 1, 2, 3, 4, 5] [6, 7, 8] rfl rfl (by decide) (by decide) (va_runV (As := [.int (nI w), .int (nI isz)]) (rest := []) ⟨hx, hb, hml, hown, hts⟩ (c_Mod_fits l dC dI _ cB cI cZ hM ai aw ar al aL aD ac af ap an ax 0 wn chn rn 0 I X Ln no ne w isz (by omega) (by omega) hlw hX hI0) (cwV (C := R_Mod) 2 hts (nw_GV (nw_m 96 rfl) (nw_m 97 rfl) (nw_m 98 rfl) (nw_m 67 rfl) (nw_m 99 rfl)) rfl rfl rfl (by decide +kernel) ⟨Nat.le_of_ble_eq_true rfl, Nat.le_of_ble_eq_true rfl⟩) (nw_prewV (q0 := 0) (ci := 1) (q := (R_Mod, F_Mod, 16)) hK hP hD [0, 1, 2, 3, 4, 5] [0, 1, 2] (by decide) rfl rfl rfl rfl) rfl rfl hl.1 rfl (lv_room (Nat.le_of_ble_eq_true rfl)) d_Mod_like_25 ⟨Nat.le_of_ble_eq_true rfl, Nat.le_of_ble_eq_true rfl⟩) (fun r u H locs hw hP hD hS => ?_)
    replace hP : va_P (dC, dI) nw_cls [(ar, nw_ai cB 3000 y), (aL, nw_ai cI 50 rl), (aD, nw_ai cI 50 rd), (hM, .inr (1, [.ref ai, .ref aw, .ref ar, .ref al, .ref aL, .ref aD, .ref ac, .ref af, .ref ap, .ref an, .ref ax, .int (nI 0), .int (nI wn), .int (nI chn), .int (nI rn), .int (nI 0)])), (ai, nw_ai cB 60 I), (aw, nw_ai cB 60000 X), (al, nw_ai cI 1000 Ln), (an, nw_ai cZ 61 u.1), (ax, nw_ai cZ 61 u.2)] H := hP
    replace hD : va_D A [(ar, nw_ai cB 3000 y), (aL, nw_ai cI 50 rl), (aD, nw_ai cI 50 rd), (hM, .inr (1, [.ref ai, .ref aw, .ref ar, .ref al, .ref aL, .ref aD, .ref ac, .ref af, .ref ap, .ref an, .ref ax, .int (nI 0), .int (nI wn), .int (nI chn), .int (nI rn), .int (nI 0)])), (ai, nw_ai cB 60 I), (aw, nw_ai cB 60000 X), (al, nw_ai cI 1000 Ln), (an, nw_ai cZ 61 u.1), (ax, nw_ai cZ 61 u.2)] := hD
    obtain rfl : r = nI ((nw_M I (fun k => X (w * 60 + k)) (Ln w) isz).toNat) := hw
    have hP := hP.sub (ws' := [(hM, .inr (1, [.ref ai, .ref aw, .ref ar, .ref al, .ref aL, .ref aD, .ref ac, .ref af, .ref ap, .ref an, .ref ax, .int (nI 0), .int (nI wn), .int (nI chn), .int (nI rn), .int (nI 0)])), (ai, nw_ai cB 60 I), (aw, nw_ai cB 60000 X), (al, nw_ai cI 1000 Ln), (an, nw_ai cZ 61 u.1), (ax, nw_ai cZ 61 u.2), (ar, nw_ai cB 3000 y), (aL, nw_ai cI 50 rl), (aD, nw_ai cI 50 rd)]) [3, 4, 5, 6, 7, 8, 0, 1, 2] rfl
    have hD := hD.sub (ws' := [(hM, .inr (1, [.ref ai, .ref aw, .ref ar, .ref al, .ref aL, .ref aD, .ref ac, .ref af, .ref ap, .ref an, .ref ax, .int (nI 0), .int (nI wn), .int (nI chn), .int (nI rn), .int (nI 0)])), (ai, nw_ai cB 60 I), (aw, nw_ai cB 60000 X), (al, nw_ai cI 1000 Ln), (an, nw_ai cZ 61 u.1), (ax, nw_ai cZ 61 u.2), (ar, nw_ai cB 3000 y), (aL, nw_ai cI 50 rl), (aD, nw_ai cI 50 rd)]) [3, 4, 5, 6, 7, 8, 0, 1, 2] (by decide) rfl
    have zb := nw_b2 (nw_M I (fun k => X (w * 60 + k)) (Ln w) isz)
    refine lv_if_ne hx hb d_Mod_like_28 (tgt := 34) (by decide) (fun q2 => ?_) (fun q2 => ?_)
    · rw [nw_eq0 (by omega)] at q2
      have hsel := nw_bt.mp q2
      refine lv_iload_n hx hb d_Mod_like_34 rfl (lv_at hl 1 rfl) ?_
      refine lv_bipush (v := nI 50) hx hb d_Mod_like_35 (by decide) ?_
      refine lv_icmp_ge hx hb d_Mod_like_37 (tgt := 47) (by decide) (fun q3 => ?_) (fun q3 => ?_)
      · rw [nI_leI (by omega) (by omega)] at q3
        refine lv_iinc (v := nI ((nw_cnt (fun i => nw_M I (fun k => X (i * 60 + k)) (Ln i) isz = true) w) + 1)) hx hb d_Mod_like_47 hl (k := 1) rfl (nI_add (nw_cnt (fun i => nw_M I (fun k => X (i * 60 + k)) (Ln i) isz = true) w) 1) (by decide) rfl (fun ls hl => ?_)
        have hl : lv_has ls 4 [(2, .int (nI ((nw_cnt (fun i => nw_M I (fun k => X (i * 60 + k)) (Ln i) isz = true) w) + 1))), (3, .int (nI w)), (1, .int (nI isz)), (0, .ref hM)] := hl
        rw [← nw_cnt_pos (f := (fun i => nw_M I (fun k => X (i * 60 + k)) (Ln i) isz = true)) hsel] at hl
        have hl : lv_has ls 4 [(2, .int (nI (nw_cnt (fun i => nw_M I (fun k => X (i * 60 + k)) (Ln i) isz = true) (w + 1)))), (3, .int (nI w)), (1, .int (nI isz)), (0, .ref hM)] := hl
        refine lv_iinc (v := nI (w + 1)) hx hb d_Mod_like_50 hl (k := 1) rfl (nI_add w 1) (by decide) rfl (fun ls hl => ?_)
        have hl : lv_has ls 4 [(3, .int (nI (w + 1))), (2, .int (nI (nw_cnt (fun i => nw_M I (fun k => X (i * 60 + k)) (Ln i) isz = true) (w + 1)))), (1, .int (nI isz)), (0, .ref hM)] := hl
        refine lv_goto hx hb d_Mod_like_53 (tgt := 14) (by decide) ?_
        exact ih1 (w + 1, u.1, u.2, y, rl, rd) (⟨by omega, nw_kp_full hkp (by omega), hy⟩) (show wn - (w + 1) < wn - w by omega) _ _ _ hl hP hD hS
      · rw [nI_leI (by omega) (by omega)] at q3
        refine lv_aload_n hx hb d_Mod_like_40 rfl (lv_at hl 3 rfl) ?_
        refine lv_iload_n hx hb d_Mod_like_41 rfl (lv_at hl 1 rfl) ?_
        refine lv_iload_n hx hb d_Mod_like_42 rfl (lv_at hl 0 rfl) ?_
        refine lv_iconst (v := nI 0) hx hb d_Mod_like_43 (by decide) ?_
        refine nw_callv (wc := [(hM, .inr (1, [.ref ai, .ref aw, .ref ar, .ref al, .ref aL, .ref aD, .ref ac, .ref af, .ref ap, .ref an, .ref ax, .int (nI 0), .int (nI wn), .int (nI chn), .int (nI rn), .int (nI 0)])), (aw, nw_ai cB 60000 X), (al, nw_ai cI 1000 Ln), (ar, nw_ai cB 3000 y), (aL, nw_ai cI 50 rl), (aD, nw_ai cI 50 rd)]) (wr := [(ai, nw_ai cB 60 I), (an, nw_ai cZ 61 u.1), (ax, nw_ai cZ 61 u.2)]) hP hD hS hA [0, 2, 3, 6, 7, 8] [1, 4, 5] rfl rfl (by decide) (by decide) (va_runV (As := [.int (nI (nw_cnt (fun i => nw_M I (fun k => X (i * 60 + k)) (Ln i) isz = true) w)), .int (nI w), .int (nI 0)]) (rest := []) ⟨hx, hb, hml, hown, hts⟩ (c_Mod_keep l dC dI _ cB cI hM ai aw ar al aL aD ac af ap an ax 0 wn chn rn 0 X Ln y rl rd (nw_cnt (fun i => nw_M I (fun k => X (i * 60 + k)) (Ln i) isz = true) w) w 0 (by omega) (by omega) hlw hX) (cwV (C := R_Mod) 3 hts (nw_GV (nw_m 100 rfl) (nw_m 101 rfl) (nw_m 102 rfl) (nw_m 67 rfl) (nw_m 103 rfl)) rfl rfl rfl (by decide +kernel) ⟨Nat.le_of_ble_eq_true rfl, Nat.le_of_ble_eq_true rfl⟩) (nw_prewV (q0 := 0) (ci := 1) (q := (R_Mod, F_Mod, 16)) hK hP hD [0, 2, 3, 6, 7, 8] [0, 1] (by decide) rfl rfl rfl rfl) rfl rfl hl.1 rfl (lv_room (Nat.le_of_ble_eq_true rfl)) d_Mod_like_44 ⟨Nat.le_of_ble_eq_true rfl, Nat.le_of_ble_eq_true rfl⟩) (fun _ H locs hw hP hD hS => ?_)
        replace hP : va_P (dC, dI) nw_cls [(ai, nw_ai cB 60 I), (an, nw_ai cZ 61 u.1), (ax, nw_ai cZ 61 u.2), (hM, .inr (1, [.ref ai, .ref aw, .ref ar, .ref al, .ref aL, .ref aD, .ref ac, .ref af, .ref ap, .ref an, .ref ax, .int (nI 0), .int (nI wn), .int (nI chn), .int (nI rn), .int (nI 0)])), (aw, nw_ai cB 60000 X), (al, nw_ai cI 1000 Ln), (ar, nw_ai cB 3000 (va_cpy X y (w * 60) ((nw_cnt (fun i => nw_M I (fun k => X (i * 60 + k)) (Ln i) isz = true) w) * 60) (Ln w))), (aL, nw_ai cI 50 (va_up rl (nw_cnt (fun i => nw_M I (fun k => X (i * 60 + k)) (Ln i) isz = true) w) (Ln w))), (aD, nw_ai cI 50 (va_up rd (nw_cnt (fun i => nw_M I (fun k => X (i * 60 + k)) (Ln i) isz = true) w) 0))] H := hP
        replace hD : va_D A [(ai, nw_ai cB 60 I), (an, nw_ai cZ 61 u.1), (ax, nw_ai cZ 61 u.2), (hM, .inr (1, [.ref ai, .ref aw, .ref ar, .ref al, .ref aL, .ref aD, .ref ac, .ref af, .ref ap, .ref an, .ref ax, .int (nI 0), .int (nI wn), .int (nI chn), .int (nI rn), .int (nI 0)])), (aw, nw_ai cB 60000 X), (al, nw_ai cI 1000 Ln), (ar, nw_ai cB 3000 (va_cpy X y (w * 60) ((nw_cnt (fun i => nw_M I (fun k => X (i * 60 + k)) (Ln i) isz = true) w) * 60) (Ln w))), (aL, nw_ai cI 50 (va_up rl (nw_cnt (fun i => nw_M I (fun k => X (i * 60 + k)) (Ln i) isz = true) w) (Ln w))), (aD, nw_ai cI 50 (va_up rd (nw_cnt (fun i => nw_M I (fun k => X (i * 60 + k)) (Ln i) isz = true) w) 0))] := hD
        have hP := hP.sub (ws' := [(hM, .inr (1, [.ref ai, .ref aw, .ref ar, .ref al, .ref aL, .ref aD, .ref ac, .ref af, .ref ap, .ref an, .ref ax, .int (nI 0), .int (nI wn), .int (nI chn), .int (nI rn), .int (nI 0)])), (ai, nw_ai cB 60 I), (aw, nw_ai cB 60000 X), (al, nw_ai cI 1000 Ln), (an, nw_ai cZ 61 u.1), (ax, nw_ai cZ 61 u.2), (ar, nw_ai cB 3000 (va_cpy X y (w * 60) ((nw_cnt (fun i => nw_M I (fun k => X (i * 60 + k)) (Ln i) isz = true) w) * 60) (Ln w))), (aL, nw_ai cI 50 (va_up rl (nw_cnt (fun i => nw_M I (fun k => X (i * 60 + k)) (Ln i) isz = true) w) (Ln w))), (aD, nw_ai cI 50 (va_up rd (nw_cnt (fun i => nw_M I (fun k => X (i * 60 + k)) (Ln i) isz = true) w) 0))]) [3, 0, 4, 5, 1, 2, 6, 7, 8] rfl
        have hD := hD.sub (ws' := [(hM, .inr (1, [.ref ai, .ref aw, .ref ar, .ref al, .ref aL, .ref aD, .ref ac, .ref af, .ref ap, .ref an, .ref ax, .int (nI 0), .int (nI wn), .int (nI chn), .int (nI rn), .int (nI 0)])), (ai, nw_ai cB 60 I), (aw, nw_ai cB 60000 X), (al, nw_ai cI 1000 Ln), (an, nw_ai cZ 61 u.1), (ax, nw_ai cZ 61 u.2), (ar, nw_ai cB 3000 (va_cpy X y (w * 60) ((nw_cnt (fun i => nw_M I (fun k => X (i * 60 + k)) (Ln i) isz = true) w) * 60) (Ln w))), (aL, nw_ai cI 50 (va_up rl (nw_cnt (fun i => nw_M I (fun k => X (i * 60 + k)) (Ln i) isz = true) w) (Ln w))), (aD, nw_ai cI 50 (va_up rd (nw_cnt (fun i => nw_M I (fun k => X (i * 60 + k)) (Ln i) isz = true) w) 0))]) [3, 0, 4, 5, 1, 2, 6, 7, 8] (by decide) rfl
        refine lv_iinc (v := nI ((nw_cnt (fun i => nw_M I (fun k => X (i * 60 + k)) (Ln i) isz = true) w) + 1)) hx hb d_Mod_like_47 hl (k := 1) rfl (nI_add (nw_cnt (fun i => nw_M I (fun k => X (i * 60 + k)) (Ln i) isz = true) w) 1) (by decide) rfl (fun ls hl => ?_)
        have hl : lv_has ls 4 [(2, .int (nI ((nw_cnt (fun i => nw_M I (fun k => X (i * 60 + k)) (Ln i) isz = true) w) + 1))), (3, .int (nI w)), (1, .int (nI isz)), (0, .ref hM)] := hl
        rw [← nw_cnt_pos (f := (fun i => nw_M I (fun k => X (i * 60 + k)) (Ln i) isz = true)) hsel] at hl
        have hl : lv_has ls 4 [(2, .int (nI (nw_cnt (fun i => nw_M I (fun k => X (i * 60 + k)) (Ln i) isz = true) (w + 1)))), (3, .int (nI w)), (1, .int (nI isz)), (0, .ref hM)] := hl
        refine lv_iinc (v := nI (w + 1)) hx hb d_Mod_like_50 hl (k := 1) rfl (nI_add w 1) (by decide) rfl (fun ls hl => ?_)
        have hl : lv_has ls 4 [(3, .int (nI (w + 1))), (2, .int (nI (nw_cnt (fun i => nw_M I (fun k => X (i * 60 + k)) (Ln i) isz = true) (w + 1)))), (1, .int (nI isz)), (0, .ref hM)] := hl
        refine lv_goto hx hb d_Mod_like_53 (tgt := 14) (by decide) ?_
        exact ih1 (w + 1, u.1, u.2, va_cpy X y (w * 60) ((nw_cnt (fun i => nw_M I (fun k => X (i * 60 + k)) (Ln i) isz = true) w) * 60) (Ln w), va_up rl (nw_cnt (fun i => nw_M I (fun k => X (i * 60 + k)) (Ln i) isz = true) w) (Ln w), va_up rd (nw_cnt (fun i => nw_M I (fun k => X (i * 60 + k)) (Ln i) isz = true) w) 0) (⟨by omega, nw_kp_m hkp (fun i hi => hL i (by omega)) rfl rfl, nw_cpy_lt hX hy⟩) (show wn - (w + 1) < wn - w by omega) _ _ _ hl hP hD hS
    · rw [nw_eq0 (by omega)] at q2
      have hsel : ¬ (nw_M I (fun k => X (w * 60 + k)) (Ln w) isz = true) := fun h => by rw [h] at q2; exact absurd q2 (by decide)
      refine lv_goto hx hb d_Mod_like_31 (tgt := 50) (by decide) ?_
      rw [← nw_cnt_neg (f := (fun i => nw_M I (fun k => X (i * 60 + k)) (Ln i) isz = true)) hsel] at hl
      have hl : lv_has ls 4 [(3, .int (nI w)), (2, .int (nI (nw_cnt (fun i => nw_M I (fun k => X (i * 60 + k)) (Ln i) isz = true) (w + 1)))), (1, .int (nI isz)), (0, .ref hM)] := hl
      refine lv_iinc (v := nI (w + 1)) hx hb d_Mod_like_50 hl (k := 0) rfl (nI_add w 1) (by decide) rfl (fun ls hl => ?_)
      have hl : lv_has ls 4 [(3, .int (nI (w + 1))), (2, .int (nI (nw_cnt (fun i => nw_M I (fun k => X (i * 60 + k)) (Ln i) isz = true) (w + 1)))), (1, .int (nI isz)), (0, .ref hM)] := hl
      refine lv_goto hx hb d_Mod_like_53 (tgt := 14) (by decide) ?_
      exact ih1 (w + 1, u.1, u.2, y, rl, rd) (⟨by omega, nw_kp_no hkp hsel, hy⟩) (show wn - (w + 1) < wn - w by omega) _ _ _ hl hP hD hS
end
section
set_option maxHeartbeats 4000000 in
set_option maxRecDepth 100000 in
theorem c_Mod_near_bad (l : Launch) (dC : Nat → ClassId) (dI : Nat → Nat → Nat) (sz : Nat) (hM ai aw ar al aL aD ac af ap an ax isz wn chn rn th : Nat) (q : Int32) (hn : isz ≤ 60) (hb0 : q < 0 ∨ nI 3 < q ∨ isz = 0) : Met l y_Mod_near w_Mod_near ({ frames := 1, cells := 0, slots := 0, locals := 21 }) (nw_Pw [.ref hM, .int q] (dC, dI) nw_cls [] [(hM, .inr (1, [.ref ai, .ref aw, .ref ar, .ref al, .ref aL, .ref aD, .ref ac, .ref af, .ref ap, .ref an, .ref ax, .int (nI isz), .int (nI wn), .int (nI chn), .int (nI rn), .int (nI th)]))] sz) (va_Qi (fun (r : Int32) (_ : Unit) => r = nI 0) (nw_B (dC, dI) nw_cls (va_A [(hM, .inr (1, [.ref ai, .ref aw, .ref ar, .ref al, .ref aL, .ref aD, .ref ac, .ref af, .ref ap, .ref an, .ref ax, .int (nI isz), .int (nI wn), .int (nI chn), .int (nI rn), .int (nI th)]))] sz) (fun _ : Unit => [(hM, .inr (1, [.ref ai, .ref aw, .ref ar, .ref al, .ref aL, .ref aD, .ref ac, .ref af, .ref ap, .ref an, .ref ax, .int (nI 0), .int (nI wn), .int (nI chn), .int (nI rn), .int (nI 1)]))])) (va_A [(hM, .inr (1, [.ref ai, .ref aw, .ref ar, .ref al, .ref aL, .ref aD, .ref ac, .ref af, .ref ap, .ref an, .ref ax, .int (nI isz), .int (nI wn), .int (nI chn), .int (nI rn), .int (nI th)]))] sz)) 0 0 (va_A [(hM, .inr (1, [.ref ai, .ref aw, .ref ar, .ref al, .ref aL, .ref aD, .ref ac, .ref af, .ref ap, .ref an, .ref ax, .int (nI isz), .int (nI wn), .int (nI chn), .int (nI rn), .int (nI th)]))] sz) := by
  refine Met.ofW (cc := b_Mod_near) (maxL := 6) (ret := (some .int)) (by decide) rfl ?_
  intro p e s m args below meth cd s₁ B hml hv0
  obtain ⟨rfl, hsz, hP, hK, hD0⟩ := hv0
  have hx := B.exec
  have hb := B.bytes
  have hr := B.returns
  have hts := atoms_spec (ws := w_Mod_near) B.pre
  have hown : s.vm.findClass R_Mod = some m.cls := findClass_of_methodNamed B.named
  have hlocks := B.notSynchronized
  subst hsz
  have hD := hD0.self (sz := s.heap.size)
  generalize hAe : va_A [(hM, .inr (1, [.ref ai, .ref aw, .ref ar, .ref al, .ref aL, .ref aD, .ref ac, .ref af, .ref ap, .ref an, .ref ax, .int (nI isz), .int (nI wn), .int (nI chn), .int (nI rn), .int (nI th)]))] s.heap.size = A at hD ⊢
  have hA : ∀ q : Nat, s.heap.size ≤ q → A q := fun q h => by rw [← hAe]; exact Or.inr h
  have hS : va_S A s.heap s.heap [] := va_S.rf
  have hl := lv_entry ([.ref hM, .int q]) (n := 6) (Nat.le_of_ble_eq_true rfl)
  rw [lg_entry_eq]
  generalize (lg_sl ([.ref hM, .int q]) ++ List.replicate (6 - (lg_sl ([.ref hM, .int q])).length) Slot.unset).toArray = ls at hl ⊢
  have hl : lv_has ls 6 [(0, .ref hM), (1, .int q)] := hl
  refine lv_aload_n hx hb d_Mod_near_0 rfl (lv_at hl 0 rfl) ?_
  refine nw_calli (wc := [(hM, .inr (1, [.ref ai, .ref aw, .ref ar, .ref al, .ref aL, .ref aD, .ref ac, .ref af, .ref ap, .ref an, .ref ax, .int (nI isz), .int (nI wn), .int (nI chn), .int (nI rn), .int (nI th)]))]) (wr := []) hP hD hS hA [0] [] rfl rfl (by decide) (by decide) (va_runV (As := []) (rest := []) ⟨hx, hb, hml, hown, hts⟩ (c_Mod_take l dC dI _ hM ai aw ar al aL aD ac af ap an ax isz wn chn rn th) (cwV (C := R_Mod) 0 hts (nw_GV (nw_m 76 rfl) (nw_m 77 rfl) (nw_m 78 rfl) (nw_m 67 rfl) (nw_m 79 rfl)) rfl rfl rfl (by decide +kernel) ⟨Nat.le_of_ble_eq_true rfl, Nat.le_of_ble_eq_true rfl⟩) (nw_prewV (q0 := 0) (ci := 1) (q := (R_Mod, F_Mod, 16)) hK hP hD [0] [] (by decide) rfl rfl rfl rfl) rfl rfl hl.1 rfl (lv_room (Nat.le_of_ble_eq_true rfl)) d_Mod_near_1 ⟨Nat.le_of_ble_eq_true rfl, Nat.le_of_ble_eq_true rfl⟩) (fun r _ H locs hw hP hD hS => ?_)
  replace hP : va_P (dC, dI) nw_cls [(hM, .inr (1, [.ref ai, .ref aw, .ref ar, .ref al, .ref aL, .ref aD, .ref ac, .ref af, .ref ap, .ref an, .ref ax, .int (nI 0), .int (nI wn), .int (nI chn), .int (nI rn), .int (nI th)]))] H := hP
  replace hD : va_D A [(hM, .inr (1, [.ref ai, .ref aw, .ref ar, .ref al, .ref aL, .ref aD, .ref ac, .ref af, .ref ap, .ref an, .ref ax, .int (nI 0), .int (nI wn), .int (nI chn), .int (nI rn), .int (nI th)]))] := hD
  obtain rfl : r = nI isz := hw
  refine lv_istore_n hx hb d_Mod_near_4 rfl hl (by decide) rfl (fun ls hl => ?_)
  replace hl : lv_has ls 6 [(2, .int (nI isz)), (0, .ref hM), (1, .int q)] := hl
  refine lv_aload_n hx hb d_Mod_near_5 rfl (lv_at hl 1 rfl) ?_
  refine lv_iload_n hx hb d_Mod_near_6 rfl (lv_at hl 2 rfl) ?_
  refine lv_if_lt hx hb d_Mod_near_7 (tgt := 19) (by decide) (fun q1 => ?_) (fun q1 => ?_)
  · refine lv_iconst (v := nI 1) hx hb d_Mod_near_19 (by decide) ?_
    refine lv_goto hx hb d_Mod_near_20 (tgt := 24) (by decide) ?_
    refine va_put (D := (dC, dI)) (ci := 1) (v := .int (nI 1)) (ty := .int) (C := R_Mod) (T := F_Mod) (N := 16) hx hb hts hin_Mod t_Mod t_Mod_ok n_Mod hown hK hP hD hS 0 rfl rfl 15 (by decide) (hts _ (nw_mc 62 rfl)) (fun _ h9 => h9) rfl (by decide +kernel) rfl rfl (Nat.le_of_ble_eq_true rfl) d_Mod_near_24 (fun H locs hP hD hS => ?_)
    replace hP : va_P (dC, dI) nw_cls [(hM, .inr (1, [.ref ai, .ref aw, .ref ar, .ref al, .ref aL, .ref aD, .ref ac, .ref af, .ref ap, .ref an, .ref ax, .int (nI 0), .int (nI wn), .int (nI chn), .int (nI rn), .int (nI 1)]))] H := hP
    replace hD : va_D A [(hM, .inr (1, [.ref ai, .ref aw, .ref ar, .ref al, .ref aL, .ref aD, .ref ac, .ref af, .ref ap, .ref an, .ref ax, .int (nI 0), .int (nI wn), .int (nI chn), .int (nI rn), .int (nI 1)]))] := hD
    refine lv_aload_n hx hb d_Mod_near_27 rfl (lv_at hl 1 rfl) ?_
    refine va_get (D := (dC, dI)) (ci := 1) (v := .int (nI 1)) (C := R_Mod) (T := F_Mod) (N := 16) hx hb hts hin_Mod hown hK hP 0 rfl rfl 15 (by decide) (hts _ (nw_mc 62 rfl)) (fun _ h9 => h9) rfl d_Mod_near_28 ?_
    refine lv_if_eq hx hb d_Mod_near_31 (tgt := 36) (by decide) (fun hz => ?_) (fun hz => ?_)
    · rw [nw_eq0 (by omega)] at hz
      omega
    · refine lv_iconst (v := nI 0) hx hb d_Mod_near_34 (by decide) ?_
      exact W.iret (v := nI 0) hx hb hr (fun t ht hW => ⟨⟨_, (), rfl, rfl, by rw [ht]; exact hP, hD⟩, hS.F ht⟩) hS.2.2 d_Mod_near_35
  · refine lv_iload_n hx hb d_Mod_near_10 rfl (lv_at hl 2 rfl) ?_
    refine lv_iconst (v := nI 3) hx hb d_Mod_near_11 (by decide) ?_
    refine lv_icmp_gt hx hb d_Mod_near_12 (tgt := 19) (by decide) (fun q2 => ?_) (fun q2 => ?_)
    · refine lv_iconst (v := nI 1) hx hb d_Mod_near_19 (by decide) ?_
      refine lv_goto hx hb d_Mod_near_20 (tgt := 24) (by decide) ?_
      refine va_put (D := (dC, dI)) (ci := 1) (v := .int (nI 1)) (ty := .int) (C := R_Mod) (T := F_Mod) (N := 16) hx hb hts hin_Mod t_Mod t_Mod_ok n_Mod hown hK hP hD hS 0 rfl rfl 15 (by decide) (hts _ (nw_mc 62 rfl)) (fun _ h9 => h9) rfl (by decide +kernel) rfl rfl (Nat.le_of_ble_eq_true rfl) d_Mod_near_24 (fun H locs hP hD hS => ?_)
      replace hP : va_P (dC, dI) nw_cls [(hM, .inr (1, [.ref ai, .ref aw, .ref ar, .ref al, .ref aL, .ref aD, .ref ac, .ref af, .ref ap, .ref an, .ref ax, .int (nI 0), .int (nI wn), .int (nI chn), .int (nI rn), .int (nI 1)]))] H := hP
      replace hD : va_D A [(hM, .inr (1, [.ref ai, .ref aw, .ref ar, .ref al, .ref aL, .ref aD, .ref ac, .ref af, .ref ap, .ref an, .ref ax, .int (nI 0), .int (nI wn), .int (nI chn), .int (nI rn), .int (nI 1)]))] := hD
      refine lv_aload_n hx hb d_Mod_near_27 rfl (lv_at hl 1 rfl) ?_
      refine va_get (D := (dC, dI)) (ci := 1) (v := .int (nI 1)) (C := R_Mod) (T := F_Mod) (N := 16) hx hb hts hin_Mod hown hK hP 0 rfl rfl 15 (by decide) (hts _ (nw_mc 62 rfl)) (fun _ h9 => h9) rfl d_Mod_near_28 ?_
      refine lv_if_eq hx hb d_Mod_near_31 (tgt := 36) (by decide) (fun hz => ?_) (fun hz => ?_)
      · rw [nw_eq0 (by omega)] at hz
        omega
      · refine lv_iconst (v := nI 0) hx hb d_Mod_near_34 (by decide) ?_
        exact W.iret (v := nI 0) hx hb hr (fun t ht hW => ⟨⟨_, (), rfl, rfl, by rw [ht]; exact hP, hD⟩, hS.F ht⟩) hS.2.2 d_Mod_near_35
    · refine lv_iload_n hx hb d_Mod_near_15 rfl (lv_at hl 0 rfl) ?_
      refine lv_if_ne hx hb d_Mod_near_16 (tgt := 23) (by decide) (fun q3 => ?_) (fun q3 => ?_)
      · rw [nw_eq0 (by omega)] at q3
        exact (hb0.elim q1 (fun h => h.elim q2 (fun h => q3 h))).elim
      · rw [nw_eq0 (by omega)] at q3
        refine lv_iconst (v := nI 1) hx hb d_Mod_near_19 (by decide) ?_
        refine lv_goto hx hb d_Mod_near_20 (tgt := 24) (by decide) ?_
        refine va_put (D := (dC, dI)) (ci := 1) (v := .int (nI 1)) (ty := .int) (C := R_Mod) (T := F_Mod) (N := 16) hx hb hts hin_Mod t_Mod t_Mod_ok n_Mod hown hK hP hD hS 0 rfl rfl 15 (by decide) (hts _ (nw_mc 62 rfl)) (fun _ h9 => h9) rfl (by decide +kernel) rfl rfl (Nat.le_of_ble_eq_true rfl) d_Mod_near_24 (fun H locs hP hD hS => ?_)
        replace hP : va_P (dC, dI) nw_cls [(hM, .inr (1, [.ref ai, .ref aw, .ref ar, .ref al, .ref aL, .ref aD, .ref ac, .ref af, .ref ap, .ref an, .ref ax, .int (nI 0), .int (nI wn), .int (nI chn), .int (nI rn), .int (nI 1)]))] H := hP
        replace hD : va_D A [(hM, .inr (1, [.ref ai, .ref aw, .ref ar, .ref al, .ref aL, .ref aD, .ref ac, .ref af, .ref ap, .ref an, .ref ax, .int (nI 0), .int (nI wn), .int (nI chn), .int (nI rn), .int (nI 1)]))] := hD
        refine lv_aload_n hx hb d_Mod_near_27 rfl (lv_at hl 1 rfl) ?_
        refine va_get (D := (dC, dI)) (ci := 1) (v := .int (nI 1)) (C := R_Mod) (T := F_Mod) (N := 16) hx hb hts hin_Mod hown hK hP 0 rfl rfl 15 (by decide) (hts _ (nw_mc 62 rfl)) (fun _ h9 => h9) rfl d_Mod_near_28 ?_
        refine lv_if_eq hx hb d_Mod_near_31 (tgt := 36) (by decide) (fun hz => ?_) (fun hz => ?_)
        · rw [nw_eq0 (by omega)] at hz
          omega
        · refine lv_iconst (v := nI 0) hx hb d_Mod_near_34 (by decide) ?_
          exact W.iret (v := nI 0) hx hb hr (fun t ht hW => ⟨⟨_, (), rfl, rfl, by rw [ht]; exact hP, hD⟩, hS.F ht⟩) hS.2.2 d_Mod_near_35

set_option maxHeartbeats 4000000 in
set_option maxRecDepth 100000 in
theorem c_Mod_near (l : Launch) (dC : Nat → ClassId) (dI : Nat → Nat → Nat) (sz : Nat) (cB cI : ClassId) (hM ai aw ar al aL aD ac af ap an ax isz wn chn rn th : Nat) (I X Ln ST CH FA Y RL RD : Nat → Nat) (ms : Nat) (hms : ms ≤ 3) (h1 : 1 ≤ isz) (hL1 : ∀ i, i < wn → 1 ≤ Ln i) (hw : wn ≤ 1000) (hn : isz ≤ 60) (hL : ∀ i, i < wn → Ln i ≤ 60) (hX : ∀ j, X j < 128) (hI0 : ∀ j, I j < 128) (hY : ∀ j, Y j < 128) : Met l y_Mod_near w_Mod_near ({ frames := 2, cells := 0, slots := 0, locals := 49 }) (nw_Pw [.ref hM, .int (nI ms)] (dC, dI) nw_cls [(cB, .byte), (cI, .int)] [(hM, .inr (1, [.ref ai, .ref aw, .ref ar, .ref al, .ref aL, .ref aD, .ref ac, .ref af, .ref ap, .ref an, .ref ax, .int (nI isz), .int (nI wn), .int (nI chn), .int (nI rn), .int (nI th)])), (ai, nw_ai cB 60 I), (aw, nw_ai cB 60000 X), (al, nw_ai cI 1000 Ln), (ap, nw_ai cI 3721 ST), (ac, nw_ai cI 50 CH), (af, nw_ai cI 50 FA), (ar, nw_ai cB 3000 Y), (aL, nw_ai cI 50 RL), (aD, nw_ai cI 50 RD)] sz) (va_Qi (fun (r : Int32) (u : (Nat → Nat) × (Nat → Nat) × (Nat → Nat) × (Nat → Nat) × (Nat → Nat) × (Nat → Nat)) => r = nI (nw_cnt (nw_sl (fun i => nw_E (nw_D (fun k => X (i * 60 + k)) I (Ln i) isz) isz (Ln i) ms) wn ms) wn) ∧ nw_kp (nw_sl (fun i => nw_E (nw_D (fun k => X (i * 60 + k)) I (Ln i) isz) isz (Ln i) ms) wn ms) (fun i => nw_E (nw_D (fun k => X (i * 60 + k)) I (Ln i) isz) isz (Ln i) ms) wn (fun i k => X (i * 60 + k)) Ln (fun r k => u.2.2.2.1 (r * 60 + k)) u.2.2.2.2.1 u.2.2.2.2.2 ∧ ∀ j, u.2.2.2.1 j < 128) (nw_B (dC, dI) nw_cls (va_A [(hM, .inr (1, [.ref ai, .ref aw, .ref ar, .ref al, .ref aL, .ref aD, .ref ac, .ref af, .ref ap, .ref an, .ref ax, .int (nI isz), .int (nI wn), .int (nI chn), .int (nI rn), .int (nI th)])), (ai, nw_ai cB 60 I), (aw, nw_ai cB 60000 X), (al, nw_ai cI 1000 Ln), (ap, nw_ai cI 3721 ST), (ac, nw_ai cI 50 CH), (af, nw_ai cI 50 FA), (ar, nw_ai cB 3000 Y), (aL, nw_ai cI 50 RL), (aD, nw_ai cI 50 RD)] sz) (fun u => [(hM, .inr (1, [.ref ai, .ref aw, .ref ar, .ref al, .ref aL, .ref aD, .ref ac, .ref af, .ref ap, .ref an, .ref ax, .int (nI 0), .int (nI wn), .int (nI chn), .int (nI (nw_cnt (nw_sl (fun i => nw_E (nw_D (fun k => X (i * 60 + k)) I (Ln i) isz) isz (Ln i) ms) wn ms) wn)), .int (nI 0)])), (ai, nw_ai cB 60 I), (aw, nw_ai cB 60000 X), (al, nw_ai cI 1000 Ln), (ap, nw_ai cI 3721 u.1), (ac, nw_ai cI 50 u.2.1), (af, nw_ai cI 50 u.2.2.1), (ar, nw_ai cB 3000 u.2.2.2.1), (aL, nw_ai cI 50 u.2.2.2.2.1), (aD, nw_ai cI 50 u.2.2.2.2.2)])) (va_A [(hM, .inr (1, [.ref ai, .ref aw, .ref ar, .ref al, .ref aL, .ref aD, .ref ac, .ref af, .ref ap, .ref an, .ref ax, .int (nI isz), .int (nI wn), .int (nI chn), .int (nI rn), .int (nI th)])), (ai, nw_ai cB 60 I), (aw, nw_ai cB 60000 X), (al, nw_ai cI 1000 Ln), (ap, nw_ai cI 3721 ST), (ac, nw_ai cI 50 CH), (af, nw_ai cI 50 FA), (ar, nw_ai cB 3000 Y), (aL, nw_ai cI 50 RL), (aD, nw_ai cI 50 RD)] sz)) 0 0 (va_A [(hM, .inr (1, [.ref ai, .ref aw, .ref ar, .ref al, .ref aL, .ref aD, .ref ac, .ref af, .ref ap, .ref an, .ref ax, .int (nI isz), .int (nI wn), .int (nI chn), .int (nI rn), .int (nI th)])), (ai, nw_ai cB 60 I), (aw, nw_ai cB 60000 X), (al, nw_ai cI 1000 Ln), (ap, nw_ai cI 3721 ST), (ac, nw_ai cI 50 CH), (af, nw_ai cI 50 FA), (ar, nw_ai cB 3000 Y), (aL, nw_ai cI 50 RL), (aD, nw_ai cI 50 RD)] sz) := by
  refine Met.ofW (cc := b_Mod_near) (maxL := 6) (ret := (some .int)) (by decide) rfl ?_
  intro p e s m args below meth cd s₁ B hml hv0
  obtain ⟨rfl, hsz, hP, hK, hD0⟩ := hv0
  have hx := B.exec
  have hb := B.bytes
  have hr := B.returns
  have hts := atoms_spec (ws := w_Mod_near) B.pre
  have hown : s.vm.findClass R_Mod = some m.cls := findClass_of_methodNamed B.named
  have hlocks := B.notSynchronized
  subst hsz
  have hD := hD0.self (sz := s.heap.size)
  generalize hAe : va_A [(hM, .inr (1, [.ref ai, .ref aw, .ref ar, .ref al, .ref aL, .ref aD, .ref ac, .ref af, .ref ap, .ref an, .ref ax, .int (nI isz), .int (nI wn), .int (nI chn), .int (nI rn), .int (nI th)])), (ai, nw_ai cB 60 I), (aw, nw_ai cB 60000 X), (al, nw_ai cI 1000 Ln), (ap, nw_ai cI 3721 ST), (ac, nw_ai cI 50 CH), (af, nw_ai cI 50 FA), (ar, nw_ai cB 3000 Y), (aL, nw_ai cI 50 RL), (aD, nw_ai cI 50 RD)] s.heap.size = A at hD ⊢
  have hA : ∀ q : Nat, s.heap.size ≤ q → A q := fun q h => by rw [← hAe]; exact Or.inr h
  have hS : va_S A s.heap s.heap [] := va_S.rf
  have hl := lv_entry ([.ref hM, .int (nI ms)]) (n := 6) (Nat.le_of_ble_eq_true rfl)
  rw [lg_entry_eq]
  generalize (lg_sl ([.ref hM, .int (nI ms)]) ++ List.replicate (6 - (lg_sl ([.ref hM, .int (nI ms)])).length) Slot.unset).toArray = ls at hl ⊢
  have hl : lv_has ls 6 [(0, .ref hM), (1, .int (nI ms))] := hl
  obtain ⟨E, hE⟩ : ∃ E : Nat → Nat, E = (fun i => nw_E (nw_D (fun k => X (i * 60 + k)) I (Ln i) isz) isz (Ln i) ms) := ⟨_, rfl⟩
  have hEi : ∀ i, E i = nw_E (nw_D (fun k => X (i * 60 + k)) I (Ln i) isz) isz (Ln i) ms := fun i => by rw [hE]
  refine lv_aload_n hx hb d_Mod_near_0 rfl (lv_at hl 0 rfl) ?_
  refine nw_calli (wc := [(hM, .inr (1, [.ref ai, .ref aw, .ref ar, .ref al, .ref aL, .ref aD, .ref ac, .ref af, .ref ap, .ref an, .ref ax, .int (nI isz), .int (nI wn), .int (nI chn), .int (nI rn), .int (nI th)]))]) (wr := [(ai, nw_ai cB 60 I), (aw, nw_ai cB 60000 X), (al, nw_ai cI 1000 Ln), (ap, nw_ai cI 3721 ST), (ac, nw_ai cI 50 CH), (af, nw_ai cI 50 FA), (ar, nw_ai cB 3000 Y), (aL, nw_ai cI 50 RL), (aD, nw_ai cI 50 RD)]) hP hD hS hA [0] [1, 2, 3, 4, 5, 6, 7, 8, 9] rfl rfl (by decide) (by decide) (va_runV (As := []) (rest := []) ⟨hx, hb, hml, hown, hts⟩ (c_Mod_take l dC dI _ hM ai aw ar al aL aD ac af ap an ax isz wn chn rn th) (cwV (C := R_Mod) 0 hts (nw_GV (nw_m 76 rfl) (nw_m 77 rfl) (nw_m 78 rfl) (nw_m 67 rfl) (nw_m 79 rfl)) rfl rfl rfl (by decide +kernel) ⟨Nat.le_of_ble_eq_true rfl, Nat.le_of_ble_eq_true rfl⟩) (nw_prewV (q0 := 0) (ci := 1) (q := (R_Mod, F_Mod, 16)) hK hP hD [0] [] (by decide) rfl rfl rfl rfl) rfl rfl hl.1 rfl (lv_room (Nat.le_of_ble_eq_true rfl)) d_Mod_near_1 ⟨Nat.le_of_ble_eq_true rfl, Nat.le_of_ble_eq_true rfl⟩) (fun r _ H locs hw hP hD hS => ?_)
  replace hP : va_P (dC, dI) nw_cls [(ai, nw_ai cB 60 I), (aw, nw_ai cB 60000 X), (al, nw_ai cI 1000 Ln), (ap, nw_ai cI 3721 ST), (ac, nw_ai cI 50 CH), (af, nw_ai cI 50 FA), (ar, nw_ai cB 3000 Y), (aL, nw_ai cI 50 RL), (aD, nw_ai cI 50 RD), (hM, .inr (1, [.ref ai, .ref aw, .ref ar, .ref al, .ref aL, .ref aD, .ref ac, .ref af, .ref ap, .ref an, .ref ax, .int (nI 0), .int (nI wn), .int (nI chn), .int (nI rn), .int (nI th)]))] H := hP
  replace hD : va_D A [(ai, nw_ai cB 60 I), (aw, nw_ai cB 60000 X), (al, nw_ai cI 1000 Ln), (ap, nw_ai cI 3721 ST), (ac, nw_ai cI 50 CH), (af, nw_ai cI 50 FA), (ar, nw_ai cB 3000 Y), (aL, nw_ai cI 50 RL), (aD, nw_ai cI 50 RD), (hM, .inr (1, [.ref ai, .ref aw, .ref ar, .ref al, .ref aL, .ref aD, .ref ac, .ref af, .ref ap, .ref an, .ref ax, .int (nI 0), .int (nI wn), .int (nI chn), .int (nI rn), .int (nI th)]))] := hD
  obtain rfl : r = nI isz := hw
  refine lv_istore_n hx hb d_Mod_near_4 rfl hl (by decide) rfl (fun ls hl => ?_)
  replace hl : lv_has ls 6 [(2, .int (nI isz)), (0, .ref hM), (1, .int (nI ms))] := hl
  refine lv_aload_n hx hb d_Mod_near_5 rfl (lv_at hl 1 rfl) ?_
  refine lv_iload_n hx hb d_Mod_near_6 rfl (lv_at hl 2 rfl) ?_
  refine lv_if_lt hx hb d_Mod_near_7 (tgt := 19) (by decide) (fun q1 => ?_) (fun q1 => ?_)
  · rw [nw_lt0 (by omega)] at q1
    omega
  · rw [nw_lt0 (by omega)] at q1
    refine lv_iload_n hx hb d_Mod_near_10 rfl (lv_at hl 2 rfl) ?_
    refine lv_iconst (v := nI 3) hx hb d_Mod_near_11 (by decide) ?_
    refine lv_icmp_gt hx hb d_Mod_near_12 (tgt := 19) (by decide) (fun q2 => ?_) (fun q2 => ?_)
    · rw [nI_ltI (by omega) (by omega)] at q2
      omega
    · rw [nI_ltI (by omega) (by omega)] at q2
      refine lv_iload_n hx hb d_Mod_near_15 rfl (lv_at hl 0 rfl) ?_
      refine lv_if_ne hx hb d_Mod_near_16 (tgt := 23) (by decide) (fun q3 => ?_) (fun q3 => ?_)
      · rw [nw_eq0 (by omega)] at q3
        refine lv_iconst (v := nI 0) hx hb d_Mod_near_23 (by decide) ?_
        refine va_put (D := (dC, dI)) (ci := 1) (v := .int (nI 0)) (ty := .int) (C := R_Mod) (T := F_Mod) (N := 16) hx hb hts hin_Mod t_Mod t_Mod_ok n_Mod hown hK hP hD hS 9 rfl rfl 15 (by decide) (hts _ (nw_mc 62 rfl)) (fun _ h9 => h9) rfl (by decide +kernel) rfl rfl (Nat.le_of_ble_eq_true rfl) d_Mod_near_24 (fun H locs hP hD hS => ?_)
        replace hP : va_P (dC, dI) nw_cls [(ai, nw_ai cB 60 I), (aw, nw_ai cB 60000 X), (al, nw_ai cI 1000 Ln), (ap, nw_ai cI 3721 ST), (ac, nw_ai cI 50 CH), (af, nw_ai cI 50 FA), (ar, nw_ai cB 3000 Y), (aL, nw_ai cI 50 RL), (aD, nw_ai cI 50 RD), (hM, .inr (1, [.ref ai, .ref aw, .ref ar, .ref al, .ref aL, .ref aD, .ref ac, .ref af, .ref ap, .ref an, .ref ax, .int (nI 0), .int (nI wn), .int (nI chn), .int (nI rn), .int (nI 0)]))] H := hP
        replace hD : va_D A [(ai, nw_ai cB 60 I), (aw, nw_ai cB 60000 X), (al, nw_ai cI 1000 Ln), (ap, nw_ai cI 3721 ST), (ac, nw_ai cI 50 CH), (af, nw_ai cI 50 FA), (ar, nw_ai cB 3000 Y), (aL, nw_ai cI 50 RL), (aD, nw_ai cI 50 RD), (hM, .inr (1, [.ref ai, .ref aw, .ref ar, .ref al, .ref aL, .ref aD, .ref ac, .ref af, .ref ap, .ref an, .ref ax, .int (nI 0), .int (nI wn), .int (nI chn), .int (nI rn), .int (nI 0)]))] := hD
        refine lv_aload_n hx hb d_Mod_near_27 rfl (lv_at hl 1 rfl) ?_
        refine va_get (D := (dC, dI)) (ci := 1) (v := .int (nI 0)) (C := R_Mod) (T := F_Mod) (N := 16) hx hb hts hin_Mod hown hK hP 9 rfl rfl 15 (by decide) (hts _ (nw_mc 62 rfl)) (fun _ h9 => h9) rfl d_Mod_near_28 ?_
        refine lv_if_eq hx hb d_Mod_near_31 (tgt := 36) (by decide) (fun q4 => ?_) (fun q4 => ?_)
        · refine lv_iconst (v := nI 0) hx hb d_Mod_near_36 (by decide) ?_
          refine lv_istore_n hx hb d_Mod_near_37 rfl hl (by decide) rfl (fun ls hl => ?_)
          replace hl : lv_has ls 6 [(3, .int (nI 0)), (2, .int (nI isz)), (0, .ref hM), (1, .int (nI ms))] := hl
          refine lv_iconst (v := nI 0) hx hb d_Mod_near_38 (by decide) ?_
          refine lv_istore hx hb d_Mod_near_39 hl (by decide) rfl (fun ls hl => ?_)
          replace hl : lv_has ls 6 [(4, .int (nI 0)), (3, .int (nI 0)), (2, .int (nI isz)), (0, .ref hM), (1, .int (nI ms))] := hl
          have hP := hP.sub (ws' := [(hM, .inr (1, [.ref ai, .ref aw, .ref ar, .ref al, .ref aL, .ref aD, .ref ac, .ref af, .ref ap, .ref an, .ref ax, .int (nI 0), .int (nI wn), .int (nI chn), .int (nI rn), .int (nI 0)])), (ai, nw_ai cB 60 I), (aw, nw_ai cB 60000 X), (al, nw_ai cI 1000 Ln), (ap, nw_ai cI 3721 ST), (ac, nw_ai cI 50 CH), (af, nw_ai cI 50 FA), (ar, nw_ai cB 3000 Y), (aL, nw_ai cI 50 RL), (aD, nw_ai cI 50 RD)]) [9, 0, 1, 2, 3, 4, 5, 6, 7, 8] rfl
          have hD := hD.sub (ws' := [(hM, .inr (1, [.ref ai, .ref aw, .ref ar, .ref al, .ref aL, .ref aD, .ref ac, .ref af, .ref ap, .ref an, .ref ax, .int (nI 0), .int (nI wn), .int (nI chn), .int (nI rn), .int (nI 0)])), (ai, nw_ai cB 60 I), (aw, nw_ai cB 60000 X), (al, nw_ai cI 1000 Ln), (ap, nw_ai cI 3721 ST), (ac, nw_ai cI 50 CH), (af, nw_ai cI 50 FA), (ar, nw_ai cB 3000 Y), (aL, nw_ai cI 50 RL), (aD, nw_ai cI 50 RD)]) [9, 0, 1, 2, 3, 4, 5, 6, 7, 8] (by decide) rfl
          refine nw_loopW (σ := Nat × Nat × (Nat → Nat) × (Nat → Nat) × (Nat → Nat)) (fun x => match x with | (d, fo, st, ch, fa) => d ≤ ms + 1 ∧ fo = min 50 (nw_T E wn d 0) ∧ (∀ k, k < fo → ∃ i, i < wn ∧ E i ≤ ms ∧ nw_T E wn (E i) i = k ∧ ch k = i ∧ fa k = E i) ∧ (∀ i, i < wn → E i ≤ ms → E i < d → nw_T E wn (E i) i < 50 → nw_T E wn (E i) i < fo)) (fun x => match x with | (d, fo, st, ch, fa) => [(4, .int (nI d)), (3, .int (nI fo)), (2, .int (nI isz)), (0, .ref hM), (1, .int (nI ms))]) (fun x => match x with | (d, fo, st, ch, fa) => [(hM, .inr (1, [.ref ai, .ref aw, .ref ar, .ref al, .ref aL, .ref aD, .ref ac, .ref af, .ref ap, .ref an, .ref ax, .int (nI 0), .int (nI wn), .int (nI chn), .int (nI rn), .int (nI 0)])), (ai, nw_ai cB 60 I), (aw, nw_ai cB 60000 X), (al, nw_ai cI 1000 Ln), (ap, nw_ai cI 3721 st), (ac, nw_ai cI 50 ch), (af, nw_ai cI 50 fa), (ar, nw_ai cB 3000 Y), (aL, nw_ai cI 50 RL), (aD, nw_ai cI 50 RD)]) (fun x => match x with | (d, fo, st, ch, fa) => ms + 1 - d) (fun x hA1 ih1 ls H locs hl hP hD hS => ?_) (0, 0, ST, CH, FA) (⟨Nat.zero_le _, rfl, fun k h => absurd h (Nat.not_lt_zero k), fun i _ _ h => absurd h (Nat.not_lt_zero _)⟩) hl hP hD hS
          obtain ⟨d, fo, st, ch, fa⟩ := x
          replace hA1 : d ≤ ms + 1 ∧ fo = min 50 (nw_T E wn d 0) ∧ (∀ k, k < fo → ∃ i, i < wn ∧ E i ≤ ms ∧ nw_T E wn (E i) i = k ∧ ch k = i ∧ fa k = E i) ∧ (∀ i, i < wn → E i ≤ ms → E i < d → nw_T E wn (E i) i < 50 → nw_T E wn (E i) i < fo) := hA1
          replace hl : lv_has ls 6 [(4, .int (nI d)), (3, .int (nI fo)), (2, .int (nI isz)), (0, .ref hM), (1, .int (nI ms))] := hl
          replace hP : va_P (dC, dI) nw_cls [(hM, .inr (1, [.ref ai, .ref aw, .ref ar, .ref al, .ref aL, .ref aD, .ref ac, .ref af, .ref ap, .ref an, .ref ax, .int (nI 0), .int (nI wn), .int (nI chn), .int (nI rn), .int (nI 0)])), (ai, nw_ai cB 60 I), (aw, nw_ai cB 60000 X), (al, nw_ai cI 1000 Ln), (ap, nw_ai cI 3721 st), (ac, nw_ai cI 50 ch), (af, nw_ai cI 50 fa), (ar, nw_ai cB 3000 Y), (aL, nw_ai cI 50 RL), (aD, nw_ai cI 50 RD)] H := hP
          replace hD : va_D A [(hM, .inr (1, [.ref ai, .ref aw, .ref ar, .ref al, .ref aL, .ref aD, .ref ac, .ref af, .ref ap, .ref an, .ref ax, .int (nI 0), .int (nI wn), .int (nI chn), .int (nI rn), .int (nI 0)])), (ai, nw_ai cB 60 I), (aw, nw_ai cB 60000 X), (al, nw_ai cI 1000 Ln), (ap, nw_ai cI 3721 st), (ac, nw_ai cI 50 ch), (af, nw_ai cI 50 fa), (ar, nw_ai cB 3000 Y), (aL, nw_ai cI 50 RL), (aD, nw_ai cI 50 RD)] := hD
          obtain ⟨hd, hfo, hA2, hB2⟩ := hA1
          refine lv_iload hx hb d_Mod_near_41 (lv_at hl 0 rfl) ?_
          refine lv_iload_n hx hb d_Mod_near_43 rfl (lv_at hl 4 rfl) ?_
          refine lv_icmp_gt hx hb d_Mod_near_44 (tgt := 134) (by decide) (fun q5 => ?_) (fun q5 => ?_)
          · rw [nI_ltI (by omega) (by omega)] at q5
            have hB5 : ∀ i, i < wn → nw_sl E wn ms i → nw_T E wn (E i) i < fo := fun i h2 h3 => hB2 i h2 h3.1 (by have := h3.1; omega) h3.2
            have hA5 : ∀ k w, k < fo → ch k = w → nw_sl E wn ms w ∧ nw_T E wn (E w) w = k ∧ fa k = E w := fun k w hk hw => by
              obtain ⟨i, g1, g2, g3, g4, g5⟩ := hA2 k hk
              have e9 : i = w := by rw [← g4]; exact hw
              subst e9
              exact ⟨⟨g2, by rw [g3]; omega⟩, g3, g5⟩
            have hCH : ∀ i, i < wn → nw_sl E wn ms i → ch (nw_T E wn (E i) i) = i := fun i h2 h3 => by
              obtain ⟨j, g1, g2, g3, g4, g5⟩ := hA2 _ (hB5 i h2 h3)
              rw [g4]
              exact nw_T_inj g1 h2 g3
            have hfo9 : fo ≤ 50 := by omega
            have hall := nw_sl_le E wn ms
            refine lv_aload_n hx hb d_Mod_near_134 rfl (lv_at hl 3 rfl) ?_
            refine lv_iconst (v := nI 0) hx hb d_Mod_near_135 (by decide) ?_
            refine va_put (D := (dC, dI)) (ci := 1) (v := .int (nI 0)) (ty := .int) (C := R_Mod) (T := F_Mod) (N := 16) hx hb hts hin_Mod t_Mod t_Mod_ok n_Mod hown hK hP hD hS 0 rfl rfl 14 (by decide) (hts _ (nw_mc 85 rfl)) (fun _ h9 => h9) rfl (by decide +kernel) rfl rfl (Nat.le_of_ble_eq_true rfl) d_Mod_near_136 (fun H locs hP hD hS => ?_)
            replace hP : va_P (dC, dI) nw_cls [(hM, .inr (1, [.ref ai, .ref aw, .ref ar, .ref al, .ref aL, .ref aD, .ref ac, .ref af, .ref ap, .ref an, .ref ax, .int (nI 0), .int (nI wn), .int (nI chn), .int (nI 0), .int (nI 0)])), (ai, nw_ai cB 60 I), (aw, nw_ai cB 60000 X), (al, nw_ai cI 1000 Ln), (ap, nw_ai cI 3721 st), (ac, nw_ai cI 50 ch), (af, nw_ai cI 50 fa), (ar, nw_ai cB 3000 Y), (aL, nw_ai cI 50 RL), (aD, nw_ai cI 50 RD)] H := hP
            replace hD : va_D A [(hM, .inr (1, [.ref ai, .ref aw, .ref ar, .ref al, .ref aL, .ref aD, .ref ac, .ref af, .ref ap, .ref an, .ref ax, .int (nI 0), .int (nI wn), .int (nI chn), .int (nI 0), .int (nI 0)])), (ai, nw_ai cB 60 I), (aw, nw_ai cB 60000 X), (al, nw_ai cI 1000 Ln), (ap, nw_ai cI 3721 st), (ac, nw_ai cI 50 ch), (af, nw_ai cI 50 fa), (ar, nw_ai cB 3000 Y), (aL, nw_ai cI 50 RL), (aD, nw_ai cI 50 RD)] := hD
            refine lv_iconst (v := nI 0) hx hb d_Mod_near_139 (by decide) ?_
            refine lv_istore hx hb d_Mod_near_140 hl (by decide) rfl (fun ls hl => ?_)
            replace hl : lv_has ls 6 [(4, .int (nI 0)), (3, .int (nI fo)), (2, .int (nI isz)), (0, .ref hM), (1, .int (nI ms))] := hl
            refine nw_loopW (σ := Nat × (Nat → Nat) × (Nat → Nat) × (Nat → Nat)) (fun x => match x with | (w, y, rl, rd) => w ≤ wn ∧ nw_kp (nw_sl E wn ms) E w (fun i k => X (i * 60 + k)) Ln (fun r k => y (r * 60 + k)) rl rd ∧ ∀ j, y j < 128) (fun x => match x with | (w, y, rl, rd) => [(4, .int (nI w)), (3, .int (nI fo)), (2, .int (nI isz)), (0, .ref hM), (1, .int (nI ms))]) (fun x => match x with | (w, y, rl, rd) => [(hM, .inr (1, [.ref ai, .ref aw, .ref ar, .ref al, .ref aL, .ref aD, .ref ac, .ref af, .ref ap, .ref an, .ref ax, .int (nI 0), .int (nI wn), .int (nI chn), .int (nI (nw_cnt (nw_sl E wn ms) w)), .int (nI 0)])), (ai, nw_ai cB 60 I), (aw, nw_ai cB 60000 X), (al, nw_ai cI 1000 Ln), (ap, nw_ai cI 3721 st), (ac, nw_ai cI 50 ch), (af, nw_ai cI 50 fa), (ar, nw_ai cB 3000 y), (aL, nw_ai cI 50 rl), (aD, nw_ai cI 50 rd)]) (fun x => match x with | (w, y, rl, rd) => wn - w) (fun x hA6 ih3 ls H locs hl hP hD hS => ?_) (0, Y, RL, RD) (⟨Nat.zero_le _, nw_kp_0, hY⟩) hl hP hD hS
            obtain ⟨w, y, rl, rd⟩ := x
            replace hA6 : w ≤ wn ∧ nw_kp (nw_sl E wn ms) E w (fun i k => X (i * 60 + k)) Ln (fun r k => y (r * 60 + k)) rl rd ∧ ∀ j, y j < 128 := hA6
            replace hl : lv_has ls 6 [(4, .int (nI w)), (3, .int (nI fo)), (2, .int (nI isz)), (0, .ref hM), (1, .int (nI ms))] := hl
            replace hP : va_P (dC, dI) nw_cls [(hM, .inr (1, [.ref ai, .ref aw, .ref ar, .ref al, .ref aL, .ref aD, .ref ac, .ref af, .ref ap, .ref an, .ref ax, .int (nI 0), .int (nI wn), .int (nI chn), .int (nI (nw_cnt (nw_sl E wn ms) w)), .int (nI 0)])), (ai, nw_ai cB 60 I), (aw, nw_ai cB 60000 X), (al, nw_ai cI 1000 Ln), (ap, nw_ai cI 3721 st), (ac, nw_ai cI 50 ch), (af, nw_ai cI 50 fa), (ar, nw_ai cB 3000 y), (aL, nw_ai cI 50 rl), (aD, nw_ai cI 50 rd)] H := hP
            replace hD : va_D A [(hM, .inr (1, [.ref ai, .ref aw, .ref ar, .ref al, .ref aL, .ref aD, .ref ac, .ref af, .ref ap, .ref an, .ref ax, .int (nI 0), .int (nI wn), .int (nI chn), .int (nI (nw_cnt (nw_sl E wn ms) w)), .int (nI 0)])), (ai, nw_ai cB 60 I), (aw, nw_ai cB 60000 X), (al, nw_ai cI 1000 Ln), (ap, nw_ai cI 3721 st), (ac, nw_ai cI 50 ch), (af, nw_ai cI 50 fa), (ar, nw_ai cB 3000 y), (aL, nw_ai cI 50 rl), (aD, nw_ai cI 50 rd)] := hD
            obtain ⟨hw1, hkp, hy⟩ := hA6
            refine lv_iload hx hb d_Mod_near_142 (lv_at hl 0 rfl) ?_
            refine lv_aload_n hx hb d_Mod_near_144 rfl (lv_at hl 3 rfl) ?_
            refine va_get (D := (dC, dI)) (ci := 1) (v := .int (nI wn)) (C := R_Mod) (T := F_Mod) (N := 16) hx hb hts hin_Mod hown hK hP 0 rfl rfl 12 (by decide) (hts _ (nw_mc 71 rfl)) (fun _ h9 => h9) rfl d_Mod_near_145 ?_
            refine lv_icmp_ge hx hb d_Mod_near_148 (tgt := 214) (by decide) (fun s1 => ?_) (fun s1 => ?_)
            · rw [nI_leI (by omega) (by omega)] at s1
              have hw9 : w = wn := by omega
              rw [hw9] at hP hD hkp
              refine lv_aload_n hx hb d_Mod_near_214 rfl (lv_at hl 3 rfl) ?_
              refine va_get (D := (dC, dI)) (ci := 1) (v := .int (nI (nw_cnt (nw_sl E wn ms) wn))) (C := R_Mod) (T := F_Mod) (N := 16) hx hb hts hin_Mod hown hK hP 0 rfl rfl 14 (by decide) (hts _ (nw_mc 85 rfl)) (fun _ h9 => h9) rfl d_Mod_near_215 ?_
              subst hE
              exact W.iret (v := nI (nw_cnt (nw_sl (fun i => nw_E (nw_D (fun k => X (i * 60 + k)) I (Ln i) isz) isz (Ln i) ms) wn ms) wn)) hx hb hr (fun t ht hW => ⟨⟨_, (st, ch, fa, y, rl, rd), rfl, ⟨rfl, hkp, hy⟩, by rw [ht]; exact hP, hD⟩, hS.F ht⟩) hS.2.2 d_Mod_near_218
            · rw [nI_leI (by omega) (by omega)] at s1
              refine lv_iconst (v := nI 0) hx hb d_Mod_near_151 (by decide) ?_
              refine lv_istore hx hb d_Mod_near_152 hl (by decide) rfl (fun ls hl => ?_)
              replace hl : lv_has ls 6 [(5, .int (nI 0)), (4, .int (nI w)), (3, .int (nI fo)), (2, .int (nI isz)), (0, .ref hM), (1, .int (nI ms))] := hl
              by_cases hsw : nw_sl E wn ms w
              · generalize htw : nw_T E wn (E w) w = tw
                have htw2 : tw < fo := by rw [← htw]; exact hB5 w (by omega) hsw
                have hcw : ch tw = w := by rw [← htw]; exact hCH w (by omega) hsw
                have hlw := hL w (by omega)
                have hc50 := nw_cnt_lt (f := nw_sl E wn ms) (i := w) (n := wn) (by omega) hsw
                refine nw_loopW (σ := Nat) (fun k => k ≤ tw) (fun k => [(5, .int (nI k)), (4, .int (nI w)), (3, .int (nI fo)), (2, .int (nI isz)), (0, .ref hM), (1, .int (nI ms))]) (fun k => [(hM, .inr (1, [.ref ai, .ref aw, .ref ar, .ref al, .ref aL, .ref aD, .ref ac, .ref af, .ref ap, .ref an, .ref ax, .int (nI 0), .int (nI wn), .int (nI chn), .int (nI (nw_cnt (nw_sl E wn ms) w)), .int (nI 0)])), (ai, nw_ai cB 60 I), (aw, nw_ai cB 60000 X), (al, nw_ai cI 1000 Ln), (ap, nw_ai cI 3721 st), (ac, nw_ai cI 50 ch), (af, nw_ai cI 50 fa), (ar, nw_ai cB 3000 y), (aL, nw_ai cI 50 rl), (aD, nw_ai cI 50 rd)]) (fun k => tw - k) (fun x hA7 ih4 ls H locs hl hP hD hS => ?_) 0 (Nat.zero_le _) hl hP hD hS
                obtain ⟨k, hx9⟩ : ∃ z, z = x := ⟨x, rfl⟩
                subst hx9
                replace hA7 : k ≤ tw := hA7
                replace hl : lv_has ls 6 [(5, .int (nI k)), (4, .int (nI w)), (3, .int (nI fo)), (2, .int (nI isz)), (0, .ref hM), (1, .int (nI ms))] := hl
                replace hP : va_P (dC, dI) nw_cls [(hM, .inr (1, [.ref ai, .ref aw, .ref ar, .ref al, .ref aL, .ref aD, .ref ac, .ref af, .ref ap, .ref an, .ref ax, .int (nI 0), .int (nI wn), .int (nI chn), .int (nI (nw_cnt (nw_sl E wn ms) w)), .int (nI 0)])), (ai, nw_ai cB 60 I), (aw, nw_ai cB 60000 X), (al, nw_ai cI 1000 Ln), (ap, nw_ai cI 3721 st), (ac, nw_ai cI 50 ch), (af, nw_ai cI 50 fa), (ar, nw_ai cB 3000 y), (aL, nw_ai cI 50 rl), (aD, nw_ai cI 50 rd)] H := hP
                replace hD : va_D A [(hM, .inr (1, [.ref ai, .ref aw, .ref ar, .ref al, .ref aL, .ref aD, .ref ac, .ref af, .ref ap, .ref an, .ref ax, .int (nI 0), .int (nI wn), .int (nI chn), .int (nI (nw_cnt (nw_sl E wn ms) w)), .int (nI 0)])), (ai, nw_ai cB 60 I), (aw, nw_ai cB 60000 X), (al, nw_ai cI 1000 Ln), (ap, nw_ai cI 3721 st), (ac, nw_ai cI 50 ch), (af, nw_ai cI 50 fa), (ar, nw_ai cB 3000 y), (aL, nw_ai cI 50 rl), (aD, nw_ai cI 50 rd)] := hD
                refine lv_iload hx hb d_Mod_near_154 (lv_at hl 0 rfl) ?_
                refine lv_iload_n hx hb d_Mod_near_156 rfl (lv_at hl 2 rfl) ?_
                refine lv_icmp_ge hx hb d_Mod_near_157 (tgt := 208) (by decide) (fun s2 => ?_) (fun s2 => ?_)
                · rw [nI_leI (by omega) (by omega)] at s2
                  omega
                · rw [nI_leI (by omega) (by omega)] at s2
                  have hck : ch k < 2 ^ 31 := by
                    obtain ⟨i, g1, g2, g3, g4, g5⟩ := hA2 k (by omega)
                    omega
                  refine lv_aload_n hx hb d_Mod_near_160 rfl (lv_at hl 4 rfl) ?_
                  refine va_get (D := (dC, dI)) (ci := 1) (v := .ref ac) (C := R_Mod) (T := F_Mod) (N := 16) hx hb hts hin_Mod hown hK hP 0 rfl rfl 6 (by decide) (hts _ (nw_mc 108 rfl)) (fun _ h9 => h9) rfl d_Mod_near_161 ?_
                  refine lv_iload hx hb d_Mod_near_164 (lv_at hl 0 rfl) ?_
                  refine nw_iald hx hb hK hP 5 1 rfl rfl (k := k) (by omega) (by first | decide | omega) d_Mod_near_166 ?_
                  refine lv_iload hx hb d_Mod_near_167 (lv_at hl 1 rfl) ?_
                  refine lv_icmp_eq hx hb d_Mod_near_169 (tgt := 175) (by decide) (fun s3 => ?_) (fun s3 => ?_)
                  · rw [nI_eq (by omega) (by omega)] at s3
                    have hk9 : k = tw := by rw [← (hA5 k w (by omega) s3).2.1]; exact htw
                    have hfw := (hA5 k w (by omega) s3).2.2
                    refine lv_aload_n hx hb d_Mod_near_175 rfl (lv_at hl 4 rfl) ?_
                    refine lv_aload_n hx hb d_Mod_near_176 rfl (lv_at hl 4 rfl) ?_
                    refine va_get (D := (dC, dI)) (ci := 1) (v := .int (nI (nw_cnt (nw_sl E wn ms) w))) (C := R_Mod) (T := F_Mod) (N := 16) hx hb hts hin_Mod hown hK hP 0 rfl rfl 14 (by decide) (hts _ (nw_mc 85 rfl)) (fun _ h9 => h9) rfl d_Mod_near_177 ?_
                    refine lv_iload hx hb d_Mod_near_180 (lv_at hl 1 rfl) ?_
                    refine lv_aload_n hx hb d_Mod_near_182 rfl (lv_at hl 4 rfl) ?_
                    refine va_get (D := (dC, dI)) (ci := 1) (v := .ref af) (C := R_Mod) (T := F_Mod) (N := 16) hx hb hts hin_Mod hown hK hP 0 rfl rfl 7 (by decide) (hts _ (nw_mc 109 rfl)) (fun _ h9 => h9) rfl d_Mod_near_183 ?_
                    refine lv_iload hx hb d_Mod_near_186 (lv_at hl 0 rfl) ?_
                    refine nw_iald hx hb hK hP 6 1 rfl rfl (k := k) (by omega) (by first | decide | omega) d_Mod_near_188 ?_
                    refine nw_callv (wc := [(hM, .inr (1, [.ref ai, .ref aw, .ref ar, .ref al, .ref aL, .ref aD, .ref ac, .ref af, .ref ap, .ref an, .ref ax, .int (nI 0), .int (nI wn), .int (nI chn), .int (nI (nw_cnt (nw_sl E wn ms) w)), .int (nI 0)])), (aw, nw_ai cB 60000 X), (al, nw_ai cI 1000 Ln), (ar, nw_ai cB 3000 y), (aL, nw_ai cI 50 rl), (aD, nw_ai cI 50 rd)]) (wr := [(ai, nw_ai cB 60 I), (ap, nw_ai cI 3721 st), (ac, nw_ai cI 50 ch), (af, nw_ai cI 50 fa)]) hP hD hS hA [0, 2, 3, 7, 8, 9] [1, 4, 5, 6] rfl rfl (by decide) (by decide) (va_runV (As := [.int (nI (nw_cnt (nw_sl E wn ms) w)), .int (nI w), .int (nI (fa k))]) (rest := []) ⟨hx, hb, hml, hown, hts⟩ (c_Mod_keep l dC dI _ cB cI hM ai aw ar al aL aD ac af ap an ax 0 wn chn (nw_cnt (nw_sl E wn ms) w) 0 X Ln y rl rd (nw_cnt (nw_sl E wn ms) w) w (fa k) (by omega) (by omega) hlw hX) (cwV (C := R_Mod) 3 hts (nw_GV (nw_m 100 rfl) (nw_m 101 rfl) (nw_m 102 rfl) (nw_m 67 rfl) (nw_m 103 rfl)) rfl rfl rfl (by decide +kernel) ⟨Nat.le_of_ble_eq_true rfl, Nat.le_of_ble_eq_true rfl⟩) (nw_prewV (q0 := 0) (ci := 1) (q := (R_Mod, F_Mod, 16)) hK hP hD [0, 2, 3, 7, 8, 9] [0, 1] (by decide) rfl rfl rfl rfl) rfl rfl hl.1 rfl (lv_room (Nat.le_of_ble_eq_true rfl)) d_Mod_near_189 ⟨Nat.le_of_ble_eq_true rfl, Nat.le_of_ble_eq_true rfl⟩) (fun _ H locs hw hP hD hS => ?_)
                    replace hP : va_P (dC, dI) nw_cls [(ai, nw_ai cB 60 I), (ap, nw_ai cI 3721 st), (ac, nw_ai cI 50 ch), (af, nw_ai cI 50 fa), (hM, .inr (1, [.ref ai, .ref aw, .ref ar, .ref al, .ref aL, .ref aD, .ref ac, .ref af, .ref ap, .ref an, .ref ax, .int (nI 0), .int (nI wn), .int (nI chn), .int (nI (nw_cnt (nw_sl E wn ms) w)), .int (nI 0)])), (aw, nw_ai cB 60000 X), (al, nw_ai cI 1000 Ln), (ar, nw_ai cB 3000 (va_cpy X y (w * 60) ((nw_cnt (nw_sl E wn ms) w) * 60) (Ln w))), (aL, nw_ai cI 50 (va_up rl (nw_cnt (nw_sl E wn ms) w) (Ln w))), (aD, nw_ai cI 50 (va_up rd (nw_cnt (nw_sl E wn ms) w) (fa k)))] H := hP
                    replace hD : va_D A [(ai, nw_ai cB 60 I), (ap, nw_ai cI 3721 st), (ac, nw_ai cI 50 ch), (af, nw_ai cI 50 fa), (hM, .inr (1, [.ref ai, .ref aw, .ref ar, .ref al, .ref aL, .ref aD, .ref ac, .ref af, .ref ap, .ref an, .ref ax, .int (nI 0), .int (nI wn), .int (nI chn), .int (nI (nw_cnt (nw_sl E wn ms) w)), .int (nI 0)])), (aw, nw_ai cB 60000 X), (al, nw_ai cI 1000 Ln), (ar, nw_ai cB 3000 (va_cpy X y (w * 60) ((nw_cnt (nw_sl E wn ms) w) * 60) (Ln w))), (aL, nw_ai cI 50 (va_up rl (nw_cnt (nw_sl E wn ms) w) (Ln w))), (aD, nw_ai cI 50 (va_up rd (nw_cnt (nw_sl E wn ms) w) (fa k)))] := hD
                    refine lv_aload_n hx hb d_Mod_near_192 rfl (lv_at hl 4 rfl) ?_
                    refine lv_dup hx hb d_Mod_near_193 rfl ?_
                    refine va_get (D := (dC, dI)) (ci := 1) (v := .int (nI (nw_cnt (nw_sl E wn ms) w))) (C := R_Mod) (T := F_Mod) (N := 16) hx hb hts hin_Mod hown hK hP 4 rfl rfl 14 (by decide) (hts _ (nw_mc 85 rfl)) (fun _ h9 => h9) rfl d_Mod_near_194 ?_
                    refine lv_iconst (v := nI 1) hx hb d_Mod_near_197 (by decide) ?_
                    refine lv_iadd hx hb d_Mod_near_198 ?_
                    refine nw_ti (nI_add (nw_cnt (nw_sl E wn ms) w) 1) ?_
                    refine va_put (D := (dC, dI)) (ci := 1) (v := .int (nI ((nw_cnt (nw_sl E wn ms) w) + 1))) (ty := .int) (C := R_Mod) (T := F_Mod) (N := 16) hx hb hts hin_Mod t_Mod t_Mod_ok n_Mod hown hK hP hD hS 4 rfl rfl 14 (by decide) (hts _ (nw_mc 85 rfl)) (fun _ h9 => h9) rfl (by decide +kernel) rfl rfl (Nat.le_of_ble_eq_true rfl) d_Mod_near_199 (fun H locs hP hD hS => ?_)
                    replace hP : va_P (dC, dI) nw_cls [(ai, nw_ai cB 60 I), (ap, nw_ai cI 3721 st), (ac, nw_ai cI 50 ch), (af, nw_ai cI 50 fa), (hM, .inr (1, [.ref ai, .ref aw, .ref ar, .ref al, .ref aL, .ref aD, .ref ac, .ref af, .ref ap, .ref an, .ref ax, .int (nI 0), .int (nI wn), .int (nI chn), .int (nI ((nw_cnt (nw_sl E wn ms) w) + 1)), .int (nI 0)])), (aw, nw_ai cB 60000 X), (al, nw_ai cI 1000 Ln), (ar, nw_ai cB 3000 (va_cpy X y (w * 60) ((nw_cnt (nw_sl E wn ms) w) * 60) (Ln w))), (aL, nw_ai cI 50 (va_up rl (nw_cnt (nw_sl E wn ms) w) (Ln w))), (aD, nw_ai cI 50 (va_up rd (nw_cnt (nw_sl E wn ms) w) (fa k)))] H := hP
                    replace hD : va_D A [(ai, nw_ai cB 60 I), (ap, nw_ai cI 3721 st), (ac, nw_ai cI 50 ch), (af, nw_ai cI 50 fa), (hM, .inr (1, [.ref ai, .ref aw, .ref ar, .ref al, .ref aL, .ref aD, .ref ac, .ref af, .ref ap, .ref an, .ref ax, .int (nI 0), .int (nI wn), .int (nI chn), .int (nI ((nw_cnt (nw_sl E wn ms) w) + 1)), .int (nI 0)])), (aw, nw_ai cB 60000 X), (al, nw_ai cI 1000 Ln), (ar, nw_ai cB 3000 (va_cpy X y (w * 60) ((nw_cnt (nw_sl E wn ms) w) * 60) (Ln w))), (aL, nw_ai cI 50 (va_up rl (nw_cnt (nw_sl E wn ms) w) (Ln w))), (aD, nw_ai cI 50 (va_up rd (nw_cnt (nw_sl E wn ms) w) (fa k)))] := hD
                    have hP := hP.sub (ws' := [(hM, .inr (1, [.ref ai, .ref aw, .ref ar, .ref al, .ref aL, .ref aD, .ref ac, .ref af, .ref ap, .ref an, .ref ax, .int (nI 0), .int (nI wn), .int (nI chn), .int (nI ((nw_cnt (nw_sl E wn ms) w) + 1)), .int (nI 0)])), (ai, nw_ai cB 60 I), (aw, nw_ai cB 60000 X), (al, nw_ai cI 1000 Ln), (ap, nw_ai cI 3721 st), (ac, nw_ai cI 50 ch), (af, nw_ai cI 50 fa), (ar, nw_ai cB 3000 (va_cpy X y (w * 60) ((nw_cnt (nw_sl E wn ms) w) * 60) (Ln w))), (aL, nw_ai cI 50 (va_up rl (nw_cnt (nw_sl E wn ms) w) (Ln w))), (aD, nw_ai cI 50 (va_up rd (nw_cnt (nw_sl E wn ms) w) (fa k)))]) [4, 0, 5, 6, 1, 2, 3, 7, 8, 9] rfl
                    have hD := hD.sub (ws' := [(hM, .inr (1, [.ref ai, .ref aw, .ref ar, .ref al, .ref aL, .ref aD, .ref ac, .ref af, .ref ap, .ref an, .ref ax, .int (nI 0), .int (nI wn), .int (nI chn), .int (nI ((nw_cnt (nw_sl E wn ms) w) + 1)), .int (nI 0)])), (ai, nw_ai cB 60 I), (aw, nw_ai cB 60000 X), (al, nw_ai cI 1000 Ln), (ap, nw_ai cI 3721 st), (ac, nw_ai cI 50 ch), (af, nw_ai cI 50 fa), (ar, nw_ai cB 3000 (va_cpy X y (w * 60) ((nw_cnt (nw_sl E wn ms) w) * 60) (Ln w))), (aL, nw_ai cI 50 (va_up rl (nw_cnt (nw_sl E wn ms) w) (Ln w))), (aD, nw_ai cI 50 (va_up rd (nw_cnt (nw_sl E wn ms) w) (fa k)))]) [4, 0, 5, 6, 1, 2, 3, 7, 8, 9] (by decide) rfl
                    rw [← nw_cnt_pos hsw] at hP hD
                    replace hP : va_P (dC, dI) nw_cls [(hM, .inr (1, [.ref ai, .ref aw, .ref ar, .ref al, .ref aL, .ref aD, .ref ac, .ref af, .ref ap, .ref an, .ref ax, .int (nI 0), .int (nI wn), .int (nI chn), .int (nI (nw_cnt (nw_sl E wn ms) (w + 1))), .int (nI 0)])), (ai, nw_ai cB 60 I), (aw, nw_ai cB 60000 X), (al, nw_ai cI 1000 Ln), (ap, nw_ai cI 3721 st), (ac, nw_ai cI 50 ch), (af, nw_ai cI 50 fa), (ar, nw_ai cB 3000 (va_cpy X y (w * 60) ((nw_cnt (nw_sl E wn ms) w) * 60) (Ln w))), (aL, nw_ai cI 50 (va_up rl (nw_cnt (nw_sl E wn ms) w) (Ln w))), (aD, nw_ai cI 50 (va_up rd (nw_cnt (nw_sl E wn ms) w) (fa k)))] H := hP
                    replace hD : va_D A [(hM, .inr (1, [.ref ai, .ref aw, .ref ar, .ref al, .ref aL, .ref aD, .ref ac, .ref af, .ref ap, .ref an, .ref ax, .int (nI 0), .int (nI wn), .int (nI chn), .int (nI (nw_cnt (nw_sl E wn ms) (w + 1))), .int (nI 0)])), (ai, nw_ai cB 60 I), (aw, nw_ai cB 60000 X), (al, nw_ai cI 1000 Ln), (ap, nw_ai cI 3721 st), (ac, nw_ai cI 50 ch), (af, nw_ai cI 50 fa), (ar, nw_ai cB 3000 (va_cpy X y (w * 60) ((nw_cnt (nw_sl E wn ms) w) * 60) (Ln w))), (aL, nw_ai cI 50 (va_up rl (nw_cnt (nw_sl E wn ms) w) (Ln w))), (aD, nw_ai cI 50 (va_up rd (nw_cnt (nw_sl E wn ms) w) (fa k)))] := hD
                    refine lv_iinc (v := nI (k + 1)) hx hb d_Mod_near_202 hl (k := 0) rfl (nI_add k 1) (by decide) rfl (fun ls hl => ?_)
                    have hl : lv_has ls 6 [(5, .int (nI (k + 1))), (4, .int (nI w)), (3, .int (nI fo)), (2, .int (nI isz)), (0, .ref hM), (1, .int (nI ms))] := hl
                    refine lv_goto hx hb d_Mod_near_205 (tgt := 154) (by decide) ?_
                    refine nw_loopW (σ := Nat) (fun k2 => tw < k2 ∧ k2 ≤ fo) (fun k2 => [(5, .int (nI k2)), (4, .int (nI w)), (3, .int (nI fo)), (2, .int (nI isz)), (0, .ref hM), (1, .int (nI ms))]) (fun k2 => [(hM, .inr (1, [.ref ai, .ref aw, .ref ar, .ref al, .ref aL, .ref aD, .ref ac, .ref af, .ref ap, .ref an, .ref ax, .int (nI 0), .int (nI wn), .int (nI chn), .int (nI (nw_cnt (nw_sl E wn ms) (w + 1))), .int (nI 0)])), (ai, nw_ai cB 60 I), (aw, nw_ai cB 60000 X), (al, nw_ai cI 1000 Ln), (ap, nw_ai cI 3721 st), (ac, nw_ai cI 50 ch), (af, nw_ai cI 50 fa), (ar, nw_ai cB 3000 (va_cpy X y (w * 60) ((nw_cnt (nw_sl E wn ms) w) * 60) (Ln w))), (aL, nw_ai cI 50 (va_up rl (nw_cnt (nw_sl E wn ms) w) (Ln w))), (aD, nw_ai cI 50 (va_up rd (nw_cnt (nw_sl E wn ms) w) (fa k)))]) (fun k2 => fo - k2) (fun x hA8 ih5 ls H locs hl hP hD hS => ?_) (k + 1) (⟨by omega, by omega⟩) hl hP hD hS
                    obtain ⟨k2, hx9⟩ : ∃ z, z = x := ⟨x, rfl⟩
                    subst hx9
                    replace hA8 : tw < k2 ∧ k2 ≤ fo := hA8
                    replace hl : lv_has ls 6 [(5, .int (nI k2)), (4, .int (nI w)), (3, .int (nI fo)), (2, .int (nI isz)), (0, .ref hM), (1, .int (nI ms))] := hl
                    replace hP : va_P (dC, dI) nw_cls [(hM, .inr (1, [.ref ai, .ref aw, .ref ar, .ref al, .ref aL, .ref aD, .ref ac, .ref af, .ref ap, .ref an, .ref ax, .int (nI 0), .int (nI wn), .int (nI chn), .int (nI (nw_cnt (nw_sl E wn ms) (w + 1))), .int (nI 0)])), (ai, nw_ai cB 60 I), (aw, nw_ai cB 60000 X), (al, nw_ai cI 1000 Ln), (ap, nw_ai cI 3721 st), (ac, nw_ai cI 50 ch), (af, nw_ai cI 50 fa), (ar, nw_ai cB 3000 (va_cpy X y (w * 60) ((nw_cnt (nw_sl E wn ms) w) * 60) (Ln w))), (aL, nw_ai cI 50 (va_up rl (nw_cnt (nw_sl E wn ms) w) (Ln w))), (aD, nw_ai cI 50 (va_up rd (nw_cnt (nw_sl E wn ms) w) (fa k)))] H := hP
                    replace hD : va_D A [(hM, .inr (1, [.ref ai, .ref aw, .ref ar, .ref al, .ref aL, .ref aD, .ref ac, .ref af, .ref ap, .ref an, .ref ax, .int (nI 0), .int (nI wn), .int (nI chn), .int (nI (nw_cnt (nw_sl E wn ms) (w + 1))), .int (nI 0)])), (ai, nw_ai cB 60 I), (aw, nw_ai cB 60000 X), (al, nw_ai cI 1000 Ln), (ap, nw_ai cI 3721 st), (ac, nw_ai cI 50 ch), (af, nw_ai cI 50 fa), (ar, nw_ai cB 3000 (va_cpy X y (w * 60) ((nw_cnt (nw_sl E wn ms) w) * 60) (Ln w))), (aL, nw_ai cI 50 (va_up rl (nw_cnt (nw_sl E wn ms) w) (Ln w))), (aD, nw_ai cI 50 (va_up rd (nw_cnt (nw_sl E wn ms) w) (fa k)))] := hD
                    refine lv_iload hx hb d_Mod_near_154 (lv_at hl 0 rfl) ?_
                    refine lv_iload_n hx hb d_Mod_near_156 rfl (lv_at hl 2 rfl) ?_
                    refine lv_icmp_ge hx hb d_Mod_near_157 (tgt := 208) (by decide) (fun s4 => ?_) (fun s4 => ?_)
                    · rw [nI_leI (by omega) (by omega)] at s4
                      refine lv_iinc (v := nI (w + 1)) hx hb d_Mod_near_208 hl (k := 1) rfl (nI_add w 1) (by decide) rfl (fun ls hl => ?_)
                      have hl : lv_has ls 6 [(4, .int (nI (w + 1))), (5, .int (nI k2)), (3, .int (nI fo)), (2, .int (nI isz)), (0, .ref hM), (1, .int (nI ms))] := hl
                      refine lv_goto hx hb d_Mod_near_211 (tgt := 142) (by decide) ?_
                      exact ih3 (w + 1, va_cpy X y (w * 60) ((nw_cnt (nw_sl E wn ms) w) * 60) (Ln w), va_up rl (nw_cnt (nw_sl E wn ms) w) (Ln w), va_up rd (nw_cnt (nw_sl E wn ms) w) (fa k)) (⟨by omega, nw_kp_m hkp (fun i hi => hL i (by omega)) rfl hfw, nw_cpy_lt hX hy⟩) (show wn - (w + 1) < wn - w by omega) _ _ _ (lv_sub hl [0, 2, 3, 4, 5] rfl) hP hD hS
                    · rw [nI_leI (by omega) (by omega)] at s4
                      have hck : ch k2 < 2 ^ 31 := by
                        obtain ⟨i, g1, g2, g3, g4, g5⟩ := hA2 k2 (by omega)
                        omega
                      refine lv_aload_n hx hb d_Mod_near_160 rfl (lv_at hl 4 rfl) ?_
                      refine va_get (D := (dC, dI)) (ci := 1) (v := .ref ac) (C := R_Mod) (T := F_Mod) (N := 16) hx hb hts hin_Mod hown hK hP 0 rfl rfl 6 (by decide) (hts _ (nw_mc 108 rfl)) (fun _ h9 => h9) rfl d_Mod_near_161 ?_
                      refine lv_iload hx hb d_Mod_near_164 (lv_at hl 0 rfl) ?_
                      refine nw_iald hx hb hK hP 5 1 rfl rfl (k := k2) (by omega) (by first | decide | omega) d_Mod_near_166 ?_
                      refine lv_iload hx hb d_Mod_near_167 (lv_at hl 1 rfl) ?_
                      refine lv_icmp_eq hx hb d_Mod_near_169 (tgt := 175) (by decide) (fun s5 => ?_) (fun s5 => ?_)
                      · rw [nI_eq (by omega) (by omega)] at s5
                        exact absurd ((hA5 k2 w (by omega) s5).2.1.symm.trans htw) (by omega)
                      · rw [nI_eq (by omega) (by omega)] at s5
                        refine lv_goto hx hb d_Mod_near_172 (tgt := 202) (by decide) ?_
                        refine lv_iinc (v := nI (k2 + 1)) hx hb d_Mod_near_202 hl (k := 0) rfl (nI_add k2 1) (by decide) rfl (fun ls hl => ?_)
                        have hl : lv_has ls 6 [(5, .int (nI (k2 + 1))), (4, .int (nI w)), (3, .int (nI fo)), (2, .int (nI isz)), (0, .ref hM), (1, .int (nI ms))] := hl
                        refine lv_goto hx hb d_Mod_near_205 (tgt := 154) (by decide) ?_
                        exact ih5 (k2 + 1) (⟨by omega, by omega⟩) (show fo - (k2 + 1) < fo - k2 by omega) _ _ _ hl hP hD hS
                  · rw [nI_eq (by omega) (by omega)] at s3
                    have hk9 : k ≠ tw := fun h => s3 (by rw [h]; exact hcw)
                    refine lv_goto hx hb d_Mod_near_172 (tgt := 202) (by decide) ?_
                    refine lv_iinc (v := nI (k + 1)) hx hb d_Mod_near_202 hl (k := 0) rfl (nI_add k 1) (by decide) rfl (fun ls hl => ?_)
                    have hl : lv_has ls 6 [(5, .int (nI (k + 1))), (4, .int (nI w)), (3, .int (nI fo)), (2, .int (nI isz)), (0, .ref hM), (1, .int (nI ms))] := hl
                    refine lv_goto hx hb d_Mod_near_205 (tgt := 154) (by decide) ?_
                    exact ih4 (k + 1) (by omega) (show tw - (k + 1) < tw - k by omega) _ _ _ hl hP hD hS
              · refine nw_loopW (σ := Nat) (fun k => k ≤ fo) (fun k => [(5, .int (nI k)), (4, .int (nI w)), (3, .int (nI fo)), (2, .int (nI isz)), (0, .ref hM), (1, .int (nI ms))]) (fun k => [(hM, .inr (1, [.ref ai, .ref aw, .ref ar, .ref al, .ref aL, .ref aD, .ref ac, .ref af, .ref ap, .ref an, .ref ax, .int (nI 0), .int (nI wn), .int (nI chn), .int (nI (nw_cnt (nw_sl E wn ms) w)), .int (nI 0)])), (ai, nw_ai cB 60 I), (aw, nw_ai cB 60000 X), (al, nw_ai cI 1000 Ln), (ap, nw_ai cI 3721 st), (ac, nw_ai cI 50 ch), (af, nw_ai cI 50 fa), (ar, nw_ai cB 3000 y), (aL, nw_ai cI 50 rl), (aD, nw_ai cI 50 rd)]) (fun k => fo - k) (fun x hA7 ih4 ls H locs hl hP hD hS => ?_) 0 (Nat.zero_le _) hl hP hD hS
                obtain ⟨k, hx9⟩ : ∃ z, z = x := ⟨x, rfl⟩
                subst hx9
                replace hA7 : k ≤ fo := hA7
                replace hl : lv_has ls 6 [(5, .int (nI k)), (4, .int (nI w)), (3, .int (nI fo)), (2, .int (nI isz)), (0, .ref hM), (1, .int (nI ms))] := hl
                replace hP : va_P (dC, dI) nw_cls [(hM, .inr (1, [.ref ai, .ref aw, .ref ar, .ref al, .ref aL, .ref aD, .ref ac, .ref af, .ref ap, .ref an, .ref ax, .int (nI 0), .int (nI wn), .int (nI chn), .int (nI (nw_cnt (nw_sl E wn ms) w)), .int (nI 0)])), (ai, nw_ai cB 60 I), (aw, nw_ai cB 60000 X), (al, nw_ai cI 1000 Ln), (ap, nw_ai cI 3721 st), (ac, nw_ai cI 50 ch), (af, nw_ai cI 50 fa), (ar, nw_ai cB 3000 y), (aL, nw_ai cI 50 rl), (aD, nw_ai cI 50 rd)] H := hP
                replace hD : va_D A [(hM, .inr (1, [.ref ai, .ref aw, .ref ar, .ref al, .ref aL, .ref aD, .ref ac, .ref af, .ref ap, .ref an, .ref ax, .int (nI 0), .int (nI wn), .int (nI chn), .int (nI (nw_cnt (nw_sl E wn ms) w)), .int (nI 0)])), (ai, nw_ai cB 60 I), (aw, nw_ai cB 60000 X), (al, nw_ai cI 1000 Ln), (ap, nw_ai cI 3721 st), (ac, nw_ai cI 50 ch), (af, nw_ai cI 50 fa), (ar, nw_ai cB 3000 y), (aL, nw_ai cI 50 rl), (aD, nw_ai cI 50 rd)] := hD
                refine lv_iload hx hb d_Mod_near_154 (lv_at hl 0 rfl) ?_
                refine lv_iload_n hx hb d_Mod_near_156 rfl (lv_at hl 2 rfl) ?_
                refine lv_icmp_ge hx hb d_Mod_near_157 (tgt := 208) (by decide) (fun s2 => ?_) (fun s2 => ?_)
                · rw [nI_leI (by omega) (by omega)] at s2
                  rw [← nw_cnt_neg hsw] at hP hD
                  refine lv_iinc (v := nI (w + 1)) hx hb d_Mod_near_208 hl (k := 1) rfl (nI_add w 1) (by decide) rfl (fun ls hl => ?_)
                  have hl : lv_has ls 6 [(4, .int (nI (w + 1))), (5, .int (nI k)), (3, .int (nI fo)), (2, .int (nI isz)), (0, .ref hM), (1, .int (nI ms))] := hl
                  refine lv_goto hx hb d_Mod_near_211 (tgt := 142) (by decide) ?_
                  exact ih3 (w + 1, y, rl, rd) (⟨by omega, nw_kp_no hkp hsw, hy⟩) (show wn - (w + 1) < wn - w by omega) _ _ _ (lv_sub hl [0, 2, 3, 4, 5] rfl) hP hD hS
                · rw [nI_leI (by omega) (by omega)] at s2
                  have hck : ch k < 2 ^ 31 := by
                    obtain ⟨i, g1, g2, g3, g4, g5⟩ := hA2 k (by omega)
                    omega
                  refine lv_aload_n hx hb d_Mod_near_160 rfl (lv_at hl 4 rfl) ?_
                  refine va_get (D := (dC, dI)) (ci := 1) (v := .ref ac) (C := R_Mod) (T := F_Mod) (N := 16) hx hb hts hin_Mod hown hK hP 0 rfl rfl 6 (by decide) (hts _ (nw_mc 108 rfl)) (fun _ h9 => h9) rfl d_Mod_near_161 ?_
                  refine lv_iload hx hb d_Mod_near_164 (lv_at hl 0 rfl) ?_
                  refine nw_iald hx hb hK hP 5 1 rfl rfl (k := k) (by omega) (by first | decide | omega) d_Mod_near_166 ?_
                  refine lv_iload hx hb d_Mod_near_167 (lv_at hl 1 rfl) ?_
                  refine lv_icmp_eq hx hb d_Mod_near_169 (tgt := 175) (by decide) (fun s3 => ?_) (fun s3 => ?_)
                  · rw [nI_eq (by omega) (by omega)] at s3
                    exact absurd (hA5 k w (by omega) s3).1 hsw
                  · rw [nI_eq (by omega) (by omega)] at s3
                    refine lv_goto hx hb d_Mod_near_172 (tgt := 202) (by decide) ?_
                    refine lv_iinc (v := nI (k + 1)) hx hb d_Mod_near_202 hl (k := 0) rfl (nI_add k 1) (by decide) rfl (fun ls hl => ?_)
                    have hl : lv_has ls 6 [(5, .int (nI (k + 1))), (4, .int (nI w)), (3, .int (nI fo)), (2, .int (nI isz)), (0, .ref hM), (1, .int (nI ms))] := hl
                    refine lv_goto hx hb d_Mod_near_205 (tgt := 154) (by decide) ?_
                    exact ih4 (k + 1) (by omega) (show fo - (k + 1) < fo - k by omega) _ _ _ hl hP hD hS
          · rw [nI_ltI (by omega) (by omega)] at q5
            refine lv_iconst (v := nI 0) hx hb d_Mod_near_47 (by decide) ?_
            refine lv_istore hx hb d_Mod_near_48 hl (by decide) rfl (fun ls hl => ?_)
            replace hl : lv_has ls 6 [(5, .int (nI 0)), (4, .int (nI d)), (3, .int (nI fo)), (2, .int (nI isz)), (0, .ref hM), (1, .int (nI ms))] := hl
            refine nw_loopW (σ := Nat × Nat × (Nat → Nat) × (Nat → Nat) × (Nat → Nat)) (fun x => match x with | (w, fo, st, ch, fa) => w ≤ wn ∧ fo = min 50 (nw_T E wn d w) ∧ (∀ k, k < fo → ∃ i, i < wn ∧ E i ≤ ms ∧ nw_T E wn (E i) i = k ∧ ch k = i ∧ fa k = E i) ∧ (∀ i, i < wn → E i ≤ ms → (E i < d ∨ (E i = d ∧ i < w)) → nw_T E wn (E i) i < 50 → nw_T E wn (E i) i < fo)) (fun x => match x with | (w, fo, st, ch, fa) => [(5, .int (nI w)), (4, .int (nI d)), (3, .int (nI fo)), (2, .int (nI isz)), (0, .ref hM), (1, .int (nI ms))]) (fun x => match x with | (w, fo, st, ch, fa) => [(hM, .inr (1, [.ref ai, .ref aw, .ref ar, .ref al, .ref aL, .ref aD, .ref ac, .ref af, .ref ap, .ref an, .ref ax, .int (nI 0), .int (nI wn), .int (nI chn), .int (nI rn), .int (nI 0)])), (ai, nw_ai cB 60 I), (aw, nw_ai cB 60000 X), (al, nw_ai cI 1000 Ln), (ap, nw_ai cI 3721 st), (ac, nw_ai cI 50 ch), (af, nw_ai cI 50 fa), (ar, nw_ai cB 3000 Y), (aL, nw_ai cI 50 RL), (aD, nw_ai cI 50 RD)]) (fun x => match x with | (w, fo, st, ch, fa) => wn - w) (fun x hA3 ih2 ls H locs hl hP hD hS => ?_) (0, fo, st, ch, fa) (⟨Nat.zero_le _, hfo, hA2, fun i h2 h3 h4 => hB2 i h2 h3 (by omega)⟩) hl hP hD hS
            obtain ⟨w, fo, st, ch, fa⟩ := x
            replace hA3 : w ≤ wn ∧ fo = min 50 (nw_T E wn d w) ∧ (∀ k, k < fo → ∃ i, i < wn ∧ E i ≤ ms ∧ nw_T E wn (E i) i = k ∧ ch k = i ∧ fa k = E i) ∧ (∀ i, i < wn → E i ≤ ms → (E i < d ∨ (E i = d ∧ i < w)) → nw_T E wn (E i) i < 50 → nw_T E wn (E i) i < fo) := hA3
            replace hl : lv_has ls 6 [(5, .int (nI w)), (4, .int (nI d)), (3, .int (nI fo)), (2, .int (nI isz)), (0, .ref hM), (1, .int (nI ms))] := hl
            replace hP : va_P (dC, dI) nw_cls [(hM, .inr (1, [.ref ai, .ref aw, .ref ar, .ref al, .ref aL, .ref aD, .ref ac, .ref af, .ref ap, .ref an, .ref ax, .int (nI 0), .int (nI wn), .int (nI chn), .int (nI rn), .int (nI 0)])), (ai, nw_ai cB 60 I), (aw, nw_ai cB 60000 X), (al, nw_ai cI 1000 Ln), (ap, nw_ai cI 3721 st), (ac, nw_ai cI 50 ch), (af, nw_ai cI 50 fa), (ar, nw_ai cB 3000 Y), (aL, nw_ai cI 50 RL), (aD, nw_ai cI 50 RD)] H := hP
            replace hD : va_D A [(hM, .inr (1, [.ref ai, .ref aw, .ref ar, .ref al, .ref aL, .ref aD, .ref ac, .ref af, .ref ap, .ref an, .ref ax, .int (nI 0), .int (nI wn), .int (nI chn), .int (nI rn), .int (nI 0)])), (ai, nw_ai cB 60 I), (aw, nw_ai cB 60000 X), (al, nw_ai cI 1000 Ln), (ap, nw_ai cI 3721 st), (ac, nw_ai cI 50 ch), (af, nw_ai cI 50 fa), (ar, nw_ai cB 3000 Y), (aL, nw_ai cI 50 RL), (aD, nw_ai cI 50 RD)] := hD
            obtain ⟨hw1, hfo2, hA4, hB4⟩ := hA3
            refine lv_iload hx hb d_Mod_near_50 (lv_at hl 0 rfl) ?_
            refine lv_aload_n hx hb d_Mod_near_52 rfl (lv_at hl 4 rfl) ?_
            refine va_get (D := (dC, dI)) (ci := 1) (v := .int (nI wn)) (C := R_Mod) (T := F_Mod) (N := 16) hx hb hts hin_Mod hown hK hP 0 rfl rfl 12 (by decide) (hts _ (nw_mc 71 rfl)) (fun _ h9 => h9) rfl d_Mod_near_53 ?_
            refine lv_icmp_ge hx hb d_Mod_near_56 (tgt := 128) (by decide) (fun q6 => ?_) (fun q6 => ?_)
            · rw [nI_leI (by omega) (by omega)] at q6
              refine lv_iinc (v := nI (d + 1)) hx hb d_Mod_near_128 hl (k := 1) rfl (nI_add d 1) (by decide) rfl (fun ls hl => ?_)
              have hl : lv_has ls 6 [(4, .int (nI (d + 1))), (5, .int (nI w)), (3, .int (nI fo)), (2, .int (nI isz)), (0, .ref hM), (1, .int (nI ms))] := hl
              refine lv_goto hx hb d_Mod_near_131 (tgt := 41) (by decide) ?_
              exact ih1 (d + 1, fo, st, ch, fa) (⟨by omega, by rw [nw_T_0, hfo2, show w = wn by omega], hA4, fun i h2 h3 h4 => hB4 i h2 h3 (by omega)⟩) (show ms + 1 - (d + 1) < ms + 1 - d by omega) _ _ _ (lv_sub hl [0, 2, 3, 4, 5] rfl) hP hD hS
            · rw [nI_leI (by omega) (by omega)] at q6
              refine lv_iload_n hx hb d_Mod_near_59 rfl (lv_at hl 2 rfl) ?_
              refine lv_bipush (v := nI 50) hx hb d_Mod_near_60 (by decide) ?_
              refine lv_icmp_ge hx hb d_Mod_near_62 (tgt := 128) (by decide) (fun q7 => ?_) (fun q7 => ?_)
              · rw [nI_leI (by omega) (by omega)] at q7
                refine lv_iinc (v := nI (d + 1)) hx hb d_Mod_near_128 hl (k := 1) rfl (nI_add d 1) (by decide) rfl (fun ls hl => ?_)
                have hl : lv_has ls 6 [(4, .int (nI (d + 1))), (5, .int (nI w)), (3, .int (nI fo)), (2, .int (nI isz)), (0, .ref hM), (1, .int (nI ms))] := hl
                refine lv_goto hx hb d_Mod_near_131 (tgt := 41) (by decide) ?_
                exact ih1 (d + 1, fo, st, ch, fa) (⟨by omega, by have := nw_T_mono E wn d (i := w) (j := wn) (by omega); rw [nw_T_0]; omega, hA4, fun i h2 h3 h4 h5 => by
                  by_cases hc : E i < d ∨ (E i = d ∧ i < w)
                  · exact hB4 i h2 h3 hc h5
                  · have e9 : E i = d := by omega
                    have := nw_T_mono E wn d (i := w) (j := i) (by omega)
                    rw [e9] at h5; omega⟩) (show ms + 1 - (d + 1) < ms + 1 - d by omega) _ _ _ (lv_sub hl [0, 2, 3, 4, 5] rfl) hP hD hS
              · rw [nI_leI (by omega) (by omega)] at q7
                have hlw := hL w (by omega)
                have hlw1 := hL1 w (by omega)
                refine lv_aload_n hx hb d_Mod_near_65 rfl (lv_at hl 4 rfl) ?_
                refine lv_iload hx hb d_Mod_near_66 (lv_at hl 0 rfl) ?_
                refine lv_iload_n hx hb d_Mod_near_68 rfl (lv_at hl 3 rfl) ?_
                refine nw_calli (wc := [(hM, .inr (1, [.ref ai, .ref aw, .ref ar, .ref al, .ref aL, .ref aD, .ref ac, .ref af, .ref ap, .ref an, .ref ax, .int (nI 0), .int (nI wn), .int (nI chn), .int (nI rn), .int (nI 0)])), (ai, nw_ai cB 60 I), (aw, nw_ai cB 60000 X), (al, nw_ai cI 1000 Ln), (ap, nw_ai cI 3721 st)]) (wr := [(ac, nw_ai cI 50 ch), (af, nw_ai cI 50 fa), (ar, nw_ai cB 3000 Y), (aL, nw_ai cI 50 RL), (aD, nw_ai cI 50 RD)]) hP hD hS hA [0, 1, 2, 3, 4] [5, 6, 7, 8, 9] rfl rfl (by decide) (by decide) (va_runV (As := [.int (nI w), .int (nI isz)]) (rest := []) ⟨hx, hb, hml, hown, hts⟩ (c_Mod_steps l dC dI _ cB cI hM ai aw ar al aL aD ac af ap an ax 0 wn chn rn 0 I X Ln st w isz (by omega) (by omega) hlw hX hI0) (cwV (C := R_Mod) 2 hts (nw_GV (nw_m 104 rfl) (nw_m 105 rfl) (nw_m 106 rfl) (nw_m 67 rfl) (nw_m 107 rfl)) rfl rfl rfl (by decide +kernel) ⟨Nat.le_of_ble_eq_true rfl, Nat.le_of_ble_eq_true rfl⟩) (nw_prewV (q0 := 0) (ci := 1) (q := (R_Mod, F_Mod, 16)) hK hP hD [0, 1, 2, 3, 4] [0, 1] (by decide) rfl rfl rfl rfl) rfl rfl hl.1 rfl (lv_room (Nat.le_of_ble_eq_true rfl)) d_Mod_near_69 ⟨Nat.le_of_ble_eq_true rfl, Nat.le_of_ble_eq_true rfl⟩) (fun r u H locs hw hP hD hS => ?_)
                replace hP : va_P (dC, dI) nw_cls [(ac, nw_ai cI 50 ch), (af, nw_ai cI 50 fa), (ar, nw_ai cB 3000 Y), (aL, nw_ai cI 50 RL), (aD, nw_ai cI 50 RD), (hM, .inr (1, [.ref ai, .ref aw, .ref ar, .ref al, .ref aL, .ref aD, .ref ac, .ref af, .ref ap, .ref an, .ref ax, .int (nI 0), .int (nI wn), .int (nI chn), .int (nI rn), .int (nI 0)])), (ai, nw_ai cB 60 I), (aw, nw_ai cB 60000 X), (al, nw_ai cI 1000 Ln), (ap, nw_ai cI 3721 u)] H := hP
                replace hD : va_D A [(ac, nw_ai cI 50 ch), (af, nw_ai cI 50 fa), (ar, nw_ai cB 3000 Y), (aL, nw_ai cI 50 RL), (aD, nw_ai cI 50 RD), (hM, .inr (1, [.ref ai, .ref aw, .ref ar, .ref al, .ref aL, .ref aD, .ref ac, .ref af, .ref ap, .ref an, .ref ax, .int (nI 0), .int (nI wn), .int (nI chn), .int (nI rn), .int (nI 0)])), (ai, nw_ai cB 60 I), (aw, nw_ai cB 60000 X), (al, nw_ai cI 1000 Ln), (ap, nw_ai cI 3721 u)] := hD
                obtain rfl : r = nI (nw_D (fun k => X (w * 60 + k)) I (Ln w) isz) := hw
                have hP := hP.sub (ws' := [(hM, .inr (1, [.ref ai, .ref aw, .ref ar, .ref al, .ref aL, .ref aD, .ref ac, .ref af, .ref ap, .ref an, .ref ax, .int (nI 0), .int (nI wn), .int (nI chn), .int (nI rn), .int (nI 0)])), (ai, nw_ai cB 60 I), (aw, nw_ai cB 60000 X), (al, nw_ai cI 1000 Ln), (ap, nw_ai cI 3721 u), (ac, nw_ai cI 50 ch), (af, nw_ai cI 50 fa), (ar, nw_ai cB 3000 Y), (aL, nw_ai cI 50 RL), (aD, nw_ai cI 50 RD)]) [5, 6, 7, 8, 9, 0, 1, 2, 3, 4] rfl
                have hD := hD.sub (ws' := [(hM, .inr (1, [.ref ai, .ref aw, .ref ar, .ref al, .ref aL, .ref aD, .ref ac, .ref af, .ref ap, .ref an, .ref ax, .int (nI 0), .int (nI wn), .int (nI chn), .int (nI rn), .int (nI 0)])), (ai, nw_ai cB 60 I), (aw, nw_ai cB 60000 X), (al, nw_ai cI 1000 Ln), (ap, nw_ai cI 3721 u), (ac, nw_ai cI 50 ch), (af, nw_ai cI 50 fa), (ar, nw_ai cB 3000 Y), (aL, nw_ai cI 50 RL), (aD, nw_ai cI 50 RD)]) [5, 6, 7, 8, 9, 0, 1, 2, 3, 4] (by decide) rfl
                have hDw := nw_D_add (fun k => X (w * 60 + k)) I (Ln w) isz
                have hEw := nw_E_eq (D := nw_D (fun k => X (w * 60 + k)) I (Ln w) isz) (n := isz) (L := Ln w) (ms := ms) (d := d) (by omega) hms
                rw [← hEi w] at hEw
                refine lv_iload hx hb d_Mod_near_72 (lv_at hl 1 rfl) ?_
                refine lv_icmp_ne hx hb d_Mod_near_74 (tgt := 122) (by decide) (fun q8 => ?_) (fun q8 => ?_)
                · rw [nI_eq (by omega) (by omega)] at q8
                  have hne : ¬ E w = d := fun h => q8 (hEw.mp h).1
                  refine lv_iinc (v := nI (w + 1)) hx hb d_Mod_near_122 hl (k := 0) rfl (nI_add w 1) (by decide) rfl (fun ls hl => ?_)
                  have hl : lv_has ls 6 [(5, .int (nI (w + 1))), (4, .int (nI d)), (3, .int (nI fo)), (2, .int (nI isz)), (0, .ref hM), (1, .int (nI ms))] := hl
                  refine lv_goto hx hb d_Mod_near_125 (tgt := 50) (by decide) ?_
                  exact ih2 (w + 1, fo, u, ch, fa) (⟨by omega, by rw [nw_T_neg hne]; exact hfo2, hA4, fun i h2 h3 h4 => hB4 i h2 h3 (by
                    rcases h4 with h4 | h4
                    · exact Or.inl h4
                    · refine Or.inr ⟨h4.1, ?_⟩
                      by_cases e9 : i = w
                      · rw [e9] at h4; exact absurd h4.1 hne
                      · omega)⟩) (show wn - (w + 1) < wn - w by omega) _ _ _ hl hP hD hS
                · rw [nI_eq (by omega) (by omega)] at q8
                  refine lv_iload hx hb d_Mod_near_77 (lv_at hl 1 rfl) ?_
                  refine lv_if_le hx hb d_Mod_near_79 (tgt := 103) (by decide) (fun q9 => ?_) (fun q9 => ?_)
                  · rw [nw_le0 (by omega)] at q9
                    have hyes : E w = d := hEw.mpr ⟨q8, by omega, by omega⟩
                    have hTw : nw_T E wn d w = fo := by omega
                    refine lv_aload_n hx hb d_Mod_near_103 rfl (lv_at hl 4 rfl) ?_
                    refine va_get (D := (dC, dI)) (ci := 1) (v := .ref ac) (C := R_Mod) (T := F_Mod) (N := 16) hx hb hts hin_Mod hown hK hP 0 rfl rfl 6 (by decide) (hts _ (nw_mc 108 rfl)) (fun _ h9 => h9) rfl d_Mod_near_104 ?_
                    refine lv_iload_n hx hb d_Mod_near_107 rfl (lv_at hl 2 rfl) ?_
                    refine lv_iload hx hb d_Mod_near_108 (lv_at hl 0 rfl) ?_
                    refine nw_iast hx hb hK hP hD hS 5 1 rfl rfl (k := fo) (v := w) (by omega) (by first | decide | omega) d_Mod_near_110 (fun H locs hP hD hS => ?_)
                    replace hP : va_P (dC, dI) nw_cls [(hM, .inr (1, [.ref ai, .ref aw, .ref ar, .ref al, .ref aL, .ref aD, .ref ac, .ref af, .ref ap, .ref an, .ref ax, .int (nI 0), .int (nI wn), .int (nI chn), .int (nI rn), .int (nI 0)])), (ai, nw_ai cB 60 I), (aw, nw_ai cB 60000 X), (al, nw_ai cI 1000 Ln), (ap, nw_ai cI 3721 u), (ac, nw_ai cI 50 (va_up ch fo w)), (af, nw_ai cI 50 fa), (ar, nw_ai cB 3000 Y), (aL, nw_ai cI 50 RL), (aD, nw_ai cI 50 RD)] H := hP
                    replace hD : va_D A [(hM, .inr (1, [.ref ai, .ref aw, .ref ar, .ref al, .ref aL, .ref aD, .ref ac, .ref af, .ref ap, .ref an, .ref ax, .int (nI 0), .int (nI wn), .int (nI chn), .int (nI rn), .int (nI 0)])), (ai, nw_ai cB 60 I), (aw, nw_ai cB 60000 X), (al, nw_ai cI 1000 Ln), (ap, nw_ai cI 3721 u), (ac, nw_ai cI 50 (va_up ch fo w)), (af, nw_ai cI 50 fa), (ar, nw_ai cB 3000 Y), (aL, nw_ai cI 50 RL), (aD, nw_ai cI 50 RD)] := hD
                    refine lv_aload_n hx hb d_Mod_near_111 rfl (lv_at hl 4 rfl) ?_
                    refine va_get (D := (dC, dI)) (ci := 1) (v := .ref af) (C := R_Mod) (T := F_Mod) (N := 16) hx hb hts hin_Mod hown hK hP 0 rfl rfl 7 (by decide) (hts _ (nw_mc 109 rfl)) (fun _ h9 => h9) rfl d_Mod_near_112 ?_
                    refine lv_iload_n hx hb d_Mod_near_115 rfl (lv_at hl 2 rfl) ?_
                    refine lv_iload hx hb d_Mod_near_116 (lv_at hl 1 rfl) ?_
                    refine nw_iast hx hb hK hP hD hS 6 1 rfl rfl (k := fo) (v := d) (by omega) (by first | decide | omega) d_Mod_near_118 (fun H locs hP hD hS => ?_)
                    replace hP : va_P (dC, dI) nw_cls [(hM, .inr (1, [.ref ai, .ref aw, .ref ar, .ref al, .ref aL, .ref aD, .ref ac, .ref af, .ref ap, .ref an, .ref ax, .int (nI 0), .int (nI wn), .int (nI chn), .int (nI rn), .int (nI 0)])), (ai, nw_ai cB 60 I), (aw, nw_ai cB 60000 X), (al, nw_ai cI 1000 Ln), (ap, nw_ai cI 3721 u), (ac, nw_ai cI 50 (va_up ch fo w)), (af, nw_ai cI 50 (va_up fa fo d)), (ar, nw_ai cB 3000 Y), (aL, nw_ai cI 50 RL), (aD, nw_ai cI 50 RD)] H := hP
                    replace hD : va_D A [(hM, .inr (1, [.ref ai, .ref aw, .ref ar, .ref al, .ref aL, .ref aD, .ref ac, .ref af, .ref ap, .ref an, .ref ax, .int (nI 0), .int (nI wn), .int (nI chn), .int (nI rn), .int (nI 0)])), (ai, nw_ai cB 60 I), (aw, nw_ai cB 60000 X), (al, nw_ai cI 1000 Ln), (ap, nw_ai cI 3721 u), (ac, nw_ai cI 50 (va_up ch fo w)), (af, nw_ai cI 50 (va_up fa fo d)), (ar, nw_ai cB 3000 Y), (aL, nw_ai cI 50 RL), (aD, nw_ai cI 50 RD)] := hD
                    refine lv_iinc (v := nI (fo + 1)) hx hb d_Mod_near_119 hl (k := 2) rfl (nI_add fo 1) (by decide) rfl (fun ls hl => ?_)
                    have hl : lv_has ls 6 [(3, .int (nI (fo + 1))), (5, .int (nI w)), (4, .int (nI d)), (2, .int (nI isz)), (0, .ref hM), (1, .int (nI ms))] := hl
                    refine lv_iinc (v := nI (w + 1)) hx hb d_Mod_near_122 hl (k := 1) rfl (nI_add w 1) (by decide) rfl (fun ls hl => ?_)
                    have hl : lv_has ls 6 [(5, .int (nI (w + 1))), (3, .int (nI (fo + 1))), (4, .int (nI d)), (2, .int (nI isz)), (0, .ref hM), (1, .int (nI ms))] := hl
                    refine lv_goto hx hb d_Mod_near_125 (tgt := 50) (by decide) ?_
                    exact ih2 (w + 1, fo + 1, u, va_up ch fo w, va_up fa fo d) (⟨by omega, by rw [nw_T_pos hyes]; omega, fun k hk => by
                      by_cases e9 : k = fo
                      · exact ⟨w, by omega, by omega, by rw [hyes, hTw, e9], by rw [e9, va_up_self], by rw [e9, va_up_self, hyes]⟩
                      · obtain ⟨i, g1, g2, g3, g4, g5⟩ := hA4 k (by omega)
                        exact ⟨i, g1, g2, g3, by rw [va_up_ne _ _ e9]; exact g4, by rw [va_up_ne _ _ e9]; exact g5⟩, fun i h2 h3 h4 h5 => by
                      by_cases hc : E i < d ∨ (E i = d ∧ i < w)
                      · have := hB4 i h2 h3 hc h5; omega
                      · have e9 : i = w := by omega
                        rw [e9, hyes, hTw]; omega⟩) (show wn - (w + 1) < wn - w by omega) _ _ _ (lv_sub hl [0, 2, 1, 3, 4, 5] rfl) hP hD hS
                  · rw [nw_le0 (by omega)] at q9
                    refine lv_iload hx hb d_Mod_near_82 (lv_at hl 1 rfl) ?_
                    refine lv_iload_n hx hb d_Mod_near_84 rfl (lv_at hl 3 rfl) ?_
                    refine lv_icmp_ge hx hb d_Mod_near_85 (tgt := 122) (by decide) (fun r1 => ?_) (fun r1 => ?_)
                    · rw [nI_leI (by omega) (by omega)] at r1
                      have hne : ¬ E w = d := fun h => by have := (hEw.mp h).2.1; omega
                      refine lv_iinc (v := nI (w + 1)) hx hb d_Mod_near_122 hl (k := 0) rfl (nI_add w 1) (by decide) rfl (fun ls hl => ?_)
                      have hl : lv_has ls 6 [(5, .int (nI (w + 1))), (4, .int (nI d)), (3, .int (nI fo)), (2, .int (nI isz)), (0, .ref hM), (1, .int (nI ms))] := hl
                      refine lv_goto hx hb d_Mod_near_125 (tgt := 50) (by decide) ?_
                      exact ih2 (w + 1, fo, u, ch, fa) (⟨by omega, by rw [nw_T_neg hne]; exact hfo2, hA4, fun i h2 h3 h4 => hB4 i h2 h3 (by
                        rcases h4 with h4 | h4
                        · exact Or.inl h4
                        · refine Or.inr ⟨h4.1, ?_⟩
                          by_cases e9 : i = w
                          · rw [e9] at h4; exact absurd h4.1 hne
                          · omega)⟩) (show wn - (w + 1) < wn - w by omega) _ _ _ hl hP hD hS
                    · rw [nI_leI (by omega) (by omega)] at r1
                      refine lv_iload hx hb d_Mod_near_88 (lv_at hl 1 rfl) ?_
                      refine lv_aload_n hx hb d_Mod_near_90 rfl (lv_at hl 4 rfl) ?_
                      refine va_get (D := (dC, dI)) (ci := 1) (v := .ref al) (C := R_Mod) (T := F_Mod) (N := 16) hx hb hts hin_Mod hown hK hP 0 rfl rfl 3 (by decide) (hts _ (nw_mc 64 rfl)) (fun _ h9 => h9) rfl d_Mod_near_91 ?_
                      refine lv_iload hx hb d_Mod_near_94 (lv_at hl 0 rfl) ?_
                      refine nw_iald hx hb hK hP 3 1 rfl rfl (k := w) (by omega) (by first | decide | omega) d_Mod_near_96 ?_
                      refine lv_icmp_lt hx hb d_Mod_near_97 (tgt := 103) (by decide) (fun r2 => ?_) (fun r2 => ?_)
                      · rw [nI_ltI (by omega) (by omega)] at r2
                        have hyes : E w = d := hEw.mpr ⟨q8, by omega, by omega⟩
                        have hTw : nw_T E wn d w = fo := by omega
                        refine lv_aload_n hx hb d_Mod_near_103 rfl (lv_at hl 4 rfl) ?_
                        refine va_get (D := (dC, dI)) (ci := 1) (v := .ref ac) (C := R_Mod) (T := F_Mod) (N := 16) hx hb hts hin_Mod hown hK hP 0 rfl rfl 6 (by decide) (hts _ (nw_mc 108 rfl)) (fun _ h9 => h9) rfl d_Mod_near_104 ?_
                        refine lv_iload_n hx hb d_Mod_near_107 rfl (lv_at hl 2 rfl) ?_
                        refine lv_iload hx hb d_Mod_near_108 (lv_at hl 0 rfl) ?_
                        refine nw_iast hx hb hK hP hD hS 5 1 rfl rfl (k := fo) (v := w) (by omega) (by first | decide | omega) d_Mod_near_110 (fun H locs hP hD hS => ?_)
                        replace hP : va_P (dC, dI) nw_cls [(hM, .inr (1, [.ref ai, .ref aw, .ref ar, .ref al, .ref aL, .ref aD, .ref ac, .ref af, .ref ap, .ref an, .ref ax, .int (nI 0), .int (nI wn), .int (nI chn), .int (nI rn), .int (nI 0)])), (ai, nw_ai cB 60 I), (aw, nw_ai cB 60000 X), (al, nw_ai cI 1000 Ln), (ap, nw_ai cI 3721 u), (ac, nw_ai cI 50 (va_up ch fo w)), (af, nw_ai cI 50 fa), (ar, nw_ai cB 3000 Y), (aL, nw_ai cI 50 RL), (aD, nw_ai cI 50 RD)] H := hP
                        replace hD : va_D A [(hM, .inr (1, [.ref ai, .ref aw, .ref ar, .ref al, .ref aL, .ref aD, .ref ac, .ref af, .ref ap, .ref an, .ref ax, .int (nI 0), .int (nI wn), .int (nI chn), .int (nI rn), .int (nI 0)])), (ai, nw_ai cB 60 I), (aw, nw_ai cB 60000 X), (al, nw_ai cI 1000 Ln), (ap, nw_ai cI 3721 u), (ac, nw_ai cI 50 (va_up ch fo w)), (af, nw_ai cI 50 fa), (ar, nw_ai cB 3000 Y), (aL, nw_ai cI 50 RL), (aD, nw_ai cI 50 RD)] := hD
                        refine lv_aload_n hx hb d_Mod_near_111 rfl (lv_at hl 4 rfl) ?_
                        refine va_get (D := (dC, dI)) (ci := 1) (v := .ref af) (C := R_Mod) (T := F_Mod) (N := 16) hx hb hts hin_Mod hown hK hP 0 rfl rfl 7 (by decide) (hts _ (nw_mc 109 rfl)) (fun _ h9 => h9) rfl d_Mod_near_112 ?_
                        refine lv_iload_n hx hb d_Mod_near_115 rfl (lv_at hl 2 rfl) ?_
                        refine lv_iload hx hb d_Mod_near_116 (lv_at hl 1 rfl) ?_
                        refine nw_iast hx hb hK hP hD hS 6 1 rfl rfl (k := fo) (v := d) (by omega) (by first | decide | omega) d_Mod_near_118 (fun H locs hP hD hS => ?_)
                        replace hP : va_P (dC, dI) nw_cls [(hM, .inr (1, [.ref ai, .ref aw, .ref ar, .ref al, .ref aL, .ref aD, .ref ac, .ref af, .ref ap, .ref an, .ref ax, .int (nI 0), .int (nI wn), .int (nI chn), .int (nI rn), .int (nI 0)])), (ai, nw_ai cB 60 I), (aw, nw_ai cB 60000 X), (al, nw_ai cI 1000 Ln), (ap, nw_ai cI 3721 u), (ac, nw_ai cI 50 (va_up ch fo w)), (af, nw_ai cI 50 (va_up fa fo d)), (ar, nw_ai cB 3000 Y), (aL, nw_ai cI 50 RL), (aD, nw_ai cI 50 RD)] H := hP
                        replace hD : va_D A [(hM, .inr (1, [.ref ai, .ref aw, .ref ar, .ref al, .ref aL, .ref aD, .ref ac, .ref af, .ref ap, .ref an, .ref ax, .int (nI 0), .int (nI wn), .int (nI chn), .int (nI rn), .int (nI 0)])), (ai, nw_ai cB 60 I), (aw, nw_ai cB 60000 X), (al, nw_ai cI 1000 Ln), (ap, nw_ai cI 3721 u), (ac, nw_ai cI 50 (va_up ch fo w)), (af, nw_ai cI 50 (va_up fa fo d)), (ar, nw_ai cB 3000 Y), (aL, nw_ai cI 50 RL), (aD, nw_ai cI 50 RD)] := hD
                        refine lv_iinc (v := nI (fo + 1)) hx hb d_Mod_near_119 hl (k := 2) rfl (nI_add fo 1) (by decide) rfl (fun ls hl => ?_)
                        have hl : lv_has ls 6 [(3, .int (nI (fo + 1))), (5, .int (nI w)), (4, .int (nI d)), (2, .int (nI isz)), (0, .ref hM), (1, .int (nI ms))] := hl
                        refine lv_iinc (v := nI (w + 1)) hx hb d_Mod_near_122 hl (k := 1) rfl (nI_add w 1) (by decide) rfl (fun ls hl => ?_)
                        have hl : lv_has ls 6 [(5, .int (nI (w + 1))), (3, .int (nI (fo + 1))), (4, .int (nI d)), (2, .int (nI isz)), (0, .ref hM), (1, .int (nI ms))] := hl
                        refine lv_goto hx hb d_Mod_near_125 (tgt := 50) (by decide) ?_
                        exact ih2 (w + 1, fo + 1, u, va_up ch fo w, va_up fa fo d) (⟨by omega, by rw [nw_T_pos hyes]; omega, fun k hk => by
                          by_cases e9 : k = fo
                          · exact ⟨w, by omega, by omega, by rw [hyes, hTw, e9], by rw [e9, va_up_self], by rw [e9, va_up_self, hyes]⟩
                          · obtain ⟨i, g1, g2, g3, g4, g5⟩ := hA4 k (by omega)
                            exact ⟨i, g1, g2, g3, by rw [va_up_ne _ _ e9]; exact g4, by rw [va_up_ne _ _ e9]; exact g5⟩, fun i h2 h3 h4 h5 => by
                          by_cases hc : E i < d ∨ (E i = d ∧ i < w)
                          · have := hB4 i h2 h3 hc h5; omega
                          · have e9 : i = w := by omega
                            rw [e9, hyes, hTw]; omega⟩) (show wn - (w + 1) < wn - w by omega) _ _ _ (lv_sub hl [0, 2, 1, 3, 4, 5] rfl) hP hD hS
                      · rw [nI_ltI (by omega) (by omega)] at r2
                        have hne : ¬ E w = d := fun h => by have := (hEw.mp h).2.2; omega
                        refine lv_goto hx hb d_Mod_near_100 (tgt := 122) (by decide) ?_
                        refine lv_iinc (v := nI (w + 1)) hx hb d_Mod_near_122 hl (k := 0) rfl (nI_add w 1) (by decide) rfl (fun ls hl => ?_)
                        have hl : lv_has ls 6 [(5, .int (nI (w + 1))), (4, .int (nI d)), (3, .int (nI fo)), (2, .int (nI isz)), (0, .ref hM), (1, .int (nI ms))] := hl
                        refine lv_goto hx hb d_Mod_near_125 (tgt := 50) (by decide) ?_
                        exact ih2 (w + 1, fo, u, ch, fa) (⟨by omega, by rw [nw_T_neg hne]; exact hfo2, hA4, fun i h2 h3 h4 => hB4 i h2 h3 (by
                          rcases h4 with h4 | h4
                          · exact Or.inl h4
                          · refine Or.inr ⟨h4.1, ?_⟩
                            by_cases e9 : i = w
                            · rw [e9] at h4; exact absurd h4.1 hne
                            · omega)⟩) (show wn - (w + 1) < wn - w by omega) _ _ _ hl hP hD hS
        · rw [nw_eq0 (by omega)] at q4
          omega
      · rw [nw_eq0 (by omega)] at q3
        omega
end
section
set_option maxHeartbeats 4000000 in
set_option maxRecDepth 100000 in
theorem c_Mod_type_bad (l : Launch) (dC : Nat → ClassId) (dI : Nat → Nat → Nat) (sz : Nat) (cB : ClassId) (hM ai aw ar al aL aD ac af ap an ax isz wn chn rn th : Nat) (I : Nat → Nat) (x1 x2 : Int64) (b : Nat → Nat) (hb9 : b = (fun k => if k < 8 then nw_by x1 (56 - k % 8 * 8) else nw_by x2 (56 - k % 8 * 8))) (hn : isz ≤ 60) (hbad : ∃ k, k < 16 ∧ (b k ≠ 0 ∧ (b k < 33 ∨ 126 < b k))) : Met l y_Mod_type w_Mod_type ({ frames := 0, cells := 0, slots := 0, locals := 0 }) (nw_Pw [.ref hM, .long x1, .long x2] (dC, dI) nw_cls [(cB, .byte)] [(hM, .inr (1, [.ref ai, .ref aw, .ref ar, .ref al, .ref aL, .ref aD, .ref ac, .ref af, .ref ap, .ref an, .ref ax, .int (nI isz), .int (nI wn), .int (nI chn), .int (nI rn), .int (nI th)])), (ai, nw_ai cB 60 I)] sz) (va_Qi (fun (r : Int32) (_ : Unit) => r = nI 0) (nw_B (dC, dI) nw_cls (va_A [(hM, .inr (1, [.ref ai, .ref aw, .ref ar, .ref al, .ref aL, .ref aD, .ref ac, .ref af, .ref ap, .ref an, .ref ax, .int (nI isz), .int (nI wn), .int (nI chn), .int (nI rn), .int (nI th)])), (ai, nw_ai cB 60 I)] sz) (fun _ : Unit => [(hM, .inr (1, [.ref ai, .ref aw, .ref ar, .ref al, .ref aL, .ref aD, .ref ac, .ref af, .ref ap, .ref an, .ref ax, .int (nI isz), .int (nI wn), .int (nI chn), .int (nI rn), .int (nI 1)])), (ai, nw_ai cB 60 I)])) (va_A [(hM, .inr (1, [.ref ai, .ref aw, .ref ar, .ref al, .ref aL, .ref aD, .ref ac, .ref af, .ref ap, .ref an, .ref ax, .int (nI isz), .int (nI wn), .int (nI chn), .int (nI rn), .int (nI th)])), (ai, nw_ai cB 60 I)] sz)) 0 0 (va_A [(hM, .inr (1, [.ref ai, .ref aw, .ref ar, .ref al, .ref aL, .ref aD, .ref ac, .ref af, .ref ap, .ref an, .ref ax, .int (nI isz), .int (nI wn), .int (nI chn), .int (nI rn), .int (nI th)])), (ai, nw_ai cB 60 I)] sz) := by
  refine Met.ofW (cc := b_Mod_type) (maxL := 8) (ret := (some .int)) (by decide) rfl ?_
  intro p e s m args below meth cd s₁ B hml hv0
  obtain ⟨rfl, hsz, hP, hK, hD0⟩ := hv0
  have hx := B.exec
  have hb := B.bytes
  have hr := B.returns
  have hts := atoms_spec (ws := w_Mod_type) B.pre
  have hown : s.vm.findClass R_Mod = some m.cls := findClass_of_methodNamed B.named
  have hlocks := B.notSynchronized
  subst hsz
  have hD := hD0.self (sz := s.heap.size)
  generalize hAe : va_A [(hM, .inr (1, [.ref ai, .ref aw, .ref ar, .ref al, .ref aL, .ref aD, .ref ac, .ref af, .ref ap, .ref an, .ref ax, .int (nI isz), .int (nI wn), .int (nI chn), .int (nI rn), .int (nI th)])), (ai, nw_ai cB 60 I)] s.heap.size = A at hD ⊢
  have hA : ∀ q : Nat, s.heap.size ≤ q → A q := fun q h => by rw [← hAe]; exact Or.inr h
  have hS : va_S A s.heap s.heap [] := va_S.rf
  have hl := lv_entry ([.ref hM, .long x1, .long x2]) (n := 8) (Nat.le_of_ble_eq_true rfl)
  rw [lg_entry_eq]
  generalize (lg_sl ([.ref hM, .long x1, .long x2]) ++ List.replicate (8 - (lg_sl ([.ref hM, .long x1, .long x2])).length) Slot.unset).toArray = ls at hl ⊢
  have hl : lv_has ls 8 [(0, .ref hM), (1, .long x1), (3, .long x2)] := hl
  have hbl : ∀ k, b k < 256 := fun k => by
    rw [hb9]; dsimp only
    split <;> exact nw_by_lt _ _
  refine lv_iconst (v := nI 0) hx hb d_Mod_type_0 (by decide) ?_
  refine lv_istore hx hb d_Mod_type_1 hl (by decide) rfl (fun ls hl => ?_)
  replace hl : lv_has ls 8 [(5, .int (nI 0)), (0, .ref hM), (1, .long x1), (3, .long x2)] := hl
  refine lv_aload_n hx hb d_Mod_type_3 rfl (lv_at hl 1 rfl) ?_
  refine lv_iconst (v := nI 0) hx hb d_Mod_type_4 (by decide) ?_
  refine va_put (D := (dC, dI)) (ci := 1) (v := .int (nI 0)) (ty := .int) (C := R_Mod) (T := F_Mod) (N := 16) hx hb hts hin_Mod t_Mod t_Mod_ok n_Mod hown hK hP hD hS 0 rfl rfl 15 (by decide) (hts _ (nw_mc 62 rfl)) (fun _ h9 => h9) rfl (by decide +kernel) rfl rfl (Nat.le_of_ble_eq_true rfl) d_Mod_type_5 (fun H locs hP hD hS => ?_)
  replace hP : va_P (dC, dI) nw_cls [(hM, .inr (1, [.ref ai, .ref aw, .ref ar, .ref al, .ref aL, .ref aD, .ref ac, .ref af, .ref ap, .ref an, .ref ax, .int (nI isz), .int (nI wn), .int (nI chn), .int (nI rn), .int (nI 0)])), (ai, nw_ai cB 60 I)] H := hP
  replace hD : va_D A [(hM, .inr (1, [.ref ai, .ref aw, .ref ar, .ref al, .ref aL, .ref aD, .ref ac, .ref af, .ref ap, .ref an, .ref ax, .int (nI isz), .int (nI wn), .int (nI chn), .int (nI rn), .int (nI 0)])), (ai, nw_ai cB 60 I)] := hD
  refine lv_iconst (v := nI 0) hx hb d_Mod_type_8 (by decide) ?_
  refine lv_istore hx hb d_Mod_type_9 hl (by decide) rfl (fun ls hl => ?_)
  replace hl : lv_has ls 8 [(6, .int (nI 0)), (5, .int (nI 0)), (0, .ref hM), (1, .long x1), (3, .long x2)] := hl
  refine nw_loopW (σ := Nat × Nat) (fun x => match x with | (k, t) => k ≤ 16 ∧ ((t = 0 ∧ ∀ i, i < k → ¬ (b i ≠ 0 ∧ (b i < 33 ∨ 126 < b i))) ∨ (t = 1 ∧ ∃ i, i < k ∧ (b i ≠ 0 ∧ (b i < 33 ∨ 126 < b i))))) (fun x => match x with | (k, t) => [(6, .int (nI k)), (5, .int (nI (nw_cnt (fun i => b i ≠ 0) k))), (0, .ref hM), (1, .long x1), (3, .long x2)]) (fun x => match x with | (k, t) => [(hM, .inr (1, [.ref ai, .ref aw, .ref ar, .ref al, .ref aL, .ref aD, .ref ac, .ref af, .ref ap, .ref an, .ref ax, .int (nI isz), .int (nI wn), .int (nI chn), .int (nI rn), .int (nI t)])), (ai, nw_ai cB 60 I)]) (fun x => match x with | (k, t) => 16 - k) (fun x hA1 ih1 ls H locs hl hP hD hS => ?_) (0, 0) (⟨Nat.zero_le _, Or.inl ⟨rfl, fun i h => absurd h (Nat.not_lt_zero i)⟩⟩) hl hP hD hS
  obtain ⟨k, t⟩ := x
  replace hA1 : k ≤ 16 ∧ ((t = 0 ∧ ∀ i, i < k → ¬ (b i ≠ 0 ∧ (b i < 33 ∨ 126 < b i))) ∨ (t = 1 ∧ ∃ i, i < k ∧ (b i ≠ 0 ∧ (b i < 33 ∨ 126 < b i)))) := hA1
  replace hl : lv_has ls 8 [(6, .int (nI k)), (5, .int (nI (nw_cnt (fun i => b i ≠ 0) k))), (0, .ref hM), (1, .long x1), (3, .long x2)] := hl
  replace hP : va_P (dC, dI) nw_cls [(hM, .inr (1, [.ref ai, .ref aw, .ref ar, .ref al, .ref aL, .ref aD, .ref ac, .ref af, .ref ap, .ref an, .ref ax, .int (nI isz), .int (nI wn), .int (nI chn), .int (nI rn), .int (nI t)])), (ai, nw_ai cB 60 I)] H := hP
  replace hD : va_D A [(hM, .inr (1, [.ref ai, .ref aw, .ref ar, .ref al, .ref aL, .ref aD, .ref ac, .ref af, .ref ap, .ref an, .ref ax, .int (nI isz), .int (nI wn), .int (nI chn), .int (nI rn), .int (nI t)])), (ai, nw_ai cB 60 I)] := hD
  obtain ⟨hk, ht⟩ := hA1
  have hcn := nw_cnt_le (fun i => b i ≠ 0) k
  have hbk := hbl k
  refine lv_iload hx hb d_Mod_type_11 (lv_at hl 0 rfl) ?_
  refine lv_bipush (v := nI 16) hx hb d_Mod_type_13 (by decide) ?_
  refine lv_icmp_ge hx hb d_Mod_type_15 (tgt := 87) (by decide) (fun q7 => ?_) (fun q7 => ?_)
  · rw [nI_leI (by omega) (by omega)] at q7
    have hk9 : k = 16 := by omega
    rw [hk9] at hl ht hcn
    have hl : lv_has ls 8 [(6, .int (nI 16)), (5, .int (nI (nw_cnt (fun i => b i ≠ 0) 16))), (0, .ref hM), (1, .long x1), (3, .long x2)] := hl
    obtain ⟨ht0, hz⟩ | ⟨ht0, hz⟩ := ht
    · exact absurd hbad (fun ⟨i, h1, h2⟩ => hz i h1 h2)
    · rw [ht0] at hP hD
      refine lv_aload_n hx hb d_Mod_type_87 rfl (lv_at hl 2 rfl) ?_
      refine va_get (D := (dC, dI)) (ci := 1) (v := .int (nI 1)) (C := R_Mod) (T := F_Mod) (N := 16) hx hb hts hin_Mod hown hK hP 0 rfl rfl 15 (by decide) (hts _ (nw_mc 62 rfl)) (fun _ h9 => h9) rfl d_Mod_type_88 ?_
      refine lv_if_ne hx hb d_Mod_type_91 (tgt := 111) (by decide) (fun s1 => ?_) (fun s1 => ?_)
      · rw [nw_eq0 (by omega)] at s1
        refine lv_aload_n hx hb d_Mod_type_111 rfl (lv_at hl 2 rfl) ?_
        refine va_get (D := (dC, dI)) (ci := 1) (v := .int (nI 1)) (C := R_Mod) (T := F_Mod) (N := 16) hx hb hts hin_Mod hown hK hP 0 rfl rfl 15 (by decide) (hts _ (nw_mc 62 rfl)) (fun _ h9 => h9) rfl d_Mod_type_112 ?_
        refine lv_if_eq hx hb d_Mod_type_115 (tgt := 120) (by decide) (fun s2 => ?_) (fun s2 => ?_)
        · rw [nw_eq0 (by omega)] at s2
          omega
        · rw [nw_eq0 (by omega)] at s2
          refine lv_iconst (v := nI 0) hx hb d_Mod_type_118 (by decide) ?_
          exact W.iret (v := nI 0) hx hb hr (fun t ht hW => ⟨⟨_, (), rfl, rfl, by rw [ht]; exact hP, hD⟩, hS.F ht⟩) hS.2.2 d_Mod_type_119
      · rw [nw_eq0 (by omega)] at s1
        omega
  · rw [nI_leI (by omega) (by omega)] at q7
    refine lv_iload hx hb d_Mod_type_18 (lv_at hl 0 rfl) ?_
    refine lv_bipush (v := nI 8) hx hb d_Mod_type_20 (by decide) ?_
    refine lv_icmp_ge hx hb d_Mod_type_22 (tgt := 29) (by decide) (fun q8 => ?_) (fun q8 => ?_)
    · rw [nI_leI (by omega) (by omega)] at q8
      refine lv_lload_n hx hb d_Mod_type_29 rfl (lv_at hl 4 rfl) ?_
      refine lv_bipush (v := nI 56) hx hb d_Mod_type_30 (by decide) ?_
      refine lv_iload hx hb d_Mod_type_32 (lv_at hl 0 rfl) ?_
      refine lv_bipush (v := nI 8) hx hb d_Mod_type_34 (by decide) ?_
      refine lv_irem hx hb d_Mod_type_36 (by decide) ?_
      refine nw_ti (pk_rem (a := k) (d := 8) (by omega) (by decide) (by decide)) ?_
      refine lv_bipush (v := nI 8) hx hb d_Mod_type_37 (by decide) ?_
      refine lv_imul hx hb d_Mod_type_39 ?_
      refine nw_ti (pk_mul (k % 8) 8) ?_
      refine lv_isub hx hb d_Mod_type_40 ?_
      refine nw_ti (pk_sub (a := 56) (b := ((k % 8) * 8)) (by omega)) ?_
      refine nw_ti (y := nI (56 - k % 8 * 8)) (congrArg nI (show 56 - ((k % 8) * 8) = 56 - k % 8 * 8 by omega)) ?_
      refine lv_lushr (v := (x2.toUInt64 >>> ((nI (56 - k % 8 * 8)).toInt64.toUInt64 &&& Int64.toUInt64 63)).toInt64) hx hb d_Mod_type_41 (rfl) ?_
      refine lv_l2i (v := (x2.toUInt64 >>> ((nI (56 - k % 8 * 8)).toInt64.toUInt64 &&& Int64.toUInt64 63)).toInt64.toInt32) hx hb d_Mod_type_42 (rfl) ?_
      refine lv_sipush (v := nI 255) hx hb d_Mod_type_43 (by decide) ?_
      refine lv_iand hx hb d_Mod_type_46 ?_
      refine nw_ti (y := nI (b k)) ((nw_byte x2 (sh := 56 - k % 8 * 8) (by omega)).trans (congrArg nI (by rw [hb9]; exact (if_neg (by omega)).symm))) ?_
      refine lv_istore hx hb d_Mod_type_47 hl (by decide) rfl (fun ls hl => ?_)
      replace hl : lv_has ls 8 [(7, .int (nI (b k))), (6, .int (nI k)), (5, .int (nI (nw_cnt (fun i => b i ≠ 0) k))), (0, .ref hM), (1, .long x1), (3, .long x2)] := hl
      refine lv_iload hx hb d_Mod_type_49 (lv_at hl 0 rfl) ?_
      refine lv_if_eq hx hb d_Mod_type_51 (tgt := 73) (by decide) (fun r1 => ?_) (fun r1 => ?_)
      · rw [nw_eq0 (by omega)] at r1
        have hgood : ¬ (b k ≠ 0 ∧ (b k < 33 ∨ 126 < b k)) := fun h => h.1 r1
        refine lv_iload hx hb d_Mod_type_73 (lv_at hl 0 rfl) ?_
        refine lv_if_eq hx hb d_Mod_type_75 (tgt := 81) (by decide) (fun q9 => ?_) (fun q9 => ?_)
        · rw [nw_eq0 (by omega)] at q9
          rw [← nw_cnt_neg (f := fun i => b i ≠ 0) (n := k) (fun h => h q9)] at hl
          refine lv_iinc (v := nI (k + 1)) hx hb d_Mod_type_81 hl (k := 1) rfl (nI_add k 1) (by decide) rfl (fun ls hl => ?_)
          have hl : lv_has ls 8 [(6, .int (nI (k + 1))), (7, .int (nI (b k))), (5, .int (nI (nw_cnt (fun i => b i ≠ 0) (k + 1)))), (0, .ref hM), (1, .long x1), (3, .long x2)] := hl
          refine lv_goto hx hb d_Mod_type_84 (tgt := 11) (by decide) ?_
          exact ih1 (k + 1, t) (⟨by omega, by
            rcases ht with ⟨h1, h2⟩ | ⟨h1, i, h2, h3⟩
            · refine Or.inl ⟨h1, fun i hi => ?_⟩
              by_cases e : i = k
              · rw [e]; exact hgood
              · exact h2 i (by omega)
            · exact Or.inr ⟨h1, i, by omega, h3⟩⟩) (show 16 - (k + 1) < 16 - k by omega) _ _ _ (lv_sub hl [0, 2, 3, 4, 5] rfl) hP hD hS
        · rw [nw_eq0 (by omega)] at q9
          refine lv_iinc (v := nI ((nw_cnt (fun i => b i ≠ 0) k) + 1)) hx hb d_Mod_type_78 hl (k := 2) rfl (nI_add (nw_cnt (fun i => b i ≠ 0) k) 1) (by decide) rfl (fun ls hl => ?_)
          have hl : lv_has ls 8 [(5, .int (nI ((nw_cnt (fun i => b i ≠ 0) k) + 1))), (7, .int (nI (b k))), (6, .int (nI k)), (0, .ref hM), (1, .long x1), (3, .long x2)] := hl
          rw [← nw_cnt_pos (f := fun i => b i ≠ 0) (n := k) q9] at hl
          have hl : lv_has ls 8 [(5, .int (nI (nw_cnt (fun i => b i ≠ 0) (k + 1)))), (7, .int (nI (b k))), (6, .int (nI k)), (0, .ref hM), (1, .long x1), (3, .long x2)] := hl
          refine lv_iinc (v := nI (k + 1)) hx hb d_Mod_type_81 hl (k := 2) rfl (nI_add k 1) (by decide) rfl (fun ls hl => ?_)
          have hl : lv_has ls 8 [(6, .int (nI (k + 1))), (5, .int (nI (nw_cnt (fun i => b i ≠ 0) (k + 1)))), (7, .int (nI (b k))), (0, .ref hM), (1, .long x1), (3, .long x2)] := hl
          refine lv_goto hx hb d_Mod_type_84 (tgt := 11) (by decide) ?_
          exact ih1 (k + 1, t) (⟨by omega, by
            rcases ht with ⟨h1, h2⟩ | ⟨h1, i, h2, h3⟩
            · refine Or.inl ⟨h1, fun i hi => ?_⟩
              by_cases e : i = k
              · rw [e]; exact hgood
              · exact h2 i (by omega)
            · exact Or.inr ⟨h1, i, by omega, h3⟩⟩) (show 16 - (k + 1) < 16 - k by omega) _ _ _ (lv_sub hl [0, 1, 3, 4, 5] rfl) hP hD hS
      · rw [nw_eq0 (by omega)] at r1
        refine lv_iload hx hb d_Mod_type_54 (lv_at hl 0 rfl) ?_
        refine lv_bipush (v := nI 33) hx hb d_Mod_type_56 (by decide) ?_
        refine lv_icmp_lt hx hb d_Mod_type_58 (tgt := 68) (by decide) (fun r2 => ?_) (fun r2 => ?_)
        · rw [nI_ltI (by omega) (by omega)] at r2
          have hbadk : (b k ≠ 0 ∧ (b k < 33 ∨ 126 < b k)) := ⟨r1, Or.inl r2⟩
          refine lv_aload_n hx hb d_Mod_type_68 rfl (lv_at hl 3 rfl) ?_
          refine lv_iconst (v := nI 1) hx hb d_Mod_type_69 (by decide) ?_
          refine va_put (D := (dC, dI)) (ci := 1) (v := .int (nI 1)) (ty := .int) (C := R_Mod) (T := F_Mod) (N := 16) hx hb hts hin_Mod t_Mod t_Mod_ok n_Mod hown hK hP hD hS 0 rfl rfl 15 (by decide) (hts _ (nw_mc 62 rfl)) (fun _ h9 => h9) rfl (by decide +kernel) rfl rfl (Nat.le_of_ble_eq_true rfl) d_Mod_type_70 (fun H locs hP hD hS => ?_)
          replace hP : va_P (dC, dI) nw_cls [(hM, .inr (1, [.ref ai, .ref aw, .ref ar, .ref al, .ref aL, .ref aD, .ref ac, .ref af, .ref ap, .ref an, .ref ax, .int (nI isz), .int (nI wn), .int (nI chn), .int (nI rn), .int (nI 1)])), (ai, nw_ai cB 60 I)] H := hP
          replace hD : va_D A [(hM, .inr (1, [.ref ai, .ref aw, .ref ar, .ref al, .ref aL, .ref aD, .ref ac, .ref af, .ref ap, .ref an, .ref ax, .int (nI isz), .int (nI wn), .int (nI chn), .int (nI rn), .int (nI 1)])), (ai, nw_ai cB 60 I)] := hD
          refine lv_iload hx hb d_Mod_type_73 (lv_at hl 0 rfl) ?_
          refine lv_if_eq hx hb d_Mod_type_75 (tgt := 81) (by decide) (fun q9 => ?_) (fun q9 => ?_)
          · rw [nw_eq0 (by omega)] at q9
            rw [← nw_cnt_neg (f := fun i => b i ≠ 0) (n := k) (fun h => h q9)] at hl
            refine lv_iinc (v := nI (k + 1)) hx hb d_Mod_type_81 hl (k := 1) rfl (nI_add k 1) (by decide) rfl (fun ls hl => ?_)
            have hl : lv_has ls 8 [(6, .int (nI (k + 1))), (7, .int (nI (b k))), (5, .int (nI (nw_cnt (fun i => b i ≠ 0) (k + 1)))), (0, .ref hM), (1, .long x1), (3, .long x2)] := hl
            refine lv_goto hx hb d_Mod_type_84 (tgt := 11) (by decide) ?_
            exact ih1 (k + 1, 1) (⟨by omega, Or.inr ⟨rfl, k, by omega, hbadk⟩⟩) (show 16 - (k + 1) < 16 - k by omega) _ _ _ (lv_sub hl [0, 2, 3, 4, 5] rfl) hP hD hS
          · rw [nw_eq0 (by omega)] at q9
            refine lv_iinc (v := nI ((nw_cnt (fun i => b i ≠ 0) k) + 1)) hx hb d_Mod_type_78 hl (k := 2) rfl (nI_add (nw_cnt (fun i => b i ≠ 0) k) 1) (by decide) rfl (fun ls hl => ?_)
            have hl : lv_has ls 8 [(5, .int (nI ((nw_cnt (fun i => b i ≠ 0) k) + 1))), (7, .int (nI (b k))), (6, .int (nI k)), (0, .ref hM), (1, .long x1), (3, .long x2)] := hl
            rw [← nw_cnt_pos (f := fun i => b i ≠ 0) (n := k) q9] at hl
            have hl : lv_has ls 8 [(5, .int (nI (nw_cnt (fun i => b i ≠ 0) (k + 1)))), (7, .int (nI (b k))), (6, .int (nI k)), (0, .ref hM), (1, .long x1), (3, .long x2)] := hl
            refine lv_iinc (v := nI (k + 1)) hx hb d_Mod_type_81 hl (k := 2) rfl (nI_add k 1) (by decide) rfl (fun ls hl => ?_)
            have hl : lv_has ls 8 [(6, .int (nI (k + 1))), (5, .int (nI (nw_cnt (fun i => b i ≠ 0) (k + 1)))), (7, .int (nI (b k))), (0, .ref hM), (1, .long x1), (3, .long x2)] := hl
            refine lv_goto hx hb d_Mod_type_84 (tgt := 11) (by decide) ?_
            exact ih1 (k + 1, 1) (⟨by omega, Or.inr ⟨rfl, k, by omega, hbadk⟩⟩) (show 16 - (k + 1) < 16 - k by omega) _ _ _ (lv_sub hl [0, 1, 3, 4, 5] rfl) hP hD hS
        · rw [nI_ltI (by omega) (by omega)] at r2
          refine lv_iload hx hb d_Mod_type_61 (lv_at hl 0 rfl) ?_
          refine lv_bipush (v := nI 126) hx hb d_Mod_type_63 (by decide) ?_
          refine lv_icmp_le hx hb d_Mod_type_65 (tgt := 73) (by decide) (fun r3 => ?_) (fun r3 => ?_)
          · rw [nI_leI (by omega) (by omega)] at r3
            have hgood : ¬ (b k ≠ 0 ∧ (b k < 33 ∨ 126 < b k)) := fun h => by omega
            refine lv_iload hx hb d_Mod_type_73 (lv_at hl 0 rfl) ?_
            refine lv_if_eq hx hb d_Mod_type_75 (tgt := 81) (by decide) (fun q9 => ?_) (fun q9 => ?_)
            · rw [nw_eq0 (by omega)] at q9
              rw [← nw_cnt_neg (f := fun i => b i ≠ 0) (n := k) (fun h => h q9)] at hl
              refine lv_iinc (v := nI (k + 1)) hx hb d_Mod_type_81 hl (k := 1) rfl (nI_add k 1) (by decide) rfl (fun ls hl => ?_)
              have hl : lv_has ls 8 [(6, .int (nI (k + 1))), (7, .int (nI (b k))), (5, .int (nI (nw_cnt (fun i => b i ≠ 0) (k + 1)))), (0, .ref hM), (1, .long x1), (3, .long x2)] := hl
              refine lv_goto hx hb d_Mod_type_84 (tgt := 11) (by decide) ?_
              exact ih1 (k + 1, t) (⟨by omega, by
                rcases ht with ⟨h1, h2⟩ | ⟨h1, i, h2, h3⟩
                · refine Or.inl ⟨h1, fun i hi => ?_⟩
                  by_cases e : i = k
                  · rw [e]; exact hgood
                  · exact h2 i (by omega)
                · exact Or.inr ⟨h1, i, by omega, h3⟩⟩) (show 16 - (k + 1) < 16 - k by omega) _ _ _ (lv_sub hl [0, 2, 3, 4, 5] rfl) hP hD hS
            · rw [nw_eq0 (by omega)] at q9
              refine lv_iinc (v := nI ((nw_cnt (fun i => b i ≠ 0) k) + 1)) hx hb d_Mod_type_78 hl (k := 2) rfl (nI_add (nw_cnt (fun i => b i ≠ 0) k) 1) (by decide) rfl (fun ls hl => ?_)
              have hl : lv_has ls 8 [(5, .int (nI ((nw_cnt (fun i => b i ≠ 0) k) + 1))), (7, .int (nI (b k))), (6, .int (nI k)), (0, .ref hM), (1, .long x1), (3, .long x2)] := hl
              rw [← nw_cnt_pos (f := fun i => b i ≠ 0) (n := k) q9] at hl
              have hl : lv_has ls 8 [(5, .int (nI (nw_cnt (fun i => b i ≠ 0) (k + 1)))), (7, .int (nI (b k))), (6, .int (nI k)), (0, .ref hM), (1, .long x1), (3, .long x2)] := hl
              refine lv_iinc (v := nI (k + 1)) hx hb d_Mod_type_81 hl (k := 2) rfl (nI_add k 1) (by decide) rfl (fun ls hl => ?_)
              have hl : lv_has ls 8 [(6, .int (nI (k + 1))), (5, .int (nI (nw_cnt (fun i => b i ≠ 0) (k + 1)))), (7, .int (nI (b k))), (0, .ref hM), (1, .long x1), (3, .long x2)] := hl
              refine lv_goto hx hb d_Mod_type_84 (tgt := 11) (by decide) ?_
              exact ih1 (k + 1, t) (⟨by omega, by
                rcases ht with ⟨h1, h2⟩ | ⟨h1, i, h2, h3⟩
                · refine Or.inl ⟨h1, fun i hi => ?_⟩
                  by_cases e : i = k
                  · rw [e]; exact hgood
                  · exact h2 i (by omega)
                · exact Or.inr ⟨h1, i, by omega, h3⟩⟩) (show 16 - (k + 1) < 16 - k by omega) _ _ _ (lv_sub hl [0, 1, 3, 4, 5] rfl) hP hD hS
          · rw [nI_leI (by omega) (by omega)] at r3
            have hbadk : (b k ≠ 0 ∧ (b k < 33 ∨ 126 < b k)) := ⟨r1, Or.inr (by omega)⟩
            refine lv_aload_n hx hb d_Mod_type_68 rfl (lv_at hl 3 rfl) ?_
            refine lv_iconst (v := nI 1) hx hb d_Mod_type_69 (by decide) ?_
            refine va_put (D := (dC, dI)) (ci := 1) (v := .int (nI 1)) (ty := .int) (C := R_Mod) (T := F_Mod) (N := 16) hx hb hts hin_Mod t_Mod t_Mod_ok n_Mod hown hK hP hD hS 0 rfl rfl 15 (by decide) (hts _ (nw_mc 62 rfl)) (fun _ h9 => h9) rfl (by decide +kernel) rfl rfl (Nat.le_of_ble_eq_true rfl) d_Mod_type_70 (fun H locs hP hD hS => ?_)
            replace hP : va_P (dC, dI) nw_cls [(hM, .inr (1, [.ref ai, .ref aw, .ref ar, .ref al, .ref aL, .ref aD, .ref ac, .ref af, .ref ap, .ref an, .ref ax, .int (nI isz), .int (nI wn), .int (nI chn), .int (nI rn), .int (nI 1)])), (ai, nw_ai cB 60 I)] H := hP
            replace hD : va_D A [(hM, .inr (1, [.ref ai, .ref aw, .ref ar, .ref al, .ref aL, .ref aD, .ref ac, .ref af, .ref ap, .ref an, .ref ax, .int (nI isz), .int (nI wn), .int (nI chn), .int (nI rn), .int (nI 1)])), (ai, nw_ai cB 60 I)] := hD
            refine lv_iload hx hb d_Mod_type_73 (lv_at hl 0 rfl) ?_
            refine lv_if_eq hx hb d_Mod_type_75 (tgt := 81) (by decide) (fun q9 => ?_) (fun q9 => ?_)
            · rw [nw_eq0 (by omega)] at q9
              rw [← nw_cnt_neg (f := fun i => b i ≠ 0) (n := k) (fun h => h q9)] at hl
              refine lv_iinc (v := nI (k + 1)) hx hb d_Mod_type_81 hl (k := 1) rfl (nI_add k 1) (by decide) rfl (fun ls hl => ?_)
              have hl : lv_has ls 8 [(6, .int (nI (k + 1))), (7, .int (nI (b k))), (5, .int (nI (nw_cnt (fun i => b i ≠ 0) (k + 1)))), (0, .ref hM), (1, .long x1), (3, .long x2)] := hl
              refine lv_goto hx hb d_Mod_type_84 (tgt := 11) (by decide) ?_
              exact ih1 (k + 1, 1) (⟨by omega, Or.inr ⟨rfl, k, by omega, hbadk⟩⟩) (show 16 - (k + 1) < 16 - k by omega) _ _ _ (lv_sub hl [0, 2, 3, 4, 5] rfl) hP hD hS
            · rw [nw_eq0 (by omega)] at q9
              refine lv_iinc (v := nI ((nw_cnt (fun i => b i ≠ 0) k) + 1)) hx hb d_Mod_type_78 hl (k := 2) rfl (nI_add (nw_cnt (fun i => b i ≠ 0) k) 1) (by decide) rfl (fun ls hl => ?_)
              have hl : lv_has ls 8 [(5, .int (nI ((nw_cnt (fun i => b i ≠ 0) k) + 1))), (7, .int (nI (b k))), (6, .int (nI k)), (0, .ref hM), (1, .long x1), (3, .long x2)] := hl
              rw [← nw_cnt_pos (f := fun i => b i ≠ 0) (n := k) q9] at hl
              have hl : lv_has ls 8 [(5, .int (nI (nw_cnt (fun i => b i ≠ 0) (k + 1)))), (7, .int (nI (b k))), (6, .int (nI k)), (0, .ref hM), (1, .long x1), (3, .long x2)] := hl
              refine lv_iinc (v := nI (k + 1)) hx hb d_Mod_type_81 hl (k := 2) rfl (nI_add k 1) (by decide) rfl (fun ls hl => ?_)
              have hl : lv_has ls 8 [(6, .int (nI (k + 1))), (5, .int (nI (nw_cnt (fun i => b i ≠ 0) (k + 1)))), (7, .int (nI (b k))), (0, .ref hM), (1, .long x1), (3, .long x2)] := hl
              refine lv_goto hx hb d_Mod_type_84 (tgt := 11) (by decide) ?_
              exact ih1 (k + 1, 1) (⟨by omega, Or.inr ⟨rfl, k, by omega, hbadk⟩⟩) (show 16 - (k + 1) < 16 - k by omega) _ _ _ (lv_sub hl [0, 1, 3, 4, 5] rfl) hP hD hS
    · rw [nI_leI (by omega) (by omega)] at q8
      refine lv_lload_n hx hb d_Mod_type_25 rfl (lv_at hl 3 rfl) ?_
      refine lv_goto hx hb d_Mod_type_26 (tgt := 30) (by decide) ?_
      refine lv_bipush (v := nI 56) hx hb d_Mod_type_30 (by decide) ?_
      refine lv_iload hx hb d_Mod_type_32 (lv_at hl 0 rfl) ?_
      refine lv_bipush (v := nI 8) hx hb d_Mod_type_34 (by decide) ?_
      refine lv_irem hx hb d_Mod_type_36 (by decide) ?_
      refine nw_ti (pk_rem (a := k) (d := 8) (by omega) (by decide) (by decide)) ?_
      refine lv_bipush (v := nI 8) hx hb d_Mod_type_37 (by decide) ?_
      refine lv_imul hx hb d_Mod_type_39 ?_
      refine nw_ti (pk_mul (k % 8) 8) ?_
      refine lv_isub hx hb d_Mod_type_40 ?_
      refine nw_ti (pk_sub (a := 56) (b := ((k % 8) * 8)) (by omega)) ?_
      refine nw_ti (y := nI (56 - k % 8 * 8)) (congrArg nI (show 56 - ((k % 8) * 8) = 56 - k % 8 * 8 by omega)) ?_
      refine lv_lushr (v := (x1.toUInt64 >>> ((nI (56 - k % 8 * 8)).toInt64.toUInt64 &&& Int64.toUInt64 63)).toInt64) hx hb d_Mod_type_41 (rfl) ?_
      refine lv_l2i (v := (x1.toUInt64 >>> ((nI (56 - k % 8 * 8)).toInt64.toUInt64 &&& Int64.toUInt64 63)).toInt64.toInt32) hx hb d_Mod_type_42 (rfl) ?_
      refine lv_sipush (v := nI 255) hx hb d_Mod_type_43 (by decide) ?_
      refine lv_iand hx hb d_Mod_type_46 ?_
      refine nw_ti (y := nI (b k)) ((nw_byte x1 (sh := 56 - k % 8 * 8) (by omega)).trans (congrArg nI (by rw [hb9]; exact (if_pos (by omega)).symm))) ?_
      refine lv_istore hx hb d_Mod_type_47 hl (by decide) rfl (fun ls hl => ?_)
      replace hl : lv_has ls 8 [(7, .int (nI (b k))), (6, .int (nI k)), (5, .int (nI (nw_cnt (fun i => b i ≠ 0) k))), (0, .ref hM), (1, .long x1), (3, .long x2)] := hl
      refine lv_iload hx hb d_Mod_type_49 (lv_at hl 0 rfl) ?_
      refine lv_if_eq hx hb d_Mod_type_51 (tgt := 73) (by decide) (fun r1 => ?_) (fun r1 => ?_)
      · rw [nw_eq0 (by omega)] at r1
        have hgood : ¬ (b k ≠ 0 ∧ (b k < 33 ∨ 126 < b k)) := fun h => h.1 r1
        refine lv_iload hx hb d_Mod_type_73 (lv_at hl 0 rfl) ?_
        refine lv_if_eq hx hb d_Mod_type_75 (tgt := 81) (by decide) (fun q9 => ?_) (fun q9 => ?_)
        · rw [nw_eq0 (by omega)] at q9
          rw [← nw_cnt_neg (f := fun i => b i ≠ 0) (n := k) (fun h => h q9)] at hl
          refine lv_iinc (v := nI (k + 1)) hx hb d_Mod_type_81 hl (k := 1) rfl (nI_add k 1) (by decide) rfl (fun ls hl => ?_)
          have hl : lv_has ls 8 [(6, .int (nI (k + 1))), (7, .int (nI (b k))), (5, .int (nI (nw_cnt (fun i => b i ≠ 0) (k + 1)))), (0, .ref hM), (1, .long x1), (3, .long x2)] := hl
          refine lv_goto hx hb d_Mod_type_84 (tgt := 11) (by decide) ?_
          exact ih1 (k + 1, t) (⟨by omega, by
            rcases ht with ⟨h1, h2⟩ | ⟨h1, i, h2, h3⟩
            · refine Or.inl ⟨h1, fun i hi => ?_⟩
              by_cases e : i = k
              · rw [e]; exact hgood
              · exact h2 i (by omega)
            · exact Or.inr ⟨h1, i, by omega, h3⟩⟩) (show 16 - (k + 1) < 16 - k by omega) _ _ _ (lv_sub hl [0, 2, 3, 4, 5] rfl) hP hD hS
        · rw [nw_eq0 (by omega)] at q9
          refine lv_iinc (v := nI ((nw_cnt (fun i => b i ≠ 0) k) + 1)) hx hb d_Mod_type_78 hl (k := 2) rfl (nI_add (nw_cnt (fun i => b i ≠ 0) k) 1) (by decide) rfl (fun ls hl => ?_)
          have hl : lv_has ls 8 [(5, .int (nI ((nw_cnt (fun i => b i ≠ 0) k) + 1))), (7, .int (nI (b k))), (6, .int (nI k)), (0, .ref hM), (1, .long x1), (3, .long x2)] := hl
          rw [← nw_cnt_pos (f := fun i => b i ≠ 0) (n := k) q9] at hl
          have hl : lv_has ls 8 [(5, .int (nI (nw_cnt (fun i => b i ≠ 0) (k + 1)))), (7, .int (nI (b k))), (6, .int (nI k)), (0, .ref hM), (1, .long x1), (3, .long x2)] := hl
          refine lv_iinc (v := nI (k + 1)) hx hb d_Mod_type_81 hl (k := 2) rfl (nI_add k 1) (by decide) rfl (fun ls hl => ?_)
          have hl : lv_has ls 8 [(6, .int (nI (k + 1))), (5, .int (nI (nw_cnt (fun i => b i ≠ 0) (k + 1)))), (7, .int (nI (b k))), (0, .ref hM), (1, .long x1), (3, .long x2)] := hl
          refine lv_goto hx hb d_Mod_type_84 (tgt := 11) (by decide) ?_
          exact ih1 (k + 1, t) (⟨by omega, by
            rcases ht with ⟨h1, h2⟩ | ⟨h1, i, h2, h3⟩
            · refine Or.inl ⟨h1, fun i hi => ?_⟩
              by_cases e : i = k
              · rw [e]; exact hgood
              · exact h2 i (by omega)
            · exact Or.inr ⟨h1, i, by omega, h3⟩⟩) (show 16 - (k + 1) < 16 - k by omega) _ _ _ (lv_sub hl [0, 1, 3, 4, 5] rfl) hP hD hS
      · rw [nw_eq0 (by omega)] at r1
        refine lv_iload hx hb d_Mod_type_54 (lv_at hl 0 rfl) ?_
        refine lv_bipush (v := nI 33) hx hb d_Mod_type_56 (by decide) ?_
        refine lv_icmp_lt hx hb d_Mod_type_58 (tgt := 68) (by decide) (fun r2 => ?_) (fun r2 => ?_)
        · rw [nI_ltI (by omega) (by omega)] at r2
          have hbadk : (b k ≠ 0 ∧ (b k < 33 ∨ 126 < b k)) := ⟨r1, Or.inl r2⟩
          refine lv_aload_n hx hb d_Mod_type_68 rfl (lv_at hl 3 rfl) ?_
          refine lv_iconst (v := nI 1) hx hb d_Mod_type_69 (by decide) ?_
          refine va_put (D := (dC, dI)) (ci := 1) (v := .int (nI 1)) (ty := .int) (C := R_Mod) (T := F_Mod) (N := 16) hx hb hts hin_Mod t_Mod t_Mod_ok n_Mod hown hK hP hD hS 0 rfl rfl 15 (by decide) (hts _ (nw_mc 62 rfl)) (fun _ h9 => h9) rfl (by decide +kernel) rfl rfl (Nat.le_of_ble_eq_true rfl) d_Mod_type_70 (fun H locs hP hD hS => ?_)
          replace hP : va_P (dC, dI) nw_cls [(hM, .inr (1, [.ref ai, .ref aw, .ref ar, .ref al, .ref aL, .ref aD, .ref ac, .ref af, .ref ap, .ref an, .ref ax, .int (nI isz), .int (nI wn), .int (nI chn), .int (nI rn), .int (nI 1)])), (ai, nw_ai cB 60 I)] H := hP
          replace hD : va_D A [(hM, .inr (1, [.ref ai, .ref aw, .ref ar, .ref al, .ref aL, .ref aD, .ref ac, .ref af, .ref ap, .ref an, .ref ax, .int (nI isz), .int (nI wn), .int (nI chn), .int (nI rn), .int (nI 1)])), (ai, nw_ai cB 60 I)] := hD
          refine lv_iload hx hb d_Mod_type_73 (lv_at hl 0 rfl) ?_
          refine lv_if_eq hx hb d_Mod_type_75 (tgt := 81) (by decide) (fun q9 => ?_) (fun q9 => ?_)
          · rw [nw_eq0 (by omega)] at q9
            rw [← nw_cnt_neg (f := fun i => b i ≠ 0) (n := k) (fun h => h q9)] at hl
            refine lv_iinc (v := nI (k + 1)) hx hb d_Mod_type_81 hl (k := 1) rfl (nI_add k 1) (by decide) rfl (fun ls hl => ?_)
            have hl : lv_has ls 8 [(6, .int (nI (k + 1))), (7, .int (nI (b k))), (5, .int (nI (nw_cnt (fun i => b i ≠ 0) (k + 1)))), (0, .ref hM), (1, .long x1), (3, .long x2)] := hl
            refine lv_goto hx hb d_Mod_type_84 (tgt := 11) (by decide) ?_
            exact ih1 (k + 1, 1) (⟨by omega, Or.inr ⟨rfl, k, by omega, hbadk⟩⟩) (show 16 - (k + 1) < 16 - k by omega) _ _ _ (lv_sub hl [0, 2, 3, 4, 5] rfl) hP hD hS
          · rw [nw_eq0 (by omega)] at q9
            refine lv_iinc (v := nI ((nw_cnt (fun i => b i ≠ 0) k) + 1)) hx hb d_Mod_type_78 hl (k := 2) rfl (nI_add (nw_cnt (fun i => b i ≠ 0) k) 1) (by decide) rfl (fun ls hl => ?_)
            have hl : lv_has ls 8 [(5, .int (nI ((nw_cnt (fun i => b i ≠ 0) k) + 1))), (7, .int (nI (b k))), (6, .int (nI k)), (0, .ref hM), (1, .long x1), (3, .long x2)] := hl
            rw [← nw_cnt_pos (f := fun i => b i ≠ 0) (n := k) q9] at hl
            have hl : lv_has ls 8 [(5, .int (nI (nw_cnt (fun i => b i ≠ 0) (k + 1)))), (7, .int (nI (b k))), (6, .int (nI k)), (0, .ref hM), (1, .long x1), (3, .long x2)] := hl
            refine lv_iinc (v := nI (k + 1)) hx hb d_Mod_type_81 hl (k := 2) rfl (nI_add k 1) (by decide) rfl (fun ls hl => ?_)
            have hl : lv_has ls 8 [(6, .int (nI (k + 1))), (5, .int (nI (nw_cnt (fun i => b i ≠ 0) (k + 1)))), (7, .int (nI (b k))), (0, .ref hM), (1, .long x1), (3, .long x2)] := hl
            refine lv_goto hx hb d_Mod_type_84 (tgt := 11) (by decide) ?_
            exact ih1 (k + 1, 1) (⟨by omega, Or.inr ⟨rfl, k, by omega, hbadk⟩⟩) (show 16 - (k + 1) < 16 - k by omega) _ _ _ (lv_sub hl [0, 1, 3, 4, 5] rfl) hP hD hS
        · rw [nI_ltI (by omega) (by omega)] at r2
          refine lv_iload hx hb d_Mod_type_61 (lv_at hl 0 rfl) ?_
          refine lv_bipush (v := nI 126) hx hb d_Mod_type_63 (by decide) ?_
          refine lv_icmp_le hx hb d_Mod_type_65 (tgt := 73) (by decide) (fun r3 => ?_) (fun r3 => ?_)
          · rw [nI_leI (by omega) (by omega)] at r3
            have hgood : ¬ (b k ≠ 0 ∧ (b k < 33 ∨ 126 < b k)) := fun h => by omega
            refine lv_iload hx hb d_Mod_type_73 (lv_at hl 0 rfl) ?_
            refine lv_if_eq hx hb d_Mod_type_75 (tgt := 81) (by decide) (fun q9 => ?_) (fun q9 => ?_)
            · rw [nw_eq0 (by omega)] at q9
              rw [← nw_cnt_neg (f := fun i => b i ≠ 0) (n := k) (fun h => h q9)] at hl
              refine lv_iinc (v := nI (k + 1)) hx hb d_Mod_type_81 hl (k := 1) rfl (nI_add k 1) (by decide) rfl (fun ls hl => ?_)
              have hl : lv_has ls 8 [(6, .int (nI (k + 1))), (7, .int (nI (b k))), (5, .int (nI (nw_cnt (fun i => b i ≠ 0) (k + 1)))), (0, .ref hM), (1, .long x1), (3, .long x2)] := hl
              refine lv_goto hx hb d_Mod_type_84 (tgt := 11) (by decide) ?_
              exact ih1 (k + 1, t) (⟨by omega, by
                rcases ht with ⟨h1, h2⟩ | ⟨h1, i, h2, h3⟩
                · refine Or.inl ⟨h1, fun i hi => ?_⟩
                  by_cases e : i = k
                  · rw [e]; exact hgood
                  · exact h2 i (by omega)
                · exact Or.inr ⟨h1, i, by omega, h3⟩⟩) (show 16 - (k + 1) < 16 - k by omega) _ _ _ (lv_sub hl [0, 2, 3, 4, 5] rfl) hP hD hS
            · rw [nw_eq0 (by omega)] at q9
              refine lv_iinc (v := nI ((nw_cnt (fun i => b i ≠ 0) k) + 1)) hx hb d_Mod_type_78 hl (k := 2) rfl (nI_add (nw_cnt (fun i => b i ≠ 0) k) 1) (by decide) rfl (fun ls hl => ?_)
              have hl : lv_has ls 8 [(5, .int (nI ((nw_cnt (fun i => b i ≠ 0) k) + 1))), (7, .int (nI (b k))), (6, .int (nI k)), (0, .ref hM), (1, .long x1), (3, .long x2)] := hl
              rw [← nw_cnt_pos (f := fun i => b i ≠ 0) (n := k) q9] at hl
              have hl : lv_has ls 8 [(5, .int (nI (nw_cnt (fun i => b i ≠ 0) (k + 1)))), (7, .int (nI (b k))), (6, .int (nI k)), (0, .ref hM), (1, .long x1), (3, .long x2)] := hl
              refine lv_iinc (v := nI (k + 1)) hx hb d_Mod_type_81 hl (k := 2) rfl (nI_add k 1) (by decide) rfl (fun ls hl => ?_)
              have hl : lv_has ls 8 [(6, .int (nI (k + 1))), (5, .int (nI (nw_cnt (fun i => b i ≠ 0) (k + 1)))), (7, .int (nI (b k))), (0, .ref hM), (1, .long x1), (3, .long x2)] := hl
              refine lv_goto hx hb d_Mod_type_84 (tgt := 11) (by decide) ?_
              exact ih1 (k + 1, t) (⟨by omega, by
                rcases ht with ⟨h1, h2⟩ | ⟨h1, i, h2, h3⟩
                · refine Or.inl ⟨h1, fun i hi => ?_⟩
                  by_cases e : i = k
                  · rw [e]; exact hgood
                  · exact h2 i (by omega)
                · exact Or.inr ⟨h1, i, by omega, h3⟩⟩) (show 16 - (k + 1) < 16 - k by omega) _ _ _ (lv_sub hl [0, 1, 3, 4, 5] rfl) hP hD hS
          · rw [nI_leI (by omega) (by omega)] at r3
            have hbadk : (b k ≠ 0 ∧ (b k < 33 ∨ 126 < b k)) := ⟨r1, Or.inr (by omega)⟩
            refine lv_aload_n hx hb d_Mod_type_68 rfl (lv_at hl 3 rfl) ?_
            refine lv_iconst (v := nI 1) hx hb d_Mod_type_69 (by decide) ?_
            refine va_put (D := (dC, dI)) (ci := 1) (v := .int (nI 1)) (ty := .int) (C := R_Mod) (T := F_Mod) (N := 16) hx hb hts hin_Mod t_Mod t_Mod_ok n_Mod hown hK hP hD hS 0 rfl rfl 15 (by decide) (hts _ (nw_mc 62 rfl)) (fun _ h9 => h9) rfl (by decide +kernel) rfl rfl (Nat.le_of_ble_eq_true rfl) d_Mod_type_70 (fun H locs hP hD hS => ?_)
            replace hP : va_P (dC, dI) nw_cls [(hM, .inr (1, [.ref ai, .ref aw, .ref ar, .ref al, .ref aL, .ref aD, .ref ac, .ref af, .ref ap, .ref an, .ref ax, .int (nI isz), .int (nI wn), .int (nI chn), .int (nI rn), .int (nI 1)])), (ai, nw_ai cB 60 I)] H := hP
            replace hD : va_D A [(hM, .inr (1, [.ref ai, .ref aw, .ref ar, .ref al, .ref aL, .ref aD, .ref ac, .ref af, .ref ap, .ref an, .ref ax, .int (nI isz), .int (nI wn), .int (nI chn), .int (nI rn), .int (nI 1)])), (ai, nw_ai cB 60 I)] := hD
            refine lv_iload hx hb d_Mod_type_73 (lv_at hl 0 rfl) ?_
            refine lv_if_eq hx hb d_Mod_type_75 (tgt := 81) (by decide) (fun q9 => ?_) (fun q9 => ?_)
            · rw [nw_eq0 (by omega)] at q9
              rw [← nw_cnt_neg (f := fun i => b i ≠ 0) (n := k) (fun h => h q9)] at hl
              refine lv_iinc (v := nI (k + 1)) hx hb d_Mod_type_81 hl (k := 1) rfl (nI_add k 1) (by decide) rfl (fun ls hl => ?_)
              have hl : lv_has ls 8 [(6, .int (nI (k + 1))), (7, .int (nI (b k))), (5, .int (nI (nw_cnt (fun i => b i ≠ 0) (k + 1)))), (0, .ref hM), (1, .long x1), (3, .long x2)] := hl
              refine lv_goto hx hb d_Mod_type_84 (tgt := 11) (by decide) ?_
              exact ih1 (k + 1, 1) (⟨by omega, Or.inr ⟨rfl, k, by omega, hbadk⟩⟩) (show 16 - (k + 1) < 16 - k by omega) _ _ _ (lv_sub hl [0, 2, 3, 4, 5] rfl) hP hD hS
            · rw [nw_eq0 (by omega)] at q9
              refine lv_iinc (v := nI ((nw_cnt (fun i => b i ≠ 0) k) + 1)) hx hb d_Mod_type_78 hl (k := 2) rfl (nI_add (nw_cnt (fun i => b i ≠ 0) k) 1) (by decide) rfl (fun ls hl => ?_)
              have hl : lv_has ls 8 [(5, .int (nI ((nw_cnt (fun i => b i ≠ 0) k) + 1))), (7, .int (nI (b k))), (6, .int (nI k)), (0, .ref hM), (1, .long x1), (3, .long x2)] := hl
              rw [← nw_cnt_pos (f := fun i => b i ≠ 0) (n := k) q9] at hl
              have hl : lv_has ls 8 [(5, .int (nI (nw_cnt (fun i => b i ≠ 0) (k + 1)))), (7, .int (nI (b k))), (6, .int (nI k)), (0, .ref hM), (1, .long x1), (3, .long x2)] := hl
              refine lv_iinc (v := nI (k + 1)) hx hb d_Mod_type_81 hl (k := 2) rfl (nI_add k 1) (by decide) rfl (fun ls hl => ?_)
              have hl : lv_has ls 8 [(6, .int (nI (k + 1))), (5, .int (nI (nw_cnt (fun i => b i ≠ 0) (k + 1)))), (7, .int (nI (b k))), (0, .ref hM), (1, .long x1), (3, .long x2)] := hl
              refine lv_goto hx hb d_Mod_type_84 (tgt := 11) (by decide) ?_
              exact ih1 (k + 1, 1) (⟨by omega, Or.inr ⟨rfl, k, by omega, hbadk⟩⟩) (show 16 - (k + 1) < 16 - k by omega) _ _ _ (lv_sub hl [0, 1, 3, 4, 5] rfl) hP hD hS

set_option maxHeartbeats 4000000 in
set_option maxRecDepth 100000 in
theorem c_Mod_type_full (l : Launch) (dC : Nat → ClassId) (dI : Nat → Nat → Nat) (sz : Nat) (cB : ClassId) (hM ai aw ar al aL aD ac af ap an ax isz wn chn rn th : Nat) (I : Nat → Nat) (x1 x2 : Int64) (b : Nat → Nat) (hb9 : b = (fun k => if k < 8 then nw_by x1 (56 - k % 8 * 8) else nw_by x2 (56 - k % 8 * 8))) (hn : isz ≤ 60) (hok : ∀ k, k < 16 → ¬ (b k ≠ 0 ∧ (b k < 33 ∨ 126 < b k))) (hfull : 60 < isz + nw_cnt (fun i => b i ≠ 0) 16) : Met l y_Mod_type w_Mod_type ({ frames := 0, cells := 0, slots := 0, locals := 0 }) (nw_Pw [.ref hM, .long x1, .long x2] (dC, dI) nw_cls [(cB, .byte)] [(hM, .inr (1, [.ref ai, .ref aw, .ref ar, .ref al, .ref aL, .ref aD, .ref ac, .ref af, .ref ap, .ref an, .ref ax, .int (nI isz), .int (nI wn), .int (nI chn), .int (nI rn), .int (nI th)])), (ai, nw_ai cB 60 I)] sz) (va_Qi (fun (r : Int32) (_ : Unit) => r = nI 0) (nw_B (dC, dI) nw_cls (va_A [(hM, .inr (1, [.ref ai, .ref aw, .ref ar, .ref al, .ref aL, .ref aD, .ref ac, .ref af, .ref ap, .ref an, .ref ax, .int (nI isz), .int (nI wn), .int (nI chn), .int (nI rn), .int (nI th)])), (ai, nw_ai cB 60 I)] sz) (fun _ : Unit => [(hM, .inr (1, [.ref ai, .ref aw, .ref ar, .ref al, .ref aL, .ref aD, .ref ac, .ref af, .ref ap, .ref an, .ref ax, .int (nI isz), .int (nI wn), .int (nI chn), .int (nI rn), .int (nI 2)])), (ai, nw_ai cB 60 I)])) (va_A [(hM, .inr (1, [.ref ai, .ref aw, .ref ar, .ref al, .ref aL, .ref aD, .ref ac, .ref af, .ref ap, .ref an, .ref ax, .int (nI isz), .int (nI wn), .int (nI chn), .int (nI rn), .int (nI th)])), (ai, nw_ai cB 60 I)] sz)) 0 0 (va_A [(hM, .inr (1, [.ref ai, .ref aw, .ref ar, .ref al, .ref aL, .ref aD, .ref ac, .ref af, .ref ap, .ref an, .ref ax, .int (nI isz), .int (nI wn), .int (nI chn), .int (nI rn), .int (nI th)])), (ai, nw_ai cB 60 I)] sz) := by
  refine Met.ofW (cc := b_Mod_type) (maxL := 8) (ret := (some .int)) (by decide) rfl ?_
  intro p e s m args below meth cd s₁ B hml hv0
  obtain ⟨rfl, hsz, hP, hK, hD0⟩ := hv0
  have hx := B.exec
  have hb := B.bytes
  have hr := B.returns
  have hts := atoms_spec (ws := w_Mod_type) B.pre
  have hown : s.vm.findClass R_Mod = some m.cls := findClass_of_methodNamed B.named
  have hlocks := B.notSynchronized
  subst hsz
  have hD := hD0.self (sz := s.heap.size)
  generalize hAe : va_A [(hM, .inr (1, [.ref ai, .ref aw, .ref ar, .ref al, .ref aL, .ref aD, .ref ac, .ref af, .ref ap, .ref an, .ref ax, .int (nI isz), .int (nI wn), .int (nI chn), .int (nI rn), .int (nI th)])), (ai, nw_ai cB 60 I)] s.heap.size = A at hD ⊢
  have hA : ∀ q : Nat, s.heap.size ≤ q → A q := fun q h => by rw [← hAe]; exact Or.inr h
  have hS : va_S A s.heap s.heap [] := va_S.rf
  have hl := lv_entry ([.ref hM, .long x1, .long x2]) (n := 8) (Nat.le_of_ble_eq_true rfl)
  rw [lg_entry_eq]
  generalize (lg_sl ([.ref hM, .long x1, .long x2]) ++ List.replicate (8 - (lg_sl ([.ref hM, .long x1, .long x2])).length) Slot.unset).toArray = ls at hl ⊢
  have hl : lv_has ls 8 [(0, .ref hM), (1, .long x1), (3, .long x2)] := hl
  have hbl : ∀ k, b k < 256 := fun k => by
    rw [hb9]; dsimp only
    split <;> exact nw_by_lt _ _
  refine lv_iconst (v := nI 0) hx hb d_Mod_type_0 (by decide) ?_
  refine lv_istore hx hb d_Mod_type_1 hl (by decide) rfl (fun ls hl => ?_)
  replace hl : lv_has ls 8 [(5, .int (nI 0)), (0, .ref hM), (1, .long x1), (3, .long x2)] := hl
  refine lv_aload_n hx hb d_Mod_type_3 rfl (lv_at hl 1 rfl) ?_
  refine lv_iconst (v := nI 0) hx hb d_Mod_type_4 (by decide) ?_
  refine va_put (D := (dC, dI)) (ci := 1) (v := .int (nI 0)) (ty := .int) (C := R_Mod) (T := F_Mod) (N := 16) hx hb hts hin_Mod t_Mod t_Mod_ok n_Mod hown hK hP hD hS 0 rfl rfl 15 (by decide) (hts _ (nw_mc 62 rfl)) (fun _ h9 => h9) rfl (by decide +kernel) rfl rfl (Nat.le_of_ble_eq_true rfl) d_Mod_type_5 (fun H locs hP hD hS => ?_)
  replace hP : va_P (dC, dI) nw_cls [(hM, .inr (1, [.ref ai, .ref aw, .ref ar, .ref al, .ref aL, .ref aD, .ref ac, .ref af, .ref ap, .ref an, .ref ax, .int (nI isz), .int (nI wn), .int (nI chn), .int (nI rn), .int (nI 0)])), (ai, nw_ai cB 60 I)] H := hP
  replace hD : va_D A [(hM, .inr (1, [.ref ai, .ref aw, .ref ar, .ref al, .ref aL, .ref aD, .ref ac, .ref af, .ref ap, .ref an, .ref ax, .int (nI isz), .int (nI wn), .int (nI chn), .int (nI rn), .int (nI 0)])), (ai, nw_ai cB 60 I)] := hD
  refine lv_iconst (v := nI 0) hx hb d_Mod_type_8 (by decide) ?_
  refine lv_istore hx hb d_Mod_type_9 hl (by decide) rfl (fun ls hl => ?_)
  replace hl : lv_has ls 8 [(6, .int (nI 0)), (5, .int (nI 0)), (0, .ref hM), (1, .long x1), (3, .long x2)] := hl
  refine nw_loopW (σ := Nat × Nat) (fun x => match x with | (k, t) => k ≤ 16 ∧ ((t = 0 ∧ ∀ i, i < k → ¬ (b i ≠ 0 ∧ (b i < 33 ∨ 126 < b i))) ∨ (t = 1 ∧ ∃ i, i < k ∧ (b i ≠ 0 ∧ (b i < 33 ∨ 126 < b i))))) (fun x => match x with | (k, t) => [(6, .int (nI k)), (5, .int (nI (nw_cnt (fun i => b i ≠ 0) k))), (0, .ref hM), (1, .long x1), (3, .long x2)]) (fun x => match x with | (k, t) => [(hM, .inr (1, [.ref ai, .ref aw, .ref ar, .ref al, .ref aL, .ref aD, .ref ac, .ref af, .ref ap, .ref an, .ref ax, .int (nI isz), .int (nI wn), .int (nI chn), .int (nI rn), .int (nI t)])), (ai, nw_ai cB 60 I)]) (fun x => match x with | (k, t) => 16 - k) (fun x hA1 ih1 ls H locs hl hP hD hS => ?_) (0, 0) (⟨Nat.zero_le _, Or.inl ⟨rfl, fun i h => absurd h (Nat.not_lt_zero i)⟩⟩) hl hP hD hS
  obtain ⟨k, t⟩ := x
  replace hA1 : k ≤ 16 ∧ ((t = 0 ∧ ∀ i, i < k → ¬ (b i ≠ 0 ∧ (b i < 33 ∨ 126 < b i))) ∨ (t = 1 ∧ ∃ i, i < k ∧ (b i ≠ 0 ∧ (b i < 33 ∨ 126 < b i)))) := hA1
  replace hl : lv_has ls 8 [(6, .int (nI k)), (5, .int (nI (nw_cnt (fun i => b i ≠ 0) k))), (0, .ref hM), (1, .long x1), (3, .long x2)] := hl
  replace hP : va_P (dC, dI) nw_cls [(hM, .inr (1, [.ref ai, .ref aw, .ref ar, .ref al, .ref aL, .ref aD, .ref ac, .ref af, .ref ap, .ref an, .ref ax, .int (nI isz), .int (nI wn), .int (nI chn), .int (nI rn), .int (nI t)])), (ai, nw_ai cB 60 I)] H := hP
  replace hD : va_D A [(hM, .inr (1, [.ref ai, .ref aw, .ref ar, .ref al, .ref aL, .ref aD, .ref ac, .ref af, .ref ap, .ref an, .ref ax, .int (nI isz), .int (nI wn), .int (nI chn), .int (nI rn), .int (nI t)])), (ai, nw_ai cB 60 I)] := hD
  obtain ⟨hk, ht⟩ := hA1
  have hcn := nw_cnt_le (fun i => b i ≠ 0) k
  have hbk := hbl k
  refine lv_iload hx hb d_Mod_type_11 (lv_at hl 0 rfl) ?_
  refine lv_bipush (v := nI 16) hx hb d_Mod_type_13 (by decide) ?_
  refine lv_icmp_ge hx hb d_Mod_type_15 (tgt := 87) (by decide) (fun q7 => ?_) (fun q7 => ?_)
  · rw [nI_leI (by omega) (by omega)] at q7
    have hk9 : k = 16 := by omega
    rw [hk9] at hl ht hcn
    have hl : lv_has ls 8 [(6, .int (nI 16)), (5, .int (nI (nw_cnt (fun i => b i ≠ 0) 16))), (0, .ref hM), (1, .long x1), (3, .long x2)] := hl
    obtain ⟨ht0, hz⟩ | ⟨ht0, hz⟩ := ht
    · rw [ht0] at hP hD
      refine lv_aload_n hx hb d_Mod_type_87 rfl (lv_at hl 2 rfl) ?_
      refine va_get (D := (dC, dI)) (ci := 1) (v := .int (nI 0)) (C := R_Mod) (T := F_Mod) (N := 16) hx hb hts hin_Mod hown hK hP 0 rfl rfl 15 (by decide) (hts _ (nw_mc 62 rfl)) (fun _ h9 => h9) rfl d_Mod_type_88 ?_
      refine lv_if_ne hx hb d_Mod_type_91 (tgt := 111) (by decide) (fun s1 => ?_) (fun s1 => ?_)
      · rw [nw_eq0 (by omega)] at s1
        omega
      · rw [nw_eq0 (by omega)] at s1
        refine lv_aload_n hx hb d_Mod_type_94 rfl (lv_at hl 2 rfl) ?_
        refine va_get (D := (dC, dI)) (ci := 1) (v := .int (nI isz)) (C := R_Mod) (T := F_Mod) (N := 16) hx hb hts hin_Mod hown hK hP 0 rfl rfl 11 (by decide) (hts _ (nw_mc 63 rfl)) (fun _ h9 => h9) rfl d_Mod_type_95 ?_
        refine lv_iload hx hb d_Mod_type_98 (lv_at hl 1 rfl) ?_
        refine lv_iadd hx hb d_Mod_type_100 ?_
        refine nw_ti (nI_add isz (nw_cnt (fun i => b i ≠ 0) 16)) ?_
        refine lv_bipush (v := nI 60) hx hb d_Mod_type_101 (by decide) ?_
        refine lv_icmp_le hx hb d_Mod_type_103 (tgt := 111) (by decide) (fun s2 => ?_) (fun s2 => ?_)
        · rw [nI_leI (by omega) (by omega)] at s2
          omega
        · rw [nI_leI (by omega) (by omega)] at s2
          refine lv_aload_n hx hb d_Mod_type_106 rfl (lv_at hl 2 rfl) ?_
          refine lv_iconst (v := nI 2) hx hb d_Mod_type_107 (by decide) ?_
          refine va_put (D := (dC, dI)) (ci := 1) (v := .int (nI 2)) (ty := .int) (C := R_Mod) (T := F_Mod) (N := 16) hx hb hts hin_Mod t_Mod t_Mod_ok n_Mod hown hK hP hD hS 0 rfl rfl 15 (by decide) (hts _ (nw_mc 62 rfl)) (fun _ h9 => h9) rfl (by decide +kernel) rfl rfl (Nat.le_of_ble_eq_true rfl) d_Mod_type_108 (fun H locs hP hD hS => ?_)
          replace hP : va_P (dC, dI) nw_cls [(hM, .inr (1, [.ref ai, .ref aw, .ref ar, .ref al, .ref aL, .ref aD, .ref ac, .ref af, .ref ap, .ref an, .ref ax, .int (nI isz), .int (nI wn), .int (nI chn), .int (nI rn), .int (nI 2)])), (ai, nw_ai cB 60 I)] H := hP
          replace hD : va_D A [(hM, .inr (1, [.ref ai, .ref aw, .ref ar, .ref al, .ref aL, .ref aD, .ref ac, .ref af, .ref ap, .ref an, .ref ax, .int (nI isz), .int (nI wn), .int (nI chn), .int (nI rn), .int (nI 2)])), (ai, nw_ai cB 60 I)] := hD
          refine lv_aload_n hx hb d_Mod_type_111 rfl (lv_at hl 2 rfl) ?_
          refine va_get (D := (dC, dI)) (ci := 1) (v := .int (nI 2)) (C := R_Mod) (T := F_Mod) (N := 16) hx hb hts hin_Mod hown hK hP 0 rfl rfl 15 (by decide) (hts _ (nw_mc 62 rfl)) (fun _ h9 => h9) rfl d_Mod_type_112 ?_
          refine lv_if_eq hx hb d_Mod_type_115 (tgt := 120) (by decide) (fun s3 => ?_) (fun s3 => ?_)
          · rw [nw_eq0 (by omega)] at s3
            omega
          · rw [nw_eq0 (by omega)] at s3
            refine lv_iconst (v := nI 0) hx hb d_Mod_type_118 (by decide) ?_
            exact W.iret (v := nI 0) hx hb hr (fun t ht hW => ⟨⟨_, (), rfl, rfl, by rw [ht]; exact hP, hD⟩, hS.F ht⟩) hS.2.2 d_Mod_type_119
    · exact absurd hz (fun ⟨i, h1, h2⟩ => hok i h1 h2)
  · rw [nI_leI (by omega) (by omega)] at q7
    refine lv_iload hx hb d_Mod_type_18 (lv_at hl 0 rfl) ?_
    refine lv_bipush (v := nI 8) hx hb d_Mod_type_20 (by decide) ?_
    refine lv_icmp_ge hx hb d_Mod_type_22 (tgt := 29) (by decide) (fun q8 => ?_) (fun q8 => ?_)
    · rw [nI_leI (by omega) (by omega)] at q8
      refine lv_lload_n hx hb d_Mod_type_29 rfl (lv_at hl 4 rfl) ?_
      refine lv_bipush (v := nI 56) hx hb d_Mod_type_30 (by decide) ?_
      refine lv_iload hx hb d_Mod_type_32 (lv_at hl 0 rfl) ?_
      refine lv_bipush (v := nI 8) hx hb d_Mod_type_34 (by decide) ?_
      refine lv_irem hx hb d_Mod_type_36 (by decide) ?_
      refine nw_ti (pk_rem (a := k) (d := 8) (by omega) (by decide) (by decide)) ?_
      refine lv_bipush (v := nI 8) hx hb d_Mod_type_37 (by decide) ?_
      refine lv_imul hx hb d_Mod_type_39 ?_
      refine nw_ti (pk_mul (k % 8) 8) ?_
      refine lv_isub hx hb d_Mod_type_40 ?_
      refine nw_ti (pk_sub (a := 56) (b := ((k % 8) * 8)) (by omega)) ?_
      refine nw_ti (y := nI (56 - k % 8 * 8)) (congrArg nI (show 56 - ((k % 8) * 8) = 56 - k % 8 * 8 by omega)) ?_
      refine lv_lushr (v := (x2.toUInt64 >>> ((nI (56 - k % 8 * 8)).toInt64.toUInt64 &&& Int64.toUInt64 63)).toInt64) hx hb d_Mod_type_41 (rfl) ?_
      refine lv_l2i (v := (x2.toUInt64 >>> ((nI (56 - k % 8 * 8)).toInt64.toUInt64 &&& Int64.toUInt64 63)).toInt64.toInt32) hx hb d_Mod_type_42 (rfl) ?_
      refine lv_sipush (v := nI 255) hx hb d_Mod_type_43 (by decide) ?_
      refine lv_iand hx hb d_Mod_type_46 ?_
      refine nw_ti (y := nI (b k)) ((nw_byte x2 (sh := 56 - k % 8 * 8) (by omega)).trans (congrArg nI (by rw [hb9]; exact (if_neg (by omega)).symm))) ?_
      refine lv_istore hx hb d_Mod_type_47 hl (by decide) rfl (fun ls hl => ?_)
      replace hl : lv_has ls 8 [(7, .int (nI (b k))), (6, .int (nI k)), (5, .int (nI (nw_cnt (fun i => b i ≠ 0) k))), (0, .ref hM), (1, .long x1), (3, .long x2)] := hl
      refine lv_iload hx hb d_Mod_type_49 (lv_at hl 0 rfl) ?_
      refine lv_if_eq hx hb d_Mod_type_51 (tgt := 73) (by decide) (fun r1 => ?_) (fun r1 => ?_)
      · rw [nw_eq0 (by omega)] at r1
        have hgood : ¬ (b k ≠ 0 ∧ (b k < 33 ∨ 126 < b k)) := fun h => h.1 r1
        refine lv_iload hx hb d_Mod_type_73 (lv_at hl 0 rfl) ?_
        refine lv_if_eq hx hb d_Mod_type_75 (tgt := 81) (by decide) (fun q9 => ?_) (fun q9 => ?_)
        · rw [nw_eq0 (by omega)] at q9
          rw [← nw_cnt_neg (f := fun i => b i ≠ 0) (n := k) (fun h => h q9)] at hl
          refine lv_iinc (v := nI (k + 1)) hx hb d_Mod_type_81 hl (k := 1) rfl (nI_add k 1) (by decide) rfl (fun ls hl => ?_)
          have hl : lv_has ls 8 [(6, .int (nI (k + 1))), (7, .int (nI (b k))), (5, .int (nI (nw_cnt (fun i => b i ≠ 0) (k + 1)))), (0, .ref hM), (1, .long x1), (3, .long x2)] := hl
          refine lv_goto hx hb d_Mod_type_84 (tgt := 11) (by decide) ?_
          exact ih1 (k + 1, t) (⟨by omega, by
            rcases ht with ⟨h1, h2⟩ | ⟨h1, i, h2, h3⟩
            · refine Or.inl ⟨h1, fun i hi => ?_⟩
              by_cases e : i = k
              · rw [e]; exact hgood
              · exact h2 i (by omega)
            · exact Or.inr ⟨h1, i, by omega, h3⟩⟩) (show 16 - (k + 1) < 16 - k by omega) _ _ _ (lv_sub hl [0, 2, 3, 4, 5] rfl) hP hD hS
        · rw [nw_eq0 (by omega)] at q9
          refine lv_iinc (v := nI ((nw_cnt (fun i => b i ≠ 0) k) + 1)) hx hb d_Mod_type_78 hl (k := 2) rfl (nI_add (nw_cnt (fun i => b i ≠ 0) k) 1) (by decide) rfl (fun ls hl => ?_)
          have hl : lv_has ls 8 [(5, .int (nI ((nw_cnt (fun i => b i ≠ 0) k) + 1))), (7, .int (nI (b k))), (6, .int (nI k)), (0, .ref hM), (1, .long x1), (3, .long x2)] := hl
          rw [← nw_cnt_pos (f := fun i => b i ≠ 0) (n := k) q9] at hl
          have hl : lv_has ls 8 [(5, .int (nI (nw_cnt (fun i => b i ≠ 0) (k + 1)))), (7, .int (nI (b k))), (6, .int (nI k)), (0, .ref hM), (1, .long x1), (3, .long x2)] := hl
          refine lv_iinc (v := nI (k + 1)) hx hb d_Mod_type_81 hl (k := 2) rfl (nI_add k 1) (by decide) rfl (fun ls hl => ?_)
          have hl : lv_has ls 8 [(6, .int (nI (k + 1))), (5, .int (nI (nw_cnt (fun i => b i ≠ 0) (k + 1)))), (7, .int (nI (b k))), (0, .ref hM), (1, .long x1), (3, .long x2)] := hl
          refine lv_goto hx hb d_Mod_type_84 (tgt := 11) (by decide) ?_
          exact ih1 (k + 1, t) (⟨by omega, by
            rcases ht with ⟨h1, h2⟩ | ⟨h1, i, h2, h3⟩
            · refine Or.inl ⟨h1, fun i hi => ?_⟩
              by_cases e : i = k
              · rw [e]; exact hgood
              · exact h2 i (by omega)
            · exact Or.inr ⟨h1, i, by omega, h3⟩⟩) (show 16 - (k + 1) < 16 - k by omega) _ _ _ (lv_sub hl [0, 1, 3, 4, 5] rfl) hP hD hS
      · rw [nw_eq0 (by omega)] at r1
        refine lv_iload hx hb d_Mod_type_54 (lv_at hl 0 rfl) ?_
        refine lv_bipush (v := nI 33) hx hb d_Mod_type_56 (by decide) ?_
        refine lv_icmp_lt hx hb d_Mod_type_58 (tgt := 68) (by decide) (fun r2 => ?_) (fun r2 => ?_)
        · rw [nI_ltI (by omega) (by omega)] at r2
          have hbadk : (b k ≠ 0 ∧ (b k < 33 ∨ 126 < b k)) := ⟨r1, Or.inl r2⟩
          refine lv_aload_n hx hb d_Mod_type_68 rfl (lv_at hl 3 rfl) ?_
          refine lv_iconst (v := nI 1) hx hb d_Mod_type_69 (by decide) ?_
          refine va_put (D := (dC, dI)) (ci := 1) (v := .int (nI 1)) (ty := .int) (C := R_Mod) (T := F_Mod) (N := 16) hx hb hts hin_Mod t_Mod t_Mod_ok n_Mod hown hK hP hD hS 0 rfl rfl 15 (by decide) (hts _ (nw_mc 62 rfl)) (fun _ h9 => h9) rfl (by decide +kernel) rfl rfl (Nat.le_of_ble_eq_true rfl) d_Mod_type_70 (fun H locs hP hD hS => ?_)
          replace hP : va_P (dC, dI) nw_cls [(hM, .inr (1, [.ref ai, .ref aw, .ref ar, .ref al, .ref aL, .ref aD, .ref ac, .ref af, .ref ap, .ref an, .ref ax, .int (nI isz), .int (nI wn), .int (nI chn), .int (nI rn), .int (nI 1)])), (ai, nw_ai cB 60 I)] H := hP
          replace hD : va_D A [(hM, .inr (1, [.ref ai, .ref aw, .ref ar, .ref al, .ref aL, .ref aD, .ref ac, .ref af, .ref ap, .ref an, .ref ax, .int (nI isz), .int (nI wn), .int (nI chn), .int (nI rn), .int (nI 1)])), (ai, nw_ai cB 60 I)] := hD
          refine lv_iload hx hb d_Mod_type_73 (lv_at hl 0 rfl) ?_
          refine lv_if_eq hx hb d_Mod_type_75 (tgt := 81) (by decide) (fun q9 => ?_) (fun q9 => ?_)
          · rw [nw_eq0 (by omega)] at q9
            rw [← nw_cnt_neg (f := fun i => b i ≠ 0) (n := k) (fun h => h q9)] at hl
            refine lv_iinc (v := nI (k + 1)) hx hb d_Mod_type_81 hl (k := 1) rfl (nI_add k 1) (by decide) rfl (fun ls hl => ?_)
            have hl : lv_has ls 8 [(6, .int (nI (k + 1))), (7, .int (nI (b k))), (5, .int (nI (nw_cnt (fun i => b i ≠ 0) (k + 1)))), (0, .ref hM), (1, .long x1), (3, .long x2)] := hl
            refine lv_goto hx hb d_Mod_type_84 (tgt := 11) (by decide) ?_
            exact ih1 (k + 1, 1) (⟨by omega, Or.inr ⟨rfl, k, by omega, hbadk⟩⟩) (show 16 - (k + 1) < 16 - k by omega) _ _ _ (lv_sub hl [0, 2, 3, 4, 5] rfl) hP hD hS
          · rw [nw_eq0 (by omega)] at q9
            refine lv_iinc (v := nI ((nw_cnt (fun i => b i ≠ 0) k) + 1)) hx hb d_Mod_type_78 hl (k := 2) rfl (nI_add (nw_cnt (fun i => b i ≠ 0) k) 1) (by decide) rfl (fun ls hl => ?_)
            have hl : lv_has ls 8 [(5, .int (nI ((nw_cnt (fun i => b i ≠ 0) k) + 1))), (7, .int (nI (b k))), (6, .int (nI k)), (0, .ref hM), (1, .long x1), (3, .long x2)] := hl
            rw [← nw_cnt_pos (f := fun i => b i ≠ 0) (n := k) q9] at hl
            have hl : lv_has ls 8 [(5, .int (nI (nw_cnt (fun i => b i ≠ 0) (k + 1)))), (7, .int (nI (b k))), (6, .int (nI k)), (0, .ref hM), (1, .long x1), (3, .long x2)] := hl
            refine lv_iinc (v := nI (k + 1)) hx hb d_Mod_type_81 hl (k := 2) rfl (nI_add k 1) (by decide) rfl (fun ls hl => ?_)
            have hl : lv_has ls 8 [(6, .int (nI (k + 1))), (5, .int (nI (nw_cnt (fun i => b i ≠ 0) (k + 1)))), (7, .int (nI (b k))), (0, .ref hM), (1, .long x1), (3, .long x2)] := hl
            refine lv_goto hx hb d_Mod_type_84 (tgt := 11) (by decide) ?_
            exact ih1 (k + 1, 1) (⟨by omega, Or.inr ⟨rfl, k, by omega, hbadk⟩⟩) (show 16 - (k + 1) < 16 - k by omega) _ _ _ (lv_sub hl [0, 1, 3, 4, 5] rfl) hP hD hS
        · rw [nI_ltI (by omega) (by omega)] at r2
          refine lv_iload hx hb d_Mod_type_61 (lv_at hl 0 rfl) ?_
          refine lv_bipush (v := nI 126) hx hb d_Mod_type_63 (by decide) ?_
          refine lv_icmp_le hx hb d_Mod_type_65 (tgt := 73) (by decide) (fun r3 => ?_) (fun r3 => ?_)
          · rw [nI_leI (by omega) (by omega)] at r3
            have hgood : ¬ (b k ≠ 0 ∧ (b k < 33 ∨ 126 < b k)) := fun h => by omega
            refine lv_iload hx hb d_Mod_type_73 (lv_at hl 0 rfl) ?_
            refine lv_if_eq hx hb d_Mod_type_75 (tgt := 81) (by decide) (fun q9 => ?_) (fun q9 => ?_)
            · rw [nw_eq0 (by omega)] at q9
              rw [← nw_cnt_neg (f := fun i => b i ≠ 0) (n := k) (fun h => h q9)] at hl
              refine lv_iinc (v := nI (k + 1)) hx hb d_Mod_type_81 hl (k := 1) rfl (nI_add k 1) (by decide) rfl (fun ls hl => ?_)
              have hl : lv_has ls 8 [(6, .int (nI (k + 1))), (7, .int (nI (b k))), (5, .int (nI (nw_cnt (fun i => b i ≠ 0) (k + 1)))), (0, .ref hM), (1, .long x1), (3, .long x2)] := hl
              refine lv_goto hx hb d_Mod_type_84 (tgt := 11) (by decide) ?_
              exact ih1 (k + 1, t) (⟨by omega, by
                rcases ht with ⟨h1, h2⟩ | ⟨h1, i, h2, h3⟩
                · refine Or.inl ⟨h1, fun i hi => ?_⟩
                  by_cases e : i = k
                  · rw [e]; exact hgood
                  · exact h2 i (by omega)
                · exact Or.inr ⟨h1, i, by omega, h3⟩⟩) (show 16 - (k + 1) < 16 - k by omega) _ _ _ (lv_sub hl [0, 2, 3, 4, 5] rfl) hP hD hS
            · rw [nw_eq0 (by omega)] at q9
              refine lv_iinc (v := nI ((nw_cnt (fun i => b i ≠ 0) k) + 1)) hx hb d_Mod_type_78 hl (k := 2) rfl (nI_add (nw_cnt (fun i => b i ≠ 0) k) 1) (by decide) rfl (fun ls hl => ?_)
              have hl : lv_has ls 8 [(5, .int (nI ((nw_cnt (fun i => b i ≠ 0) k) + 1))), (7, .int (nI (b k))), (6, .int (nI k)), (0, .ref hM), (1, .long x1), (3, .long x2)] := hl
              rw [← nw_cnt_pos (f := fun i => b i ≠ 0) (n := k) q9] at hl
              have hl : lv_has ls 8 [(5, .int (nI (nw_cnt (fun i => b i ≠ 0) (k + 1)))), (7, .int (nI (b k))), (6, .int (nI k)), (0, .ref hM), (1, .long x1), (3, .long x2)] := hl
              refine lv_iinc (v := nI (k + 1)) hx hb d_Mod_type_81 hl (k := 2) rfl (nI_add k 1) (by decide) rfl (fun ls hl => ?_)
              have hl : lv_has ls 8 [(6, .int (nI (k + 1))), (5, .int (nI (nw_cnt (fun i => b i ≠ 0) (k + 1)))), (7, .int (nI (b k))), (0, .ref hM), (1, .long x1), (3, .long x2)] := hl
              refine lv_goto hx hb d_Mod_type_84 (tgt := 11) (by decide) ?_
              exact ih1 (k + 1, t) (⟨by omega, by
                rcases ht with ⟨h1, h2⟩ | ⟨h1, i, h2, h3⟩
                · refine Or.inl ⟨h1, fun i hi => ?_⟩
                  by_cases e : i = k
                  · rw [e]; exact hgood
                  · exact h2 i (by omega)
                · exact Or.inr ⟨h1, i, by omega, h3⟩⟩) (show 16 - (k + 1) < 16 - k by omega) _ _ _ (lv_sub hl [0, 1, 3, 4, 5] rfl) hP hD hS
          · rw [nI_leI (by omega) (by omega)] at r3
            have hbadk : (b k ≠ 0 ∧ (b k < 33 ∨ 126 < b k)) := ⟨r1, Or.inr (by omega)⟩
            refine lv_aload_n hx hb d_Mod_type_68 rfl (lv_at hl 3 rfl) ?_
            refine lv_iconst (v := nI 1) hx hb d_Mod_type_69 (by decide) ?_
            refine va_put (D := (dC, dI)) (ci := 1) (v := .int (nI 1)) (ty := .int) (C := R_Mod) (T := F_Mod) (N := 16) hx hb hts hin_Mod t_Mod t_Mod_ok n_Mod hown hK hP hD hS 0 rfl rfl 15 (by decide) (hts _ (nw_mc 62 rfl)) (fun _ h9 => h9) rfl (by decide +kernel) rfl rfl (Nat.le_of_ble_eq_true rfl) d_Mod_type_70 (fun H locs hP hD hS => ?_)
            replace hP : va_P (dC, dI) nw_cls [(hM, .inr (1, [.ref ai, .ref aw, .ref ar, .ref al, .ref aL, .ref aD, .ref ac, .ref af, .ref ap, .ref an, .ref ax, .int (nI isz), .int (nI wn), .int (nI chn), .int (nI rn), .int (nI 1)])), (ai, nw_ai cB 60 I)] H := hP
            replace hD : va_D A [(hM, .inr (1, [.ref ai, .ref aw, .ref ar, .ref al, .ref aL, .ref aD, .ref ac, .ref af, .ref ap, .ref an, .ref ax, .int (nI isz), .int (nI wn), .int (nI chn), .int (nI rn), .int (nI 1)])), (ai, nw_ai cB 60 I)] := hD
            refine lv_iload hx hb d_Mod_type_73 (lv_at hl 0 rfl) ?_
            refine lv_if_eq hx hb d_Mod_type_75 (tgt := 81) (by decide) (fun q9 => ?_) (fun q9 => ?_)
            · rw [nw_eq0 (by omega)] at q9
              rw [← nw_cnt_neg (f := fun i => b i ≠ 0) (n := k) (fun h => h q9)] at hl
              refine lv_iinc (v := nI (k + 1)) hx hb d_Mod_type_81 hl (k := 1) rfl (nI_add k 1) (by decide) rfl (fun ls hl => ?_)
              have hl : lv_has ls 8 [(6, .int (nI (k + 1))), (7, .int (nI (b k))), (5, .int (nI (nw_cnt (fun i => b i ≠ 0) (k + 1)))), (0, .ref hM), (1, .long x1), (3, .long x2)] := hl
              refine lv_goto hx hb d_Mod_type_84 (tgt := 11) (by decide) ?_
              exact ih1 (k + 1, 1) (⟨by omega, Or.inr ⟨rfl, k, by omega, hbadk⟩⟩) (show 16 - (k + 1) < 16 - k by omega) _ _ _ (lv_sub hl [0, 2, 3, 4, 5] rfl) hP hD hS
            · rw [nw_eq0 (by omega)] at q9
              refine lv_iinc (v := nI ((nw_cnt (fun i => b i ≠ 0) k) + 1)) hx hb d_Mod_type_78 hl (k := 2) rfl (nI_add (nw_cnt (fun i => b i ≠ 0) k) 1) (by decide) rfl (fun ls hl => ?_)
              have hl : lv_has ls 8 [(5, .int (nI ((nw_cnt (fun i => b i ≠ 0) k) + 1))), (7, .int (nI (b k))), (6, .int (nI k)), (0, .ref hM), (1, .long x1), (3, .long x2)] := hl
              rw [← nw_cnt_pos (f := fun i => b i ≠ 0) (n := k) q9] at hl
              have hl : lv_has ls 8 [(5, .int (nI (nw_cnt (fun i => b i ≠ 0) (k + 1)))), (7, .int (nI (b k))), (6, .int (nI k)), (0, .ref hM), (1, .long x1), (3, .long x2)] := hl
              refine lv_iinc (v := nI (k + 1)) hx hb d_Mod_type_81 hl (k := 2) rfl (nI_add k 1) (by decide) rfl (fun ls hl => ?_)
              have hl : lv_has ls 8 [(6, .int (nI (k + 1))), (5, .int (nI (nw_cnt (fun i => b i ≠ 0) (k + 1)))), (7, .int (nI (b k))), (0, .ref hM), (1, .long x1), (3, .long x2)] := hl
              refine lv_goto hx hb d_Mod_type_84 (tgt := 11) (by decide) ?_
              exact ih1 (k + 1, 1) (⟨by omega, Or.inr ⟨rfl, k, by omega, hbadk⟩⟩) (show 16 - (k + 1) < 16 - k by omega) _ _ _ (lv_sub hl [0, 1, 3, 4, 5] rfl) hP hD hS
    · rw [nI_leI (by omega) (by omega)] at q8
      refine lv_lload_n hx hb d_Mod_type_25 rfl (lv_at hl 3 rfl) ?_
      refine lv_goto hx hb d_Mod_type_26 (tgt := 30) (by decide) ?_
      refine lv_bipush (v := nI 56) hx hb d_Mod_type_30 (by decide) ?_
      refine lv_iload hx hb d_Mod_type_32 (lv_at hl 0 rfl) ?_
      refine lv_bipush (v := nI 8) hx hb d_Mod_type_34 (by decide) ?_
      refine lv_irem hx hb d_Mod_type_36 (by decide) ?_
      refine nw_ti (pk_rem (a := k) (d := 8) (by omega) (by decide) (by decide)) ?_
      refine lv_bipush (v := nI 8) hx hb d_Mod_type_37 (by decide) ?_
      refine lv_imul hx hb d_Mod_type_39 ?_
      refine nw_ti (pk_mul (k % 8) 8) ?_
      refine lv_isub hx hb d_Mod_type_40 ?_
      refine nw_ti (pk_sub (a := 56) (b := ((k % 8) * 8)) (by omega)) ?_
      refine nw_ti (y := nI (56 - k % 8 * 8)) (congrArg nI (show 56 - ((k % 8) * 8) = 56 - k % 8 * 8 by omega)) ?_
      refine lv_lushr (v := (x1.toUInt64 >>> ((nI (56 - k % 8 * 8)).toInt64.toUInt64 &&& Int64.toUInt64 63)).toInt64) hx hb d_Mod_type_41 (rfl) ?_
      refine lv_l2i (v := (x1.toUInt64 >>> ((nI (56 - k % 8 * 8)).toInt64.toUInt64 &&& Int64.toUInt64 63)).toInt64.toInt32) hx hb d_Mod_type_42 (rfl) ?_
      refine lv_sipush (v := nI 255) hx hb d_Mod_type_43 (by decide) ?_
      refine lv_iand hx hb d_Mod_type_46 ?_
      refine nw_ti (y := nI (b k)) ((nw_byte x1 (sh := 56 - k % 8 * 8) (by omega)).trans (congrArg nI (by rw [hb9]; exact (if_pos (by omega)).symm))) ?_
      refine lv_istore hx hb d_Mod_type_47 hl (by decide) rfl (fun ls hl => ?_)
      replace hl : lv_has ls 8 [(7, .int (nI (b k))), (6, .int (nI k)), (5, .int (nI (nw_cnt (fun i => b i ≠ 0) k))), (0, .ref hM), (1, .long x1), (3, .long x2)] := hl
      refine lv_iload hx hb d_Mod_type_49 (lv_at hl 0 rfl) ?_
      refine lv_if_eq hx hb d_Mod_type_51 (tgt := 73) (by decide) (fun r1 => ?_) (fun r1 => ?_)
      · rw [nw_eq0 (by omega)] at r1
        have hgood : ¬ (b k ≠ 0 ∧ (b k < 33 ∨ 126 < b k)) := fun h => h.1 r1
        refine lv_iload hx hb d_Mod_type_73 (lv_at hl 0 rfl) ?_
        refine lv_if_eq hx hb d_Mod_type_75 (tgt := 81) (by decide) (fun q9 => ?_) (fun q9 => ?_)
        · rw [nw_eq0 (by omega)] at q9
          rw [← nw_cnt_neg (f := fun i => b i ≠ 0) (n := k) (fun h => h q9)] at hl
          refine lv_iinc (v := nI (k + 1)) hx hb d_Mod_type_81 hl (k := 1) rfl (nI_add k 1) (by decide) rfl (fun ls hl => ?_)
          have hl : lv_has ls 8 [(6, .int (nI (k + 1))), (7, .int (nI (b k))), (5, .int (nI (nw_cnt (fun i => b i ≠ 0) (k + 1)))), (0, .ref hM), (1, .long x1), (3, .long x2)] := hl
          refine lv_goto hx hb d_Mod_type_84 (tgt := 11) (by decide) ?_
          exact ih1 (k + 1, t) (⟨by omega, by
            rcases ht with ⟨h1, h2⟩ | ⟨h1, i, h2, h3⟩
            · refine Or.inl ⟨h1, fun i hi => ?_⟩
              by_cases e : i = k
              · rw [e]; exact hgood
              · exact h2 i (by omega)
            · exact Or.inr ⟨h1, i, by omega, h3⟩⟩) (show 16 - (k + 1) < 16 - k by omega) _ _ _ (lv_sub hl [0, 2, 3, 4, 5] rfl) hP hD hS
        · rw [nw_eq0 (by omega)] at q9
          refine lv_iinc (v := nI ((nw_cnt (fun i => b i ≠ 0) k) + 1)) hx hb d_Mod_type_78 hl (k := 2) rfl (nI_add (nw_cnt (fun i => b i ≠ 0) k) 1) (by decide) rfl (fun ls hl => ?_)
          have hl : lv_has ls 8 [(5, .int (nI ((nw_cnt (fun i => b i ≠ 0) k) + 1))), (7, .int (nI (b k))), (6, .int (nI k)), (0, .ref hM), (1, .long x1), (3, .long x2)] := hl
          rw [← nw_cnt_pos (f := fun i => b i ≠ 0) (n := k) q9] at hl
          have hl : lv_has ls 8 [(5, .int (nI (nw_cnt (fun i => b i ≠ 0) (k + 1)))), (7, .int (nI (b k))), (6, .int (nI k)), (0, .ref hM), (1, .long x1), (3, .long x2)] := hl
          refine lv_iinc (v := nI (k + 1)) hx hb d_Mod_type_81 hl (k := 2) rfl (nI_add k 1) (by decide) rfl (fun ls hl => ?_)
          have hl : lv_has ls 8 [(6, .int (nI (k + 1))), (5, .int (nI (nw_cnt (fun i => b i ≠ 0) (k + 1)))), (7, .int (nI (b k))), (0, .ref hM), (1, .long x1), (3, .long x2)] := hl
          refine lv_goto hx hb d_Mod_type_84 (tgt := 11) (by decide) ?_
          exact ih1 (k + 1, t) (⟨by omega, by
            rcases ht with ⟨h1, h2⟩ | ⟨h1, i, h2, h3⟩
            · refine Or.inl ⟨h1, fun i hi => ?_⟩
              by_cases e : i = k
              · rw [e]; exact hgood
              · exact h2 i (by omega)
            · exact Or.inr ⟨h1, i, by omega, h3⟩⟩) (show 16 - (k + 1) < 16 - k by omega) _ _ _ (lv_sub hl [0, 1, 3, 4, 5] rfl) hP hD hS
      · rw [nw_eq0 (by omega)] at r1
        refine lv_iload hx hb d_Mod_type_54 (lv_at hl 0 rfl) ?_
        refine lv_bipush (v := nI 33) hx hb d_Mod_type_56 (by decide) ?_
        refine lv_icmp_lt hx hb d_Mod_type_58 (tgt := 68) (by decide) (fun r2 => ?_) (fun r2 => ?_)
        · rw [nI_ltI (by omega) (by omega)] at r2
          have hbadk : (b k ≠ 0 ∧ (b k < 33 ∨ 126 < b k)) := ⟨r1, Or.inl r2⟩
          refine lv_aload_n hx hb d_Mod_type_68 rfl (lv_at hl 3 rfl) ?_
          refine lv_iconst (v := nI 1) hx hb d_Mod_type_69 (by decide) ?_
          refine va_put (D := (dC, dI)) (ci := 1) (v := .int (nI 1)) (ty := .int) (C := R_Mod) (T := F_Mod) (N := 16) hx hb hts hin_Mod t_Mod t_Mod_ok n_Mod hown hK hP hD hS 0 rfl rfl 15 (by decide) (hts _ (nw_mc 62 rfl)) (fun _ h9 => h9) rfl (by decide +kernel) rfl rfl (Nat.le_of_ble_eq_true rfl) d_Mod_type_70 (fun H locs hP hD hS => ?_)
          replace hP : va_P (dC, dI) nw_cls [(hM, .inr (1, [.ref ai, .ref aw, .ref ar, .ref al, .ref aL, .ref aD, .ref ac, .ref af, .ref ap, .ref an, .ref ax, .int (nI isz), .int (nI wn), .int (nI chn), .int (nI rn), .int (nI 1)])), (ai, nw_ai cB 60 I)] H := hP
          replace hD : va_D A [(hM, .inr (1, [.ref ai, .ref aw, .ref ar, .ref al, .ref aL, .ref aD, .ref ac, .ref af, .ref ap, .ref an, .ref ax, .int (nI isz), .int (nI wn), .int (nI chn), .int (nI rn), .int (nI 1)])), (ai, nw_ai cB 60 I)] := hD
          refine lv_iload hx hb d_Mod_type_73 (lv_at hl 0 rfl) ?_
          refine lv_if_eq hx hb d_Mod_type_75 (tgt := 81) (by decide) (fun q9 => ?_) (fun q9 => ?_)
          · rw [nw_eq0 (by omega)] at q9
            rw [← nw_cnt_neg (f := fun i => b i ≠ 0) (n := k) (fun h => h q9)] at hl
            refine lv_iinc (v := nI (k + 1)) hx hb d_Mod_type_81 hl (k := 1) rfl (nI_add k 1) (by decide) rfl (fun ls hl => ?_)
            have hl : lv_has ls 8 [(6, .int (nI (k + 1))), (7, .int (nI (b k))), (5, .int (nI (nw_cnt (fun i => b i ≠ 0) (k + 1)))), (0, .ref hM), (1, .long x1), (3, .long x2)] := hl
            refine lv_goto hx hb d_Mod_type_84 (tgt := 11) (by decide) ?_
            exact ih1 (k + 1, 1) (⟨by omega, Or.inr ⟨rfl, k, by omega, hbadk⟩⟩) (show 16 - (k + 1) < 16 - k by omega) _ _ _ (lv_sub hl [0, 2, 3, 4, 5] rfl) hP hD hS
          · rw [nw_eq0 (by omega)] at q9
            refine lv_iinc (v := nI ((nw_cnt (fun i => b i ≠ 0) k) + 1)) hx hb d_Mod_type_78 hl (k := 2) rfl (nI_add (nw_cnt (fun i => b i ≠ 0) k) 1) (by decide) rfl (fun ls hl => ?_)
            have hl : lv_has ls 8 [(5, .int (nI ((nw_cnt (fun i => b i ≠ 0) k) + 1))), (7, .int (nI (b k))), (6, .int (nI k)), (0, .ref hM), (1, .long x1), (3, .long x2)] := hl
            rw [← nw_cnt_pos (f := fun i => b i ≠ 0) (n := k) q9] at hl
            have hl : lv_has ls 8 [(5, .int (nI (nw_cnt (fun i => b i ≠ 0) (k + 1)))), (7, .int (nI (b k))), (6, .int (nI k)), (0, .ref hM), (1, .long x1), (3, .long x2)] := hl
            refine lv_iinc (v := nI (k + 1)) hx hb d_Mod_type_81 hl (k := 2) rfl (nI_add k 1) (by decide) rfl (fun ls hl => ?_)
            have hl : lv_has ls 8 [(6, .int (nI (k + 1))), (5, .int (nI (nw_cnt (fun i => b i ≠ 0) (k + 1)))), (7, .int (nI (b k))), (0, .ref hM), (1, .long x1), (3, .long x2)] := hl
            refine lv_goto hx hb d_Mod_type_84 (tgt := 11) (by decide) ?_
            exact ih1 (k + 1, 1) (⟨by omega, Or.inr ⟨rfl, k, by omega, hbadk⟩⟩) (show 16 - (k + 1) < 16 - k by omega) _ _ _ (lv_sub hl [0, 1, 3, 4, 5] rfl) hP hD hS
        · rw [nI_ltI (by omega) (by omega)] at r2
          refine lv_iload hx hb d_Mod_type_61 (lv_at hl 0 rfl) ?_
          refine lv_bipush (v := nI 126) hx hb d_Mod_type_63 (by decide) ?_
          refine lv_icmp_le hx hb d_Mod_type_65 (tgt := 73) (by decide) (fun r3 => ?_) (fun r3 => ?_)
          · rw [nI_leI (by omega) (by omega)] at r3
            have hgood : ¬ (b k ≠ 0 ∧ (b k < 33 ∨ 126 < b k)) := fun h => by omega
            refine lv_iload hx hb d_Mod_type_73 (lv_at hl 0 rfl) ?_
            refine lv_if_eq hx hb d_Mod_type_75 (tgt := 81) (by decide) (fun q9 => ?_) (fun q9 => ?_)
            · rw [nw_eq0 (by omega)] at q9
              rw [← nw_cnt_neg (f := fun i => b i ≠ 0) (n := k) (fun h => h q9)] at hl
              refine lv_iinc (v := nI (k + 1)) hx hb d_Mod_type_81 hl (k := 1) rfl (nI_add k 1) (by decide) rfl (fun ls hl => ?_)
              have hl : lv_has ls 8 [(6, .int (nI (k + 1))), (7, .int (nI (b k))), (5, .int (nI (nw_cnt (fun i => b i ≠ 0) (k + 1)))), (0, .ref hM), (1, .long x1), (3, .long x2)] := hl
              refine lv_goto hx hb d_Mod_type_84 (tgt := 11) (by decide) ?_
              exact ih1 (k + 1, t) (⟨by omega, by
                rcases ht with ⟨h1, h2⟩ | ⟨h1, i, h2, h3⟩
                · refine Or.inl ⟨h1, fun i hi => ?_⟩
                  by_cases e : i = k
                  · rw [e]; exact hgood
                  · exact h2 i (by omega)
                · exact Or.inr ⟨h1, i, by omega, h3⟩⟩) (show 16 - (k + 1) < 16 - k by omega) _ _ _ (lv_sub hl [0, 2, 3, 4, 5] rfl) hP hD hS
            · rw [nw_eq0 (by omega)] at q9
              refine lv_iinc (v := nI ((nw_cnt (fun i => b i ≠ 0) k) + 1)) hx hb d_Mod_type_78 hl (k := 2) rfl (nI_add (nw_cnt (fun i => b i ≠ 0) k) 1) (by decide) rfl (fun ls hl => ?_)
              have hl : lv_has ls 8 [(5, .int (nI ((nw_cnt (fun i => b i ≠ 0) k) + 1))), (7, .int (nI (b k))), (6, .int (nI k)), (0, .ref hM), (1, .long x1), (3, .long x2)] := hl
              rw [← nw_cnt_pos (f := fun i => b i ≠ 0) (n := k) q9] at hl
              have hl : lv_has ls 8 [(5, .int (nI (nw_cnt (fun i => b i ≠ 0) (k + 1)))), (7, .int (nI (b k))), (6, .int (nI k)), (0, .ref hM), (1, .long x1), (3, .long x2)] := hl
              refine lv_iinc (v := nI (k + 1)) hx hb d_Mod_type_81 hl (k := 2) rfl (nI_add k 1) (by decide) rfl (fun ls hl => ?_)
              have hl : lv_has ls 8 [(6, .int (nI (k + 1))), (5, .int (nI (nw_cnt (fun i => b i ≠ 0) (k + 1)))), (7, .int (nI (b k))), (0, .ref hM), (1, .long x1), (3, .long x2)] := hl
              refine lv_goto hx hb d_Mod_type_84 (tgt := 11) (by decide) ?_
              exact ih1 (k + 1, t) (⟨by omega, by
                rcases ht with ⟨h1, h2⟩ | ⟨h1, i, h2, h3⟩
                · refine Or.inl ⟨h1, fun i hi => ?_⟩
                  by_cases e : i = k
                  · rw [e]; exact hgood
                  · exact h2 i (by omega)
                · exact Or.inr ⟨h1, i, by omega, h3⟩⟩) (show 16 - (k + 1) < 16 - k by omega) _ _ _ (lv_sub hl [0, 1, 3, 4, 5] rfl) hP hD hS
          · rw [nI_leI (by omega) (by omega)] at r3
            have hbadk : (b k ≠ 0 ∧ (b k < 33 ∨ 126 < b k)) := ⟨r1, Or.inr (by omega)⟩
            refine lv_aload_n hx hb d_Mod_type_68 rfl (lv_at hl 3 rfl) ?_
            refine lv_iconst (v := nI 1) hx hb d_Mod_type_69 (by decide) ?_
            refine va_put (D := (dC, dI)) (ci := 1) (v := .int (nI 1)) (ty := .int) (C := R_Mod) (T := F_Mod) (N := 16) hx hb hts hin_Mod t_Mod t_Mod_ok n_Mod hown hK hP hD hS 0 rfl rfl 15 (by decide) (hts _ (nw_mc 62 rfl)) (fun _ h9 => h9) rfl (by decide +kernel) rfl rfl (Nat.le_of_ble_eq_true rfl) d_Mod_type_70 (fun H locs hP hD hS => ?_)
            replace hP : va_P (dC, dI) nw_cls [(hM, .inr (1, [.ref ai, .ref aw, .ref ar, .ref al, .ref aL, .ref aD, .ref ac, .ref af, .ref ap, .ref an, .ref ax, .int (nI isz), .int (nI wn), .int (nI chn), .int (nI rn), .int (nI 1)])), (ai, nw_ai cB 60 I)] H := hP
            replace hD : va_D A [(hM, .inr (1, [.ref ai, .ref aw, .ref ar, .ref al, .ref aL, .ref aD, .ref ac, .ref af, .ref ap, .ref an, .ref ax, .int (nI isz), .int (nI wn), .int (nI chn), .int (nI rn), .int (nI 1)])), (ai, nw_ai cB 60 I)] := hD
            refine lv_iload hx hb d_Mod_type_73 (lv_at hl 0 rfl) ?_
            refine lv_if_eq hx hb d_Mod_type_75 (tgt := 81) (by decide) (fun q9 => ?_) (fun q9 => ?_)
            · rw [nw_eq0 (by omega)] at q9
              rw [← nw_cnt_neg (f := fun i => b i ≠ 0) (n := k) (fun h => h q9)] at hl
              refine lv_iinc (v := nI (k + 1)) hx hb d_Mod_type_81 hl (k := 1) rfl (nI_add k 1) (by decide) rfl (fun ls hl => ?_)
              have hl : lv_has ls 8 [(6, .int (nI (k + 1))), (7, .int (nI (b k))), (5, .int (nI (nw_cnt (fun i => b i ≠ 0) (k + 1)))), (0, .ref hM), (1, .long x1), (3, .long x2)] := hl
              refine lv_goto hx hb d_Mod_type_84 (tgt := 11) (by decide) ?_
              exact ih1 (k + 1, 1) (⟨by omega, Or.inr ⟨rfl, k, by omega, hbadk⟩⟩) (show 16 - (k + 1) < 16 - k by omega) _ _ _ (lv_sub hl [0, 2, 3, 4, 5] rfl) hP hD hS
            · rw [nw_eq0 (by omega)] at q9
              refine lv_iinc (v := nI ((nw_cnt (fun i => b i ≠ 0) k) + 1)) hx hb d_Mod_type_78 hl (k := 2) rfl (nI_add (nw_cnt (fun i => b i ≠ 0) k) 1) (by decide) rfl (fun ls hl => ?_)
              have hl : lv_has ls 8 [(5, .int (nI ((nw_cnt (fun i => b i ≠ 0) k) + 1))), (7, .int (nI (b k))), (6, .int (nI k)), (0, .ref hM), (1, .long x1), (3, .long x2)] := hl
              rw [← nw_cnt_pos (f := fun i => b i ≠ 0) (n := k) q9] at hl
              have hl : lv_has ls 8 [(5, .int (nI (nw_cnt (fun i => b i ≠ 0) (k + 1)))), (7, .int (nI (b k))), (6, .int (nI k)), (0, .ref hM), (1, .long x1), (3, .long x2)] := hl
              refine lv_iinc (v := nI (k + 1)) hx hb d_Mod_type_81 hl (k := 2) rfl (nI_add k 1) (by decide) rfl (fun ls hl => ?_)
              have hl : lv_has ls 8 [(6, .int (nI (k + 1))), (5, .int (nI (nw_cnt (fun i => b i ≠ 0) (k + 1)))), (7, .int (nI (b k))), (0, .ref hM), (1, .long x1), (3, .long x2)] := hl
              refine lv_goto hx hb d_Mod_type_84 (tgt := 11) (by decide) ?_
              exact ih1 (k + 1, 1) (⟨by omega, Or.inr ⟨rfl, k, by omega, hbadk⟩⟩) (show 16 - (k + 1) < 16 - k by omega) _ _ _ (lv_sub hl [0, 1, 3, 4, 5] rfl) hP hD hS

set_option maxHeartbeats 4000000 in
set_option maxRecDepth 100000 in
theorem c_Mod_type_ok (l : Launch) (dC : Nat → ClassId) (dI : Nat → Nat → Nat) (sz : Nat) (cB : ClassId) (hM ai aw ar al aL aD ac af ap an ax isz wn chn rn th : Nat) (I : Nat → Nat) (x1 x2 : Int64) (b : Nat → Nat) (hb9 : b = (fun k => if k < 8 then nw_by x1 (56 - k % 8 * 8) else nw_by x2 (56 - k % 8 * 8))) (hn : isz ≤ 60) (hok : ∀ k, k < 16 → ¬ (b k ≠ 0 ∧ (b k < 33 ∨ 126 < b k))) (hroom : isz + nw_cnt (fun i => b i ≠ 0) 16 ≤ 60) (hI0 : ∀ j, I j < 128) : Met l y_Mod_type w_Mod_type ({ frames := 0, cells := 0, slots := 0, locals := 0 }) (nw_Pw [.ref hM, .long x1, .long x2] (dC, dI) nw_cls [(cB, .byte)] [(hM, .inr (1, [.ref ai, .ref aw, .ref ar, .ref al, .ref aL, .ref aD, .ref ac, .ref af, .ref ap, .ref an, .ref ax, .int (nI isz), .int (nI wn), .int (nI chn), .int (nI rn), .int (nI th)])), (ai, nw_ai cB 60 I)] sz) (va_Qi (fun (r : Int32) (u : Nat → Nat) => r = nI (isz + nw_cnt (fun i => b i ≠ 0) 16) ∧ ((∀ j, j < isz → u j = I j) ∧ (∀ i, i < 16 → b i ≠ 0 → u (isz + nw_cnt (fun i => b i ≠ 0) i) = b i) ∧ ∀ j, u j < 128)) (nw_B (dC, dI) nw_cls (va_A [(hM, .inr (1, [.ref ai, .ref aw, .ref ar, .ref al, .ref aL, .ref aD, .ref ac, .ref af, .ref ap, .ref an, .ref ax, .int (nI isz), .int (nI wn), .int (nI chn), .int (nI rn), .int (nI th)])), (ai, nw_ai cB 60 I)] sz) (fun u => [(hM, .inr (1, [.ref ai, .ref aw, .ref ar, .ref al, .ref aL, .ref aD, .ref ac, .ref af, .ref ap, .ref an, .ref ax, .int (nI (isz + nw_cnt (fun i => b i ≠ 0) 16)), .int (nI wn), .int (nI chn), .int (nI rn), .int (nI 0)])), (ai, nw_ai cB 60 u)])) (va_A [(hM, .inr (1, [.ref ai, .ref aw, .ref ar, .ref al, .ref aL, .ref aD, .ref ac, .ref af, .ref ap, .ref an, .ref ax, .int (nI isz), .int (nI wn), .int (nI chn), .int (nI rn), .int (nI th)])), (ai, nw_ai cB 60 I)] sz)) 0 0 (va_A [(hM, .inr (1, [.ref ai, .ref aw, .ref ar, .ref al, .ref aL, .ref aD, .ref ac, .ref af, .ref ap, .ref an, .ref ax, .int (nI isz), .int (nI wn), .int (nI chn), .int (nI rn), .int (nI th)])), (ai, nw_ai cB 60 I)] sz) := by
  refine Met.ofW (cc := b_Mod_type) (maxL := 8) (ret := (some .int)) (by decide) rfl ?_
  intro p e s m args below meth cd s₁ B hml hv0
  obtain ⟨rfl, hsz, hP, hK, hD0⟩ := hv0
  have hx := B.exec
  have hb := B.bytes
  have hr := B.returns
  have hts := atoms_spec (ws := w_Mod_type) B.pre
  have hown : s.vm.findClass R_Mod = some m.cls := findClass_of_methodNamed B.named
  have hlocks := B.notSynchronized
  subst hsz
  have hD := hD0.self (sz := s.heap.size)
  generalize hAe : va_A [(hM, .inr (1, [.ref ai, .ref aw, .ref ar, .ref al, .ref aL, .ref aD, .ref ac, .ref af, .ref ap, .ref an, .ref ax, .int (nI isz), .int (nI wn), .int (nI chn), .int (nI rn), .int (nI th)])), (ai, nw_ai cB 60 I)] s.heap.size = A at hD ⊢
  have hA : ∀ q : Nat, s.heap.size ≤ q → A q := fun q h => by rw [← hAe]; exact Or.inr h
  have hS : va_S A s.heap s.heap [] := va_S.rf
  have hl := lv_entry ([.ref hM, .long x1, .long x2]) (n := 8) (Nat.le_of_ble_eq_true rfl)
  rw [lg_entry_eq]
  generalize (lg_sl ([.ref hM, .long x1, .long x2]) ++ List.replicate (8 - (lg_sl ([.ref hM, .long x1, .long x2])).length) Slot.unset).toArray = ls at hl ⊢
  have hl : lv_has ls 8 [(0, .ref hM), (1, .long x1), (3, .long x2)] := hl
  have hbl : ∀ k, b k < 256 := fun k => by
    rw [hb9]; dsimp only
    split <;> exact nw_by_lt _ _
  refine lv_iconst (v := nI 0) hx hb d_Mod_type_0 (by decide) ?_
  refine lv_istore hx hb d_Mod_type_1 hl (by decide) rfl (fun ls hl => ?_)
  replace hl : lv_has ls 8 [(5, .int (nI 0)), (0, .ref hM), (1, .long x1), (3, .long x2)] := hl
  refine lv_aload_n hx hb d_Mod_type_3 rfl (lv_at hl 1 rfl) ?_
  refine lv_iconst (v := nI 0) hx hb d_Mod_type_4 (by decide) ?_
  refine va_put (D := (dC, dI)) (ci := 1) (v := .int (nI 0)) (ty := .int) (C := R_Mod) (T := F_Mod) (N := 16) hx hb hts hin_Mod t_Mod t_Mod_ok n_Mod hown hK hP hD hS 0 rfl rfl 15 (by decide) (hts _ (nw_mc 62 rfl)) (fun _ h9 => h9) rfl (by decide +kernel) rfl rfl (Nat.le_of_ble_eq_true rfl) d_Mod_type_5 (fun H locs hP hD hS => ?_)
  replace hP : va_P (dC, dI) nw_cls [(hM, .inr (1, [.ref ai, .ref aw, .ref ar, .ref al, .ref aL, .ref aD, .ref ac, .ref af, .ref ap, .ref an, .ref ax, .int (nI isz), .int (nI wn), .int (nI chn), .int (nI rn), .int (nI 0)])), (ai, nw_ai cB 60 I)] H := hP
  replace hD : va_D A [(hM, .inr (1, [.ref ai, .ref aw, .ref ar, .ref al, .ref aL, .ref aD, .ref ac, .ref af, .ref ap, .ref an, .ref ax, .int (nI isz), .int (nI wn), .int (nI chn), .int (nI rn), .int (nI 0)])), (ai, nw_ai cB 60 I)] := hD
  refine lv_iconst (v := nI 0) hx hb d_Mod_type_8 (by decide) ?_
  refine lv_istore hx hb d_Mod_type_9 hl (by decide) rfl (fun ls hl => ?_)
  replace hl : lv_has ls 8 [(6, .int (nI 0)), (5, .int (nI 0)), (0, .ref hM), (1, .long x1), (3, .long x2)] := hl
  refine nw_loopW (σ := Nat × Nat) (fun x => match x with | (k, t) => k ≤ 16 ∧ ((t = 0 ∧ ∀ i, i < k → ¬ (b i ≠ 0 ∧ (b i < 33 ∨ 126 < b i))) ∨ (t = 1 ∧ ∃ i, i < k ∧ (b i ≠ 0 ∧ (b i < 33 ∨ 126 < b i))))) (fun x => match x with | (k, t) => [(6, .int (nI k)), (5, .int (nI (nw_cnt (fun i => b i ≠ 0) k))), (0, .ref hM), (1, .long x1), (3, .long x2)]) (fun x => match x with | (k, t) => [(hM, .inr (1, [.ref ai, .ref aw, .ref ar, .ref al, .ref aL, .ref aD, .ref ac, .ref af, .ref ap, .ref an, .ref ax, .int (nI isz), .int (nI wn), .int (nI chn), .int (nI rn), .int (nI t)])), (ai, nw_ai cB 60 I)]) (fun x => match x with | (k, t) => 16 - k) (fun x hA1 ih1 ls H locs hl hP hD hS => ?_) (0, 0) (⟨Nat.zero_le _, Or.inl ⟨rfl, fun i h => absurd h (Nat.not_lt_zero i)⟩⟩) hl hP hD hS
  obtain ⟨k, t⟩ := x
  replace hA1 : k ≤ 16 ∧ ((t = 0 ∧ ∀ i, i < k → ¬ (b i ≠ 0 ∧ (b i < 33 ∨ 126 < b i))) ∨ (t = 1 ∧ ∃ i, i < k ∧ (b i ≠ 0 ∧ (b i < 33 ∨ 126 < b i)))) := hA1
  replace hl : lv_has ls 8 [(6, .int (nI k)), (5, .int (nI (nw_cnt (fun i => b i ≠ 0) k))), (0, .ref hM), (1, .long x1), (3, .long x2)] := hl
  replace hP : va_P (dC, dI) nw_cls [(hM, .inr (1, [.ref ai, .ref aw, .ref ar, .ref al, .ref aL, .ref aD, .ref ac, .ref af, .ref ap, .ref an, .ref ax, .int (nI isz), .int (nI wn), .int (nI chn), .int (nI rn), .int (nI t)])), (ai, nw_ai cB 60 I)] H := hP
  replace hD : va_D A [(hM, .inr (1, [.ref ai, .ref aw, .ref ar, .ref al, .ref aL, .ref aD, .ref ac, .ref af, .ref ap, .ref an, .ref ax, .int (nI isz), .int (nI wn), .int (nI chn), .int (nI rn), .int (nI t)])), (ai, nw_ai cB 60 I)] := hD
  obtain ⟨hk, ht⟩ := hA1
  have hcn := nw_cnt_le (fun i => b i ≠ 0) k
  have hbk := hbl k
  refine lv_iload hx hb d_Mod_type_11 (lv_at hl 0 rfl) ?_
  refine lv_bipush (v := nI 16) hx hb d_Mod_type_13 (by decide) ?_
  refine lv_icmp_ge hx hb d_Mod_type_15 (tgt := 87) (by decide) (fun q7 => ?_) (fun q7 => ?_)
  · rw [nI_leI (by omega) (by omega)] at q7
    have hk9 : k = 16 := by omega
    rw [hk9] at hl ht hcn
    have hl : lv_has ls 8 [(6, .int (nI 16)), (5, .int (nI (nw_cnt (fun i => b i ≠ 0) 16))), (0, .ref hM), (1, .long x1), (3, .long x2)] := hl
    obtain ⟨ht0, hz⟩ | ⟨ht0, hz⟩ := ht
    · rw [ht0] at hP hD
      refine lv_aload_n hx hb d_Mod_type_87 rfl (lv_at hl 2 rfl) ?_
      refine va_get (D := (dC, dI)) (ci := 1) (v := .int (nI 0)) (C := R_Mod) (T := F_Mod) (N := 16) hx hb hts hin_Mod hown hK hP 0 rfl rfl 15 (by decide) (hts _ (nw_mc 62 rfl)) (fun _ h9 => h9) rfl d_Mod_type_88 ?_
      refine lv_if_ne hx hb d_Mod_type_91 (tgt := 111) (by decide) (fun s1 => ?_) (fun s1 => ?_)
      · rw [nw_eq0 (by omega)] at s1
        omega
      · rw [nw_eq0 (by omega)] at s1
        refine lv_aload_n hx hb d_Mod_type_94 rfl (lv_at hl 2 rfl) ?_
        refine va_get (D := (dC, dI)) (ci := 1) (v := .int (nI isz)) (C := R_Mod) (T := F_Mod) (N := 16) hx hb hts hin_Mod hown hK hP 0 rfl rfl 11 (by decide) (hts _ (nw_mc 63 rfl)) (fun _ h9 => h9) rfl d_Mod_type_95 ?_
        refine lv_iload hx hb d_Mod_type_98 (lv_at hl 1 rfl) ?_
        refine lv_iadd hx hb d_Mod_type_100 ?_
        refine nw_ti (nI_add isz (nw_cnt (fun i => b i ≠ 0) 16)) ?_
        refine lv_bipush (v := nI 60) hx hb d_Mod_type_101 (by decide) ?_
        refine lv_icmp_le hx hb d_Mod_type_103 (tgt := 111) (by decide) (fun s2 => ?_) (fun s2 => ?_)
        · rw [nI_leI (by omega) (by omega)] at s2
          refine lv_aload_n hx hb d_Mod_type_111 rfl (lv_at hl 2 rfl) ?_
          refine va_get (D := (dC, dI)) (ci := 1) (v := .int (nI 0)) (C := R_Mod) (T := F_Mod) (N := 16) hx hb hts hin_Mod hown hK hP 0 rfl rfl 15 (by decide) (hts _ (nw_mc 62 rfl)) (fun _ h9 => h9) rfl d_Mod_type_112 ?_
          refine lv_if_eq hx hb d_Mod_type_115 (tgt := 120) (by decide) (fun s3 => ?_) (fun s3 => ?_)
          · rw [nw_eq0 (by omega)] at s3
            refine lv_iconst (v := nI 0) hx hb d_Mod_type_120 (by decide) ?_
            refine lv_istore hx hb d_Mod_type_121 hl (by decide) rfl (fun ls hl => ?_)
            replace hl : lv_has ls 8 [(6, .int (nI 0)), (5, .int (nI (nw_cnt (fun i => b i ≠ 0) 16))), (0, .ref hM), (1, .long x1), (3, .long x2)] := hl
            clear hk9
            refine nw_loopW (σ := Nat × (Nat → Nat)) (fun x => match x with | (k, f) => k ≤ 16 ∧ ((∀ j, j < isz → f j = I j) ∧ (∀ i, i < k → b i ≠ 0 → f (isz + nw_cnt (fun i => b i ≠ 0) i) = b i) ∧ ∀ j, f j < 128)) (fun x => match x with | (k, f) => [(6, .int (nI k)), (5, .int (nI (nw_cnt (fun i => b i ≠ 0) 16))), (0, .ref hM), (1, .long x1), (3, .long x2)]) (fun x => match x with | (k, f) => [(hM, .inr (1, [.ref ai, .ref aw, .ref ar, .ref al, .ref aL, .ref aD, .ref ac, .ref af, .ref ap, .ref an, .ref ax, .int (nI (isz + nw_cnt (fun i => b i ≠ 0) k)), .int (nI wn), .int (nI chn), .int (nI rn), .int (nI 0)])), (ai, nw_ai cB 60 f)]) (fun x => match x with | (k, f) => 16 - k) (fun x hA2 ih2 ls H locs hl hP hD hS => ?_) (0, I) (⟨Nat.zero_le _, fun j _ => rfl, fun i h => absurd h (Nat.not_lt_zero i), hI0⟩) hl hP hD hS
            obtain ⟨k, f⟩ := x
            replace hA2 : k ≤ 16 ∧ ((∀ j, j < isz → f j = I j) ∧ (∀ i, i < k → b i ≠ 0 → f (isz + nw_cnt (fun i => b i ≠ 0) i) = b i) ∧ ∀ j, f j < 128) := hA2
            replace hl : lv_has ls 8 [(6, .int (nI k)), (5, .int (nI (nw_cnt (fun i => b i ≠ 0) 16))), (0, .ref hM), (1, .long x1), (3, .long x2)] := hl
            replace hP : va_P (dC, dI) nw_cls [(hM, .inr (1, [.ref ai, .ref aw, .ref ar, .ref al, .ref aL, .ref aD, .ref ac, .ref af, .ref ap, .ref an, .ref ax, .int (nI (isz + nw_cnt (fun i => b i ≠ 0) k)), .int (nI wn), .int (nI chn), .int (nI rn), .int (nI 0)])), (ai, nw_ai cB 60 f)] H := hP
            replace hD : va_D A [(hM, .inr (1, [.ref ai, .ref aw, .ref ar, .ref al, .ref aL, .ref aD, .ref ac, .ref af, .ref ap, .ref an, .ref ax, .int (nI (isz + nw_cnt (fun i => b i ≠ 0) k)), .int (nI wn), .int (nI chn), .int (nI rn), .int (nI 0)])), (ai, nw_ai cB 60 f)] := hD
            obtain ⟨hk, hf1, hf2, hf3⟩ := hA2
            have hcn := nw_cnt_mono (fun i => b i ≠ 0) (i := k) (j := 16) hk
            have hbk := hbl k
            refine lv_iload hx hb d_Mod_type_123 (lv_at hl 0 rfl) ?_
            refine lv_bipush (v := nI 16) hx hb d_Mod_type_125 (by decide) ?_
            refine lv_icmp_ge hx hb d_Mod_type_127 (tgt := 197) (by decide) (fun q7 => ?_) (fun q7 => ?_)
            · rw [nI_leI (by omega) (by omega)] at q7
              have hk9 : k = 16 := by omega
              rw [hk9] at hP hD hf2
              refine lv_aload_n hx hb d_Mod_type_197 rfl (lv_at hl 2 rfl) ?_
              refine va_get (D := (dC, dI)) (ci := 1) (v := .int (nI (isz + nw_cnt (fun i => b i ≠ 0) 16))) (C := R_Mod) (T := F_Mod) (N := 16) hx hb hts hin_Mod hown hK hP 0 rfl rfl 11 (by decide) (hts _ (nw_mc 63 rfl)) (fun _ h9 => h9) rfl d_Mod_type_198 ?_
              exact W.iret (v := nI (isz + nw_cnt (fun i => b i ≠ 0) 16)) hx hb hr (fun t ht hW => ⟨⟨_, f, rfl, ⟨rfl, hf1, hf2, hf3⟩, by rw [ht]; exact hP, hD⟩, hS.F ht⟩) hS.2.2 d_Mod_type_201
            · rw [nI_leI (by omega) (by omega)] at q7
              refine lv_iload hx hb d_Mod_type_130 (lv_at hl 0 rfl) ?_
              refine lv_bipush (v := nI 8) hx hb d_Mod_type_132 (by decide) ?_
              refine lv_icmp_ge hx hb d_Mod_type_134 (tgt := 141) (by decide) (fun q8 => ?_) (fun q8 => ?_)
              · rw [nI_leI (by omega) (by omega)] at q8
                refine lv_lload_n hx hb d_Mod_type_141 rfl (lv_at hl 4 rfl) ?_
                refine lv_bipush (v := nI 56) hx hb d_Mod_type_142 (by decide) ?_
                refine lv_iload hx hb d_Mod_type_144 (lv_at hl 0 rfl) ?_
                refine lv_bipush (v := nI 8) hx hb d_Mod_type_146 (by decide) ?_
                refine lv_irem hx hb d_Mod_type_148 (by decide) ?_
                refine nw_ti (pk_rem (a := k) (d := 8) (by omega) (by decide) (by decide)) ?_
                refine lv_bipush (v := nI 8) hx hb d_Mod_type_149 (by decide) ?_
                refine lv_imul hx hb d_Mod_type_151 ?_
                refine nw_ti (pk_mul (k % 8) 8) ?_
                refine lv_isub hx hb d_Mod_type_152 ?_
                refine nw_ti (pk_sub (a := 56) (b := ((k % 8) * 8)) (by omega)) ?_
                refine nw_ti (y := nI (56 - k % 8 * 8)) (congrArg nI (show 56 - ((k % 8) * 8) = 56 - k % 8 * 8 by omega)) ?_
                refine lv_lushr (v := (x2.toUInt64 >>> ((nI (56 - k % 8 * 8)).toInt64.toUInt64 &&& Int64.toUInt64 63)).toInt64) hx hb d_Mod_type_153 (rfl) ?_
                refine lv_l2i (v := (x2.toUInt64 >>> ((nI (56 - k % 8 * 8)).toInt64.toUInt64 &&& Int64.toUInt64 63)).toInt64.toInt32) hx hb d_Mod_type_154 (rfl) ?_
                refine lv_sipush (v := nI 255) hx hb d_Mod_type_155 (by decide) ?_
                refine lv_iand hx hb d_Mod_type_158 ?_
                refine nw_ti (y := nI (b k)) ((nw_byte x2 (sh := 56 - k % 8 * 8) (by omega)).trans (congrArg nI (by rw [hb9]; exact (if_neg (by omega)).symm))) ?_
                refine lv_istore hx hb d_Mod_type_159 hl (by decide) rfl (fun ls hl => ?_)
                replace hl : lv_has ls 8 [(7, .int (nI (b k))), (6, .int (nI k)), (5, .int (nI (nw_cnt (fun i => b i ≠ 0) 16))), (0, .ref hM), (1, .long x1), (3, .long x2)] := hl
                refine lv_iload hx hb d_Mod_type_161 (lv_at hl 0 rfl) ?_
                refine lv_if_ne hx hb d_Mod_type_163 (tgt := 169) (by decide) (fun r1 => ?_) (fun r1 => ?_)
                · rw [nw_eq0 (by omega)] at r1
                  have hlt := nw_cnt_lt (f := fun i => b i ≠ 0) (i := k) (n := 16) (by omega) r1
                  have hgk := hok k (by omega)
                  refine lv_aload_n hx hb d_Mod_type_169 rfl (lv_at hl 3 rfl) ?_
                  refine va_get (D := (dC, dI)) (ci := 1) (v := .ref ai) (C := R_Mod) (T := F_Mod) (N := 16) hx hb hts hin_Mod hown hK hP 0 rfl rfl 0 (by decide) (hts _ (nw_mc 70 rfl)) (fun _ h9 => h9) rfl d_Mod_type_170 ?_
                  refine lv_aload_n hx hb d_Mod_type_173 rfl (lv_at hl 3 rfl) ?_
                  refine va_get (D := (dC, dI)) (ci := 1) (v := .int (nI (isz + nw_cnt (fun i => b i ≠ 0) k))) (C := R_Mod) (T := F_Mod) (N := 16) hx hb hts hin_Mod hown hK hP 0 rfl rfl 11 (by decide) (hts _ (nw_mc 63 rfl)) (fun _ h9 => h9) rfl d_Mod_type_174 ?_
                  refine lv_iload hx hb d_Mod_type_177 (lv_at hl 0 rfl) ?_
                  refine lv_i2b (v := nI (b k)) hx hb d_Mod_type_179 (nw_nb _ (by omega)) ?_
                  refine nw_bast hx hb hK hP hD hS 1 0 rfl rfl (k := (isz + nw_cnt (fun i => b i ≠ 0) k)) (v := (b k)) (by omega) (by first | decide | omega) (by omega) d_Mod_type_180 (fun H locs hP hD hS => ?_)
                  replace hP : va_P (dC, dI) nw_cls [(hM, .inr (1, [.ref ai, .ref aw, .ref ar, .ref al, .ref aL, .ref aD, .ref ac, .ref af, .ref ap, .ref an, .ref ax, .int (nI (isz + nw_cnt (fun i => b i ≠ 0) k)), .int (nI wn), .int (nI chn), .int (nI rn), .int (nI 0)])), (ai, nw_ai cB 60 (va_up f (isz + nw_cnt (fun i => b i ≠ 0) k) (b k)))] H := hP
                  replace hD : va_D A [(hM, .inr (1, [.ref ai, .ref aw, .ref ar, .ref al, .ref aL, .ref aD, .ref ac, .ref af, .ref ap, .ref an, .ref ax, .int (nI (isz + nw_cnt (fun i => b i ≠ 0) k)), .int (nI wn), .int (nI chn), .int (nI rn), .int (nI 0)])), (ai, nw_ai cB 60 (va_up f (isz + nw_cnt (fun i => b i ≠ 0) k) (b k)))] := hD
                  refine lv_aload_n hx hb d_Mod_type_181 rfl (lv_at hl 3 rfl) ?_
                  refine lv_dup hx hb d_Mod_type_182 rfl ?_
                  refine va_get (D := (dC, dI)) (ci := 1) (v := .int (nI (isz + nw_cnt (fun i => b i ≠ 0) k))) (C := R_Mod) (T := F_Mod) (N := 16) hx hb hts hin_Mod hown hK hP 0 rfl rfl 11 (by decide) (hts _ (nw_mc 63 rfl)) (fun _ h9 => h9) rfl d_Mod_type_183 ?_
                  refine lv_iconst (v := nI 1) hx hb d_Mod_type_186 (by decide) ?_
                  refine lv_iadd hx hb d_Mod_type_187 ?_
                  refine nw_ti (nI_add (isz + nw_cnt (fun i => b i ≠ 0) k) 1) ?_
                  refine va_put (D := (dC, dI)) (ci := 1) (v := .int (nI ((isz + nw_cnt (fun i => b i ≠ 0) k) + 1))) (ty := .int) (C := R_Mod) (T := F_Mod) (N := 16) hx hb hts hin_Mod t_Mod t_Mod_ok n_Mod hown hK hP hD hS 0 rfl rfl 11 (by decide) (hts _ (nw_mc 63 rfl)) (fun _ h9 => h9) rfl (by decide +kernel) rfl rfl (Nat.le_of_ble_eq_true rfl) d_Mod_type_188 (fun H locs hP hD hS => ?_)
                  replace hP : va_P (dC, dI) nw_cls [(hM, .inr (1, [.ref ai, .ref aw, .ref ar, .ref al, .ref aL, .ref aD, .ref ac, .ref af, .ref ap, .ref an, .ref ax, .int (nI ((isz + nw_cnt (fun i => b i ≠ 0) k) + 1)), .int (nI wn), .int (nI chn), .int (nI rn), .int (nI 0)])), (ai, nw_ai cB 60 (va_up f (isz + nw_cnt (fun i => b i ≠ 0) k) (b k)))] H := hP
                  replace hD : va_D A [(hM, .inr (1, [.ref ai, .ref aw, .ref ar, .ref al, .ref aL, .ref aD, .ref ac, .ref af, .ref ap, .ref an, .ref ax, .int (nI ((isz + nw_cnt (fun i => b i ≠ 0) k) + 1)), .int (nI wn), .int (nI chn), .int (nI rn), .int (nI 0)])), (ai, nw_ai cB 60 (va_up f (isz + nw_cnt (fun i => b i ≠ 0) k) (b k)))] := hD
                  have e9 : isz + nw_cnt (fun i => b i ≠ 0) k + 1 = isz + nw_cnt (fun i => b i ≠ 0) (k + 1) := by rw [nw_cnt_pos (f := fun i => b i ≠ 0) (n := k) r1]; omega
                  rw [e9] at hP hD
                  replace hP : va_P (dC, dI) nw_cls [(hM, .inr (1, [.ref ai, .ref aw, .ref ar, .ref al, .ref aL, .ref aD, .ref ac, .ref af, .ref ap, .ref an, .ref ax, .int (nI (isz + nw_cnt (fun i => b i ≠ 0) (k + 1))), .int (nI wn), .int (nI chn), .int (nI rn), .int (nI 0)])), (ai, nw_ai cB 60 (va_up f (isz + nw_cnt (fun i => b i ≠ 0) k) (b k)))] H := hP
                  replace hD : va_D A [(hM, .inr (1, [.ref ai, .ref aw, .ref ar, .ref al, .ref aL, .ref aD, .ref ac, .ref af, .ref ap, .ref an, .ref ax, .int (nI (isz + nw_cnt (fun i => b i ≠ 0) (k + 1))), .int (nI wn), .int (nI chn), .int (nI rn), .int (nI 0)])), (ai, nw_ai cB 60 (va_up f (isz + nw_cnt (fun i => b i ≠ 0) k) (b k)))] := hD
                  refine lv_iinc (v := nI (k + 1)) hx hb d_Mod_type_191 hl (k := 1) rfl (nI_add k 1) (by decide) rfl (fun ls hl => ?_)
                  have hl : lv_has ls 8 [(6, .int (nI (k + 1))), (7, .int (nI (b k))), (5, .int (nI (nw_cnt (fun i => b i ≠ 0) 16))), (0, .ref hM), (1, .long x1), (3, .long x2)] := hl
                  refine lv_goto hx hb d_Mod_type_194 (tgt := 123) (by decide) ?_
                  exact ih2 (k + 1, va_up f (isz + nw_cnt (fun i => b i ≠ 0) k) (b k)) (⟨by omega, fun j hj => (va_up_ne f _ (by omega)).trans (hf1 j hj), fun i hi hb => by
                    by_cases e : i = k
                    · rw [e]; exact va_up_self f _ _
                    · have h1 := nw_cnt_lt (f := fun i => b i ≠ 0) (i := i) (n := k) (by omega) hb
                      exact (va_up_ne f _ (by omega)).trans (hf2 i (by omega) hb), fun j => by
                    by_cases e : j = isz + nw_cnt (fun i => b i ≠ 0) k
                    · rw [e, va_up_self]; omega
                    · rw [va_up_ne _ _ e]; exact hf3 j⟩) (show 16 - (k + 1) < 16 - k by omega) _ _ _ (lv_sub hl [0, 2, 3, 4, 5] rfl) hP hD hS
                · rw [nw_eq0 (by omega)] at r1
                  refine lv_goto hx hb d_Mod_type_166 (tgt := 191) (by decide) ?_
                  have e9 : isz + nw_cnt (fun i => b i ≠ 0) k = isz + nw_cnt (fun i => b i ≠ 0) (k + 1) := by rw [nw_cnt_neg (f := fun i => b i ≠ 0) (n := k) (fun h => h r1)]
                  rw [e9] at hP hD
                  refine lv_iinc (v := nI (k + 1)) hx hb d_Mod_type_191 hl (k := 1) rfl (nI_add k 1) (by decide) rfl (fun ls hl => ?_)
                  have hl : lv_has ls 8 [(6, .int (nI (k + 1))), (7, .int (nI (b k))), (5, .int (nI (nw_cnt (fun i => b i ≠ 0) 16))), (0, .ref hM), (1, .long x1), (3, .long x2)] := hl
                  refine lv_goto hx hb d_Mod_type_194 (tgt := 123) (by decide) ?_
                  exact ih2 (k + 1, f) (⟨by omega, hf1, fun i hi hb => by
                    by_cases e : i = k
                    · rw [e] at hb; exact absurd r1 hb
                    · exact hf2 i (by omega) hb, hf3⟩) (show 16 - (k + 1) < 16 - k by omega) _ _ _ (lv_sub hl [0, 2, 3, 4, 5] rfl) hP hD hS
              · rw [nI_leI (by omega) (by omega)] at q8
                refine lv_lload_n hx hb d_Mod_type_137 rfl (lv_at hl 3 rfl) ?_
                refine lv_goto hx hb d_Mod_type_138 (tgt := 142) (by decide) ?_
                refine lv_bipush (v := nI 56) hx hb d_Mod_type_142 (by decide) ?_
                refine lv_iload hx hb d_Mod_type_144 (lv_at hl 0 rfl) ?_
                refine lv_bipush (v := nI 8) hx hb d_Mod_type_146 (by decide) ?_
                refine lv_irem hx hb d_Mod_type_148 (by decide) ?_
                refine nw_ti (pk_rem (a := k) (d := 8) (by omega) (by decide) (by decide)) ?_
                refine lv_bipush (v := nI 8) hx hb d_Mod_type_149 (by decide) ?_
                refine lv_imul hx hb d_Mod_type_151 ?_
                refine nw_ti (pk_mul (k % 8) 8) ?_
                refine lv_isub hx hb d_Mod_type_152 ?_
                refine nw_ti (pk_sub (a := 56) (b := ((k % 8) * 8)) (by omega)) ?_
                refine nw_ti (y := nI (56 - k % 8 * 8)) (congrArg nI (show 56 - ((k % 8) * 8) = 56 - k % 8 * 8 by omega)) ?_
                refine lv_lushr (v := (x1.toUInt64 >>> ((nI (56 - k % 8 * 8)).toInt64.toUInt64 &&& Int64.toUInt64 63)).toInt64) hx hb d_Mod_type_153 (rfl) ?_
                refine lv_l2i (v := (x1.toUInt64 >>> ((nI (56 - k % 8 * 8)).toInt64.toUInt64 &&& Int64.toUInt64 63)).toInt64.toInt32) hx hb d_Mod_type_154 (rfl) ?_
                refine lv_sipush (v := nI 255) hx hb d_Mod_type_155 (by decide) ?_
                refine lv_iand hx hb d_Mod_type_158 ?_
                refine nw_ti (y := nI (b k)) ((nw_byte x1 (sh := 56 - k % 8 * 8) (by omega)).trans (congrArg nI (by rw [hb9]; exact (if_pos (by omega)).symm))) ?_
                refine lv_istore hx hb d_Mod_type_159 hl (by decide) rfl (fun ls hl => ?_)
                replace hl : lv_has ls 8 [(7, .int (nI (b k))), (6, .int (nI k)), (5, .int (nI (nw_cnt (fun i => b i ≠ 0) 16))), (0, .ref hM), (1, .long x1), (3, .long x2)] := hl
                refine lv_iload hx hb d_Mod_type_161 (lv_at hl 0 rfl) ?_
                refine lv_if_ne hx hb d_Mod_type_163 (tgt := 169) (by decide) (fun r1 => ?_) (fun r1 => ?_)
                · rw [nw_eq0 (by omega)] at r1
                  have hlt := nw_cnt_lt (f := fun i => b i ≠ 0) (i := k) (n := 16) (by omega) r1
                  have hgk := hok k (by omega)
                  refine lv_aload_n hx hb d_Mod_type_169 rfl (lv_at hl 3 rfl) ?_
                  refine va_get (D := (dC, dI)) (ci := 1) (v := .ref ai) (C := R_Mod) (T := F_Mod) (N := 16) hx hb hts hin_Mod hown hK hP 0 rfl rfl 0 (by decide) (hts _ (nw_mc 70 rfl)) (fun _ h9 => h9) rfl d_Mod_type_170 ?_
                  refine lv_aload_n hx hb d_Mod_type_173 rfl (lv_at hl 3 rfl) ?_
                  refine va_get (D := (dC, dI)) (ci := 1) (v := .int (nI (isz + nw_cnt (fun i => b i ≠ 0) k))) (C := R_Mod) (T := F_Mod) (N := 16) hx hb hts hin_Mod hown hK hP 0 rfl rfl 11 (by decide) (hts _ (nw_mc 63 rfl)) (fun _ h9 => h9) rfl d_Mod_type_174 ?_
                  refine lv_iload hx hb d_Mod_type_177 (lv_at hl 0 rfl) ?_
                  refine lv_i2b (v := nI (b k)) hx hb d_Mod_type_179 (nw_nb _ (by omega)) ?_
                  refine nw_bast hx hb hK hP hD hS 1 0 rfl rfl (k := (isz + nw_cnt (fun i => b i ≠ 0) k)) (v := (b k)) (by omega) (by first | decide | omega) (by omega) d_Mod_type_180 (fun H locs hP hD hS => ?_)
                  replace hP : va_P (dC, dI) nw_cls [(hM, .inr (1, [.ref ai, .ref aw, .ref ar, .ref al, .ref aL, .ref aD, .ref ac, .ref af, .ref ap, .ref an, .ref ax, .int (nI (isz + nw_cnt (fun i => b i ≠ 0) k)), .int (nI wn), .int (nI chn), .int (nI rn), .int (nI 0)])), (ai, nw_ai cB 60 (va_up f (isz + nw_cnt (fun i => b i ≠ 0) k) (b k)))] H := hP
                  replace hD : va_D A [(hM, .inr (1, [.ref ai, .ref aw, .ref ar, .ref al, .ref aL, .ref aD, .ref ac, .ref af, .ref ap, .ref an, .ref ax, .int (nI (isz + nw_cnt (fun i => b i ≠ 0) k)), .int (nI wn), .int (nI chn), .int (nI rn), .int (nI 0)])), (ai, nw_ai cB 60 (va_up f (isz + nw_cnt (fun i => b i ≠ 0) k) (b k)))] := hD
                  refine lv_aload_n hx hb d_Mod_type_181 rfl (lv_at hl 3 rfl) ?_
                  refine lv_dup hx hb d_Mod_type_182 rfl ?_
                  refine va_get (D := (dC, dI)) (ci := 1) (v := .int (nI (isz + nw_cnt (fun i => b i ≠ 0) k))) (C := R_Mod) (T := F_Mod) (N := 16) hx hb hts hin_Mod hown hK hP 0 rfl rfl 11 (by decide) (hts _ (nw_mc 63 rfl)) (fun _ h9 => h9) rfl d_Mod_type_183 ?_
                  refine lv_iconst (v := nI 1) hx hb d_Mod_type_186 (by decide) ?_
                  refine lv_iadd hx hb d_Mod_type_187 ?_
                  refine nw_ti (nI_add (isz + nw_cnt (fun i => b i ≠ 0) k) 1) ?_
                  refine va_put (D := (dC, dI)) (ci := 1) (v := .int (nI ((isz + nw_cnt (fun i => b i ≠ 0) k) + 1))) (ty := .int) (C := R_Mod) (T := F_Mod) (N := 16) hx hb hts hin_Mod t_Mod t_Mod_ok n_Mod hown hK hP hD hS 0 rfl rfl 11 (by decide) (hts _ (nw_mc 63 rfl)) (fun _ h9 => h9) rfl (by decide +kernel) rfl rfl (Nat.le_of_ble_eq_true rfl) d_Mod_type_188 (fun H locs hP hD hS => ?_)
                  replace hP : va_P (dC, dI) nw_cls [(hM, .inr (1, [.ref ai, .ref aw, .ref ar, .ref al, .ref aL, .ref aD, .ref ac, .ref af, .ref ap, .ref an, .ref ax, .int (nI ((isz + nw_cnt (fun i => b i ≠ 0) k) + 1)), .int (nI wn), .int (nI chn), .int (nI rn), .int (nI 0)])), (ai, nw_ai cB 60 (va_up f (isz + nw_cnt (fun i => b i ≠ 0) k) (b k)))] H := hP
                  replace hD : va_D A [(hM, .inr (1, [.ref ai, .ref aw, .ref ar, .ref al, .ref aL, .ref aD, .ref ac, .ref af, .ref ap, .ref an, .ref ax, .int (nI ((isz + nw_cnt (fun i => b i ≠ 0) k) + 1)), .int (nI wn), .int (nI chn), .int (nI rn), .int (nI 0)])), (ai, nw_ai cB 60 (va_up f (isz + nw_cnt (fun i => b i ≠ 0) k) (b k)))] := hD
                  have e9 : isz + nw_cnt (fun i => b i ≠ 0) k + 1 = isz + nw_cnt (fun i => b i ≠ 0) (k + 1) := by rw [nw_cnt_pos (f := fun i => b i ≠ 0) (n := k) r1]; omega
                  rw [e9] at hP hD
                  replace hP : va_P (dC, dI) nw_cls [(hM, .inr (1, [.ref ai, .ref aw, .ref ar, .ref al, .ref aL, .ref aD, .ref ac, .ref af, .ref ap, .ref an, .ref ax, .int (nI (isz + nw_cnt (fun i => b i ≠ 0) (k + 1))), .int (nI wn), .int (nI chn), .int (nI rn), .int (nI 0)])), (ai, nw_ai cB 60 (va_up f (isz + nw_cnt (fun i => b i ≠ 0) k) (b k)))] H := hP
                  replace hD : va_D A [(hM, .inr (1, [.ref ai, .ref aw, .ref ar, .ref al, .ref aL, .ref aD, .ref ac, .ref af, .ref ap, .ref an, .ref ax, .int (nI (isz + nw_cnt (fun i => b i ≠ 0) (k + 1))), .int (nI wn), .int (nI chn), .int (nI rn), .int (nI 0)])), (ai, nw_ai cB 60 (va_up f (isz + nw_cnt (fun i => b i ≠ 0) k) (b k)))] := hD
                  refine lv_iinc (v := nI (k + 1)) hx hb d_Mod_type_191 hl (k := 1) rfl (nI_add k 1) (by decide) rfl (fun ls hl => ?_)
                  have hl : lv_has ls 8 [(6, .int (nI (k + 1))), (7, .int (nI (b k))), (5, .int (nI (nw_cnt (fun i => b i ≠ 0) 16))), (0, .ref hM), (1, .long x1), (3, .long x2)] := hl
                  refine lv_goto hx hb d_Mod_type_194 (tgt := 123) (by decide) ?_
                  exact ih2 (k + 1, va_up f (isz + nw_cnt (fun i => b i ≠ 0) k) (b k)) (⟨by omega, fun j hj => (va_up_ne f _ (by omega)).trans (hf1 j hj), fun i hi hb => by
                    by_cases e : i = k
                    · rw [e]; exact va_up_self f _ _
                    · have h1 := nw_cnt_lt (f := fun i => b i ≠ 0) (i := i) (n := k) (by omega) hb
                      exact (va_up_ne f _ (by omega)).trans (hf2 i (by omega) hb), fun j => by
                    by_cases e : j = isz + nw_cnt (fun i => b i ≠ 0) k
                    · rw [e, va_up_self]; omega
                    · rw [va_up_ne _ _ e]; exact hf3 j⟩) (show 16 - (k + 1) < 16 - k by omega) _ _ _ (lv_sub hl [0, 2, 3, 4, 5] rfl) hP hD hS
                · rw [nw_eq0 (by omega)] at r1
                  refine lv_goto hx hb d_Mod_type_166 (tgt := 191) (by decide) ?_
                  have e9 : isz + nw_cnt (fun i => b i ≠ 0) k = isz + nw_cnt (fun i => b i ≠ 0) (k + 1) := by rw [nw_cnt_neg (f := fun i => b i ≠ 0) (n := k) (fun h => h r1)]
                  rw [e9] at hP hD
                  refine lv_iinc (v := nI (k + 1)) hx hb d_Mod_type_191 hl (k := 1) rfl (nI_add k 1) (by decide) rfl (fun ls hl => ?_)
                  have hl : lv_has ls 8 [(6, .int (nI (k + 1))), (7, .int (nI (b k))), (5, .int (nI (nw_cnt (fun i => b i ≠ 0) 16))), (0, .ref hM), (1, .long x1), (3, .long x2)] := hl
                  refine lv_goto hx hb d_Mod_type_194 (tgt := 123) (by decide) ?_
                  exact ih2 (k + 1, f) (⟨by omega, hf1, fun i hi hb => by
                    by_cases e : i = k
                    · rw [e] at hb; exact absurd r1 hb
                    · exact hf2 i (by omega) hb, hf3⟩) (show 16 - (k + 1) < 16 - k by omega) _ _ _ (lv_sub hl [0, 2, 3, 4, 5] rfl) hP hD hS
          · rw [nw_eq0 (by omega)] at s3
            omega
        · rw [nI_leI (by omega) (by omega)] at s2
          omega
    · exact absurd hz (fun ⟨i, h1, h2⟩ => hok i h1 h2)
  · rw [nI_leI (by omega) (by omega)] at q7
    refine lv_iload hx hb d_Mod_type_18 (lv_at hl 0 rfl) ?_
    refine lv_bipush (v := nI 8) hx hb d_Mod_type_20 (by decide) ?_
    refine lv_icmp_ge hx hb d_Mod_type_22 (tgt := 29) (by decide) (fun q8 => ?_) (fun q8 => ?_)
    · rw [nI_leI (by omega) (by omega)] at q8
      refine lv_lload_n hx hb d_Mod_type_29 rfl (lv_at hl 4 rfl) ?_
      refine lv_bipush (v := nI 56) hx hb d_Mod_type_30 (by decide) ?_
      refine lv_iload hx hb d_Mod_type_32 (lv_at hl 0 rfl) ?_
      refine lv_bipush (v := nI 8) hx hb d_Mod_type_34 (by decide) ?_
      refine lv_irem hx hb d_Mod_type_36 (by decide) ?_
      refine nw_ti (pk_rem (a := k) (d := 8) (by omega) (by decide) (by decide)) ?_
      refine lv_bipush (v := nI 8) hx hb d_Mod_type_37 (by decide) ?_
      refine lv_imul hx hb d_Mod_type_39 ?_
      refine nw_ti (pk_mul (k % 8) 8) ?_
      refine lv_isub hx hb d_Mod_type_40 ?_
      refine nw_ti (pk_sub (a := 56) (b := ((k % 8) * 8)) (by omega)) ?_
      refine nw_ti (y := nI (56 - k % 8 * 8)) (congrArg nI (show 56 - ((k % 8) * 8) = 56 - k % 8 * 8 by omega)) ?_
      refine lv_lushr (v := (x2.toUInt64 >>> ((nI (56 - k % 8 * 8)).toInt64.toUInt64 &&& Int64.toUInt64 63)).toInt64) hx hb d_Mod_type_41 (rfl) ?_
      refine lv_l2i (v := (x2.toUInt64 >>> ((nI (56 - k % 8 * 8)).toInt64.toUInt64 &&& Int64.toUInt64 63)).toInt64.toInt32) hx hb d_Mod_type_42 (rfl) ?_
      refine lv_sipush (v := nI 255) hx hb d_Mod_type_43 (by decide) ?_
      refine lv_iand hx hb d_Mod_type_46 ?_
      refine nw_ti (y := nI (b k)) ((nw_byte x2 (sh := 56 - k % 8 * 8) (by omega)).trans (congrArg nI (by rw [hb9]; exact (if_neg (by omega)).symm))) ?_
      refine lv_istore hx hb d_Mod_type_47 hl (by decide) rfl (fun ls hl => ?_)
      replace hl : lv_has ls 8 [(7, .int (nI (b k))), (6, .int (nI k)), (5, .int (nI (nw_cnt (fun i => b i ≠ 0) k))), (0, .ref hM), (1, .long x1), (3, .long x2)] := hl
      refine lv_iload hx hb d_Mod_type_49 (lv_at hl 0 rfl) ?_
      refine lv_if_eq hx hb d_Mod_type_51 (tgt := 73) (by decide) (fun r1 => ?_) (fun r1 => ?_)
      · rw [nw_eq0 (by omega)] at r1
        have hgood : ¬ (b k ≠ 0 ∧ (b k < 33 ∨ 126 < b k)) := fun h => h.1 r1
        refine lv_iload hx hb d_Mod_type_73 (lv_at hl 0 rfl) ?_
        refine lv_if_eq hx hb d_Mod_type_75 (tgt := 81) (by decide) (fun q9 => ?_) (fun q9 => ?_)
        · rw [nw_eq0 (by omega)] at q9
          rw [← nw_cnt_neg (f := fun i => b i ≠ 0) (n := k) (fun h => h q9)] at hl
          refine lv_iinc (v := nI (k + 1)) hx hb d_Mod_type_81 hl (k := 1) rfl (nI_add k 1) (by decide) rfl (fun ls hl => ?_)
          have hl : lv_has ls 8 [(6, .int (nI (k + 1))), (7, .int (nI (b k))), (5, .int (nI (nw_cnt (fun i => b i ≠ 0) (k + 1)))), (0, .ref hM), (1, .long x1), (3, .long x2)] := hl
          refine lv_goto hx hb d_Mod_type_84 (tgt := 11) (by decide) ?_
          exact ih1 (k + 1, t) (⟨by omega, by
            rcases ht with ⟨h1, h2⟩ | ⟨h1, i, h2, h3⟩
            · refine Or.inl ⟨h1, fun i hi => ?_⟩
              by_cases e : i = k
              · rw [e]; exact hgood
              · exact h2 i (by omega)
            · exact Or.inr ⟨h1, i, by omega, h3⟩⟩) (show 16 - (k + 1) < 16 - k by omega) _ _ _ (lv_sub hl [0, 2, 3, 4, 5] rfl) hP hD hS
        · rw [nw_eq0 (by omega)] at q9
          refine lv_iinc (v := nI ((nw_cnt (fun i => b i ≠ 0) k) + 1)) hx hb d_Mod_type_78 hl (k := 2) rfl (nI_add (nw_cnt (fun i => b i ≠ 0) k) 1) (by decide) rfl (fun ls hl => ?_)
          have hl : lv_has ls 8 [(5, .int (nI ((nw_cnt (fun i => b i ≠ 0) k) + 1))), (7, .int (nI (b k))), (6, .int (nI k)), (0, .ref hM), (1, .long x1), (3, .long x2)] := hl
          rw [← nw_cnt_pos (f := fun i => b i ≠ 0) (n := k) q9] at hl
          have hl : lv_has ls 8 [(5, .int (nI (nw_cnt (fun i => b i ≠ 0) (k + 1)))), (7, .int (nI (b k))), (6, .int (nI k)), (0, .ref hM), (1, .long x1), (3, .long x2)] := hl
          refine lv_iinc (v := nI (k + 1)) hx hb d_Mod_type_81 hl (k := 2) rfl (nI_add k 1) (by decide) rfl (fun ls hl => ?_)
          have hl : lv_has ls 8 [(6, .int (nI (k + 1))), (5, .int (nI (nw_cnt (fun i => b i ≠ 0) (k + 1)))), (7, .int (nI (b k))), (0, .ref hM), (1, .long x1), (3, .long x2)] := hl
          refine lv_goto hx hb d_Mod_type_84 (tgt := 11) (by decide) ?_
          exact ih1 (k + 1, t) (⟨by omega, by
            rcases ht with ⟨h1, h2⟩ | ⟨h1, i, h2, h3⟩
            · refine Or.inl ⟨h1, fun i hi => ?_⟩
              by_cases e : i = k
              · rw [e]; exact hgood
              · exact h2 i (by omega)
            · exact Or.inr ⟨h1, i, by omega, h3⟩⟩) (show 16 - (k + 1) < 16 - k by omega) _ _ _ (lv_sub hl [0, 1, 3, 4, 5] rfl) hP hD hS
      · rw [nw_eq0 (by omega)] at r1
        refine lv_iload hx hb d_Mod_type_54 (lv_at hl 0 rfl) ?_
        refine lv_bipush (v := nI 33) hx hb d_Mod_type_56 (by decide) ?_
        refine lv_icmp_lt hx hb d_Mod_type_58 (tgt := 68) (by decide) (fun r2 => ?_) (fun r2 => ?_)
        · rw [nI_ltI (by omega) (by omega)] at r2
          have hbadk : (b k ≠ 0 ∧ (b k < 33 ∨ 126 < b k)) := ⟨r1, Or.inl r2⟩
          refine lv_aload_n hx hb d_Mod_type_68 rfl (lv_at hl 3 rfl) ?_
          refine lv_iconst (v := nI 1) hx hb d_Mod_type_69 (by decide) ?_
          refine va_put (D := (dC, dI)) (ci := 1) (v := .int (nI 1)) (ty := .int) (C := R_Mod) (T := F_Mod) (N := 16) hx hb hts hin_Mod t_Mod t_Mod_ok n_Mod hown hK hP hD hS 0 rfl rfl 15 (by decide) (hts _ (nw_mc 62 rfl)) (fun _ h9 => h9) rfl (by decide +kernel) rfl rfl (Nat.le_of_ble_eq_true rfl) d_Mod_type_70 (fun H locs hP hD hS => ?_)
          replace hP : va_P (dC, dI) nw_cls [(hM, .inr (1, [.ref ai, .ref aw, .ref ar, .ref al, .ref aL, .ref aD, .ref ac, .ref af, .ref ap, .ref an, .ref ax, .int (nI isz), .int (nI wn), .int (nI chn), .int (nI rn), .int (nI 1)])), (ai, nw_ai cB 60 I)] H := hP
          replace hD : va_D A [(hM, .inr (1, [.ref ai, .ref aw, .ref ar, .ref al, .ref aL, .ref aD, .ref ac, .ref af, .ref ap, .ref an, .ref ax, .int (nI isz), .int (nI wn), .int (nI chn), .int (nI rn), .int (nI 1)])), (ai, nw_ai cB 60 I)] := hD
          refine lv_iload hx hb d_Mod_type_73 (lv_at hl 0 rfl) ?_
          refine lv_if_eq hx hb d_Mod_type_75 (tgt := 81) (by decide) (fun q9 => ?_) (fun q9 => ?_)
          · rw [nw_eq0 (by omega)] at q9
            rw [← nw_cnt_neg (f := fun i => b i ≠ 0) (n := k) (fun h => h q9)] at hl
            refine lv_iinc (v := nI (k + 1)) hx hb d_Mod_type_81 hl (k := 1) rfl (nI_add k 1) (by decide) rfl (fun ls hl => ?_)
            have hl : lv_has ls 8 [(6, .int (nI (k + 1))), (7, .int (nI (b k))), (5, .int (nI (nw_cnt (fun i => b i ≠ 0) (k + 1)))), (0, .ref hM), (1, .long x1), (3, .long x2)] := hl
            refine lv_goto hx hb d_Mod_type_84 (tgt := 11) (by decide) ?_
            exact ih1 (k + 1, 1) (⟨by omega, Or.inr ⟨rfl, k, by omega, hbadk⟩⟩) (show 16 - (k + 1) < 16 - k by omega) _ _ _ (lv_sub hl [0, 2, 3, 4, 5] rfl) hP hD hS
          · rw [nw_eq0 (by omega)] at q9
            refine lv_iinc (v := nI ((nw_cnt (fun i => b i ≠ 0) k) + 1)) hx hb d_Mod_type_78 hl (k := 2) rfl (nI_add (nw_cnt (fun i => b i ≠ 0) k) 1) (by decide) rfl (fun ls hl => ?_)
            have hl : lv_has ls 8 [(5, .int (nI ((nw_cnt (fun i => b i ≠ 0) k) + 1))), (7, .int (nI (b k))), (6, .int (nI k)), (0, .ref hM), (1, .long x1), (3, .long x2)] := hl
            rw [← nw_cnt_pos (f := fun i => b i ≠ 0) (n := k) q9] at hl
            have hl : lv_has ls 8 [(5, .int (nI (nw_cnt (fun i => b i ≠ 0) (k + 1)))), (7, .int (nI (b k))), (6, .int (nI k)), (0, .ref hM), (1, .long x1), (3, .long x2)] := hl
            refine lv_iinc (v := nI (k + 1)) hx hb d_Mod_type_81 hl (k := 2) rfl (nI_add k 1) (by decide) rfl (fun ls hl => ?_)
            have hl : lv_has ls 8 [(6, .int (nI (k + 1))), (5, .int (nI (nw_cnt (fun i => b i ≠ 0) (k + 1)))), (7, .int (nI (b k))), (0, .ref hM), (1, .long x1), (3, .long x2)] := hl
            refine lv_goto hx hb d_Mod_type_84 (tgt := 11) (by decide) ?_
            exact ih1 (k + 1, 1) (⟨by omega, Or.inr ⟨rfl, k, by omega, hbadk⟩⟩) (show 16 - (k + 1) < 16 - k by omega) _ _ _ (lv_sub hl [0, 1, 3, 4, 5] rfl) hP hD hS
        · rw [nI_ltI (by omega) (by omega)] at r2
          refine lv_iload hx hb d_Mod_type_61 (lv_at hl 0 rfl) ?_
          refine lv_bipush (v := nI 126) hx hb d_Mod_type_63 (by decide) ?_
          refine lv_icmp_le hx hb d_Mod_type_65 (tgt := 73) (by decide) (fun r3 => ?_) (fun r3 => ?_)
          · rw [nI_leI (by omega) (by omega)] at r3
            have hgood : ¬ (b k ≠ 0 ∧ (b k < 33 ∨ 126 < b k)) := fun h => by omega
            refine lv_iload hx hb d_Mod_type_73 (lv_at hl 0 rfl) ?_
            refine lv_if_eq hx hb d_Mod_type_75 (tgt := 81) (by decide) (fun q9 => ?_) (fun q9 => ?_)
            · rw [nw_eq0 (by omega)] at q9
              rw [← nw_cnt_neg (f := fun i => b i ≠ 0) (n := k) (fun h => h q9)] at hl
              refine lv_iinc (v := nI (k + 1)) hx hb d_Mod_type_81 hl (k := 1) rfl (nI_add k 1) (by decide) rfl (fun ls hl => ?_)
              have hl : lv_has ls 8 [(6, .int (nI (k + 1))), (7, .int (nI (b k))), (5, .int (nI (nw_cnt (fun i => b i ≠ 0) (k + 1)))), (0, .ref hM), (1, .long x1), (3, .long x2)] := hl
              refine lv_goto hx hb d_Mod_type_84 (tgt := 11) (by decide) ?_
              exact ih1 (k + 1, t) (⟨by omega, by
                rcases ht with ⟨h1, h2⟩ | ⟨h1, i, h2, h3⟩
                · refine Or.inl ⟨h1, fun i hi => ?_⟩
                  by_cases e : i = k
                  · rw [e]; exact hgood
                  · exact h2 i (by omega)
                · exact Or.inr ⟨h1, i, by omega, h3⟩⟩) (show 16 - (k + 1) < 16 - k by omega) _ _ _ (lv_sub hl [0, 2, 3, 4, 5] rfl) hP hD hS
            · rw [nw_eq0 (by omega)] at q9
              refine lv_iinc (v := nI ((nw_cnt (fun i => b i ≠ 0) k) + 1)) hx hb d_Mod_type_78 hl (k := 2) rfl (nI_add (nw_cnt (fun i => b i ≠ 0) k) 1) (by decide) rfl (fun ls hl => ?_)
              have hl : lv_has ls 8 [(5, .int (nI ((nw_cnt (fun i => b i ≠ 0) k) + 1))), (7, .int (nI (b k))), (6, .int (nI k)), (0, .ref hM), (1, .long x1), (3, .long x2)] := hl
              rw [← nw_cnt_pos (f := fun i => b i ≠ 0) (n := k) q9] at hl
              have hl : lv_has ls 8 [(5, .int (nI (nw_cnt (fun i => b i ≠ 0) (k + 1)))), (7, .int (nI (b k))), (6, .int (nI k)), (0, .ref hM), (1, .long x1), (3, .long x2)] := hl
              refine lv_iinc (v := nI (k + 1)) hx hb d_Mod_type_81 hl (k := 2) rfl (nI_add k 1) (by decide) rfl (fun ls hl => ?_)
              have hl : lv_has ls 8 [(6, .int (nI (k + 1))), (5, .int (nI (nw_cnt (fun i => b i ≠ 0) (k + 1)))), (7, .int (nI (b k))), (0, .ref hM), (1, .long x1), (3, .long x2)] := hl
              refine lv_goto hx hb d_Mod_type_84 (tgt := 11) (by decide) ?_
              exact ih1 (k + 1, t) (⟨by omega, by
                rcases ht with ⟨h1, h2⟩ | ⟨h1, i, h2, h3⟩
                · refine Or.inl ⟨h1, fun i hi => ?_⟩
                  by_cases e : i = k
                  · rw [e]; exact hgood
                  · exact h2 i (by omega)
                · exact Or.inr ⟨h1, i, by omega, h3⟩⟩) (show 16 - (k + 1) < 16 - k by omega) _ _ _ (lv_sub hl [0, 1, 3, 4, 5] rfl) hP hD hS
          · rw [nI_leI (by omega) (by omega)] at r3
            have hbadk : (b k ≠ 0 ∧ (b k < 33 ∨ 126 < b k)) := ⟨r1, Or.inr (by omega)⟩
            refine lv_aload_n hx hb d_Mod_type_68 rfl (lv_at hl 3 rfl) ?_
            refine lv_iconst (v := nI 1) hx hb d_Mod_type_69 (by decide) ?_
            refine va_put (D := (dC, dI)) (ci := 1) (v := .int (nI 1)) (ty := .int) (C := R_Mod) (T := F_Mod) (N := 16) hx hb hts hin_Mod t_Mod t_Mod_ok n_Mod hown hK hP hD hS 0 rfl rfl 15 (by decide) (hts _ (nw_mc 62 rfl)) (fun _ h9 => h9) rfl (by decide +kernel) rfl rfl (Nat.le_of_ble_eq_true rfl) d_Mod_type_70 (fun H locs hP hD hS => ?_)
            replace hP : va_P (dC, dI) nw_cls [(hM, .inr (1, [.ref ai, .ref aw, .ref ar, .ref al, .ref aL, .ref aD, .ref ac, .ref af, .ref ap, .ref an, .ref ax, .int (nI isz), .int (nI wn), .int (nI chn), .int (nI rn), .int (nI 1)])), (ai, nw_ai cB 60 I)] H := hP
            replace hD : va_D A [(hM, .inr (1, [.ref ai, .ref aw, .ref ar, .ref al, .ref aL, .ref aD, .ref ac, .ref af, .ref ap, .ref an, .ref ax, .int (nI isz), .int (nI wn), .int (nI chn), .int (nI rn), .int (nI 1)])), (ai, nw_ai cB 60 I)] := hD
            refine lv_iload hx hb d_Mod_type_73 (lv_at hl 0 rfl) ?_
            refine lv_if_eq hx hb d_Mod_type_75 (tgt := 81) (by decide) (fun q9 => ?_) (fun q9 => ?_)
            · rw [nw_eq0 (by omega)] at q9
              rw [← nw_cnt_neg (f := fun i => b i ≠ 0) (n := k) (fun h => h q9)] at hl
              refine lv_iinc (v := nI (k + 1)) hx hb d_Mod_type_81 hl (k := 1) rfl (nI_add k 1) (by decide) rfl (fun ls hl => ?_)
              have hl : lv_has ls 8 [(6, .int (nI (k + 1))), (7, .int (nI (b k))), (5, .int (nI (nw_cnt (fun i => b i ≠ 0) (k + 1)))), (0, .ref hM), (1, .long x1), (3, .long x2)] := hl
              refine lv_goto hx hb d_Mod_type_84 (tgt := 11) (by decide) ?_
              exact ih1 (k + 1, 1) (⟨by omega, Or.inr ⟨rfl, k, by omega, hbadk⟩⟩) (show 16 - (k + 1) < 16 - k by omega) _ _ _ (lv_sub hl [0, 2, 3, 4, 5] rfl) hP hD hS
            · rw [nw_eq0 (by omega)] at q9
              refine lv_iinc (v := nI ((nw_cnt (fun i => b i ≠ 0) k) + 1)) hx hb d_Mod_type_78 hl (k := 2) rfl (nI_add (nw_cnt (fun i => b i ≠ 0) k) 1) (by decide) rfl (fun ls hl => ?_)
              have hl : lv_has ls 8 [(5, .int (nI ((nw_cnt (fun i => b i ≠ 0) k) + 1))), (7, .int (nI (b k))), (6, .int (nI k)), (0, .ref hM), (1, .long x1), (3, .long x2)] := hl
              rw [← nw_cnt_pos (f := fun i => b i ≠ 0) (n := k) q9] at hl
              have hl : lv_has ls 8 [(5, .int (nI (nw_cnt (fun i => b i ≠ 0) (k + 1)))), (7, .int (nI (b k))), (6, .int (nI k)), (0, .ref hM), (1, .long x1), (3, .long x2)] := hl
              refine lv_iinc (v := nI (k + 1)) hx hb d_Mod_type_81 hl (k := 2) rfl (nI_add k 1) (by decide) rfl (fun ls hl => ?_)
              have hl : lv_has ls 8 [(6, .int (nI (k + 1))), (5, .int (nI (nw_cnt (fun i => b i ≠ 0) (k + 1)))), (7, .int (nI (b k))), (0, .ref hM), (1, .long x1), (3, .long x2)] := hl
              refine lv_goto hx hb d_Mod_type_84 (tgt := 11) (by decide) ?_
              exact ih1 (k + 1, 1) (⟨by omega, Or.inr ⟨rfl, k, by omega, hbadk⟩⟩) (show 16 - (k + 1) < 16 - k by omega) _ _ _ (lv_sub hl [0, 1, 3, 4, 5] rfl) hP hD hS
    · rw [nI_leI (by omega) (by omega)] at q8
      refine lv_lload_n hx hb d_Mod_type_25 rfl (lv_at hl 3 rfl) ?_
      refine lv_goto hx hb d_Mod_type_26 (tgt := 30) (by decide) ?_
      refine lv_bipush (v := nI 56) hx hb d_Mod_type_30 (by decide) ?_
      refine lv_iload hx hb d_Mod_type_32 (lv_at hl 0 rfl) ?_
      refine lv_bipush (v := nI 8) hx hb d_Mod_type_34 (by decide) ?_
      refine lv_irem hx hb d_Mod_type_36 (by decide) ?_
      refine nw_ti (pk_rem (a := k) (d := 8) (by omega) (by decide) (by decide)) ?_
      refine lv_bipush (v := nI 8) hx hb d_Mod_type_37 (by decide) ?_
      refine lv_imul hx hb d_Mod_type_39 ?_
      refine nw_ti (pk_mul (k % 8) 8) ?_
      refine lv_isub hx hb d_Mod_type_40 ?_
      refine nw_ti (pk_sub (a := 56) (b := ((k % 8) * 8)) (by omega)) ?_
      refine nw_ti (y := nI (56 - k % 8 * 8)) (congrArg nI (show 56 - ((k % 8) * 8) = 56 - k % 8 * 8 by omega)) ?_
      refine lv_lushr (v := (x1.toUInt64 >>> ((nI (56 - k % 8 * 8)).toInt64.toUInt64 &&& Int64.toUInt64 63)).toInt64) hx hb d_Mod_type_41 (rfl) ?_
      refine lv_l2i (v := (x1.toUInt64 >>> ((nI (56 - k % 8 * 8)).toInt64.toUInt64 &&& Int64.toUInt64 63)).toInt64.toInt32) hx hb d_Mod_type_42 (rfl) ?_
      refine lv_sipush (v := nI 255) hx hb d_Mod_type_43 (by decide) ?_
      refine lv_iand hx hb d_Mod_type_46 ?_
      refine nw_ti (y := nI (b k)) ((nw_byte x1 (sh := 56 - k % 8 * 8) (by omega)).trans (congrArg nI (by rw [hb9]; exact (if_pos (by omega)).symm))) ?_
      refine lv_istore hx hb d_Mod_type_47 hl (by decide) rfl (fun ls hl => ?_)
      replace hl : lv_has ls 8 [(7, .int (nI (b k))), (6, .int (nI k)), (5, .int (nI (nw_cnt (fun i => b i ≠ 0) k))), (0, .ref hM), (1, .long x1), (3, .long x2)] := hl
      refine lv_iload hx hb d_Mod_type_49 (lv_at hl 0 rfl) ?_
      refine lv_if_eq hx hb d_Mod_type_51 (tgt := 73) (by decide) (fun r1 => ?_) (fun r1 => ?_)
      · rw [nw_eq0 (by omega)] at r1
        have hgood : ¬ (b k ≠ 0 ∧ (b k < 33 ∨ 126 < b k)) := fun h => h.1 r1
        refine lv_iload hx hb d_Mod_type_73 (lv_at hl 0 rfl) ?_
        refine lv_if_eq hx hb d_Mod_type_75 (tgt := 81) (by decide) (fun q9 => ?_) (fun q9 => ?_)
        · rw [nw_eq0 (by omega)] at q9
          rw [← nw_cnt_neg (f := fun i => b i ≠ 0) (n := k) (fun h => h q9)] at hl
          refine lv_iinc (v := nI (k + 1)) hx hb d_Mod_type_81 hl (k := 1) rfl (nI_add k 1) (by decide) rfl (fun ls hl => ?_)
          have hl : lv_has ls 8 [(6, .int (nI (k + 1))), (7, .int (nI (b k))), (5, .int (nI (nw_cnt (fun i => b i ≠ 0) (k + 1)))), (0, .ref hM), (1, .long x1), (3, .long x2)] := hl
          refine lv_goto hx hb d_Mod_type_84 (tgt := 11) (by decide) ?_
          exact ih1 (k + 1, t) (⟨by omega, by
            rcases ht with ⟨h1, h2⟩ | ⟨h1, i, h2, h3⟩
            · refine Or.inl ⟨h1, fun i hi => ?_⟩
              by_cases e : i = k
              · rw [e]; exact hgood
              · exact h2 i (by omega)
            · exact Or.inr ⟨h1, i, by omega, h3⟩⟩) (show 16 - (k + 1) < 16 - k by omega) _ _ _ (lv_sub hl [0, 2, 3, 4, 5] rfl) hP hD hS
        · rw [nw_eq0 (by omega)] at q9
          refine lv_iinc (v := nI ((nw_cnt (fun i => b i ≠ 0) k) + 1)) hx hb d_Mod_type_78 hl (k := 2) rfl (nI_add (nw_cnt (fun i => b i ≠ 0) k) 1) (by decide) rfl (fun ls hl => ?_)
          have hl : lv_has ls 8 [(5, .int (nI ((nw_cnt (fun i => b i ≠ 0) k) + 1))), (7, .int (nI (b k))), (6, .int (nI k)), (0, .ref hM), (1, .long x1), (3, .long x2)] := hl
          rw [← nw_cnt_pos (f := fun i => b i ≠ 0) (n := k) q9] at hl
          have hl : lv_has ls 8 [(5, .int (nI (nw_cnt (fun i => b i ≠ 0) (k + 1)))), (7, .int (nI (b k))), (6, .int (nI k)), (0, .ref hM), (1, .long x1), (3, .long x2)] := hl
          refine lv_iinc (v := nI (k + 1)) hx hb d_Mod_type_81 hl (k := 2) rfl (nI_add k 1) (by decide) rfl (fun ls hl => ?_)
          have hl : lv_has ls 8 [(6, .int (nI (k + 1))), (5, .int (nI (nw_cnt (fun i => b i ≠ 0) (k + 1)))), (7, .int (nI (b k))), (0, .ref hM), (1, .long x1), (3, .long x2)] := hl
          refine lv_goto hx hb d_Mod_type_84 (tgt := 11) (by decide) ?_
          exact ih1 (k + 1, t) (⟨by omega, by
            rcases ht with ⟨h1, h2⟩ | ⟨h1, i, h2, h3⟩
            · refine Or.inl ⟨h1, fun i hi => ?_⟩
              by_cases e : i = k
              · rw [e]; exact hgood
              · exact h2 i (by omega)
            · exact Or.inr ⟨h1, i, by omega, h3⟩⟩) (show 16 - (k + 1) < 16 - k by omega) _ _ _ (lv_sub hl [0, 1, 3, 4, 5] rfl) hP hD hS
      · rw [nw_eq0 (by omega)] at r1
        refine lv_iload hx hb d_Mod_type_54 (lv_at hl 0 rfl) ?_
        refine lv_bipush (v := nI 33) hx hb d_Mod_type_56 (by decide) ?_
        refine lv_icmp_lt hx hb d_Mod_type_58 (tgt := 68) (by decide) (fun r2 => ?_) (fun r2 => ?_)
        · rw [nI_ltI (by omega) (by omega)] at r2
          have hbadk : (b k ≠ 0 ∧ (b k < 33 ∨ 126 < b k)) := ⟨r1, Or.inl r2⟩
          refine lv_aload_n hx hb d_Mod_type_68 rfl (lv_at hl 3 rfl) ?_
          refine lv_iconst (v := nI 1) hx hb d_Mod_type_69 (by decide) ?_
          refine va_put (D := (dC, dI)) (ci := 1) (v := .int (nI 1)) (ty := .int) (C := R_Mod) (T := F_Mod) (N := 16) hx hb hts hin_Mod t_Mod t_Mod_ok n_Mod hown hK hP hD hS 0 rfl rfl 15 (by decide) (hts _ (nw_mc 62 rfl)) (fun _ h9 => h9) rfl (by decide +kernel) rfl rfl (Nat.le_of_ble_eq_true rfl) d_Mod_type_70 (fun H locs hP hD hS => ?_)
          replace hP : va_P (dC, dI) nw_cls [(hM, .inr (1, [.ref ai, .ref aw, .ref ar, .ref al, .ref aL, .ref aD, .ref ac, .ref af, .ref ap, .ref an, .ref ax, .int (nI isz), .int (nI wn), .int (nI chn), .int (nI rn), .int (nI 1)])), (ai, nw_ai cB 60 I)] H := hP
          replace hD : va_D A [(hM, .inr (1, [.ref ai, .ref aw, .ref ar, .ref al, .ref aL, .ref aD, .ref ac, .ref af, .ref ap, .ref an, .ref ax, .int (nI isz), .int (nI wn), .int (nI chn), .int (nI rn), .int (nI 1)])), (ai, nw_ai cB 60 I)] := hD
          refine lv_iload hx hb d_Mod_type_73 (lv_at hl 0 rfl) ?_
          refine lv_if_eq hx hb d_Mod_type_75 (tgt := 81) (by decide) (fun q9 => ?_) (fun q9 => ?_)
          · rw [nw_eq0 (by omega)] at q9
            rw [← nw_cnt_neg (f := fun i => b i ≠ 0) (n := k) (fun h => h q9)] at hl
            refine lv_iinc (v := nI (k + 1)) hx hb d_Mod_type_81 hl (k := 1) rfl (nI_add k 1) (by decide) rfl (fun ls hl => ?_)
            have hl : lv_has ls 8 [(6, .int (nI (k + 1))), (7, .int (nI (b k))), (5, .int (nI (nw_cnt (fun i => b i ≠ 0) (k + 1)))), (0, .ref hM), (1, .long x1), (3, .long x2)] := hl
            refine lv_goto hx hb d_Mod_type_84 (tgt := 11) (by decide) ?_
            exact ih1 (k + 1, 1) (⟨by omega, Or.inr ⟨rfl, k, by omega, hbadk⟩⟩) (show 16 - (k + 1) < 16 - k by omega) _ _ _ (lv_sub hl [0, 2, 3, 4, 5] rfl) hP hD hS
          · rw [nw_eq0 (by omega)] at q9
            refine lv_iinc (v := nI ((nw_cnt (fun i => b i ≠ 0) k) + 1)) hx hb d_Mod_type_78 hl (k := 2) rfl (nI_add (nw_cnt (fun i => b i ≠ 0) k) 1) (by decide) rfl (fun ls hl => ?_)
            have hl : lv_has ls 8 [(5, .int (nI ((nw_cnt (fun i => b i ≠ 0) k) + 1))), (7, .int (nI (b k))), (6, .int (nI k)), (0, .ref hM), (1, .long x1), (3, .long x2)] := hl
            rw [← nw_cnt_pos (f := fun i => b i ≠ 0) (n := k) q9] at hl
            have hl : lv_has ls 8 [(5, .int (nI (nw_cnt (fun i => b i ≠ 0) (k + 1)))), (7, .int (nI (b k))), (6, .int (nI k)), (0, .ref hM), (1, .long x1), (3, .long x2)] := hl
            refine lv_iinc (v := nI (k + 1)) hx hb d_Mod_type_81 hl (k := 2) rfl (nI_add k 1) (by decide) rfl (fun ls hl => ?_)
            have hl : lv_has ls 8 [(6, .int (nI (k + 1))), (5, .int (nI (nw_cnt (fun i => b i ≠ 0) (k + 1)))), (7, .int (nI (b k))), (0, .ref hM), (1, .long x1), (3, .long x2)] := hl
            refine lv_goto hx hb d_Mod_type_84 (tgt := 11) (by decide) ?_
            exact ih1 (k + 1, 1) (⟨by omega, Or.inr ⟨rfl, k, by omega, hbadk⟩⟩) (show 16 - (k + 1) < 16 - k by omega) _ _ _ (lv_sub hl [0, 1, 3, 4, 5] rfl) hP hD hS
        · rw [nI_ltI (by omega) (by omega)] at r2
          refine lv_iload hx hb d_Mod_type_61 (lv_at hl 0 rfl) ?_
          refine lv_bipush (v := nI 126) hx hb d_Mod_type_63 (by decide) ?_
          refine lv_icmp_le hx hb d_Mod_type_65 (tgt := 73) (by decide) (fun r3 => ?_) (fun r3 => ?_)
          · rw [nI_leI (by omega) (by omega)] at r3
            have hgood : ¬ (b k ≠ 0 ∧ (b k < 33 ∨ 126 < b k)) := fun h => by omega
            refine lv_iload hx hb d_Mod_type_73 (lv_at hl 0 rfl) ?_
            refine lv_if_eq hx hb d_Mod_type_75 (tgt := 81) (by decide) (fun q9 => ?_) (fun q9 => ?_)
            · rw [nw_eq0 (by omega)] at q9
              rw [← nw_cnt_neg (f := fun i => b i ≠ 0) (n := k) (fun h => h q9)] at hl
              refine lv_iinc (v := nI (k + 1)) hx hb d_Mod_type_81 hl (k := 1) rfl (nI_add k 1) (by decide) rfl (fun ls hl => ?_)
              have hl : lv_has ls 8 [(6, .int (nI (k + 1))), (7, .int (nI (b k))), (5, .int (nI (nw_cnt (fun i => b i ≠ 0) (k + 1)))), (0, .ref hM), (1, .long x1), (3, .long x2)] := hl
              refine lv_goto hx hb d_Mod_type_84 (tgt := 11) (by decide) ?_
              exact ih1 (k + 1, t) (⟨by omega, by
                rcases ht with ⟨h1, h2⟩ | ⟨h1, i, h2, h3⟩
                · refine Or.inl ⟨h1, fun i hi => ?_⟩
                  by_cases e : i = k
                  · rw [e]; exact hgood
                  · exact h2 i (by omega)
                · exact Or.inr ⟨h1, i, by omega, h3⟩⟩) (show 16 - (k + 1) < 16 - k by omega) _ _ _ (lv_sub hl [0, 2, 3, 4, 5] rfl) hP hD hS
            · rw [nw_eq0 (by omega)] at q9
              refine lv_iinc (v := nI ((nw_cnt (fun i => b i ≠ 0) k) + 1)) hx hb d_Mod_type_78 hl (k := 2) rfl (nI_add (nw_cnt (fun i => b i ≠ 0) k) 1) (by decide) rfl (fun ls hl => ?_)
              have hl : lv_has ls 8 [(5, .int (nI ((nw_cnt (fun i => b i ≠ 0) k) + 1))), (7, .int (nI (b k))), (6, .int (nI k)), (0, .ref hM), (1, .long x1), (3, .long x2)] := hl
              rw [← nw_cnt_pos (f := fun i => b i ≠ 0) (n := k) q9] at hl
              have hl : lv_has ls 8 [(5, .int (nI (nw_cnt (fun i => b i ≠ 0) (k + 1)))), (7, .int (nI (b k))), (6, .int (nI k)), (0, .ref hM), (1, .long x1), (3, .long x2)] := hl
              refine lv_iinc (v := nI (k + 1)) hx hb d_Mod_type_81 hl (k := 2) rfl (nI_add k 1) (by decide) rfl (fun ls hl => ?_)
              have hl : lv_has ls 8 [(6, .int (nI (k + 1))), (5, .int (nI (nw_cnt (fun i => b i ≠ 0) (k + 1)))), (7, .int (nI (b k))), (0, .ref hM), (1, .long x1), (3, .long x2)] := hl
              refine lv_goto hx hb d_Mod_type_84 (tgt := 11) (by decide) ?_
              exact ih1 (k + 1, t) (⟨by omega, by
                rcases ht with ⟨h1, h2⟩ | ⟨h1, i, h2, h3⟩
                · refine Or.inl ⟨h1, fun i hi => ?_⟩
                  by_cases e : i = k
                  · rw [e]; exact hgood
                  · exact h2 i (by omega)
                · exact Or.inr ⟨h1, i, by omega, h3⟩⟩) (show 16 - (k + 1) < 16 - k by omega) _ _ _ (lv_sub hl [0, 1, 3, 4, 5] rfl) hP hD hS
          · rw [nI_leI (by omega) (by omega)] at r3
            have hbadk : (b k ≠ 0 ∧ (b k < 33 ∨ 126 < b k)) := ⟨r1, Or.inr (by omega)⟩
            refine lv_aload_n hx hb d_Mod_type_68 rfl (lv_at hl 3 rfl) ?_
            refine lv_iconst (v := nI 1) hx hb d_Mod_type_69 (by decide) ?_
            refine va_put (D := (dC, dI)) (ci := 1) (v := .int (nI 1)) (ty := .int) (C := R_Mod) (T := F_Mod) (N := 16) hx hb hts hin_Mod t_Mod t_Mod_ok n_Mod hown hK hP hD hS 0 rfl rfl 15 (by decide) (hts _ (nw_mc 62 rfl)) (fun _ h9 => h9) rfl (by decide +kernel) rfl rfl (Nat.le_of_ble_eq_true rfl) d_Mod_type_70 (fun H locs hP hD hS => ?_)
            replace hP : va_P (dC, dI) nw_cls [(hM, .inr (1, [.ref ai, .ref aw, .ref ar, .ref al, .ref aL, .ref aD, .ref ac, .ref af, .ref ap, .ref an, .ref ax, .int (nI isz), .int (nI wn), .int (nI chn), .int (nI rn), .int (nI 1)])), (ai, nw_ai cB 60 I)] H := hP
            replace hD : va_D A [(hM, .inr (1, [.ref ai, .ref aw, .ref ar, .ref al, .ref aL, .ref aD, .ref ac, .ref af, .ref ap, .ref an, .ref ax, .int (nI isz), .int (nI wn), .int (nI chn), .int (nI rn), .int (nI 1)])), (ai, nw_ai cB 60 I)] := hD
            refine lv_iload hx hb d_Mod_type_73 (lv_at hl 0 rfl) ?_
            refine lv_if_eq hx hb d_Mod_type_75 (tgt := 81) (by decide) (fun q9 => ?_) (fun q9 => ?_)
            · rw [nw_eq0 (by omega)] at q9
              rw [← nw_cnt_neg (f := fun i => b i ≠ 0) (n := k) (fun h => h q9)] at hl
              refine lv_iinc (v := nI (k + 1)) hx hb d_Mod_type_81 hl (k := 1) rfl (nI_add k 1) (by decide) rfl (fun ls hl => ?_)
              have hl : lv_has ls 8 [(6, .int (nI (k + 1))), (7, .int (nI (b k))), (5, .int (nI (nw_cnt (fun i => b i ≠ 0) (k + 1)))), (0, .ref hM), (1, .long x1), (3, .long x2)] := hl
              refine lv_goto hx hb d_Mod_type_84 (tgt := 11) (by decide) ?_
              exact ih1 (k + 1, 1) (⟨by omega, Or.inr ⟨rfl, k, by omega, hbadk⟩⟩) (show 16 - (k + 1) < 16 - k by omega) _ _ _ (lv_sub hl [0, 2, 3, 4, 5] rfl) hP hD hS
            · rw [nw_eq0 (by omega)] at q9
              refine lv_iinc (v := nI ((nw_cnt (fun i => b i ≠ 0) k) + 1)) hx hb d_Mod_type_78 hl (k := 2) rfl (nI_add (nw_cnt (fun i => b i ≠ 0) k) 1) (by decide) rfl (fun ls hl => ?_)
              have hl : lv_has ls 8 [(5, .int (nI ((nw_cnt (fun i => b i ≠ 0) k) + 1))), (7, .int (nI (b k))), (6, .int (nI k)), (0, .ref hM), (1, .long x1), (3, .long x2)] := hl
              rw [← nw_cnt_pos (f := fun i => b i ≠ 0) (n := k) q9] at hl
              have hl : lv_has ls 8 [(5, .int (nI (nw_cnt (fun i => b i ≠ 0) (k + 1)))), (7, .int (nI (b k))), (6, .int (nI k)), (0, .ref hM), (1, .long x1), (3, .long x2)] := hl
              refine lv_iinc (v := nI (k + 1)) hx hb d_Mod_type_81 hl (k := 2) rfl (nI_add k 1) (by decide) rfl (fun ls hl => ?_)
              have hl : lv_has ls 8 [(6, .int (nI (k + 1))), (5, .int (nI (nw_cnt (fun i => b i ≠ 0) (k + 1)))), (7, .int (nI (b k))), (0, .ref hM), (1, .long x1), (3, .long x2)] := hl
              refine lv_goto hx hb d_Mod_type_84 (tgt := 11) (by decide) ?_
              exact ih1 (k + 1, 1) (⟨by omega, Or.inr ⟨rfl, k, by omega, hbadk⟩⟩) (show 16 - (k + 1) < 16 - k by omega) _ _ _ (lv_sub hl [0, 1, 3, 4, 5] rfl) hP hD hS
end
section
set_option maxHeartbeats 4000000 in
set_option maxRecDepth 100000 in
theorem c_Mod_init (l : Launch) (dC : Nat → ClassId) (dI : Nat → Nat → Nat) (sz : Nat) (cB cI cZ : ClassId) (hM : Nat) : Met l y_Mod_init w_Mod_init ({ frames := 1, cells := 11, slots := 68103, locals := 12 }) (nw_Pw [.ref hM] (dC, dI) nw_cls [(cB, .byte), (cI, .int), (cZ, .boolean)] [(hM, .inr (1, [.null, .null, .null, .null, .null, .null, .null, .null, .null, .null, .null, .int (nI 0), .int (nI 0), .int (nI 0), .int (nI 0), .int (nI 0)]))] sz) (va_Qv (fun _ : Nat → Nat => True) (nw_B (dC, dI) nw_cls (va_A [(hM, .inr (1, [.null, .null, .null, .null, .null, .null, .null, .null, .null, .null, .null, .int (nI 0), .int (nI 0), .int (nI 0), .int (nI 0), .int (nI 0)]))] sz) (fun u => [(hM, .inr (1, [.ref (u 0), .ref (u 1), .ref (u 2), .ref (u 3), .ref (u 4), .ref (u 5), .ref (u 6), .ref (u 7), .ref (u 8), .ref (u 9), .ref (u 10), .int (nI 0), .int (nI 0), .int (nI 0), .int (nI 0), .int (nI 0)])), (u 0, nw_ai cB 60 (fun _ => 0)), (u 1, nw_ai cB 60000 (fun _ => 0)), (u 2, nw_ai cB 3000 (fun _ => 0)), (u 3, nw_ai cI 1000 (fun _ => 0)), (u 4, nw_ai cI 50 (fun _ => 0)), (u 5, nw_ai cI 50 (fun _ => 0)), (u 6, nw_ai cI 50 (fun _ => 0)), (u 7, nw_ai cI 50 (fun _ => 0)), (u 8, nw_ai cI 3721 (fun _ => 0)), (u 9, nw_ai cZ 61 (fun _ => 0)), (u 10, nw_ai cZ 61 (fun _ => 0))])) (va_A [(hM, .inr (1, [.null, .null, .null, .null, .null, .null, .null, .null, .null, .null, .null, .int (nI 0), .int (nI 0), .int (nI 0), .int (nI 0), .int (nI 0)]))] sz)) 11 68103 (va_A [(hM, .inr (1, [.null, .null, .null, .null, .null, .null, .null, .null, .null, .null, .null, .int (nI 0), .int (nI 0), .int (nI 0), .int (nI 0), .int (nI 0)]))] sz) := by
  refine Met.ofW (cc := b_Mod_init) (maxL := 1) (ret := none) (by decide) rfl ?_
  intro p e s m args below meth cd s₁ B hml hv0
  obtain ⟨rfl, hsz, hP, hK, hD0⟩ := hv0
  have hx := B.exec
  have hb := B.bytes
  have hr := B.returns
  have hts := atoms_spec (ws := w_Mod_init) B.pre
  have hown : s.vm.findClass R_Mod = some m.cls := findClass_of_methodNamed B.named
  have hlocks := B.notSynchronized
  have hin : meth.name = "<init>" := (name_of_methodNamed B.named B.method).1
  subst hsz
  have hD := hD0.self (sz := s.heap.size)
  generalize hAe : va_A [(hM, .inr (1, [.null, .null, .null, .null, .null, .null, .null, .null, .null, .null, .null, .int (nI 0), .int (nI 0), .int (nI 0), .int (nI 0), .int (nI 0)]))] s.heap.size = A at hD ⊢
  have hA : ∀ q : Nat, s.heap.size ≤ q → A q := fun q h => by rw [← hAe]; exact Or.inr h
  have hS : va_S A s.heap s.heap [] := va_S.rf
  have hl := lv_entry ([.ref hM]) (n := 1) (Nat.le_of_ble_eq_true rfl)
  rw [lg_entry_eq]
  generalize (lg_sl ([.ref hM]) ++ List.replicate (1 - (lg_sl ([.ref hM])).length) Slot.unset).toArray = ls at hl ⊢
  have hl : lv_has ls 1 [(0, .ref hM)] := hl
  refine lv_aload_n hx hb d_Mod_init_0 rfl (lv_at hl 0 rfl) ?_
  refine W.objInit hx hb hown (hts _ (nw_mc 110 rfl)) (hts _ (nw_mc 48 rfl)) (hts _ (nw_mc 49 rfl)) rfl (by rw [hml]; exact hl.1) rfl d_Mod_init_1 (Nat.le_of_ble_eq_true rfl) (Nat.le_of_ble_eq_true rfl) ?_
  refine W.eq (g2 := F0 m 4 ls []) rfl ?_
  refine lv_aload_n hx hb d_Mod_init_4 rfl (lv_at hl 0 rfl) ?_
  refine lv_bipush (v := nI 60) hx hb d_Mod_init_5 (by decide) ?_
  refine nw_newa (ty := .byte) (a0 := (60, .inl (fun _ => nI 0))) hx hb (hts _ (nw_mc 50 rfl)) rfl hK hP hD hS hA 0 rfl rfl (n := 60) (by decide) (fun _ => rfl) (by decide) (Nat.le_of_ble_eq_true rfl) (Nat.le_of_ble_eq_true rfl) d_Mod_init_7 (fun q0 H hP hD hS => ?_)
  replace hP : va_P (dC, dI) nw_cls [(hM, .inr (1, [.null, .null, .null, .null, .null, .null, .null, .null, .null, .null, .null, .int (nI 0), .int (nI 0), .int (nI 0), .int (nI 0), .int (nI 0)])), (q0, nw_ai cB 60 (fun _ => 0))] H := hP
  replace hD : va_D A [(hM, .inr (1, [.null, .null, .null, .null, .null, .null, .null, .null, .null, .null, .null, .int (nI 0), .int (nI 0), .int (nI 0), .int (nI 0), .int (nI 0)])), (q0, nw_ai cB 60 (fun _ => 0))] := hD
  refine va_putF (D := (dC, dI)) (ci := 1) (v := .ref q0) (ty := (.array .byte)) (C := R_Mod) (T := F_Mod) (N := 16) hx hb hts hin_Mod t_Mod t_Mod_ok n_Mod hown hK hP hD hS 0 rfl rfl 0 (by decide) (hts _ (nw_mc 70 rfl)) (fun _ h9 => h9) rfl hin rfl (by decide +kernel) rfl rfl (Nat.le_of_ble_eq_true rfl) d_Mod_init_9 (fun H locs hP hD hS => ?_)
  replace hP : va_P (dC, dI) nw_cls [(hM, .inr (1, [.ref q0, .null, .null, .null, .null, .null, .null, .null, .null, .null, .null, .int (nI 0), .int (nI 0), .int (nI 0), .int (nI 0), .int (nI 0)])), (q0, nw_ai cB 60 (fun _ => 0))] H := hP
  replace hD : va_D A [(hM, .inr (1, [.ref q0, .null, .null, .null, .null, .null, .null, .null, .null, .null, .null, .int (nI 0), .int (nI 0), .int (nI 0), .int (nI 0), .int (nI 0)])), (q0, nw_ai cB 60 (fun _ => 0))] := hD
  refine lv_aload_n hx hb d_Mod_init_12 rfl (lv_at hl 0 rfl) ?_
  refine lv_ldc (v := nI 60000) hx hb hown (hts _ (nw_mc 111 rfl)) d_Mod_init_13 ?_
  refine nw_newa (ty := .byte) (a0 := (60000, .inl (fun _ => nI 0))) hx hb (hts _ (nw_mc 50 rfl)) rfl hK hP hD hS hA 0 rfl rfl (n := 60000) (by decide) (fun _ => rfl) (by decide) (Nat.le_of_ble_eq_true rfl) (Nat.le_of_ble_eq_true rfl) d_Mod_init_15 (fun q1 H hP hD hS => ?_)
  replace hP : va_P (dC, dI) nw_cls [(hM, .inr (1, [.ref q0, .null, .null, .null, .null, .null, .null, .null, .null, .null, .null, .int (nI 0), .int (nI 0), .int (nI 0), .int (nI 0), .int (nI 0)])), (q0, nw_ai cB 60 (fun _ => 0)), (q1, nw_ai cB 60000 (fun _ => 0))] H := hP
  replace hD : va_D A [(hM, .inr (1, [.ref q0, .null, .null, .null, .null, .null, .null, .null, .null, .null, .null, .int (nI 0), .int (nI 0), .int (nI 0), .int (nI 0), .int (nI 0)])), (q0, nw_ai cB 60 (fun _ => 0)), (q1, nw_ai cB 60000 (fun _ => 0))] := hD
  refine va_putF (D := (dC, dI)) (ci := 1) (v := .ref q1) (ty := (.array .byte)) (C := R_Mod) (T := F_Mod) (N := 16) hx hb hts hin_Mod t_Mod t_Mod_ok n_Mod hown hK hP hD hS 0 rfl rfl 1 (by decide) (hts _ (nw_mc 69 rfl)) (fun _ h9 => h9) rfl hin rfl (by decide +kernel) rfl rfl (Nat.le_of_ble_eq_true rfl) d_Mod_init_17 (fun H locs hP hD hS => ?_)
  replace hP : va_P (dC, dI) nw_cls [(hM, .inr (1, [.ref q0, .ref q1, .null, .null, .null, .null, .null, .null, .null, .null, .null, .int (nI 0), .int (nI 0), .int (nI 0), .int (nI 0), .int (nI 0)])), (q0, nw_ai cB 60 (fun _ => 0)), (q1, nw_ai cB 60000 (fun _ => 0))] H := hP
  replace hD : va_D A [(hM, .inr (1, [.ref q0, .ref q1, .null, .null, .null, .null, .null, .null, .null, .null, .null, .int (nI 0), .int (nI 0), .int (nI 0), .int (nI 0), .int (nI 0)])), (q0, nw_ai cB 60 (fun _ => 0)), (q1, nw_ai cB 60000 (fun _ => 0))] := hD
  refine lv_aload_n hx hb d_Mod_init_20 rfl (lv_at hl 0 rfl) ?_
  refine lv_sipush (v := nI 3000) hx hb d_Mod_init_21 (by decide) ?_
  refine nw_newa (ty := .byte) (a0 := (3000, .inl (fun _ => nI 0))) hx hb (hts _ (nw_mc 50 rfl)) rfl hK hP hD hS hA 0 rfl rfl (n := 3000) (by decide) (fun _ => rfl) (by decide) (Nat.le_of_ble_eq_true rfl) (Nat.le_of_ble_eq_true rfl) d_Mod_init_24 (fun q2 H hP hD hS => ?_)
  replace hP : va_P (dC, dI) nw_cls [(hM, .inr (1, [.ref q0, .ref q1, .null, .null, .null, .null, .null, .null, .null, .null, .null, .int (nI 0), .int (nI 0), .int (nI 0), .int (nI 0), .int (nI 0)])), (q0, nw_ai cB 60 (fun _ => 0)), (q1, nw_ai cB 60000 (fun _ => 0)), (q2, nw_ai cB 3000 (fun _ => 0))] H := hP
  replace hD : va_D A [(hM, .inr (1, [.ref q0, .ref q1, .null, .null, .null, .null, .null, .null, .null, .null, .null, .int (nI 0), .int (nI 0), .int (nI 0), .int (nI 0), .int (nI 0)])), (q0, nw_ai cB 60 (fun _ => 0)), (q1, nw_ai cB 60000 (fun _ => 0)), (q2, nw_ai cB 3000 (fun _ => 0))] := hD
  refine va_putF (D := (dC, dI)) (ci := 1) (v := .ref q2) (ty := (.array .byte)) (C := R_Mod) (T := F_Mod) (N := 16) hx hb hts hin_Mod t_Mod t_Mod_ok n_Mod hown hK hP hD hS 0 rfl rfl 2 (by decide) (hts _ (nw_mc 87 rfl)) (fun _ h9 => h9) rfl hin rfl (by decide +kernel) rfl rfl (Nat.le_of_ble_eq_true rfl) d_Mod_init_26 (fun H locs hP hD hS => ?_)
  replace hP : va_P (dC, dI) nw_cls [(hM, .inr (1, [.ref q0, .ref q1, .ref q2, .null, .null, .null, .null, .null, .null, .null, .null, .int (nI 0), .int (nI 0), .int (nI 0), .int (nI 0), .int (nI 0)])), (q0, nw_ai cB 60 (fun _ => 0)), (q1, nw_ai cB 60000 (fun _ => 0)), (q2, nw_ai cB 3000 (fun _ => 0))] H := hP
  replace hD : va_D A [(hM, .inr (1, [.ref q0, .ref q1, .ref q2, .null, .null, .null, .null, .null, .null, .null, .null, .int (nI 0), .int (nI 0), .int (nI 0), .int (nI 0), .int (nI 0)])), (q0, nw_ai cB 60 (fun _ => 0)), (q1, nw_ai cB 60000 (fun _ => 0)), (q2, nw_ai cB 3000 (fun _ => 0))] := hD
  refine lv_aload_n hx hb d_Mod_init_29 rfl (lv_at hl 0 rfl) ?_
  refine lv_sipush (v := nI 1000) hx hb d_Mod_init_30 (by decide) ?_
  refine nw_newa (ty := .int) (a0 := (1000, .inl (fun _ => nI 0))) hx hb (hts _ (nw_mc 52 rfl)) rfl hK hP hD hS hA 1 rfl rfl (n := 1000) (by decide) (fun _ => rfl) (by decide) (Nat.le_of_ble_eq_true rfl) (Nat.le_of_ble_eq_true rfl) d_Mod_init_33 (fun q3 H hP hD hS => ?_)
  replace hP : va_P (dC, dI) nw_cls [(hM, .inr (1, [.ref q0, .ref q1, .ref q2, .null, .null, .null, .null, .null, .null, .null, .null, .int (nI 0), .int (nI 0), .int (nI 0), .int (nI 0), .int (nI 0)])), (q0, nw_ai cB 60 (fun _ => 0)), (q1, nw_ai cB 60000 (fun _ => 0)), (q2, nw_ai cB 3000 (fun _ => 0)), (q3, nw_ai cI 1000 (fun _ => 0))] H := hP
  replace hD : va_D A [(hM, .inr (1, [.ref q0, .ref q1, .ref q2, .null, .null, .null, .null, .null, .null, .null, .null, .int (nI 0), .int (nI 0), .int (nI 0), .int (nI 0), .int (nI 0)])), (q0, nw_ai cB 60 (fun _ => 0)), (q1, nw_ai cB 60000 (fun _ => 0)), (q2, nw_ai cB 3000 (fun _ => 0)), (q3, nw_ai cI 1000 (fun _ => 0))] := hD
  refine va_putF (D := (dC, dI)) (ci := 1) (v := .ref q3) (ty := (.array .int)) (C := R_Mod) (T := F_Mod) (N := 16) hx hb hts hin_Mod t_Mod t_Mod_ok n_Mod hown hK hP hD hS 0 rfl rfl 3 (by decide) (hts _ (nw_mc 64 rfl)) (fun _ h9 => h9) rfl hin rfl (by decide +kernel) rfl rfl (Nat.le_of_ble_eq_true rfl) d_Mod_init_35 (fun H locs hP hD hS => ?_)
  replace hP : va_P (dC, dI) nw_cls [(hM, .inr (1, [.ref q0, .ref q1, .ref q2, .ref q3, .null, .null, .null, .null, .null, .null, .null, .int (nI 0), .int (nI 0), .int (nI 0), .int (nI 0), .int (nI 0)])), (q0, nw_ai cB 60 (fun _ => 0)), (q1, nw_ai cB 60000 (fun _ => 0)), (q2, nw_ai cB 3000 (fun _ => 0)), (q3, nw_ai cI 1000 (fun _ => 0))] H := hP
  replace hD : va_D A [(hM, .inr (1, [.ref q0, .ref q1, .ref q2, .ref q3, .null, .null, .null, .null, .null, .null, .null, .int (nI 0), .int (nI 0), .int (nI 0), .int (nI 0), .int (nI 0)])), (q0, nw_ai cB 60 (fun _ => 0)), (q1, nw_ai cB 60000 (fun _ => 0)), (q2, nw_ai cB 3000 (fun _ => 0)), (q3, nw_ai cI 1000 (fun _ => 0))] := hD
  refine lv_aload_n hx hb d_Mod_init_38 rfl (lv_at hl 0 rfl) ?_
  refine lv_bipush (v := nI 50) hx hb d_Mod_init_39 (by decide) ?_
  refine nw_newa (ty := .int) (a0 := (50, .inl (fun _ => nI 0))) hx hb (hts _ (nw_mc 52 rfl)) rfl hK hP hD hS hA 1 rfl rfl (n := 50) (by decide) (fun _ => rfl) (by decide) (Nat.le_of_ble_eq_true rfl) (Nat.le_of_ble_eq_true rfl) d_Mod_init_41 (fun q4 H hP hD hS => ?_)
  replace hP : va_P (dC, dI) nw_cls [(hM, .inr (1, [.ref q0, .ref q1, .ref q2, .ref q3, .null, .null, .null, .null, .null, .null, .null, .int (nI 0), .int (nI 0), .int (nI 0), .int (nI 0), .int (nI 0)])), (q0, nw_ai cB 60 (fun _ => 0)), (q1, nw_ai cB 60000 (fun _ => 0)), (q2, nw_ai cB 3000 (fun _ => 0)), (q3, nw_ai cI 1000 (fun _ => 0)), (q4, nw_ai cI 50 (fun _ => 0))] H := hP
  replace hD : va_D A [(hM, .inr (1, [.ref q0, .ref q1, .ref q2, .ref q3, .null, .null, .null, .null, .null, .null, .null, .int (nI 0), .int (nI 0), .int (nI 0), .int (nI 0), .int (nI 0)])), (q0, nw_ai cB 60 (fun _ => 0)), (q1, nw_ai cB 60000 (fun _ => 0)), (q2, nw_ai cB 3000 (fun _ => 0)), (q3, nw_ai cI 1000 (fun _ => 0)), (q4, nw_ai cI 50 (fun _ => 0))] := hD
  refine va_putF (D := (dC, dI)) (ci := 1) (v := .ref q4) (ty := (.array .int)) (C := R_Mod) (T := F_Mod) (N := 16) hx hb hts hin_Mod t_Mod t_Mod_ok n_Mod hown hK hP hD hS 0 rfl rfl 4 (by decide) (hts _ (nw_mc 86 rfl)) (fun _ h9 => h9) rfl hin rfl (by decide +kernel) rfl rfl (Nat.le_of_ble_eq_true rfl) d_Mod_init_43 (fun H locs hP hD hS => ?_)
  replace hP : va_P (dC, dI) nw_cls [(hM, .inr (1, [.ref q0, .ref q1, .ref q2, .ref q3, .ref q4, .null, .null, .null, .null, .null, .null, .int (nI 0), .int (nI 0), .int (nI 0), .int (nI 0), .int (nI 0)])), (q0, nw_ai cB 60 (fun _ => 0)), (q1, nw_ai cB 60000 (fun _ => 0)), (q2, nw_ai cB 3000 (fun _ => 0)), (q3, nw_ai cI 1000 (fun _ => 0)), (q4, nw_ai cI 50 (fun _ => 0))] H := hP
  replace hD : va_D A [(hM, .inr (1, [.ref q0, .ref q1, .ref q2, .ref q3, .ref q4, .null, .null, .null, .null, .null, .null, .int (nI 0), .int (nI 0), .int (nI 0), .int (nI 0), .int (nI 0)])), (q0, nw_ai cB 60 (fun _ => 0)), (q1, nw_ai cB 60000 (fun _ => 0)), (q2, nw_ai cB 3000 (fun _ => 0)), (q3, nw_ai cI 1000 (fun _ => 0)), (q4, nw_ai cI 50 (fun _ => 0))] := hD
  refine lv_aload_n hx hb d_Mod_init_46 rfl (lv_at hl 0 rfl) ?_
  refine lv_bipush (v := nI 50) hx hb d_Mod_init_47 (by decide) ?_
  refine nw_newa (ty := .int) (a0 := (50, .inl (fun _ => nI 0))) hx hb (hts _ (nw_mc 52 rfl)) rfl hK hP hD hS hA 1 rfl rfl (n := 50) (by decide) (fun _ => rfl) (by decide) (Nat.le_of_ble_eq_true rfl) (Nat.le_of_ble_eq_true rfl) d_Mod_init_49 (fun q5 H hP hD hS => ?_)
  replace hP : va_P (dC, dI) nw_cls [(hM, .inr (1, [.ref q0, .ref q1, .ref q2, .ref q3, .ref q4, .null, .null, .null, .null, .null, .null, .int (nI 0), .int (nI 0), .int (nI 0), .int (nI 0), .int (nI 0)])), (q0, nw_ai cB 60 (fun _ => 0)), (q1, nw_ai cB 60000 (fun _ => 0)), (q2, nw_ai cB 3000 (fun _ => 0)), (q3, nw_ai cI 1000 (fun _ => 0)), (q4, nw_ai cI 50 (fun _ => 0)), (q5, nw_ai cI 50 (fun _ => 0))] H := hP
  replace hD : va_D A [(hM, .inr (1, [.ref q0, .ref q1, .ref q2, .ref q3, .ref q4, .null, .null, .null, .null, .null, .null, .int (nI 0), .int (nI 0), .int (nI 0), .int (nI 0), .int (nI 0)])), (q0, nw_ai cB 60 (fun _ => 0)), (q1, nw_ai cB 60000 (fun _ => 0)), (q2, nw_ai cB 3000 (fun _ => 0)), (q3, nw_ai cI 1000 (fun _ => 0)), (q4, nw_ai cI 50 (fun _ => 0)), (q5, nw_ai cI 50 (fun _ => 0))] := hD
  refine va_putF (D := (dC, dI)) (ci := 1) (v := .ref q5) (ty := (.array .int)) (C := R_Mod) (T := F_Mod) (N := 16) hx hb hts hin_Mod t_Mod t_Mod_ok n_Mod hown hK hP hD hS 0 rfl rfl 5 (by decide) (hts _ (nw_mc 88 rfl)) (fun _ h9 => h9) rfl hin rfl (by decide +kernel) rfl rfl (Nat.le_of_ble_eq_true rfl) d_Mod_init_51 (fun H locs hP hD hS => ?_)
  replace hP : va_P (dC, dI) nw_cls [(hM, .inr (1, [.ref q0, .ref q1, .ref q2, .ref q3, .ref q4, .ref q5, .null, .null, .null, .null, .null, .int (nI 0), .int (nI 0), .int (nI 0), .int (nI 0), .int (nI 0)])), (q0, nw_ai cB 60 (fun _ => 0)), (q1, nw_ai cB 60000 (fun _ => 0)), (q2, nw_ai cB 3000 (fun _ => 0)), (q3, nw_ai cI 1000 (fun _ => 0)), (q4, nw_ai cI 50 (fun _ => 0)), (q5, nw_ai cI 50 (fun _ => 0))] H := hP
  replace hD : va_D A [(hM, .inr (1, [.ref q0, .ref q1, .ref q2, .ref q3, .ref q4, .ref q5, .null, .null, .null, .null, .null, .int (nI 0), .int (nI 0), .int (nI 0), .int (nI 0), .int (nI 0)])), (q0, nw_ai cB 60 (fun _ => 0)), (q1, nw_ai cB 60000 (fun _ => 0)), (q2, nw_ai cB 3000 (fun _ => 0)), (q3, nw_ai cI 1000 (fun _ => 0)), (q4, nw_ai cI 50 (fun _ => 0)), (q5, nw_ai cI 50 (fun _ => 0))] := hD
  refine lv_aload_n hx hb d_Mod_init_54 rfl (lv_at hl 0 rfl) ?_
  refine lv_bipush (v := nI 50) hx hb d_Mod_init_55 (by decide) ?_
  refine nw_newa (ty := .int) (a0 := (50, .inl (fun _ => nI 0))) hx hb (hts _ (nw_mc 52 rfl)) rfl hK hP hD hS hA 1 rfl rfl (n := 50) (by decide) (fun _ => rfl) (by decide) (Nat.le_of_ble_eq_true rfl) (Nat.le_of_ble_eq_true rfl) d_Mod_init_57 (fun q6 H hP hD hS => ?_)
  replace hP : va_P (dC, dI) nw_cls [(hM, .inr (1, [.ref q0, .ref q1, .ref q2, .ref q3, .ref q4, .ref q5, .null, .null, .null, .null, .null, .int (nI 0), .int (nI 0), .int (nI 0), .int (nI 0), .int (nI 0)])), (q0, nw_ai cB 60 (fun _ => 0)), (q1, nw_ai cB 60000 (fun _ => 0)), (q2, nw_ai cB 3000 (fun _ => 0)), (q3, nw_ai cI 1000 (fun _ => 0)), (q4, nw_ai cI 50 (fun _ => 0)), (q5, nw_ai cI 50 (fun _ => 0)), (q6, nw_ai cI 50 (fun _ => 0))] H := hP
  replace hD : va_D A [(hM, .inr (1, [.ref q0, .ref q1, .ref q2, .ref q3, .ref q4, .ref q5, .null, .null, .null, .null, .null, .int (nI 0), .int (nI 0), .int (nI 0), .int (nI 0), .int (nI 0)])), (q0, nw_ai cB 60 (fun _ => 0)), (q1, nw_ai cB 60000 (fun _ => 0)), (q2, nw_ai cB 3000 (fun _ => 0)), (q3, nw_ai cI 1000 (fun _ => 0)), (q4, nw_ai cI 50 (fun _ => 0)), (q5, nw_ai cI 50 (fun _ => 0)), (q6, nw_ai cI 50 (fun _ => 0))] := hD
  refine va_putF (D := (dC, dI)) (ci := 1) (v := .ref q6) (ty := (.array .int)) (C := R_Mod) (T := F_Mod) (N := 16) hx hb hts hin_Mod t_Mod t_Mod_ok n_Mod hown hK hP hD hS 0 rfl rfl 6 (by decide) (hts _ (nw_mc 108 rfl)) (fun _ h9 => h9) rfl hin rfl (by decide +kernel) rfl rfl (Nat.le_of_ble_eq_true rfl) d_Mod_init_59 (fun H locs hP hD hS => ?_)
  replace hP : va_P (dC, dI) nw_cls [(hM, .inr (1, [.ref q0, .ref q1, .ref q2, .ref q3, .ref q4, .ref q5, .ref q6, .null, .null, .null, .null, .int (nI 0), .int (nI 0), .int (nI 0), .int (nI 0), .int (nI 0)])), (q0, nw_ai cB 60 (fun _ => 0)), (q1, nw_ai cB 60000 (fun _ => 0)), (q2, nw_ai cB 3000 (fun _ => 0)), (q3, nw_ai cI 1000 (fun _ => 0)), (q4, nw_ai cI 50 (fun _ => 0)), (q5, nw_ai cI 50 (fun _ => 0)), (q6, nw_ai cI 50 (fun _ => 0))] H := hP
  replace hD : va_D A [(hM, .inr (1, [.ref q0, .ref q1, .ref q2, .ref q3, .ref q4, .ref q5, .ref q6, .null, .null, .null, .null, .int (nI 0), .int (nI 0), .int (nI 0), .int (nI 0), .int (nI 0)])), (q0, nw_ai cB 60 (fun _ => 0)), (q1, nw_ai cB 60000 (fun _ => 0)), (q2, nw_ai cB 3000 (fun _ => 0)), (q3, nw_ai cI 1000 (fun _ => 0)), (q4, nw_ai cI 50 (fun _ => 0)), (q5, nw_ai cI 50 (fun _ => 0)), (q6, nw_ai cI 50 (fun _ => 0))] := hD
  refine lv_aload_n hx hb d_Mod_init_62 rfl (lv_at hl 0 rfl) ?_
  refine lv_bipush (v := nI 50) hx hb d_Mod_init_63 (by decide) ?_
  refine nw_newa (ty := .int) (a0 := (50, .inl (fun _ => nI 0))) hx hb (hts _ (nw_mc 52 rfl)) rfl hK hP hD hS hA 1 rfl rfl (n := 50) (by decide) (fun _ => rfl) (by decide) (Nat.le_of_ble_eq_true rfl) (Nat.le_of_ble_eq_true rfl) d_Mod_init_65 (fun q7 H hP hD hS => ?_)
  replace hP : va_P (dC, dI) nw_cls [(hM, .inr (1, [.ref q0, .ref q1, .ref q2, .ref q3, .ref q4, .ref q5, .ref q6, .null, .null, .null, .null, .int (nI 0), .int (nI 0), .int (nI 0), .int (nI 0), .int (nI 0)])), (q0, nw_ai cB 60 (fun _ => 0)), (q1, nw_ai cB 60000 (fun _ => 0)), (q2, nw_ai cB 3000 (fun _ => 0)), (q3, nw_ai cI 1000 (fun _ => 0)), (q4, nw_ai cI 50 (fun _ => 0)), (q5, nw_ai cI 50 (fun _ => 0)), (q6, nw_ai cI 50 (fun _ => 0)), (q7, nw_ai cI 50 (fun _ => 0))] H := hP
  replace hD : va_D A [(hM, .inr (1, [.ref q0, .ref q1, .ref q2, .ref q3, .ref q4, .ref q5, .ref q6, .null, .null, .null, .null, .int (nI 0), .int (nI 0), .int (nI 0), .int (nI 0), .int (nI 0)])), (q0, nw_ai cB 60 (fun _ => 0)), (q1, nw_ai cB 60000 (fun _ => 0)), (q2, nw_ai cB 3000 (fun _ => 0)), (q3, nw_ai cI 1000 (fun _ => 0)), (q4, nw_ai cI 50 (fun _ => 0)), (q5, nw_ai cI 50 (fun _ => 0)), (q6, nw_ai cI 50 (fun _ => 0)), (q7, nw_ai cI 50 (fun _ => 0))] := hD
  refine va_putF (D := (dC, dI)) (ci := 1) (v := .ref q7) (ty := (.array .int)) (C := R_Mod) (T := F_Mod) (N := 16) hx hb hts hin_Mod t_Mod t_Mod_ok n_Mod hown hK hP hD hS 0 rfl rfl 7 (by decide) (hts _ (nw_mc 109 rfl)) (fun _ h9 => h9) rfl hin rfl (by decide +kernel) rfl rfl (Nat.le_of_ble_eq_true rfl) d_Mod_init_67 (fun H locs hP hD hS => ?_)
  replace hP : va_P (dC, dI) nw_cls [(hM, .inr (1, [.ref q0, .ref q1, .ref q2, .ref q3, .ref q4, .ref q5, .ref q6, .ref q7, .null, .null, .null, .int (nI 0), .int (nI 0), .int (nI 0), .int (nI 0), .int (nI 0)])), (q0, nw_ai cB 60 (fun _ => 0)), (q1, nw_ai cB 60000 (fun _ => 0)), (q2, nw_ai cB 3000 (fun _ => 0)), (q3, nw_ai cI 1000 (fun _ => 0)), (q4, nw_ai cI 50 (fun _ => 0)), (q5, nw_ai cI 50 (fun _ => 0)), (q6, nw_ai cI 50 (fun _ => 0)), (q7, nw_ai cI 50 (fun _ => 0))] H := hP
  replace hD : va_D A [(hM, .inr (1, [.ref q0, .ref q1, .ref q2, .ref q3, .ref q4, .ref q5, .ref q6, .ref q7, .null, .null, .null, .int (nI 0), .int (nI 0), .int (nI 0), .int (nI 0), .int (nI 0)])), (q0, nw_ai cB 60 (fun _ => 0)), (q1, nw_ai cB 60000 (fun _ => 0)), (q2, nw_ai cB 3000 (fun _ => 0)), (q3, nw_ai cI 1000 (fun _ => 0)), (q4, nw_ai cI 50 (fun _ => 0)), (q5, nw_ai cI 50 (fun _ => 0)), (q6, nw_ai cI 50 (fun _ => 0)), (q7, nw_ai cI 50 (fun _ => 0))] := hD
  refine lv_aload_n hx hb d_Mod_init_70 rfl (lv_at hl 0 rfl) ?_
  refine lv_sipush (v := nI 3721) hx hb d_Mod_init_71 (by decide) ?_
  refine nw_newa (ty := .int) (a0 := (3721, .inl (fun _ => nI 0))) hx hb (hts _ (nw_mc 52 rfl)) rfl hK hP hD hS hA 1 rfl rfl (n := 3721) (by decide) (fun _ => rfl) (by decide) (Nat.le_of_ble_eq_true rfl) (Nat.le_of_ble_eq_true rfl) d_Mod_init_74 (fun q8 H hP hD hS => ?_)
  replace hP : va_P (dC, dI) nw_cls [(hM, .inr (1, [.ref q0, .ref q1, .ref q2, .ref q3, .ref q4, .ref q5, .ref q6, .ref q7, .null, .null, .null, .int (nI 0), .int (nI 0), .int (nI 0), .int (nI 0), .int (nI 0)])), (q0, nw_ai cB 60 (fun _ => 0)), (q1, nw_ai cB 60000 (fun _ => 0)), (q2, nw_ai cB 3000 (fun _ => 0)), (q3, nw_ai cI 1000 (fun _ => 0)), (q4, nw_ai cI 50 (fun _ => 0)), (q5, nw_ai cI 50 (fun _ => 0)), (q6, nw_ai cI 50 (fun _ => 0)), (q7, nw_ai cI 50 (fun _ => 0)), (q8, nw_ai cI 3721 (fun _ => 0))] H := hP
  replace hD : va_D A [(hM, .inr (1, [.ref q0, .ref q1, .ref q2, .ref q3, .ref q4, .ref q5, .ref q6, .ref q7, .null, .null, .null, .int (nI 0), .int (nI 0), .int (nI 0), .int (nI 0), .int (nI 0)])), (q0, nw_ai cB 60 (fun _ => 0)), (q1, nw_ai cB 60000 (fun _ => 0)), (q2, nw_ai cB 3000 (fun _ => 0)), (q3, nw_ai cI 1000 (fun _ => 0)), (q4, nw_ai cI 50 (fun _ => 0)), (q5, nw_ai cI 50 (fun _ => 0)), (q6, nw_ai cI 50 (fun _ => 0)), (q7, nw_ai cI 50 (fun _ => 0)), (q8, nw_ai cI 3721 (fun _ => 0))] := hD
  refine va_putF (D := (dC, dI)) (ci := 1) (v := .ref q8) (ty := (.array .int)) (C := R_Mod) (T := F_Mod) (N := 16) hx hb hts hin_Mod t_Mod t_Mod_ok n_Mod hown hK hP hD hS 0 rfl rfl 8 (by decide) (hts _ (nw_mc 89 rfl)) (fun _ h9 => h9) rfl hin rfl (by decide +kernel) rfl rfl (Nat.le_of_ble_eq_true rfl) d_Mod_init_76 (fun H locs hP hD hS => ?_)
  replace hP : va_P (dC, dI) nw_cls [(hM, .inr (1, [.ref q0, .ref q1, .ref q2, .ref q3, .ref q4, .ref q5, .ref q6, .ref q7, .ref q8, .null, .null, .int (nI 0), .int (nI 0), .int (nI 0), .int (nI 0), .int (nI 0)])), (q0, nw_ai cB 60 (fun _ => 0)), (q1, nw_ai cB 60000 (fun _ => 0)), (q2, nw_ai cB 3000 (fun _ => 0)), (q3, nw_ai cI 1000 (fun _ => 0)), (q4, nw_ai cI 50 (fun _ => 0)), (q5, nw_ai cI 50 (fun _ => 0)), (q6, nw_ai cI 50 (fun _ => 0)), (q7, nw_ai cI 50 (fun _ => 0)), (q8, nw_ai cI 3721 (fun _ => 0))] H := hP
  replace hD : va_D A [(hM, .inr (1, [.ref q0, .ref q1, .ref q2, .ref q3, .ref q4, .ref q5, .ref q6, .ref q7, .ref q8, .null, .null, .int (nI 0), .int (nI 0), .int (nI 0), .int (nI 0), .int (nI 0)])), (q0, nw_ai cB 60 (fun _ => 0)), (q1, nw_ai cB 60000 (fun _ => 0)), (q2, nw_ai cB 3000 (fun _ => 0)), (q3, nw_ai cI 1000 (fun _ => 0)), (q4, nw_ai cI 50 (fun _ => 0)), (q5, nw_ai cI 50 (fun _ => 0)), (q6, nw_ai cI 50 (fun _ => 0)), (q7, nw_ai cI 50 (fun _ => 0)), (q8, nw_ai cI 3721 (fun _ => 0))] := hD
  refine lv_aload_n hx hb d_Mod_init_79 rfl (lv_at hl 0 rfl) ?_
  refine lv_bipush (v := nI 61) hx hb d_Mod_init_80 (by decide) ?_
  refine nw_newa (ty := .boolean) (a0 := (61, .inl (fun _ => nI 0))) hx hb (hts _ (nw_mc 112 rfl)) rfl hK hP hD hS hA 2 rfl rfl (n := 61) (by decide) (fun _ => rfl) (by decide) (Nat.le_of_ble_eq_true rfl) (Nat.le_of_ble_eq_true rfl) d_Mod_init_82 (fun q9 H hP hD hS => ?_)
  replace hP : va_P (dC, dI) nw_cls [(hM, .inr (1, [.ref q0, .ref q1, .ref q2, .ref q3, .ref q4, .ref q5, .ref q6, .ref q7, .ref q8, .null, .null, .int (nI 0), .int (nI 0), .int (nI 0), .int (nI 0), .int (nI 0)])), (q0, nw_ai cB 60 (fun _ => 0)), (q1, nw_ai cB 60000 (fun _ => 0)), (q2, nw_ai cB 3000 (fun _ => 0)), (q3, nw_ai cI 1000 (fun _ => 0)), (q4, nw_ai cI 50 (fun _ => 0)), (q5, nw_ai cI 50 (fun _ => 0)), (q6, nw_ai cI 50 (fun _ => 0)), (q7, nw_ai cI 50 (fun _ => 0)), (q8, nw_ai cI 3721 (fun _ => 0)), (q9, nw_ai cZ 61 (fun _ => 0))] H := hP
  replace hD : va_D A [(hM, .inr (1, [.ref q0, .ref q1, .ref q2, .ref q3, .ref q4, .ref q5, .ref q6, .ref q7, .ref q8, .null, .null, .int (nI 0), .int (nI 0), .int (nI 0), .int (nI 0), .int (nI 0)])), (q0, nw_ai cB 60 (fun _ => 0)), (q1, nw_ai cB 60000 (fun _ => 0)), (q2, nw_ai cB 3000 (fun _ => 0)), (q3, nw_ai cI 1000 (fun _ => 0)), (q4, nw_ai cI 50 (fun _ => 0)), (q5, nw_ai cI 50 (fun _ => 0)), (q6, nw_ai cI 50 (fun _ => 0)), (q7, nw_ai cI 50 (fun _ => 0)), (q8, nw_ai cI 3721 (fun _ => 0)), (q9, nw_ai cZ 61 (fun _ => 0))] := hD
  refine va_putF (D := (dC, dI)) (ci := 1) (v := .ref q9) (ty := (.array .boolean)) (C := R_Mod) (T := F_Mod) (N := 16) hx hb hts hin_Mod t_Mod t_Mod_ok n_Mod hown hK hP hD hS 0 rfl rfl 9 (by decide) (hts _ (nw_mc 90 rfl)) (fun _ h9 => h9) rfl hin rfl (by decide +kernel) rfl rfl (Nat.le_of_ble_eq_true rfl) d_Mod_init_84 (fun H locs hP hD hS => ?_)
  replace hP : va_P (dC, dI) nw_cls [(hM, .inr (1, [.ref q0, .ref q1, .ref q2, .ref q3, .ref q4, .ref q5, .ref q6, .ref q7, .ref q8, .ref q9, .null, .int (nI 0), .int (nI 0), .int (nI 0), .int (nI 0), .int (nI 0)])), (q0, nw_ai cB 60 (fun _ => 0)), (q1, nw_ai cB 60000 (fun _ => 0)), (q2, nw_ai cB 3000 (fun _ => 0)), (q3, nw_ai cI 1000 (fun _ => 0)), (q4, nw_ai cI 50 (fun _ => 0)), (q5, nw_ai cI 50 (fun _ => 0)), (q6, nw_ai cI 50 (fun _ => 0)), (q7, nw_ai cI 50 (fun _ => 0)), (q8, nw_ai cI 3721 (fun _ => 0)), (q9, nw_ai cZ 61 (fun _ => 0))] H := hP
  replace hD : va_D A [(hM, .inr (1, [.ref q0, .ref q1, .ref q2, .ref q3, .ref q4, .ref q5, .ref q6, .ref q7, .ref q8, .ref q9, .null, .int (nI 0), .int (nI 0), .int (nI 0), .int (nI 0), .int (nI 0)])), (q0, nw_ai cB 60 (fun _ => 0)), (q1, nw_ai cB 60000 (fun _ => 0)), (q2, nw_ai cB 3000 (fun _ => 0)), (q3, nw_ai cI 1000 (fun _ => 0)), (q4, nw_ai cI 50 (fun _ => 0)), (q5, nw_ai cI 50 (fun _ => 0)), (q6, nw_ai cI 50 (fun _ => 0)), (q7, nw_ai cI 50 (fun _ => 0)), (q8, nw_ai cI 3721 (fun _ => 0)), (q9, nw_ai cZ 61 (fun _ => 0))] := hD
  refine lv_aload_n hx hb d_Mod_init_87 rfl (lv_at hl 0 rfl) ?_
  refine lv_bipush (v := nI 61) hx hb d_Mod_init_88 (by decide) ?_
  refine nw_newa (ty := .boolean) (a0 := (61, .inl (fun _ => nI 0))) hx hb (hts _ (nw_mc 112 rfl)) rfl hK hP hD hS hA 2 rfl rfl (n := 61) (by decide) (fun _ => rfl) (by decide) (Nat.le_of_ble_eq_true rfl) (Nat.le_of_ble_eq_true rfl) d_Mod_init_90 (fun q10 H hP hD hS => ?_)
  replace hP : va_P (dC, dI) nw_cls [(hM, .inr (1, [.ref q0, .ref q1, .ref q2, .ref q3, .ref q4, .ref q5, .ref q6, .ref q7, .ref q8, .ref q9, .null, .int (nI 0), .int (nI 0), .int (nI 0), .int (nI 0), .int (nI 0)])), (q0, nw_ai cB 60 (fun _ => 0)), (q1, nw_ai cB 60000 (fun _ => 0)), (q2, nw_ai cB 3000 (fun _ => 0)), (q3, nw_ai cI 1000 (fun _ => 0)), (q4, nw_ai cI 50 (fun _ => 0)), (q5, nw_ai cI 50 (fun _ => 0)), (q6, nw_ai cI 50 (fun _ => 0)), (q7, nw_ai cI 50 (fun _ => 0)), (q8, nw_ai cI 3721 (fun _ => 0)), (q9, nw_ai cZ 61 (fun _ => 0)), (q10, nw_ai cZ 61 (fun _ => 0))] H := hP
  replace hD : va_D A [(hM, .inr (1, [.ref q0, .ref q1, .ref q2, .ref q3, .ref q4, .ref q5, .ref q6, .ref q7, .ref q8, .ref q9, .null, .int (nI 0), .int (nI 0), .int (nI 0), .int (nI 0), .int (nI 0)])), (q0, nw_ai cB 60 (fun _ => 0)), (q1, nw_ai cB 60000 (fun _ => 0)), (q2, nw_ai cB 3000 (fun _ => 0)), (q3, nw_ai cI 1000 (fun _ => 0)), (q4, nw_ai cI 50 (fun _ => 0)), (q5, nw_ai cI 50 (fun _ => 0)), (q6, nw_ai cI 50 (fun _ => 0)), (q7, nw_ai cI 50 (fun _ => 0)), (q8, nw_ai cI 3721 (fun _ => 0)), (q9, nw_ai cZ 61 (fun _ => 0)), (q10, nw_ai cZ 61 (fun _ => 0))] := hD
  refine va_putF (D := (dC, dI)) (ci := 1) (v := .ref q10) (ty := (.array .boolean)) (C := R_Mod) (T := F_Mod) (N := 16) hx hb hts hin_Mod t_Mod t_Mod_ok n_Mod hown hK hP hD hS 0 rfl rfl 10 (by decide) (hts _ (nw_mc 91 rfl)) (fun _ h9 => h9) rfl hin rfl (by decide +kernel) rfl rfl (Nat.le_of_ble_eq_true rfl) d_Mod_init_92 (fun H locs hP hD hS => ?_)
  replace hP : va_P (dC, dI) nw_cls [(hM, .inr (1, [.ref q0, .ref q1, .ref q2, .ref q3, .ref q4, .ref q5, .ref q6, .ref q7, .ref q8, .ref q9, .ref q10, .int (nI 0), .int (nI 0), .int (nI 0), .int (nI 0), .int (nI 0)])), (q0, nw_ai cB 60 (fun _ => 0)), (q1, nw_ai cB 60000 (fun _ => 0)), (q2, nw_ai cB 3000 (fun _ => 0)), (q3, nw_ai cI 1000 (fun _ => 0)), (q4, nw_ai cI 50 (fun _ => 0)), (q5, nw_ai cI 50 (fun _ => 0)), (q6, nw_ai cI 50 (fun _ => 0)), (q7, nw_ai cI 50 (fun _ => 0)), (q8, nw_ai cI 3721 (fun _ => 0)), (q9, nw_ai cZ 61 (fun _ => 0)), (q10, nw_ai cZ 61 (fun _ => 0))] H := hP
  replace hD : va_D A [(hM, .inr (1, [.ref q0, .ref q1, .ref q2, .ref q3, .ref q4, .ref q5, .ref q6, .ref q7, .ref q8, .ref q9, .ref q10, .int (nI 0), .int (nI 0), .int (nI 0), .int (nI 0), .int (nI 0)])), (q0, nw_ai cB 60 (fun _ => 0)), (q1, nw_ai cB 60000 (fun _ => 0)), (q2, nw_ai cB 3000 (fun _ => 0)), (q3, nw_ai cI 1000 (fun _ => 0)), (q4, nw_ai cI 50 (fun _ => 0)), (q5, nw_ai cI 50 (fun _ => 0)), (q6, nw_ai cI 50 (fun _ => 0)), (q7, nw_ai cI 50 (fun _ => 0)), (q8, nw_ai cI 3721 (fun _ => 0)), (q9, nw_ai cZ 61 (fun _ => 0)), (q10, nw_ai cZ 61 (fun _ => 0))] := hD
  refine W.widen (k := 11) (n := 68103) (by decide) (by decide) ?_
  exact W.vret hx hb hr (fun t ht hW => ⟨⟨(fun k => match k with | 0 => q0 | 1 => q1 | 2 => q2 | 3 => q3 | 4 => q4 | 5 => q5 | 6 => q6 | 7 => q7 | 8 => q8 | 9 => q9 | _ => q10), rfl, trivial, by rw [ht]; exact hP, hD⟩, hS.F ht⟩) hS.2.2 d_Mod_init_95
end
