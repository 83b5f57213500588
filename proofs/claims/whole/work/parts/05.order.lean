/-! Pure: rows of characters (numbers), their order; no machine here. -/
/-- what both sides answer when they compare a row a of la numbers with a row b of lb numbers, from place k on, f places ahead -/
def nw_cmp (a b : Nat → Nat) (la lb : Nat) : Nat → Nat → Int32
  | 0, _ => nI la - nI lb
  | f + 1, k => if a k = b k then nw_cmp a b la lb f (k + 1) else nI (a k) - nI (b k)
/-- a stands before b -/
def nw_Lt (a : Nat → Nat) (la : Nat) (b : Nat → Nat) (lb : Nat) : Prop := ∃ k, (∀ j, j < k → a j = b j) ∧ k ≤ la ∧ k < lb ∧ (k = la ∨ a k < b k)
/-- one row -/
def nw_Eq (a : Nat → Nat) (la : Nat) (b : Nat → Nat) (lb : Nat) : Prop := la = lb ∧ ∀ j, j < la → a j = b j
theorem nw_Lt.asymm {a b : Nat → Nat} {la lb : Nat} (h : nw_Lt a la b lb) (g : nw_Lt b lb a la) : False := by
  obtain ⟨k, h1, h2, h3, h4⟩ := h
  obtain ⟨j, g1, g2, g3, g4⟩ := g
  rcases Nat.lt_trichotomy k j with x | x | x
  · have := g1 k x
    rcases h4 with h4 | h4 <;> omega
  · subst x
    rcases h4 with h4 | h4 <;> rcases g4 with g4 | g4 <;> omega
  · have := h1 j x
    rcases g4 with g4 | g4 <;> omega
theorem nw_Lt.ne {a b : Nat → Nat} {la lb : Nat} (h : nw_Lt a la b lb) (g : nw_Eq a la b lb) : False := by
  obtain ⟨k, h1, h2, h3, h4⟩ := h
  obtain ⟨g1, g2⟩ := g
  rcases h4 with h4 | h4
  · omega
  · have := g2 k (by omega)
    omega
theorem nw_Lt.trans {a b c : Nat → Nat} {la lb lc : Nat} (h : nw_Lt a la b lb) (g : nw_Lt b lb c lc) : nw_Lt a la c lc := by
  obtain ⟨k, h1, h2, h3, h4⟩ := h
  obtain ⟨j, g1, g2, g3, g4⟩ := g
  rcases Nat.lt_trichotomy k j with x | x | x
  · refine ⟨k, fun i hi => ?_, h2, by omega, ?_⟩
    · rw [h1 i hi, g1 i (by omega)]
    · rcases h4 with h4 | h4
      · exact Or.inl h4
      · right; rw [← g1 k x]; exact h4
  · subst x
    refine ⟨k, fun i hi => ?_, h2, g3, ?_⟩
    · rw [h1 i hi, g1 i hi]
    · rcases h4 with h4 | h4
      · exact Or.inl h4
      · rcases g4 with g4 | g4
        · omega
        · right; omega
  · refine ⟨j, fun i hi => ?_, by omega, g3, ?_⟩
    · rw [h1 i (by omega), g1 i hi]
    · rcases g4 with g4 | g4
      · omega
      · right; rw [h1 j x]; exact g4
theorem nw_Lt.eqR {a b c : Nat → Nat} {la lb lc : Nat} (h : nw_Lt a la b lb) (g : nw_Eq b lb c lc) : nw_Lt a la c lc := by
  obtain ⟨k, h1, h2, h3, h4⟩ := h
  obtain ⟨g1, g2⟩ := g
  refine ⟨k, fun i hi => ?_, h2, by omega, ?_⟩
  · rw [h1 i hi, g2 i (by omega)]
  · rcases h4 with h4 | h4
    · exact Or.inl h4
    · right; rw [← g2 k (by omega)]; exact h4
theorem nw_Lt.eqL {a b c : Nat → Nat} {la lb lc : Nat} (h : nw_Eq a la b lb) (g : nw_Lt b lb c lc) : nw_Lt a la c lc := by
  obtain ⟨k, h1, h2, h3, h4⟩ := g
  obtain ⟨g1, g2⟩ := h
  refine ⟨k, fun i hi => ?_, by omega, h3, ?_⟩
  · rw [g2 i (by omega), h1 i hi]
  · rcases h4 with h4 | h4
    · exact Or.inl (by omega)
    · by_cases hk : k = la
      · exact Or.inl hk
      · right; rw [g2 k (by omega)]; exact h4
theorem nw_Eq.symm {a b : Nat → Nat} {la lb : Nat} (h : nw_Eq a la b lb) : nw_Eq b lb a la := ⟨h.1.symm, fun j hj => (h.2 j (by rw [h.1]; exact hj)).symm⟩
/-- what the number says -/
theorem nw_cmp_at {a b : Nat → Nat} {la lb : Nat} (ha : la < 1000) (hb : lb < 1000) (ca : ∀ j, j < la → a j < 1000) (cb : ∀ j, j < lb → b j < 1000) : ∀ (f k : Nat), k + f = min la lb → (∀ j, j < k → a j = b j) →
    ((nw_cmp a b la lb f k < 0 ∧ nw_Lt a la b lb) ∨ (nw_cmp a b la lb f k = 0 ∧ nw_Eq a la b lb) ∨ (0 < nw_cmp a b la lb f k ∧ nw_Lt b lb a la)) := by
  have sgn : ∀ x y : Nat, x < 1000 → y < 1000 → ((nI x - nI y < 0 ↔ x < y) ∧ (nI x - nI y = 0 ↔ x = y) ∧ (0 < nI x - nI y ↔ y < x)) := by
    intro x y hx hy
    have e := pk_sub_toInt (a := x) (b := y) (by omega) (by omega)
    have z : (0 : Int32).toInt = 0 := by decide
    refine ⟨?_, ?_, ?_⟩
    · rw [Int32.lt_iff_toInt_lt, e, z]; omega
    · rw [← Int32.toInt_inj, e, z]; omega
    · rw [Int32.lt_iff_toInt_lt, e, z]; omega
  intro f
  induction f with
  | zero =>
    intro k hk hj
    obtain ⟨s1, s2, s3⟩ := sgn la lb ha hb
    have hk' : k = min la lb := by omega
    show ((nI la - nI lb < 0 ∧ _) ∨ (nI la - nI lb = 0 ∧ _) ∨ (0 < nI la - nI lb ∧ _))
    rw [s1, s2, s3]
    rcases Nat.lt_trichotomy la lb with x | x | x
    · exact Or.inl ⟨x, la, fun j h => hj j (by omega), Nat.le_refl _, x, Or.inl rfl⟩
    · exact Or.inr (Or.inl ⟨x, x, fun j h => hj j (by omega)⟩)
    · exact Or.inr (Or.inr ⟨x, lb, fun j h => (hj j (by omega)).symm, Nat.le_refl _, x, Or.inl rfl⟩)
  | succ f ih =>
    intro k hk hj
    by_cases e : a k = b k
    · have h := ih (k + 1) (by omega) (fun j h => by
        by_cases q : j = k
        · rw [q]; exact e
        · exact hj j (by omega))
      simpa [nw_cmp, e] using h
    · obtain ⟨s1, s2, s3⟩ := sgn (a k) (b k) (ca k (by omega)) (cb k (by omega))
      have e2 : nw_cmp a b la lb (f + 1) k = nI (a k) - nI (b k) := by simp [nw_cmp, e]
      rw [e2, s1, s2, s3]
      rcases Nat.lt_trichotomy (a k) (b k) with x | x | x
      · exact Or.inl ⟨x, k, hj, by omega, by omega, Or.inr x⟩
      · exact absurd x e
      · exact Or.inr (Or.inr ⟨x, k, fun j h => (hj j h).symm, by omega, by omega, Or.inr x⟩)
/-- the number of the whole comparison -/
def nw_cm (a : Nat → Nat) (la : Nat) (b : Nat → Nat) (lb : Nat) : Int32 := nw_cmp a b la lb (min la lb) 0
theorem nw_cm_lt {a b : Nat → Nat} {la lb : Nat} (ha : la < 1000) (hb : lb < 1000) (ca : ∀ j, j < la → a j < 1000) (cb : ∀ j, j < lb → b j < 1000) : nw_cm a la b lb < 0 ↔ nw_Lt a la b lb := by
  rcases nw_cmp_at ha hb ca cb (min la lb) 0 (by omega) (fun j h => absurd h (Nat.not_lt_zero j)) with ⟨h1, h2⟩ | ⟨h1, h2⟩ | ⟨h1, h2⟩
  · exact ⟨fun _ => h2, fun _ => h1⟩
  · refine ⟨fun h => ?_, fun h => (h.ne h2).elim⟩
    unfold nw_cm at h; rw [h1] at h; exact absurd h (by decide)
  · refine ⟨fun h => ?_, fun h => (h.asymm h2).elim⟩
    unfold nw_cm at h
    rw [Int32.lt_iff_toInt_lt] at h h1; omega
theorem nw_cm_eq {a b : Nat → Nat} {la lb : Nat} (ha : la < 1000) (hb : lb < 1000) (ca : ∀ j, j < la → a j < 1000) (cb : ∀ j, j < lb → b j < 1000) : nw_cm a la b lb = 0 ↔ nw_Eq a la b lb := by
  rcases nw_cmp_at ha hb ca cb (min la lb) 0 (by omega) (fun j h => absurd h (Nat.not_lt_zero j)) with ⟨h1, h2⟩ | ⟨h1, h2⟩ | ⟨h1, h2⟩
  · refine ⟨fun h => ?_, fun h => (h2.ne h).elim⟩
    unfold nw_cm at h; rw [h] at h1; exact absurd h1 (by decide)
  · exact ⟨fun _ => h2, fun _ => h1⟩
  · refine ⟨fun h => ?_, fun h => (h2.ne h.symm).elim⟩
    unfold nw_cm at h; rw [h] at h1; exact absurd h1 (by decide)
theorem nw_total {a b : Nat → Nat} {la lb : Nat} (ha : la < 1000) (hb : lb < 1000) (ca : ∀ j, j < la → a j < 1000) (cb : ∀ j, j < lb → b j < 1000) : nw_Lt a la b lb ∨ nw_Eq a la b lb ∨ nw_Lt b lb a la := by
  rcases nw_cmp_at ha hb ca cb (min la lb) 0 (by omega) (fun j h => absurd h (Nat.not_lt_zero j)) with ⟨h1, h2⟩ | ⟨h1, h2⟩ | ⟨h1, h2⟩
  · exact Or.inl h2
  · exact Or.inr (Or.inl h2)
  · exact Or.inr (Or.inr h2)
/-- one step of a comparison -/
theorem nw_cmp_step {a b : Nat → Nat} {la lb k : Nat} (h : k < min la lb) (e : a k = b k) : nw_cmp a b la lb (min la lb - k) k = nw_cmp a b la lb (min la lb - (k + 1)) (k + 1) := by
  obtain ⟨f, hf⟩ : ∃ f, min la lb - k = f + 1 := ⟨min la lb - k - 1, by omega⟩
  rw [hf, show min la lb - (k + 1) = f by omega]
  simp [nw_cmp, e]
theorem nw_cmp_stop {a b : Nat → Nat} {la lb k : Nat} (h : k < min la lb) (e : ¬ a k = b k) : nw_cmp a b la lb (min la lb - k) k = nI (a k) - nI (b k) := by
  obtain ⟨f, hf⟩ : ∃ f, min la lb - k = f + 1 := ⟨min la lb - k - 1, by omega⟩
  rw [hf]
  simp [nw_cmp, e]
theorem nw_cmp_end {a b : Nat → Nat} {la lb k : Nat} (h : min la lb ≤ k) : nw_cmp a b la lb (min la lb - k) k = nI la - nI lb := by
  rw [show min la lb - k = 0 by omega]
  rfl
