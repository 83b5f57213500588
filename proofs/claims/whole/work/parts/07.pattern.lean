/-! Pure: does the pattern p (its first j parts) stand for the first i numbers of w; the same by sets of places. 42 is the star, 63 the question mark. -/
def nw_M (p w : Nat → Nat) : Nat → Nat → Bool
  | 0, 0 => true
  | 0, j + 1 => nw_M p w 0 j && decide (p j = 42)
  | _ + 1, 0 => false
  | i + 1, j + 1 => if p j = 42 then nw_M p w (i + 1) j || nw_M p w i (j + 1) else nw_M p w i j && (decide (p j = 63) || decide (p j = w i))
  termination_by i j => i + j
theorem nw_M_00 (p w : Nat → Nat) : nw_M p w 0 0 = true := by rw [nw_M]
theorem nw_M_0s (p w : Nat → Nat) (j : Nat) : nw_M p w 0 (j + 1) = (nw_M p w 0 j && decide (p j = 42)) := by rw [nw_M]
theorem nw_M_s0 (p w : Nat → Nat) (i : Nat) : nw_M p w (i + 1) 0 = false := by rw [nw_M]
theorem nw_M_star {p w : Nat → Nat} {i j : Nat} (h : p j = 42) : nw_M p w (i + 1) (j + 1) = (nw_M p w (i + 1) j || nw_M p w i (j + 1)) := by rw [nw_M, if_pos h]
theorem nw_M_one {p w : Nat → Nat} {i j : Nat} (h : ¬ p j = 42) : nw_M p w (i + 1) (j + 1) = (nw_M p w i j && (decide (p j = 63) || decide (p j = w i))) := by rw [nw_M, if_neg h]
/-- a second star says nothing more -/
theorem nw_M_2 {p w : Nat → Nat} {j : Nat} (h1 : p j = 42) (h2 : p (j + 1) = 42) : ∀ i, nw_M p w i (j + 2) = nw_M p w i (j + 1) := by
  intro i
  induction i with
  | zero => rw [nw_M_0s, h2]; simp
  | succ i ih =>
    rw [nw_M_star h2, ih, nw_M_star h1]
    cases nw_M p w (i + 1) j <;> cases nw_M p w i (j + 1) <;> rfl
/-- the same parts, the same answer -/
theorem nw_M_congr {p q w v : Nat → Nat} {I J : Nat} (hp : ∀ j, j < J → p j = q j) (hw : ∀ i, i < I → w i = v i) : ∀ n i j, i + j < n → i ≤ I → j ≤ J → nw_M p w i j = nw_M q v i j := by
  intro n
  induction n with
  | zero => intro i j h; exact absurd h (Nat.not_lt_zero _)
  | succ n ih =>
    intro i j h hi hj
    cases i with
    | zero =>
      cases j with
      | zero => rw [nw_M_00, nw_M_00]
      | succ j => rw [nw_M_0s, nw_M_0s, ih 0 j (by omega) hi (by omega), hp j (by omega)]
    | succ i =>
      cases j with
      | zero => rw [nw_M_s0, nw_M_s0]
      | succ j =>
        by_cases e : p j = 42
        · have e2 : q j = 42 := by rw [← hp j (by omega)]; exact e
          rw [nw_M_star e, nw_M_star e2, ih (i + 1) j (by omega) hi (by omega), ih i (j + 1) (by omega) (by omega) hj]
        · have e2 : ¬ q j = 42 := by rw [← hp j (by omega)]; exact e
          rw [nw_M_one e, nw_M_one e2, ih i j (by omega) (by omega) (by omega), hp j (by omega), hw i (by omega)]
/-- a part is kept behind kept ones -/
theorem nw_M_keep {p q w : Nat → Nat} {k c : Nat} (h : ∀ i, nw_M p w i k = nw_M q w i c) (e : p k = q c) : ∀ i, nw_M p w i (k + 1) = nw_M q w i (c + 1) := by
  intro i
  induction i with
  | zero => rw [nw_M_0s, nw_M_0s, h 0, e]
  | succ i ih =>
    by_cases s : p k = 42
    · have s2 : q c = 42 := by rw [← e]; exact s
      rw [nw_M_star s, nw_M_star s2, h (i + 1), ih]
    · have s2 : ¬ q c = 42 := by rw [← e]; exact s
      rw [nw_M_one s, nw_M_one s2, h i, e]
/-- no star behind a star -/
def nw_ns (q : Nat → Nat) (L : Nat) : Prop := ∀ t, t + 1 < L → ¬ (q t = 42 ∧ q (t + 1) = 42)
/-- what bit t says of the first i numbers: the place before part t; behind it too, where that is a star -/
def nw_S (q w : Nat → Nat) (L i t : Nat) : Bool := if t < L ∧ q t = 42 then nw_M q w i (t + 1) else nw_M q w i t
theorem nw_M_0no {q w : Nat → Nat} {L : Nat} (hn : nw_ns q L) : ∀ t, t + 2 ≤ L → nw_M q w 0 (t + 2) = false := by
  intro t
  induction t with
  | zero =>
    intro h
    rw [nw_M_0s, nw_M_0s, nw_M_00]
    have := hn 0 (by omega)
    by_cases a : q 0 = 42
    · have b : ¬ q 1 = 42 := fun b => this ⟨a, b⟩
      simp [b]
    · simp [a]
  | succ t ih => intro h; rw [nw_M_0s, ih (by omega)]; rfl
/-- the first set -/
theorem nw_S_0 {q w : Nat → Nat} {L t : Nat} (hn : nw_ns q L) (ht : t ≤ L) : nw_S q w L 0 t = (decide (t = 0) || (decide (t = 1) && (decide (0 < L) && decide (q 0 = 42)))) := by
  unfold nw_S
  rcases Nat.lt_or_ge t 2 with h | h
  · rcases Nat.lt_or_ge t 1 with h1 | h1
    · have e : t = 0 := by omega
      subst e
      by_cases s : 0 < L ∧ q 0 = 42
      · rw [if_pos s, nw_M_0s, nw_M_00, s.2]; rfl
      · rw [if_neg s, nw_M_00]; rfl
    · have e : t = 1 := by omega
      subst e
      by_cases s : 1 < L ∧ q 1 = 42
      · rw [if_pos s, nw_M_0s, nw_M_0s, nw_M_00]
        have : ¬ q 0 = 42 := fun a => hn 0 (by omega) ⟨a, s.2⟩
        simp [this]
      · rw [if_neg s, nw_M_0s, nw_M_00]
        simp [show 0 < L by omega]
  · obtain ⟨u, rfl⟩ : ∃ u, t = u + 2 := ⟨t - 2, by omega⟩
    have e1 : decide (u + 2 = 0) = false := by simp
    have e2 : decide (u + 2 = 1) = false := by simp
    rw [e1, e2]
    by_cases s : u + 2 < L ∧ q (u + 2) = 42
    · rw [if_pos s, nw_M_0s, nw_M_0no hn u (by omega)]; rfl
    · rw [if_neg s, nw_M_0no hn u (by omega)]; rfl
/-- one number more: Z is what is reached ahead of the stars that stand for nothing -/
def nw_Z (q w : Nat → Nat) (L i t : Nat) : Bool := (decide (1 ≤ t) && (nw_S q w L i (t - 1) && (decide (¬ q (t - 1) = 42) && (decide (q (t - 1) = 63) || decide (q (t - 1) = w i))))) || (nw_S q w L i t && (decide (t < L) && decide (q t = 42)))
theorem nw_S_s {q w : Nat → Nat} {L i t : Nat} (hn : nw_ns q L) (ht : t ≤ L) : nw_S q w L (i + 1) t = (nw_Z q w L i t || (decide (1 ≤ t) && (nw_Z q w L i (t - 1) && decide (q (t - 1) = 42)))) := by
  have nostar : ∀ t, ¬ (t < L ∧ q t = 42) → nw_S q w L i t = nw_M q w i t := fun t h => by unfold nw_S; rw [if_neg h]
  have star : ∀ t, (t < L ∧ q t = 42) → nw_S q w L i t = nw_M q w i (t + 1) := fun t h => by unfold nw_S; rw [if_pos h]
  by_cases s : t < L ∧ q t = 42
  · have e0 : nw_S q w L (i + 1) t = nw_M q w (i + 1) (t + 1) := by unfold nw_S; rw [if_pos s]
    rw [e0, nw_M_star s.2]
    cases t with
    | zero =>
      rw [nw_M_s0]
      simp [nw_Z, star 0 s, s.1, s.2]
    | succ u =>
      have ns : ¬ q u = 42 := fun a => hn u (by omega) ⟨a, s.2⟩
      have e1 : nw_S q w L i u = nw_M q w i u := nostar u (fun a => ns a.2)
      rw [nw_M_one ns]
      simp [nw_Z, star (u + 1) s, s.1, s.2, ns, e1]
  · have e0 : nw_S q w L (i + 1) t = nw_M q w (i + 1) t := by unfold nw_S; rw [if_neg s]
    rw [e0]
    cases t with
    | zero =>
      rw [nw_M_s0]
      have z : (decide (0 < L) && decide (q 0 = 42)) = false := by
        by_cases a : 0 < L
        · by_cases b : q 0 = 42
          · exact absurd ⟨a, b⟩ s
          · simp [b]
        · simp [a]
      simp only [nw_Z]
      rw [z]
      simp
    | succ u =>
      have z : (decide (u + 1 < L) && decide (q (u + 1) = 42)) = false := by
        by_cases a : u + 1 < L
        · by_cases b : q (u + 1) = 42
          · exact absurd ⟨a, b⟩ s
          · simp [b]
        · simp [a]
      have hu : u < L := by omega
      by_cases b : q u = 42
      · rw [nw_M_star b]
        have e1 : nw_S q w L i u = nw_M q w i (u + 1) := star u ⟨hu, b⟩
        have zz : nw_Z q w L i u = (nw_M q w (i + 1) u || nw_M q w i (u + 1)) := by
          cases u with
          | zero => rw [nw_M_s0]; simp [nw_Z, e1, hu, b]
          | succ v =>
            have nv : ¬ q v = 42 := fun a => hn v (by omega) ⟨a, b⟩
            have e2 : nw_S q w L i v = nw_M q w i v := nostar v (fun a => nv a.2)
            rw [nw_M_one nv]
            simp [nw_Z, e1, e2, hu, b, nv]
        have zt : nw_Z q w L i (u + 1) = false := by
          simp only [nw_Z]
          rw [z]
          simp [b]
        rw [zt]
        simp [zz, b]
      · rw [nw_M_one b]
        have e1 : nw_S q w L i u = nw_M q w i u := nostar u (fun a => b a.2)
        simp only [nw_Z]
        rw [z]
        simp [e1, b]
theorem nw_bf {b : Bool} : b.toNat = 0 ↔ b = false := by cases b <;> simp
theorem nw_bt {b : Bool} : ¬ b.toNat = 0 ↔ b = true := by cases b <;> simp
theorem nw_b2 (b : Bool) : b.toNat < 2 := by cases b <;> decide
theorem nw_M_r0 (p w : Nat → Nat) {j : Nat} (h : 1 ≤ j) : nw_M p w 0 j = (nw_M p w 0 (j - 1) && decide (p (j - 1) = 42)) := by
  obtain ⟨k, rfl⟩ : ∃ k, j = k + 1 := ⟨j - 1, by omega⟩
  exact nw_M_0s p w k
theorem nw_M_rs {p w : Nat → Nat} {i j : Nat} (h : 1 ≤ j) (hs : p (j - 1) = 42) : nw_M p w (i + 1) j = (nw_M p w (i + 1) (j - 1) || nw_M p w i j) := by
  obtain ⟨k, rfl⟩ : ∃ k, j = k + 1 := ⟨j - 1, by omega⟩
  exact nw_M_star hs
theorem nw_M_rn {p w : Nat → Nat} {i j : Nat} (h : 1 ≤ j) (hs : ¬ p (j - 1) = 42) : nw_M p w (i + 1) j = (nw_M p w i (j - 1) && (decide (p (j - 1) = 63) || decide (p (j - 1) = w i))) := by
  obtain ⟨k, rfl⟩ : ∃ k, j = k + 1 := ⟨j - 1, by omega⟩
  exact nw_M_one hs
theorem nw_zb (b : Bool) : narrow .boolean (.int (nI b.toNat)) = .int (nI b.toNat) := by cases b <;> rfl
