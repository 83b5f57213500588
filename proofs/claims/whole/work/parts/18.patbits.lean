/-! Pure: sets of places as numbers, for patterns. -/
def nw_ov (A r : Nat) : Nat := r ||| ((r &&& A) * 2 ^ 1)
def nw_ps (A O P r : Nat) : Nat := nw_ov A (((r &&& (P ||| O)) * 2 ^ 1) ||| (r &&& A))
theorem nw_tb2 (x t : Nat) : (x * 2 ^ 1).testBit t = (decide (1 ≤ t) && x.testBit (t - 1)) := by rw [← Nat.shiftLeft_eq, Nat.testBit_shiftLeft]
/-- what the fields of a pattern hold: the kept parts q, L of them -/
def nw_PS (P : Nat → Nat) (AR AO L : Nat) (q : Nat → Nat) : Prop :=
  L ≤ 60 ∧ nw_ns q L ∧ AR < 2 ^ L ∧ AO < 2 ^ L ∧ (∀ ch, ch < 127 → P ch < 2 ^ L) ∧ (∀ t, AR.testBit t = decide (t < L ∧ q t = 42)) ∧ (∀ t, AO.testBit t = decide (t < L ∧ q t = 63)) ∧ ∀ ch t, ch < 127 → (P ch).testBit t = decide (t < L ∧ q t = ch ∧ ch ≠ 42 ∧ ch ≠ 63)
theorem nw_PS_0 {P q : Nat → Nat} (h : ∀ ch, ch < 127 → P ch = 0) : nw_PS P 0 0 0 q := by
  refine ⟨by omega, fun t ht => by omega, by decide, by decide, fun ch hc => by rw [h ch hc]; decide, fun t => ?_, fun t => ?_, fun ch t hc => ?_⟩
  · rw [Nat.zero_testBit]; simp
  · rw [Nat.zero_testBit]; simp
  · rw [h ch hc, Nat.zero_testBit]; simp
theorem nw_pw_lt {a L : Nat} (h : a < 2 ^ L) : a < 2 ^ (L + 1) := Nat.lt_trans h (Nat.pow_lt_pow_right (by decide) (by omega))
theorem nw_or_lt {a L : Nat} (h : a < 2 ^ L) : a ||| 2 ^ L < 2 ^ (L + 1) := Nat.or_lt_two_pow (nw_pw_lt h) (Nat.pow_lt_pow_right (by decide) (by omega))
theorem nw_tb_or (a L t : Nat) : (a ||| 2 ^ L).testBit t = (a.testBit t || decide (L = t)) := by rw [Nat.testBit_or, Nat.testBit_two_pow]
theorem nw_ns_add {q : Nat → Nat} {L v : Nat} (h : nw_ns q L) (hv : 1 ≤ L → ¬ (q (L - 1) = 42 ∧ v = 42)) : nw_ns (va_up q L v) (L + 1) := fun t ht => by
  by_cases e : t + 1 = L
  · rw [← e, va_up_self, va_up_ne _ _ (by omega)]
    have := hv (by omega)
    rw [show L - 1 = t by omega] at this
    exact this
  · rw [va_up_ne _ _ (by omega), va_up_ne _ _ e]
    exact h t (by omega)
theorem nw_PS_star {P : Nat → Nat} {AR AO L : Nat} {q : Nat → Nat} (h : nw_PS P AR AO L q) (hL : L < 60) (hv : 1 ≤ L → ¬ (q (L - 1) = 42 ∧ (42 : Nat) = 42)) : nw_PS P (AR ||| 2 ^ L) AO (L + 1) (va_up q L 42) := by
  obtain ⟨h1, h2, h3, h4, h5, h6, h7, h8⟩ := h
  refine ⟨by omega, nw_ns_add h2 hv, nw_or_lt h3, nw_pw_lt h4, fun ch hc => nw_pw_lt (h5 ch hc), fun t => ?_, fun t => ?_, fun ch t hc => ?_⟩
  · rw [nw_tb_or, h6 t]
    by_cases e : t = L
    · subst e; simp [va_up_self]
    · rw [va_up_ne _ _ e]
      have : ¬ L = t := fun q => e q.symm
      simp [this, show (t < L + 1) = (t < L) from propext (by omega)]
  · rw [h7 t]
    by_cases e : t = L
    · subst e; simp [va_up_self]
    · rw [va_up_ne _ _ e]; simp [show (t < L + 1) = (t < L) from propext (by omega)]
  · rw [h8 ch t hc]
    by_cases e : t = L
    · subst e
      simp only [va_up_self]
      by_cases c : ch = 42
      · simp [c]
      · have : ¬ 42 = ch := fun q => c q.symm
        simp [this]
    · rw [va_up_ne _ _ e]; simp [show (t < L + 1) = (t < L) from propext (by omega)]
theorem nw_PS_one {P : Nat → Nat} {AR AO L : Nat} {q : Nat → Nat} (h : nw_PS P AR AO L q) (hL : L < 60) : nw_PS P AR (AO ||| 2 ^ L) (L + 1) (va_up q L 63) := by
  obtain ⟨h1, h2, h3, h4, h5, h6, h7, h8⟩ := h
  refine ⟨by omega, nw_ns_add h2 (fun _ q => absurd q.2 (by decide)), nw_pw_lt h3, nw_or_lt h4, fun ch hc => nw_pw_lt (h5 ch hc), fun t => ?_, fun t => ?_, fun ch t hc => ?_⟩
  · rw [h6 t]
    by_cases e : t = L
    · subst e; simp [va_up_self]
    · rw [va_up_ne _ _ e]; simp [show (t < L + 1) = (t < L) from propext (by omega)]
  · rw [nw_tb_or, h7 t]
    by_cases e : t = L
    · subst e; simp [va_up_self]
    · rw [va_up_ne _ _ e]
      have : ¬ L = t := fun q => e q.symm
      simp [this, show (t < L + 1) = (t < L) from propext (by omega)]
  · rw [h8 ch t hc]
    by_cases e : t = L
    · subst e
      simp only [va_up_self]
      by_cases c : ch = 63
      · simp [c]
      · have : ¬ 63 = ch := fun q => c q.symm
        simp [this]
    · rw [va_up_ne _ _ e]; simp [show (t < L + 1) = (t < L) from propext (by omega)]
theorem nw_PS_chr {P : Nat → Nat} {AR AO L : Nat} {q : Nat → Nat} {c : Nat} (h : nw_PS P AR AO L q) (hL : L < 60) (hc1 : ¬ c = 42) (hc2 : ¬ c = 63) (hc3 : c < 127) : nw_PS (va_up P c (P c ||| 2 ^ L)) AR AO (L + 1) (va_up q L c) := by
  obtain ⟨h1, h2, h3, h4, h5, h6, h7, h8⟩ := h
  refine ⟨by omega, nw_ns_add h2 (fun _ q => absurd q.2 hc1), nw_pw_lt h3, nw_pw_lt h4, fun ch hc => ?_, fun t => ?_, fun t => ?_, fun ch t hc => ?_⟩
  · by_cases e : ch = c
    · rw [e, va_up_self]; exact nw_or_lt (h5 c hc3)
    · rw [va_up_ne _ _ e]; exact nw_pw_lt (h5 ch hc)
  · rw [h6 t]
    by_cases e : t = L
    · subst e; simp [va_up_self, hc1]
    · rw [va_up_ne _ _ e]; simp [show (t < L + 1) = (t < L) from propext (by omega)]
  · rw [h7 t]
    by_cases e : t = L
    · subst e; simp [va_up_self, hc2]
    · rw [va_up_ne _ _ e]; simp [show (t < L + 1) = (t < L) from propext (by omega)]
  · by_cases e1 : ch = c
    · subst e1
      rw [va_up_self, nw_tb_or, h8 ch t hc]
      by_cases e : t = L
      · subst e; simp [va_up_self, hc1, hc2]
      · rw [va_up_ne _ _ e]
        have : ¬ L = t := fun q => e q.symm
        simp [this, show (t < L + 1) = (t < L) from propext (by omega)]
    · rw [va_up_ne _ _ e1, h8 ch t hc]
      by_cases e : t = L
      · subst e
        have : ¬ c = ch := fun q => e1 q.symm
        simp [va_up_self, this]
      · rw [va_up_ne _ _ e]; simp [show (t < L + 1) = (t < L) from propext (by omega)]
/-- the set that is reached behind i numbers -/
def nw_RS (q w : Nat → Nat) (L i r : Nat) : Prop := r < 2 ^ 61 ∧ ∀ t, r.testBit t = (decide (t ≤ L) && nw_S q w L i t)
theorem nw_and_lt {a b n : Nat} (h : b < 2 ^ n) : a &&& b < 2 ^ n := Nat.and_lt_two_pow a h
theorem nw_ov_lt {A r L : Nat} (hA : A < 2 ^ L) (hL : L ≤ 60) (hr : r < 2 ^ 61) : nw_ov A r < 2 ^ 61 := by
  have h1 : r &&& A < 2 ^ L := nw_and_lt hA
  have h2 : (2 : Nat) ^ L ≤ 2 ^ 60 := Nat.pow_le_pow_right (by decide) hL
  refine Nat.or_lt_two_pow hr ?_
  have h3 : (2 : Nat) ^ 61 = 2 ^ 60 * 2 := by decide
  omega
theorem nw_RS_0 {P : Nat → Nat} {AR AO L : Nat} {q w : Nat → Nat} (h : nw_PS P AR AO L q) : nw_RS q w L 0 (nw_ov AR 1) := by
  obtain ⟨h1, h2, h3, h4, h5, h6, h7, h8⟩ := h
  refine ⟨nw_ov_lt h3 h1 (by decide), fun t => ?_⟩
  unfold nw_ov
  rw [Nat.testBit_or, nw_tb2, Nat.testBit_and]
  have b1 : ∀ t, (1 : Nat).testBit t = decide (t = 0) := fun t => by
    have := Nat.testBit_two_pow (n := 0) (m := t)
    rw [show (2 : Nat) ^ 0 = 1 from rfl] at this
    rw [this]
    by_cases e : t = 0
    · simp [e]
    · have : ¬ 0 = t := fun q => e q.symm
      simp [e, this]
  rw [b1, b1, h6]
  by_cases ht : t ≤ L
  · rw [nw_S_0 h2 ht]
    by_cases e0 : t = 0
    · simp [e0]
    · by_cases e1 : t = 1
      · subst e1; simp
        by_cases c : 0 < L <;> simp [c] <;> omega
      · have : ¬ (t - 1 = 0) := by omega
        simp [e0, e1, this, ht]
  · have e0 : ¬ t = 0 := by omega
    by_cases e1 : t = 1
    · subst e1
      have : ¬ 0 < L := by omega
      simp [this, ht]
    · have : ¬ (t - 1 = 0) := by omega
      simp [e0, this, ht]
theorem nw_RS_s {P : Nat → Nat} {AR AO L : Nat} {q w : Nat → Nat} {i r : Nat} (h : nw_PS P AR AO L q) (hr : nw_RS q w L i r) (hw : w i < 127) : nw_RS q w L (i + 1) (nw_ps AR AO (P (w i)) r) := by
  obtain ⟨h1, h2, h3, h4, h5, h6, h7, h8⟩ := h
  obtain ⟨r1, r2⟩ := hr
  have hPO : P (w i) ||| AO < 2 ^ L := Nat.or_lt_two_pow (h5 _ hw) h4
  have hz : ((r &&& (P (w i) ||| AO)) * 2 ^ 1) ||| (r &&& AR) < 2 ^ 61 := by
    have g1 : r &&& (P (w i) ||| AO) < 2 ^ L := nw_and_lt hPO
    have g2 : r &&& AR < 2 ^ L := nw_and_lt h3
    have g3 : (2 : Nat) ^ L ≤ 2 ^ 60 := Nat.pow_le_pow_right (by decide) h1
    have g4 : (2 : Nat) ^ 61 = 2 ^ 60 * 2 := by decide
    exact Nat.or_lt_two_pow (by omega) (by omega)
  -- the inner set
  have hZ : ∀ t, (((r &&& (P (w i) ||| AO)) * 2 ^ 1) ||| (r &&& AR)).testBit t = (decide (t ≤ L) && nw_Z q w L i t) := by
    intro t
    rw [Nat.testBit_or, nw_tb2, Nat.testBit_and, Nat.testBit_or, Nat.testBit_and, r2, r2, h6, h7, h8 _ _ hw]
    unfold nw_Z
    by_cases ht : t ≤ L
    · by_cases t1 : 1 ≤ t
      · have g1 : t - 1 < L := by omega
        have g2 : t - 1 ≤ L := by omega
        simp only [ht, t1, g1, g2, decide_true, Bool.true_and, true_and]
        congr 1
        · congr 1
          by_cases a : q (t - 1) = 42
          · have : ¬ q (t - 1) = 63 := by omega
            simp only [a, this]
            by_cases b : (42 : Nat) = w i
            · simp [← b]
            · simp [b]
          · by_cases b : q (t - 1) = 63
            · simp [b]
            · by_cases d : q (t - 1) = w i
              · have e1 : w i ≠ 42 := by omega
                have e2 : w i ≠ 63 := by omega
                simp [d, e1, e2]
              · simp [a, b, d]
        · by_cases c : t < L <;> simp [c]
      · simp only [ht, t1, decide_true, decide_false, Bool.true_and, Bool.false_and, Bool.false_or]
        by_cases c : t < L <;> simp [c]
    · have g0 : ¬ t < L := by omega
      have g1 : ¬ t - 1 < L := by omega
      simp [ht, g0, g1]
  refine ⟨nw_ov_lt h3 h1 hz, fun t => ?_⟩
  unfold nw_ps nw_ov
  rw [Nat.testBit_or, nw_tb2, Nat.testBit_and, hZ, hZ, h6]
  by_cases ht : t ≤ L
  · rw [nw_S_s h2 ht]
    by_cases t1 : 1 ≤ t
    · have g1 : t - 1 < L := by omega
      have g2 : t - 1 ≤ L := by omega
      simp [ht, t1, g1, g2]
    · simp [ht, t1]
  · have g1 : ¬ t - 1 < L := by omega
    simp [ht, g1]
/-- nothing reached, nothing reached behind it -/
theorem nw_S_dead {q w : Nat → Nat} {L i : Nat} (hn : nw_ns q L) (h : ∀ t, t ≤ L → nw_S q w L i t = false) : ∀ j, i ≤ j → ∀ t, t ≤ L → nw_S q w L j t = false := by
  intro j hj
  induction j with
  | zero => rw [show i = 0 by omega] at h; exact h
  | succ j ih =>
    by_cases e : i = j + 1
    · rw [← e]; exact h
    · have ih := ih (by omega)
      intro t ht
      rw [nw_S_s hn ht]
      have z : ∀ t, t ≤ L → nw_Z q w L j t = false := fun t ht => by
        unfold nw_Z
        rw [ih t ht]
        by_cases t1 : 1 ≤ t
        · rw [ih (t - 1) (by omega)]; simp
        · simp [t1]
      rw [z t ht]
      by_cases t1 : 1 ≤ t
      · rw [z (t - 1) (by omega)]; simp
      · simp [t1]
theorem nw_RS_end {q w : Nat → Nat} {L i r : Nat} (hr : nw_RS q w L i r) : r.testBit L = nw_M q w i L := by
  rw [hr.2 L]
  unfold nw_S
  rw [if_neg (fun h => absurd h.1 (Nat.lt_irrefl L))]
  simp
