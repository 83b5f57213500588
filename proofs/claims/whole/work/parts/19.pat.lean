/-! Longs and the numbers of 18: what the instructions make of them. -/
theorem nw_64 : (2 : Nat) ^ 64 = 2 ^ 61 * 8 := by decide
theorem nw_62 : (2 : Nat) ^ 62 = 2 ^ 61 * 2 := by decide
theorem nw_s64 {r : Nat} (h : r < 2 ^ 61) : r < 2 ^ 64 := by have := nw_64; omega
theorem nw_d64 {r : Nat} (h : r < 2 ^ 61) : r * 2 ^ 1 < 2 ^ 64 := by have := nw_64; omega
theorem nw_ovL {AR r : Nat} (hA : AR < 2 ^ 61) (hr : r < 2 ^ 61) : lN r ||| ((lN r &&& lN AR) <<< ((nI 1).toInt64 &&& 63)) = lN (nw_ov AR r) := by
  have h1 : r &&& AR < 2 ^ 61 := nw_and_lt hA
  rw [wb_and (nw_s64 hr) (nw_s64 hA), wb_shl _ (by decide), wb_or (nw_s64 hr) (nw_d64 h1)]
  rfl
theorem nw_sh1 {L : Nat} (h : L < 64) : lN 1 <<< ((nI L).toInt64 &&& 63) = lN (2 ^ L) := by rw [wb_shl _ h, Nat.one_mul]
theorem nw_orL {a L : Nat} (ha : a < 2 ^ 61) (hL : L < 61) : lN a ||| lN (2 ^ L) = lN (a ||| 2 ^ L) := wb_or (nw_s64 ha) (nw_s64 (Nat.pow_lt_pow_right (by decide) hL))
theorem nw_a1 {n : Nat} (hn : n < 2 ^ 64) : lN n &&& lN 1 = lN (n % 2) := by
  rw [wb_and hn (by decide), Nat.and_one_is_mod]
theorem nw_lc {n : Nat} (hn : n < 2 ^ 64) : lg_cmp (lN n) (lN 0) = 0 ↔ n = 0 := by
  rw [lg_cmp_eq]
  constructor
  · intro h
    have := congrArg (fun x : Int64 => x.toBitVec.toNat) h
    simp only [wb_tn hn, wb_tn (show 0 < 2 ^ 64 by decide)] at this
    exact this
  · intro h; rw [h]
theorem nw_lt61 {a L : Nat} (h : a < 2 ^ L) (hL : L ≤ 60) : a < 2 ^ 61 := Nat.lt_trans h (Nat.pow_lt_pow_right (by decide) (by omega))
theorem nw_tbd (r L : Nat) : (r / 2 ^ L % 2 = 0) ↔ r.testBit L = false := by
  rw [Nat.testBit_eq_decide_div_mod_eq]
  have := Nat.mod_lt (r / 2 ^ L) (show 2 > 0 by decide)
  constructor
  · intro h; rw [h]; rfl
  · intro h
    have h2 : ¬ r / 2 ^ L % 2 = 1 := by simpa using h
    omega
theorem nw_psL {AR AO P r : Nat} (hA : AR < 2 ^ 60) (hO : AO < 2 ^ 60) (hP : P < 2 ^ 60) (hr : r < 2 ^ 61) : ((lN r &&& (lN P ||| lN AO)) <<< ((nI 1).toInt64 &&& 63)) ||| (lN r &&& lN AR) = lN (((r &&& (P ||| AO)) * 2 ^ 1) ||| (r &&& AR)) ∧ (((r &&& (P ||| AO)) * 2 ^ 1) ||| (r &&& AR)) < 2 ^ 61 := by
  have h60 : (2 : Nat) ^ 61 = 2 ^ 60 * 2 := by decide
  have h64 := nw_64
  have g1 : P ||| AO < 2 ^ 60 := Nat.or_lt_two_pow hP hO
  have g2 : r &&& (P ||| AO) < 2 ^ 60 := nw_and_lt g1
  have g3 : r &&& AR < 2 ^ 60 := nw_and_lt hA
  constructor
  · rw [wb_or (by omega) (by omega), wb_and (by omega) (by omega), wb_and (by omega) (by omega), wb_shl _ (by decide), wb_or (by omega) (by omega)]
  · exact Nat.or_lt_two_pow (by omega) (by omega)
theorem nw_lt60 {a L : Nat} (h : a < 2 ^ L) (hL : L ≤ 60) : a < 2 ^ 60 := Nat.lt_of_lt_of_le h (Nat.pow_le_pow_right (by decide) hL)
/-- nothing is reached: no match, whatever comes -/
theorem nw_RS_dead {q w : Nat → Nat} {L k n : Nat} (hn : nw_ns q L) (hr : nw_RS q w L k 0) (hk : k ≤ n) : (0 : Nat).testBit L = nw_M q w n L := by
  have h0 : ∀ t, t ≤ L → nw_S q w L k t = false := fun t ht => by
    have := hr.2 t
    rw [Nat.zero_testBit] at this
    simpa [ht] using this.symm
  have h1 := nw_S_dead hn h0 n hk L (Nat.le_refl _)
  unfold nw_S at h1
  rw [if_neg (fun h => absurd h.1 (Nat.lt_irrefl L))] at h1
  rw [Nat.zero_testBit, h1]
