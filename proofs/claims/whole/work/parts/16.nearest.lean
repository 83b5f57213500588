/-! Pure: which words are the nearest: E i is the distance of word i, or more than is asked for; those with the smaller distance go first, among one distance those ahead in the order; 50 in all. -/
def nw_E (D n L ms : Nat) : Nat := if D ≤ ms ∧ D < n ∧ D < L then D else 4
theorem nw_E_eq {D n L ms d : Nat} (hd : d ≤ ms) (hm : ms ≤ 3) : nw_E D n L ms = d ↔ D = d ∧ d < n ∧ d < L := by
  unfold nw_E
  by_cases h : D ≤ ms ∧ D < n ∧ D < L
  · rw [if_pos h]
    constructor
    · intro e; exact ⟨e, by omega, by omega⟩
    · intro e; exact e.1
  · rw [if_neg h]
    constructor
    · intro e; omega
    · intro e; exact absurd ⟨by omega, by omega, by omega⟩ h
def nw_sm (f : Nat → Nat) : Nat → Nat
  | 0 => 0
  | n + 1 => nw_sm f n + f n
/-- how many stand ahead of word w of distance d, N words in all -/
def nw_T (E : Nat → Nat) (N d w : Nat) : Nat := nw_sm (fun d' => nw_cnt (fun i => E i = d') N) d + nw_cnt (fun i => E i = d) w
abbrev nw_sl (E : Nat → Nat) (N ms : Nat) (i : Nat) : Prop := E i ≤ ms ∧ nw_T E N (E i) i < 50
theorem nw_T_0 (E : Nat → Nat) (N d : Nat) : nw_T E N (d + 1) 0 = nw_T E N d N := rfl
theorem nw_T_pos {E : Nat → Nat} {N d w : Nat} (h : E w = d) : nw_T E N d (w + 1) = nw_T E N d w + 1 := by
  unfold nw_T
  rw [nw_cnt_pos (f := fun i => E i = d) h]; omega
theorem nw_T_neg {E : Nat → Nat} {N d w : Nat} (h : ¬ E w = d) : nw_T E N d (w + 1) = nw_T E N d w := by
  unfold nw_T
  rw [nw_cnt_neg (f := fun i => E i = d) h]
theorem nw_T_mono (E : Nat → Nat) (N d : Nat) {i j : Nat} (h : i ≤ j) : nw_T E N d i ≤ nw_T E N d j := by
  unfold nw_T
  have := nw_cnt_mono (fun i => E i = d) h
  omega
/-- of one distance: those that find room -/
theorem nw_T_cut (E : Nat → Nat) (S d w : Nat) : nw_cnt (fun i => E i = d ∧ S + nw_cnt (fun j => E j = d) i < 50) w = min (nw_cnt (fun j => E j = d) w) (50 - S) := by
  induction w with
  | zero => show 0 = min 0 (50 - S); omega
  | succ w ih =>
    by_cases h : E w = d
    · rw [nw_cnt_pos (f := fun j => E j = d) h]
      by_cases g : S + nw_cnt (fun j => E j = d) w < 50
      · rw [nw_cnt_pos (f := fun i => E i = d ∧ S + nw_cnt (fun j => E j = d) i < 50) ⟨h, g⟩, ih]; omega
      · rw [nw_cnt_neg (f := fun i => E i = d ∧ S + nw_cnt (fun j => E j = d) i < 50) (fun q => g q.2), ih]; omega
    · rw [nw_cnt_neg (f := fun j => E j = d) h, nw_cnt_neg (f := fun i => E i = d ∧ S + nw_cnt (fun j => E j = d) i < 50) (fun q => h q.1), ih]
theorem nw_sm_one {f g : Nat → Nat} {n d : Nat} (hd : d < n) (h1 : g d = f d + 1) (h2 : ∀ j, j ≠ d → g j = f j) : nw_sm g n = nw_sm f n + 1 := by
  have same : ∀ k, k ≤ d → nw_sm g k = nw_sm f k := by
    intro k
    induction k with
    | zero => intro _; rfl
    | succ k ih => intro hk; show nw_sm g k + g k = nw_sm f k + f k; rw [ih (by omega), h2 k (by omega)]
  have more : ∀ k, d < k → nw_sm g k = nw_sm f k + 1 := by
    intro k
    induction k with
    | zero => intro h; omega
    | succ k ih =>
      intro hk
      show nw_sm g k + g k = nw_sm f k + f k + 1
      by_cases e : k = d
      · rw [e, same d (Nat.le_refl _), h1]; omega
      · rw [ih (by omega), h2 k e]; omega
  exact more n hd
theorem nw_sm_congr {f g : Nat → Nat} {n : Nat} (h : ∀ j, j < n → g j = f j) : nw_sm g n = nw_sm f n := by
  induction n with
  | zero => rfl
  | succ n ih => show nw_sm g n + g n = nw_sm f n + f n; rw [ih (fun j hj => h j (by omega)), h n (by omega)]
theorem nw_sl_sum (E : Nat → Nat) (N ms w : Nat) : nw_cnt (nw_sl E N ms) w = nw_sm (fun d => nw_cnt (fun i => E i = d ∧ nw_T E N d i < 50) w) (ms + 1) := by
  induction w with
  | zero =>
    show 0 = _
    have : ∀ k, nw_sm (fun d => nw_cnt (fun i => E i = d ∧ nw_T E N d i < 50) 0) k = 0 := by
      intro k
      induction k with
      | zero => rfl
      | succ k ih => show _ + 0 = 0; rw [ih]
    exact (this _).symm
  | succ w ih =>
    by_cases h : nw_sl E N ms w
    · rw [nw_cnt_pos h, ih]
      refine (nw_sm_one (d := E w) (by have := h.1; omega) ?_ (fun j hj => ?_)).symm
      · exact nw_cnt_pos (f := fun i => E i = E w ∧ nw_T E N (E w) i < 50) ⟨rfl, h.2⟩
      · exact nw_cnt_neg (f := fun i => E i = j ∧ nw_T E N j i < 50) (fun q => hj q.1.symm)
    · rw [nw_cnt_neg h, ih]
      refine (nw_sm_congr (fun j hj => ?_)).symm
      exact nw_cnt_neg (f := fun i => E i = j ∧ nw_T E N j i < 50) (fun q => h ⟨by rw [q.1]; omega, by rw [q.1]; exact q.2⟩)
/-- 50 in all -/
theorem nw_sl_all (E : Nat → Nat) (N ms : Nat) : nw_cnt (nw_sl E N ms) N = min 50 (nw_sm (fun d => nw_cnt (fun i => E i = d) N) (ms + 1)) := by
  rw [nw_sl_sum]
  have key : ∀ k, nw_sm (fun d => nw_cnt (fun i => E i = d ∧ nw_T E N d i < 50) N) k = min 50 (nw_sm (fun d => nw_cnt (fun i => E i = d) N) k) := by
    intro k
    induction k with
    | zero => rfl
    | succ k ih =>
      show _ + nw_cnt (fun i => E i = k ∧ nw_T E N k i < 50) N = min 50 (nw_sm (fun d => nw_cnt (fun i => E i = d) N) k + nw_cnt (fun i => E i = k) N)
      have e := nw_T_cut E (nw_sm (fun d => nw_cnt (fun i => E i = d) N) k) k N
      rw [ih]
      show _ + nw_cnt (fun i => E i = k ∧ nw_sm (fun d => nw_cnt (fun i => E i = d) N) k + nw_cnt (fun j => E j = k) i < 50) N = _
      rw [e]; omega
  exact key _
theorem nw_sl_le (E : Nat → Nat) (N ms : Nat) : nw_cnt (nw_sl E N ms) N ≤ 50 := by rw [nw_sl_all]; omega
theorem nw_sm_mono (f : Nat → Nat) {i j : Nat} (h : i ≤ j) : nw_sm f i ≤ nw_sm f j := by
  induction j with
  | zero => rw [show i = 0 by omega]; exact Nat.le_refl _
  | succ j ih =>
    by_cases e : i = j + 1
    · rw [e]; exact Nat.le_refl _
    · exact Nat.le_trans (ih (by omega)) (Nat.le_add_right _ _)
theorem nw_T_lt {E : Nat → Nat} {N i j : Nat} (hi : i < N) (h : E i < E j) : nw_T E N (E i) i < nw_T E N (E j) j := by
  have h1 : nw_T E N (E i) (i + 1) = nw_T E N (E i) i + 1 := nw_T_pos rfl
  have h2 := nw_T_mono E N (E i) (i := i + 1) (j := N) (by omega)
  have h3 : nw_T E N (E i) N = nw_sm (fun d' => nw_cnt (fun i => E i = d') N) (E i + 1) := rfl
  have h4 := nw_sm_mono (fun d' => nw_cnt (fun i => E i = d') N) (i := E i + 1) (j := E j) (by omega)
  have h5 : nw_sm (fun d' => nw_cnt (fun i => E i = d') N) (E j) ≤ nw_T E N (E j) j := Nat.le_add_right _ _
  omega
theorem nw_T_inj {E : Nat → Nat} {N i j : Nat} (hi : i < N) (hj : j < N) (h : nw_T E N (E i) i = nw_T E N (E j) j) : i = j := by
  rcases Nat.lt_trichotomy (E i) (E j) with e | e | e
  · have := nw_T_lt hi e; omega
  · rcases Nat.lt_trichotomy i j with q | q | q
    · have h1 : nw_T E N (E i) (i + 1) = nw_T E N (E i) i + 1 := nw_T_pos rfl
      have h2 := nw_T_mono E N (E i) (i := i + 1) (j := j) (by omega)
      rw [e] at h1 h2 h; omega
    · exact q
    · have h1 : nw_T E N (E j) (j + 1) = nw_T E N (E j) j + 1 := nw_T_pos rfl
      have h2 := nw_T_mono E N (E j) (i := j + 1) (j := i) (by omega)
      rw [e] at h; omega
  · have := nw_T_lt hj e; omega
