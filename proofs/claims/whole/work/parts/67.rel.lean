/-! Pure: what class and reference have in common between two calls. -/
theorem nw_cmp_congr {a a' b b' : Nat → Nat} {la lb : Nat} (ha : ∀ k, k < la → a k = a' k) (hb : ∀ k, k < lb → b k = b' k) : ∀ f k, k + f ≤ min la lb → nw_cmp a b la lb f k = nw_cmp a' b' la lb f k := by
  intro f
  induction f with
  | zero => intro k _; rfl
  | succ f ih =>
    intro k hk
    show (if a k = b k then nw_cmp a b la lb f (k + 1) else nI (a k) - nI (b k)) = if a' k = b' k then nw_cmp a' b' la lb f (k + 1) else nI (a' k) - nI (b' k)
    rw [ha k (by omega), hb k (by omega), ih (k + 1) (by omega)]
theorem nw_cm_congr {a a' b b' : Nat → Nat} {la lb : Nat} (ha : ∀ k, k < la → a k = a' k) (hb : ∀ k, k < lb → b k = b' k) : nw_cm a la b lb = nw_cm a' la b' lb := nw_cmp_congr ha hb _ _ (by omega)
theorem nw_cnt_down {f : Nat → Prop} [DecidablePred f] {n : Nat} (h : ∀ i j, i < j → j < n → f j → f i) : (∀ i, i < nw_cnt f n → f i) ∧ ∀ i, nw_cnt f n ≤ i → i < n → ¬ f i := by
  induction n with
  | zero => exact ⟨fun i hi => absurd hi (Nat.not_lt_zero i), fun i _ hi => absurd hi (Nat.not_lt_zero i)⟩
  | succ n ih =>
    by_cases e : f n
    · have hall : ∀ i, i < n + 1 → f i := fun i hi => by
        by_cases q : i = n
        · rw [q]; exact e
        · exact h i n (by omega) (by omega) e
      have hc : nw_cnt f (n + 1) = n + 1 := nw_cnt_cut (Nat.le_refl _) hall (fun i h1 h2 => by omega)
      rw [hc]
      exact ⟨hall, fun i h1 h2 => by omega⟩
    · rw [nw_cnt_neg e]
      obtain ⟨h1, h2⟩ := ih (fun i j hi hj => h i j hi (by omega))
      exact ⟨h1, fun i h3 h4 => by
        by_cases q : i = n
        · rw [q]; exact e
        · exact h2 i h3 (by omega)⟩
/-- the same words -/
def nw_WR (wn : Nat) (C st X Ln : Nat → Nat) : Prop :=
  st 0 = 0 ∧ (∀ i, i < wn → st (i + 1) = st i + Ln i) ∧ (∀ i, i < wn → 1 ≤ Ln i ∧ Ln i ≤ 60) ∧ (∀ i k, i < wn → k < Ln i → C (st i + k) = X (i * 60 + k)) ∧ (∀ i j, i < j → j < wn → nw_Lt (fun k => X (i * 60 + k)) (Ln i) (fun k => X (j * 60 + k)) (Ln j)) ∧ (∀ j, C j < 127) ∧ ∀ j, X j < 128
theorem nw_WR.mono {wn : Nat} {C st X Ln : Nat → Nat} (h : nw_WR wn C st X Ln) : ∀ i j, i ≤ j → j ≤ wn → st i ≤ st j := by
  intro i j hij
  induction j with
  | zero => intro _; rw [show i = 0 by omega]; exact Nat.le_refl _
  | succ j ih =>
    intro hj
    by_cases e : i = j + 1
    · rw [e]; exact Nat.le_refl _
    · have := ih (by omega) (by omega)
      have := h.2.1 j (by omega)
      omega
theorem nw_WR.hm {wn : Nat} {C st X Ln : Nat → Nat} (h : nw_WR wn C st X Ln) (hse : st wn ≤ 12000) : ∀ i, i < wn → st i ≤ st (i + 1) ∧ st (i + 1) ≤ 12000 ∧ st (i + 1) - st i ≤ 60 := fun i hi => by
  have h1 := h.2.1 i hi
  have h2 := h.2.2.1 i hi
  have h3 := h.mono (i + 1) wn (by omega) (Nat.le_refl _)
  omega
theorem nw_WR.len {wn : Nat} {C st X Ln : Nat → Nat} (h : nw_WR wn C st X Ln) {i : Nat} (hi : i < wn) : st (i + 1) - st i = Ln i := by
  have := h.2.1 i hi
  omega
theorem nw_WR.cm {wn : Nat} {C st X Ln : Nat → Nat} (h : nw_WR wn C st X Ln) {ni : Nat} {ci I : Nat → Nat} (hI : ∀ j, j < ni → I j = ci j) {i : Nat} (hi : i < wn) : nw_cm (fun k => C (st i + k)) (st (i + 1) - st i) ci ni = nw_cm (fun k => X (i * 60 + k)) (Ln i) I ni := by
  rw [h.len hi]
  exact nw_cm_congr (fun k hk => h.2.2.2.1 i k hi hk) (fun k hk => (hI k hk).symm)
theorem nw_WR.cmlt {wn : Nat} {C st X Ln : Nat → Nat} (h : nw_WR wn C st X Ln) {ni : Nat} (hn : ni ≤ 60) {I : Nat → Nat} (hI : ∀ j, I j < 128) {i : Nat} (hi : i < wn) : nw_cm (fun k => X (i * 60 + k)) (Ln i) I ni < 0 ↔ nw_Lt (fun k => X (i * 60 + k)) (Ln i) I ni :=
  nw_cm_lt (by have := h.2.2.1 i hi; omega) (by omega) (fun j _ => Nat.lt_trans (h.2.2.2.2.2.2 _) (by decide)) (fun j _ => Nat.lt_trans (hI j) (by decide))
theorem nw_WR.cmeq {wn : Nat} {C st X Ln : Nat → Nat} (h : nw_WR wn C st X Ln) {ni : Nat} (hn : ni ≤ 60) {I : Nat → Nat} (hI : ∀ j, I j < 128) {i : Nat} (hi : i < wn) : nw_cm (fun k => X (i * 60 + k)) (Ln i) I ni = 0 ↔ nw_Eq (fun k => X (i * 60 + k)) (Ln i) I ni :=
  nw_cm_eq (by have := h.2.2.1 i hi; omega) (by omega) (fun j _ => Nat.lt_trans (h.2.2.2.2.2.2 _) (by decide)) (fun j _ => Nat.lt_trans (hI j) (by decide))
theorem nw_WR.down {wn : Nat} {C st X Ln : Nat → Nat} (h : nw_WR wn C st X Ln) {ni : Nat} (hn : ni ≤ 60) {I : Nat → Nat} (hI : ∀ j, I j < 128) : ∀ i j, i < j → j < wn → nw_cm (fun k => X (j * 60 + k)) (Ln j) I ni < 0 → nw_cm (fun k => X (i * 60 + k)) (Ln i) I ni < 0 := fun i j hij hj hc =>
  (h.cmlt hn hI (by omega)).mpr ((h.2.2.2.2.1 i j hij hj).trans ((h.cmlt hn hI hj).mp hc))
theorem nw_WR.hmono {wn : Nat} {C st X Ln : Nat → Nat} (h : nw_WR wn C st X Ln) {ni : Nat} (hn : ni ≤ 60) {ci I : Nat → Nat} (hI : ∀ j, I j < 128) (he : ∀ j, j < ni → I j = ci j) : ∀ i j, i < j → j < wn → nw_cm (fun k => C (st j + k)) (st (j + 1) - st j) ci ni < 0 → nw_cm (fun k => C (st i + k)) (st (i + 1) - st i) ci ni < 0 := fun i j hij hj hc => by
  rw [h.cm he hj] at hc
  rw [h.cm he (show i < wn by omega)]
  exact h.down hn hI i j hij hj hc
theorem nw_WR.place {wn : Nat} {C st X Ln : Nat → Nat} (h : nw_WR wn C st X Ln) {ni : Nat} {ci I : Nat → Nat} (he : ∀ j, j < ni → I j = ci j) : nw_cnt (fun i => nw_cm (fun k => C (st i + k)) (st (i + 1) - st i) ci ni < 0) wn = nw_cnt (fun i => nw_cm (fun k => X (i * 60 + k)) (Ln i) I ni < 0) wn :=
  nw_cnt_congr (fun i hi => by rw [h.cm he hi])
theorem nw_WR.longest {wn : Nat} {C st X Ln : Nat → Nat} (h : nw_WR wn C st X Ln) : nw_mx (fun i => st (i + 1) - st i) wn = nw_mx Ln wn := nw_mx_congr (fun i hi => h.len hi)
theorem nw_WR_0 {C st X Ln : Nat → Nat} (h0 : st 0 = 0) (hC : ∀ j, C j < 127) (hX : ∀ j, X j < 128) : nw_WR 0 C st X Ln := ⟨h0, fun i hi => absurd hi (Nat.not_lt_zero i), fun i hi => absurd hi (Nat.not_lt_zero i), fun i k hi => absurd hi (Nat.not_lt_zero i), fun i j _ hj => absurd hj (Nat.not_lt_zero j), hC, hX⟩
/-- a new word -/
theorem nw_WR.ins {wn : Nat} {C st X Ln : Nat → Nat} (h : nw_WR wn C st X Ln) {ni pl : Nat} {ci I X' Ln' : Nat → Nat} (h1 : 1 ≤ ni) (hn : ni ≤ 60) (he : ∀ j, j < ni → I j = ci j) (hci : ∀ j, ci j < 127) (hp : pl ≤ wn) (hb : ∀ i, i < pl → nw_Lt (fun k => X (i * 60 + k)) (Ln i) I ni) (ha : ∀ i, pl ≤ i → i < wn → nw_Lt I ni (fun k => X (i * 60 + k)) (Ln i))
    (s1 : ∀ v, v < pl → Ln' v = Ln v ∧ ∀ k, k < Ln v → X' (v * 60 + k) = X (v * 60 + k)) (s2 : Ln' pl = ni ∧ ∀ k, k < ni → X' (pl * 60 + k) = I k) (s3 : ∀ v, pl < v → v ≤ wn → Ln' v = Ln (v - 1) ∧ ∀ k, k < Ln (v - 1) → X' (v * 60 + k) = X ((v - 1) * 60 + k)) (s4 : ∀ j, X' j < 128) :
    nw_WR (wn + 1) (va_cpy ci (va_cpy C C (st pl) (st pl + ni) (st wn - st pl)) 0 (st pl) ni) (nw_ins st pl wn ni) X' Ln' := by
  have hmo := h.mono
  obtain ⟨g0, g1, g2, g3, g4, g5, g6⟩ := h
  have hin : ∀ x, pl < x → x ≤ wn + 1 → nw_ins st pl wn ni x = st (x - 1) + ni := fun x a b => by unfold nw_ins; rw [if_pos ⟨a, b⟩]
  have hout : ∀ x, x ≤ pl → nw_ins st pl wn ni x = st x := fun x a => by unfold nw_ins; rw [if_neg (by omega)]
  -- each word is one that was there, or the new one
  have hsrc : ∀ v, v < wn + 1 → (v < pl ∧ nw_Eq (fun k => X' (v * 60 + k)) (Ln' v) (fun k => X (v * 60 + k)) (Ln v)) ∨ (v = pl ∧ nw_Eq (fun k => X' (v * 60 + k)) (Ln' v) I ni) ∨ (pl < v ∧ nw_Eq (fun k => X' (v * 60 + k)) (Ln' v) (fun k => X ((v - 1) * 60 + k)) (Ln (v - 1))) := fun v hv => by
    rcases Nat.lt_trichotomy v pl with e | e | e
    · exact Or.inl ⟨e, (s1 v e).1, fun k hk => (s1 v e).2 k (by rw [← (s1 v e).1]; exact hk)⟩
    · subst e; exact Or.inr (Or.inl ⟨rfl, s2.1, fun k hk => s2.2 k (by rw [← s2.1]; exact hk)⟩)
    · exact Or.inr (Or.inr ⟨e, (s3 v e (by omega)).1, fun k hk => (s3 v e (by omega)).2 k (by rw [← (s3 v e (by omega)).1]; exact hk)⟩)
  refine ⟨by rw [hout 0 (Nat.zero_le _)]; exact g0, fun i hi => ?_, fun i hi => ?_, fun i k hi hk => ?_, fun i j hij hj => ?_, fun j => ?_, s4⟩
  · rcases Nat.lt_trichotomy i pl with e | e | e
    · rw [hout i (by omega), hout (i + 1) (by omega), (s1 i e).1]; exact g1 i (by omega)
    · subst e; rw [hin (i + 1) (by omega) (by omega), hout i (Nat.le_refl _), s2.1, Nat.add_sub_cancel]
    · rw [hin (i + 1) (by omega) (by omega), hin i e (by omega), (s3 i e (by omega)).1, Nat.add_sub_cancel]
      have := g1 (i - 1) (by omega)
      rw [show i - 1 + 1 = i by omega] at this
      omega
  · rcases Nat.lt_trichotomy i pl with e | e | e
    · rw [(s1 i e).1]; exact g2 i (by omega)
    · subst e; rw [s2.1]; exact ⟨h1, hn⟩
    · rw [(s3 i e (by omega)).1]; exact g2 (i - 1) (by omega)
  · rcases Nat.lt_trichotomy i pl with e | e | e
    · have hL := (s1 i e).1
      have q1 := g1 i (by omega)
      have q2 := hmo (i + 1) pl (by omega) hp
      rw [hout i (by omega), pk_cpy_out (by omega), pk_cpy_out (by omega), (s1 i e).2 k (by omega)]
      exact g3 i k (by omega) (by omega)
    · subst e
      have hL := s2.1
      rw [hout i (Nat.le_refl _), pk_cpy_in (by omega) (by omega), s2.2 k (by omega), he k (by omega)]
      congr 1; omega
    · have hL := (s3 i e (by omega)).1
      have q1 := g1 (i - 1) (by omega)
      rw [show i - 1 + 1 = i by omega] at q1
      have q2 := hmo pl (i - 1) (by omega) (by omega)
      have q3 := hmo i wn (by omega) (Nat.le_refl _)
      rw [hin i e (by omega), pk_cpy_out (by omega), pk_cpy_in (by omega) (by omega), (s3 i e (by omega)).2 k (by omega), ← g3 (i - 1) k (by omega) (by omega)]
      congr 1; omega
  · rcases hsrc i (by omega) with ⟨a1, a2⟩ | ⟨a1, a2⟩ | ⟨a1, a2⟩ <;> rcases hsrc j hj with ⟨b1, b2⟩ | ⟨b1, b2⟩ | ⟨b1, b2⟩
    · exact (nw_Lt.eqL a2 (g4 i j hij (by omega))).eqR b2.symm
    · exact (nw_Lt.eqL a2 (hb i a1)).eqR b2.symm
    · exact (nw_Lt.eqL a2 (g4 i (j - 1) (by omega) (by omega))).eqR b2.symm
    · omega
    · omega
    · exact (nw_Lt.eqL a2 (ha (j - 1) (by omega) (by omega))).eqR b2.symm
    · omega
    · omega
    · exact (nw_Lt.eqL a2 (g4 (i - 1) (j - 1) (by omega) (by omega))).eqR b2.symm
  · by_cases e : st pl ≤ j ∧ j < st pl + ni
    · rw [pk_cpy_in e.1 e.2]; exact hci _
    · rw [pk_cpy_out (by omega)]
      by_cases e2 : st pl + ni ≤ j ∧ j < st pl + ni + (st wn - st pl)
      · rw [pk_cpy_in e2.1 e2.2]; exact g5 _
      · rw [pk_cpy_out (by omega)]; exact g5 _
theorem nw_ins_end {st : Nat → Nat} {pl wn ni : Nat} (hp : pl ≤ wn) : nw_ins st pl wn ni (wn + 1) = st wn + ni := by
  unfold nw_ins; rw [if_pos (by omega), Nat.add_sub_cancel]
/-- a word goes -/
theorem nw_WR.del {wn : Nat} {C st X Ln : Nat → Nat} (h : nw_WR wn C st X Ln) {pl : Nat} {X' Ln' : Nat → Nat} (hp : pl < wn)
    (s1 : ∀ v, v < pl → Ln' v = Ln v ∧ ∀ k, k < Ln v → X' (v * 60 + k) = X (v * 60 + k)) (s3 : ∀ v, pl ≤ v → v + 1 < wn → Ln' v = Ln (v + 1) ∧ ∀ k, k < Ln (v + 1) → X' (v * 60 + k) = X ((v + 1) * 60 + k)) (s4 : ∀ j, X' j < 128) :
    nw_WR (wn - 1) (va_cpy C C (st (pl + 1)) (st pl) (st wn - st (pl + 1))) (nw_del st pl wn (st (pl + 1) - st pl)) X' Ln' := by
  have hmo := h.mono
  obtain ⟨g0, g1, g2, g3, g4, g5, g6⟩ := h
  have gp := g1 pl hp
  have hin : ∀ x, pl ≤ x → x < wn → nw_del st pl wn (st (pl + 1) - st pl) x = st (x + 1) - (st (pl + 1) - st pl) := fun x a b => by unfold nw_del; rw [if_pos ⟨a, b⟩]
  have hout : ∀ x, x < pl → nw_del st pl wn (st (pl + 1) - st pl) x = st x := fun x a => by unfold nw_del; rw [if_neg (by omega)]
  have hsrc : ∀ v, v < wn - 1 → (v < pl ∧ nw_Eq (fun k => X' (v * 60 + k)) (Ln' v) (fun k => X (v * 60 + k)) (Ln v)) ∨ (pl ≤ v ∧ nw_Eq (fun k => X' (v * 60 + k)) (Ln' v) (fun k => X ((v + 1) * 60 + k)) (Ln (v + 1))) := fun v hv => by
    rcases Nat.lt_or_ge v pl with e | e
    · exact Or.inl ⟨e, (s1 v e).1, fun k hk => (s1 v e).2 k (by rw [← (s1 v e).1]; exact hk)⟩
    · exact Or.inr ⟨e, (s3 v e (by omega)).1, fun k hk => (s3 v e (by omega)).2 k (by rw [← (s3 v e (by omega)).1]; exact hk)⟩
  have hst : ∀ x, x ≤ pl → nw_del st pl wn (st (pl + 1) - st pl) x = st x := fun x a => by
    by_cases e : x = pl
    · rw [hin x (by omega) (by omega), e]; omega
    · exact hout x (by omega)
  refine ⟨by rw [hst 0 (Nat.zero_le _)]; exact g0, fun i hi => ?_, fun i hi => ?_, fun i k hi hk => ?_, fun i j hij hj => ?_, fun j => ?_, s4⟩
  · rcases Nat.lt_or_ge i pl with e | e
    · rw [hst i (by omega), hst (i + 1) (by omega), (s1 i e).1]; exact g1 i (by omega)
    · rw [hin i e (by omega), hin (i + 1) (by omega) (by omega), (s3 i e (by omega)).1]
      have q1 := g1 (i + 1) (by omega)
      have q2 := hmo (pl + 1) (i + 1) (by omega) (by omega)
      omega
  · rcases Nat.lt_or_ge i pl with e | e
    · rw [(s1 i e).1]; exact g2 i (by omega)
    · rw [(s3 i e (by omega)).1]; exact g2 (i + 1) (by omega)
  · rcases Nat.lt_or_ge i pl with e | e
    · have hL := (s1 i e).1
      have q1 := g1 i (by omega)
      have q2 := hmo (i + 1) pl (by omega) (by omega)
      rw [hst i (by omega), pk_cpy_out (by omega), (s1 i e).2 k (by omega)]
      exact g3 i k (by omega) (by omega)
    · have hL := (s3 i e (by omega)).1
      have q1 := g1 (i + 1) (by omega)
      have q2 := hmo (pl + 1) (i + 1) (by omega) (by omega)
      have q3 := hmo (i + 1 + 1) wn (by omega) (Nat.le_refl _)
      rw [hin i e (by omega), pk_cpy_in (by omega) (by omega), (s3 i e (by omega)).2 k (by omega), ← g3 (i + 1) k (by omega) (by omega)]
      congr 1; omega
  · rcases hsrc i (by omega) with ⟨a1, a2⟩ | ⟨a1, a2⟩ <;> rcases hsrc j hj with ⟨b1, b2⟩ | ⟨b1, b2⟩
    · exact (nw_Lt.eqL a2 (g4 i j hij (by omega))).eqR b2.symm
    · exact (nw_Lt.eqL a2 (g4 i (j + 1) (by omega) (by omega))).eqR b2.symm
    · omega
    · exact (nw_Lt.eqL a2 (g4 (i + 1) (j + 1) (by omega) (by omega))).eqR b2.symm
  · by_cases e2 : st pl ≤ j ∧ j < st pl + (st wn - st (pl + 1))
    · rw [pk_cpy_in e2.1 e2.2]; exact g5 _
    · rw [pk_cpy_out (by omega)]; exact g5 _
theorem nw_del_end {st : Nat → Nat} {pl wn len : Nat} (hp : pl < wn) : nw_del st pl wn len (wn - 1) = st wn - len := by
  unfold nw_del; rw [if_pos (by omega), show wn - 1 + 1 = wn by omega]
/-- the same results -/
def nw_RR (rn : Nat) (RL RD : Nat → Nat) (M : Nat → Nat → Nat) (mRL mRD Y : Nat → Nat) : Prop := rn ≤ 50 ∧ ∀ j, j < rn → RL j = mRL j ∧ RL j ≤ 60 ∧ RD j = mRD j ∧ RD j ≤ 3 ∧ ∀ k, k < RL j → M j k = Y (j * 60 + k) ∧ M j k < 128
theorem nw_RR_0 {RL RD : Nat → Nat} {M : Nat → Nat → Nat} {mRL mRD Y : Nat → Nat} : nw_RR 0 RL RD M mRL mRD Y := ⟨by decide, fun j hj => absurd hj (Nat.not_lt_zero j)⟩
theorem nw_RR_of {sel sel' : Nat → Prop} [DecidablePred sel] [DecidablePred sel'] {dd dd' : Nat → Nat} {wn r : Nat} {C st X Ln RL RD Y mRL mRD : Nat → Nat} {M : Nat → Nat → Nat} (h : nw_WR wn C st X Ln) (hs : ∀ i, i < wn → (sel i ↔ sel' i)) (hd : ∀ i, i < wn → sel i → dd i = dd' i ∧ dd i ≤ 3)
    (k1 : nw_kp sel dd wn (fun i k => C (st i + k)) (fun i => st (i + 1) - st i) M RL RD) (k2 : nw_kp sel' dd' wn (fun i k => X (i * 60 + k)) Ln (fun r k => Y (r * 60 + k)) mRL mRD) (hr : r ≤ nw_cnt sel wn) (hr2 : r ≤ 50) : nw_RR r RL RD M mRL mRD Y := by
  refine ⟨hr2, fun j hj => ?_⟩
  obtain ⟨i, hi, hsi, hci⟩ := nw_cnt_ex (f := sel) (n := wn) (r := j) (by omega)
  have hc2 : nw_cnt sel' i = j := by rw [← nw_cnt_congr (fun q hq => hs q (by omega))]; exact hci
  obtain ⟨a1, a2, a3⟩ := k1 i hi hsi (by omega)
  obtain ⟨b1, b2, b3⟩ := k2 i hi ((hs i hi).mp hsi) (by omega)
  rw [hci] at a1 a2 a3
  rw [hc2] at b1 b2 b3
  have hL := h.len hi
  have hb := h.2.2.1 i hi
  obtain ⟨d1, d2⟩ := hd i hi hsi
  have a1' : RL j = st (i + 1) - st i := a1
  refine ⟨by rw [a1', b1, hL], by omega, by rw [a2, b2, d1], by rw [a2]; exact d2, fun k hk => ?_⟩
  have e1 := a3 k (by show k < st (i + 1) - st i; omega)
  have e2 := b3 k (by omega)
  have e3 := h.2.2.2.1 i k hi (by omega)
  have e4 : M j k = C (st i + k) := e1
  have e5 : Y (j * 60 + k) = X (i * 60 + k) := e2
  rw [e4, e5, e3]
  exact ⟨rfl, h.2.2.2.2.2.2 _⟩
theorem nw_D_congr {x y v w : Nat → Nat} {I J : Nat} (hx : ∀ i, i < I → x i = v i) (hy : ∀ j, j < J → y j = w j) : ∀ n i j, i + j < n → i ≤ I → j ≤ J → nw_D x y i j = nw_D v w i j := by
  intro n
  induction n with
  | zero => intro i j h; exact absurd h (Nat.not_lt_zero _)
  | succ n ih =>
    intro i j h hi hj
    cases i with
    | zero => rw [nw_D_0, nw_D_0]
    | succ i =>
      cases j with
      | zero => rw [nw_D_s0, nw_D_s0]
      | succ j =>
        have e1 := ih i (j + 1) (by omega) (by omega) hj
        have e2 := ih (i + 1) j (by omega) hi (by omega)
        have e3 := ih i j (by omega) (by omega) (by omega)
        have e4 := ih (i - 1) (j - 1) (by omega) (by omega) (by omega)
        rw [nw_D, nw_D, e1, e2, e3, e4, hx i (by omega), hx (i - 1) (by omega), hy j (by omega), hy (j - 1) (by omega)]
theorem nw_T_congr {E F : Nat → Nat} {N d w : Nat} (h : ∀ i, i < N → E i = F i) (hw : w ≤ N) : nw_T E N d w = nw_T F N d w := by
  unfold nw_T
  rw [nw_sm_congr (f := fun d' => nw_cnt (fun i => F i = d') N) (g := fun d' => nw_cnt (fun i => E i = d') N) (fun j _ => nw_cnt_congr (fun i hi => by rw [h i hi])), nw_cnt_congr (f := fun i => E i = d) (g := fun i => F i = d) (fun i hi => by rw [h i (by omega)])]
theorem nw_sl_congr {E F : Nat → Nat} {N ms : Nat} (h : ∀ i, i < N → E i = F i) : ∀ i, i < N → (nw_sl E N ms i ↔ nw_sl F N ms i) := fun i hi => by
  show (E i ≤ ms ∧ nw_T E N (E i) i < 50) ↔ (F i ≤ ms ∧ nw_T F N (F i) i < 50)
  rw [h i hi, nw_T_congr h (by omega)]
