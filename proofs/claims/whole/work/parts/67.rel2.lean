theorem nw_WR.like {wn : Nat} {C st X Ln : Nat → Nat} (h : nw_WR wn C st X Ln) {ni : Nat} {ci I : Nat → Nat} (he : ∀ j, j < ni → I j = ci j) {i : Nat} (hi : i < wn) : nw_M ci (fun k => C (st i + k)) (st (i + 1) - st i) ni = nw_M I (fun k => X (i * 60 + k)) (Ln i) ni := by
  rw [h.len hi]
  exact nw_M_congr (I := Ln i) (J := ni) (fun j hj => (he j hj).symm) (fun k hk => h.2.2.2.1 i k hi hk) (Ln i + ni + 1) (Ln i) ni (by omega) (Nat.le_refl _) (Nat.le_refl _)
theorem nw_WR.near {wn : Nat} {C st X Ln : Nat → Nat} (h : nw_WR wn C st X Ln) {ni ms : Nat} {ci I : Nat → Nat} (he : ∀ j, j < ni → I j = ci j) {i : Nat} (hi : i < wn) : nw_E (nw_D (fun k => C (st i + k)) ci (st (i + 1) - st i) ni) ni (st (i + 1) - st i) ms = nw_E (nw_D (fun k => X (i * 60 + k)) I (Ln i) ni) ni (Ln i) ms := by
  rw [h.len hi, nw_D_congr (I := Ln i) (J := ni) (fun k hk => h.2.2.2.1 i k hi hk) (fun j hj => (he j hj).symm) (Ln i + ni + 1) (Ln i) ni (by omega) (Nat.le_refl _) (Nat.le_refl _)]
theorem nw_WR.split {wn : Nat} {C st X Ln : Nat → Nat} (h : nw_WR wn C st X Ln) {ni pl : Nat} (hn : ni ≤ 60) {I : Nat → Nat} (hI : ∀ j, I j < 128) (hp : pl = nw_cnt (fun i => nw_cm (fun k => X (i * 60 + k)) (Ln i) I ni < 0) wn) (ho : ¬ (pl < wn ∧ nw_cm (fun k => X (pl * 60 + k)) (Ln pl) I ni = 0)) :
    (∀ i, i < pl → nw_Lt (fun k => X (i * 60 + k)) (Ln i) I ni) ∧ ∀ i, pl ≤ i → i < wn → nw_Lt I ni (fun k => X (i * 60 + k)) (Ln i) := by
  obtain ⟨d1, d2⟩ := nw_cnt_down (h.down (ni := ni) hn hI)
  rw [← hp] at d1 d2
  have hle : pl ≤ wn := by rw [hp]; exact nw_cnt_le _ _
  refine ⟨fun i hi => (h.cmlt hn hI (by omega)).mp (d1 i hi), fun i h1 h2 => ?_⟩
  have hb := h.2.2.1 i h2
  rcases nw_total (a := fun k => X (i * 60 + k)) (b := I) (la := Ln i) (lb := ni) (by omega) (by omega) (fun j _ => Nat.lt_trans (h.2.2.2.2.2.2 _) (by decide)) (fun j _ => Nat.lt_trans (hI j) (by decide)) with q | q | q
  · exact absurd ((h.cmlt hn hI h2).mpr q) (d2 i h1 h2)
  · by_cases e : i = pl
    · subst e; exact absurd ⟨h2, (h.cmeq hn hI h2).mpr q⟩ ho
    · have h3 := (h.2.2.2.2.1 pl i (by omega) h2).eqR q
      exact absurd ((h.cmlt hn hI (by omega)).mpr h3) (d2 pl (Nat.le_refl _) (by omega))
  · exact q
theorem nw_q3 {q : Int32} (h0 : ¬ q < 0) (h3 : ¬ nI 3 < q) : ∃ ms, ms ≤ 3 ∧ q = nI ms := by
  obtain ⟨j, hj, e⟩ := nI_of h0
  rw [e, nI_ltI (by decide) hj] at h3
  exact ⟨j, by omega, e⟩
theorem nw_qn {q : Int32} {n : Nat} (hn : n ≤ 50) (h : ¬ (q < 0 ∨ nI n ≤ q)) : ∃ j, j < n ∧ q = nI j := by
  obtain ⟨j, hj, e⟩ := nI_of (fun z => h (Or.inl z))
  have h3 : ¬ nI n ≤ q := fun z => h (Or.inr z)
  rw [e, nI_leI (by omega) hj] at h3
  exact ⟨j, by omega, e⟩
