/-! The law: its start, its loop, its relation. -/
def nw_Rel (k ni : Nat) (ci ct : Nat → Nat) (wn : Nat) (C st : Nat → Nat) (rn : Nat) (RL RD : Nat → Nat) (M Ml : Nat → Nat → Nat) (I X Ln mRL mRD Y : Nat → Nat) : Prop :=
  ni ≤ 60 ∧ wn ≤ k ∧ st wn + ni ≤ 16 * k ∧ (∀ j, ci j < 127) ∧ (∀ j, ct j < 127) ∧ (∀ j, j < ni → I j = ci j) ∧ (∀ j, I j < 128) ∧ nw_WR wn C st X Ln ∧ nw_RR rn RL RD M mRL mRD Y ∧ (∀ j, Y j < 128) ∧ ∀ d, d ≤ 3 → Ml 0 d = 2 ^ (d + 1) - 1
theorem nw_htc {x w0 : Cond} {args : Array Value} {s : State} (h0 : w0.before args s = true) (hts : ∀ w ∈ x :: nw_tbl, w.before args s = true) : ∀ w ∈ w0 :: nw_tbl, w.before args s = true := fun w hw => by
  rcases List.mem_cons.mp hw with e | e
  · rw [e]; exact h0
  · exact hts w (List.mem_cons_of_mem _ e)
theorem nw_ty {s : State} {args : Array Value} {ty : FieldType} (h : (Cond.arrayClass ty).before args s = true) (hpr : (match ty with | .object _ => false | _ => true) = true) : ∃ cA : ClassId, ArrOfT s cA ty ∧ va_RA s cA ty := by
  obtain ⟨cB, kB, comp, hcB, hkB, hkind⟩ := Cond.arrayClass_spec h
  refine ⟨cB, fun n z => ⟨(fun k hk => by cases hk), kB, hkB, comp, hkind⟩, ?_⟩
  cases ty with
  | object C => simp at hpr
  | _ => exact hcB
theorem nw_ty2 {s : State} {args : Array Value} {t : FieldType} (h : (Cond.arrayOver (.array t)).before args s = true) : ∃ cA : ClassId, ArrOfT s cA (.array t) ∧ va_RA s cA (.array t) := by
  obtain ⟨comp, c, k, hc, hi, hk, hkind, hn⟩ := arrayOverA_spec h
  exact ⟨c, fun n z => ⟨(fun q hq => by cases hq), k, hk, comp, hkind⟩, hn⟩
theorem nw_start {s : State} {args : Array Value} (hts : ∀ w ∈ nw_tbl, w.before args s = true) (h1 : nw_AO .byte s) (h2 : nw_AO .long s) (hz : (Cond.arrayClass .boolean).before args s = true) (hby : (Cond.arrayClass .byte).before args s = true) (hin : (Cond.arrayClass .int).before args s = true) (hlo : (Cond.arrayClass .long).before args s = true)
    (i0 : (Cond.instantiable R_NW 7).before args s = true) (i1 : (Cond.instantiable R_Mod 16).before args s = true) (i2 : (Cond.instantiable R_Met 3).before args s = true) (i3 : (Cond.instantiable R_Near 2).before args s = true) (i4 : (Cond.instantiable R_Pat 4).before args s = true) (i5 : (Cond.instantiable R_Res 4).before args s = true) (i6 : (Cond.instantiable R_Row 2).before args s = true) (i7 : (Cond.instantiable R_WL 3).before args s = true) :
    ∃ (dC : Nat → ClassId) (dI : Nat → Nat → Nat) (cB cF cG cI cJ cZ : ClassId), va_K (dC, dI) nw_cls [(cB, .byte), (cF, (.array .byte)), (cG, (.array .long)), (cI, .int), (cJ, .long), (cZ, .boolean)] s := by
  obtain ⟨c0, d0, k0⟩ := u_known hts hin_NW0 i0
  obtain ⟨c1, d1, k1⟩ := u_known hts hin_Mod0 i1
  obtain ⟨c2, d2, k2⟩ := u_known hts hin_Met0 i2
  obtain ⟨c3, d3, k3⟩ := u_known hts hin_Near0 i3
  obtain ⟨c4, d4, k4⟩ := u_known hts hin_Pat0 i4
  obtain ⟨c5, d5, k5⟩ := u_known hts hin_Res0 i5
  obtain ⟨c6, d6, k6⟩ := u_known hts hin_Row0 i6
  obtain ⟨c7, d7, k7⟩ := u_known hts hin_WL0 i7
  obtain ⟨cB, b1, b2⟩ := nw_ty hby rfl
  obtain ⟨cF, f1, f2⟩ := nw_ty2 h1
  obtain ⟨cG, g1, g2⟩ := nw_ty2 h2
  obtain ⟨cI, j1, j2⟩ := nw_ty hin rfl
  obtain ⟨cJ, l1, l2⟩ := nw_ty hlo rfl
  obtain ⟨cZ, z1, z2⟩ := nw_ty hz rfl
  refine ⟨fun c => match c with | 0 => c0 | 1 => c1 | 2 => c2 | 3 => c3 | 4 => c4 | 5 => c5 | 6 => c6 | _ => c7, fun c => match c with | 0 => d0 | 1 => d1 | 2 => d2 | 3 => d3 | 4 => d4 | 5 => d5 | 6 => d6 | _ => d7, cB, cF, cG, cI, cJ, cZ, fun c q hq => ?_, fun k q hq => ?_⟩
  · match c, hq with
    | 0, hq => cases hq; exact k0
    | 1, hq => cases hq; exact k1
    | 2, hq => cases hq; exact k2
    | 3, hq => cases hq; exact k3
    | 4, hq => cases hq; exact k4
    | 5, hq => cases hq; exact k5
    | 6, hq => cases hq; exact k6
    | 7, hq => cases hq; exact k7
    | n + 8, hq => cases hq
  · match k, hq with
    | 0, hq => cases hq; exact ⟨b1, b2⟩
    | 1, hq => cases hq; exact ⟨f1, f2⟩
    | 2, hq => cases hq; exact ⟨g1, g2⟩
    | 3, hq => cases hq; exact ⟨j1, j2⟩
    | 4, hq => cases hq; exact ⟨l1, l2⟩
    | 5, hq => cases hq; exact ⟨z1, z2⟩
    | n + 6, hq => cases hq
/-! type: the bytes as the reference numbers them -/
theorem nw_tb1 {x1 x2 : Int64} {b : Nat → Nat} (hb : b = fun k => if k < 8 then nw_by x1 (56 - k % 8 * 8) else nw_by x2 (56 - k % 8 * 8)) {k : Nat} (hk : k < 8) : b k = nw_bk x1 k := by
  rw [hb]; show (if k < 8 then _ else _) = _
  rw [if_pos hk]; unfold nw_bk; congr 1; omega
theorem nw_tb2x {x1 x2 : Int64} {b : Nat → Nat} (hb : b = fun k => if k < 8 then nw_by x1 (56 - k % 8 * 8) else nw_by x2 (56 - k % 8 * 8)) {k : Nat} (hk : k < 8) : b (8 + k) = nw_bk x2 k := by
  rw [hb]; show (if 8 + k < 8 then _ else _) = _
  rw [if_neg (by omega)]; unfold nw_bk; congr 1; omega
theorem nw_tc1 {x1 x2 : Int64} {b : Nat → Nat} (hb : b = fun k => if k < 8 then nw_by x1 (56 - k % 8 * 8) else nw_by x2 (56 - k % 8 * 8)) {i : Nat} (hi : i ≤ 8) : nw_cnt (fun i => b i ≠ 0) i = nw_cnt (fun j => nw_bk x1 j ≠ 0) i := nw_cnt_congr (fun q hq => by rw [nw_tb1 hb (by omega)])
theorem nw_tc2 {x1 x2 : Int64} {b : Nat → Nat} (hb : b = fun k => if k < 8 then nw_by x1 (56 - k % 8 * 8) else nw_by x2 (56 - k % 8 * 8)) {j : Nat} (hj : j ≤ 8) : nw_cnt (fun i => b i ≠ 0) (8 + j) = nw_cnt (fun j => nw_bk x1 j ≠ 0) 8 + nw_cnt (fun j => nw_bk x2 j ≠ 0) j := by
  rw [nw_cnt_add, nw_tc1 hb (Nat.le_refl _), nw_cnt_congr (f := fun j => b (8 + j) ≠ 0) (g := fun j => nw_bk x2 j ≠ 0) (fun q hq => by rw [nw_tb2x hb (by omega)])]
theorem nw_tsame {x1 x2 : Int64} {b : Nat → Nat} (hb : b = fun k => if k < 8 then nw_by x1 (56 - k % 8 * 8) else nw_by x2 (56 - k % 8 * 8)) {ni : Nat} {ci I u v : Nat → Nat} (he : ∀ j, j < ni → I j = ci j)
    (u1 : ∀ j, j < ni → u j = ci j) (u2 : ∀ i, i < 8 → nw_bk x1 i ≠ 0 → u (ni + nw_cnt (fun j => nw_bk x1 j ≠ 0) i) = nw_bk x1 i) (u3 : ∀ i, i < 8 → nw_bk x2 i ≠ 0 → u (ni + nw_cnt (fun j => nw_bk x1 j ≠ 0) 8 + nw_cnt (fun j => nw_bk x2 j ≠ 0) i) = nw_bk x2 i)
    (v1 : ∀ j, j < ni → v j = I j) (v2 : ∀ i, i < 16 → b i ≠ 0 → v (ni + nw_cnt (fun i => b i ≠ 0) i) = b i) : ∀ j, j < ni + nw_cnt (fun j => nw_bk x1 j ≠ 0) 8 + nw_cnt (fun j => nw_bk x2 j ≠ 0) 8 → v j = u j := fun j hj => by
  by_cases e : j < ni
  · rw [v1 j e, u1 j e, he j e]
  · have h16 := nw_tc2 hb (j := 8) (Nat.le_refl _)
    obtain ⟨i, hi, hs, hc⟩ := nw_cnt_ex (f := fun i => b i ≠ 0) (n := 8 + 8) (r := j - ni) (by omega)
    have hv := v2 i (by omega) hs
    rw [hc, show ni + (j - ni) = j by omega] at hv
    rw [hv]
    by_cases e8 : i < 8
    · have e1 := nw_tb1 hb e8
      have e2 := nw_tc1 hb (Nat.le_of_lt e8)
      have e3 := u2 i e8 (by rw [← e1]; exact hs)
      rw [← e2, hc, show ni + (j - ni) = j by omega] at e3
      rw [e3, e1]
    · obtain ⟨t, rfl⟩ : ∃ t, i = 8 + t := ⟨i - 8, by omega⟩
      have e1 := nw_tb2x hb (k := t) (by omega)
      have e2 := nw_tc2 hb (j := t) (by omega)
      have e3 := u3 t (by omega) (by rw [← e1]; exact hs)
      rw [show ni + nw_cnt (fun j => nw_bk x1 j ≠ 0) 8 + nw_cnt (fun j => nw_bk x2 j ≠ 0) t = j by omega] at e3
      rw [e3, e1]
theorem nw_tbad {x1 x2 : Int64} {b : Nat → Nat} (hb : b = fun k => if k < 8 then nw_by x1 (56 - k % 8 * 8) else nw_by x2 (56 - k % 8 * 8)) (h : (∃ k, k < 8 ∧ nw_bad (nw_bk x1 k)) ∨ ((∀ k, k < 8 → ¬ nw_bad (nw_bk x1 k)) ∧ ∃ k, k < 8 ∧ nw_bad (nw_bk x2 k))) : ∃ k, k < 16 ∧ (b k ≠ 0 ∧ (b k < 33 ∨ 126 < b k)) := by
  rcases h with ⟨k, h1, h2⟩ | ⟨-, k, h1, h2⟩
  · exact ⟨k, by omega, by rw [nw_tb1 hb h1]; exact h2⟩
  · exact ⟨8 + k, by omega, by rw [nw_tb2x hb h1]; exact h2⟩
theorem nw_tok {x1 x2 : Int64} {b : Nat → Nat} (hb : b = fun k => if k < 8 then nw_by x1 (56 - k % 8 * 8) else nw_by x2 (56 - k % 8 * 8)) (h1 : ∀ k, k < 8 → ¬ nw_bad (nw_bk x1 k)) (h2 : ∀ k, k < 8 → ¬ nw_bad (nw_bk x2 k)) : ∀ k, k < 16 → ¬ (b k ≠ 0 ∧ (b k < 33 ∨ 126 < b k)) := fun k hk => by
  by_cases e : k < 8
  · rw [nw_tb1 hb e]; exact h1 k e
  · obtain ⟨t, rfl⟩ : ∃ t, k = 8 + t := ⟨k - 8, by omega⟩
    rw [nw_tb2x hb (by omega)]; exact h2 t (by omega)
theorem nw_trich (x1 x2 : Int64) : ((∃ k, k < 8 ∧ nw_bad (nw_bk x1 k)) ∨ ((∀ k, k < 8 → ¬ nw_bad (nw_bk x1 k)) ∧ ∃ k, k < 8 ∧ nw_bad (nw_bk x2 k))) ∨ ((∀ k, k < 8 → ¬ nw_bad (nw_bk x1 k)) ∧ ∀ k, k < 8 → ¬ nw_bad (nw_bk x2 k)) := by
  by_cases a : ∃ k, k < 8 ∧ nw_bad (nw_bk x1 k)
  · exact Or.inl (Or.inl a)
  · have a' : ∀ k, k < 8 → ¬ nw_bad (nw_bk x1 k) := fun k hk h => a ⟨k, hk, h⟩
    by_cases c : ∃ k, k < 8 ∧ nw_bad (nw_bk x2 k)
    · exact Or.inl (Or.inr ⟨a', c⟩)
    · exact Or.inr ⟨a', fun k hk h => c ⟨k, hk, h⟩⟩
