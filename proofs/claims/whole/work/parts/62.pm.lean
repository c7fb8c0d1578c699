theorem CP.r14 {σ : ST} {M : MT} (h : CP σ M) (w : RowT) : CP (sR σ 14 w) M := by
  obtain ⟨h1, h2, h3, h4, h5, h6, h7⟩ := h
  have hr : ∀ j, j < 14 → (sR σ 14 w).2.1 j = σ.2.1 j := fun j hj => sR_ne (by omega)
  have hix : ∀ p, ix (σ.2.2.1.1 0) (M.2.1 2) p < 10 := fun p => Nat.mod_lt _ (by decide)
  refine ⟨⟨h1.1, by rw [hr 0 (by decide)]; exact h1.2.1, fun j hj => by rw [hr j hj]; exact h1.2.2.1 j hj, h1.2.2.2.1, h1.2.2.2.2.1, h1.2.2.2.2.2.1, h1.2.2.2.2.2.2⟩, by rw [hr 0 (by decide)]; exact h2, h3, fun p hp => ?_, fun k hk => ?_, h6, h7⟩
  · have := hix p
    show SNAP (σ.1 _) ((sR σ 14 w).2.1 (2 + ix (σ.2.2.1.1 0) (M.2.1 2) p)) _ _
    rw [hr _ (by omega)]; exact h4 p hp
  · show _ ∧ (_ → SNAP (σ.1 _) ((sR σ 14 w).2.1 (12 + k)) _ _)
    rw [hr _ (by omega)]; exact h5 k hk
theorem ok_clear {σ : ST} {M : MT} (h : CP σ M) : OK σ (xClear σ) (yClear M) := by
  obtain ⟨h1, h2, h3, h4, h5, h6, h7⟩ := h
  have f0 : (clrS σ).1 0 = bgF (σ.1 0) := by show (sF σ 0 _).1 0 = _; exact sF_at
  have q0 : (clrS σ).2.1 0 = ((σ.2.1 0).1, 0) := by simp [clrS, sX, sR, sF, up_s]
  have fj : ∀ j, j ≠ 0 → (clrS σ).1 j = σ.1 j ∧ (clrS σ).2.1 j = σ.2.1 j := fun j hj => ⟨by show (sF σ 0 _).1 j = _; exact sF_ne hj, by simp [clrS, sX, sR, sF, va_up, hj]⟩
  have x0 : (clrS σ).2.2.1.1 0 = σ.2.2.1.1 0 := by simp [clrS, sX, va_up]
  have x1 : (clrS σ).2.2.1.1 1 = 0 := by simp [clrS, sX, va_up]
  have x2 : (clrS σ).2.2.1.1 2 = 0 := by simp [clrS, sX, va_up]
  have n0 : (yClear M).2.2.1 0 = 0 := by simp [yClear, va_up]
  have n1 : (yClear M).2.2.1 1 = 0 := by simp [yClear, va_up]
  have n2 : (yClear M).2.2.1 2 = 0 := by simp [yClear, va_up]
  have n4 : (yClear M).2.2.1 4 = 0 := by simp [yClear, va_up]
  have pk : PK (bgF (σ.1 0)) := ⟨Nat.zero_le _, fun n hn => absurd hn (Nat.not_lt_zero n)⟩
  have hn0 : ∀ n, n < (bgF (σ.1 0)).2.1 → False := fun n hn => absurd hn (Nat.not_lt_zero n)
  have cc : CC ((clrS σ).1 0) ((clrS σ).2.1 0) (yClear M).2 := by
    rw [f0, q0]
    refine ⟨⟨pk, fun w hw => ?_, n0.symm, fun n hn => (hn0 n hn).elim, fun n w hn => (hn0 n hn).elim, fun n hn => (hn0 n hn).elim, fun p hp => ?_⟩, ⟨fun n => ?_, fun n hn => absurd hn (List.not_mem_nil), List.Pairwise.nil, n1⟩, fun n hn => ?_, ⟨0, by decide, ?_⟩, ⟨1, by decide, by decide, ?_⟩, ⟨8, by decide, ?_⟩⟩
    · show va_up (va_up (va_up (va_up (σ.1 0).1 0 1) 1 8) 2 8) 3 0 w = va_up (va_up (va_up (va_up M.1 0 1) 1 8) 2 8) 3 0 w
      have := h2.1.2.1 w hw
      simp only [va_up, this]
    · show bgA (σ.1 0).2.2 5 7 p = nI 0
      simp [bgA, va_up, hp]; rfl
    · exact ⟨fun q => absurd q (List.not_mem_nil), fun q => (hn0 n q.1).elim⟩
    · rw [n0] at hn; exact absurd hn (Nat.not_lt_zero n)
    · show va_up (va_up (va_up (va_up M.1 0 1) 1 8) 2 8) 3 0 3 = _; rw [up_s]; rfl
    · show va_up (va_up (va_up (va_up M.1 0 1) 1 8) 2 8) 3 0 0 = _; rw [up_n (by decide), up_n (by decide), up_n (by decide), up_s]; rfl
    · show va_up (va_up (va_up (va_up M.1 0 1) 1 8) 2 8) 3 0 2 = _; rw [up_n (by decide), up_s]; rfl
  refine ⟨by show nI _ = nI _; rw [h2.1.2.2.1], ⟨⟨cc.1.1, rq_ok cc.1.1 cc.2.1, fun j hj => ?_, by show (clrS σ).2.2.1.1 0 < 10; rw [x0]; exact h1.2.2.2.1, by show (clrS σ).2.2.1.1 1 ≤ 10; rw [x1]; omega, by show (clrS σ).2.2.1.1 2 ≤ 6; rw [x2]; omega, fun t ht => ?_⟩, cc, ?_, fun p hp => ?_, fun k hk => ?_, ?_, fun t ht => ?_⟩, rfl⟩
  · by_cases e : j = 0
    · subst e
      show ((clrS σ).1 0).2.1 ≤ 64 ∧ ((clrS σ).2.1 0).2 ≤ 64
      rw [f0, q0]; exact ⟨Nat.zero_le _, Nat.zero_le _⟩
    · show ((clrS σ).1 j).2.1 ≤ 64 ∧ ((clrS σ).2.1 j).2 ≤ 64
      rw [(fj j e).1, (fj j e).2]; exact h1.2.2.1 j hj
  · have ht : t < (clrS σ).2.2.1.1 2 := ht
    rw [x2] at ht; exact absurd ht (Nat.not_lt_zero t)
  · show (clrS σ).2.2.1.1 1 = (yClear M).2.2.1 2
    rw [x1, n2]
  · rw [n2] at hp; exact absurd hp (Nat.not_lt_zero p)
  · have e1 : (yClear M).2.2.2.1 2 k = 0 := by
      show va_up M.2.2.1 2 (upd (upd (M.2.2.1 2) 0 0) 1 0) 2 k = 0
      rw [up_s]
      rcases (show k = 0 ∨ k = 1 by omega) with e | e <;> subst e <;> simp [upd]
    have e2 : (clrS σ).2.2.1.2 2 k = 0 := by
      show clrA σ.2.2.1.2 2 2 k = 0
      simp [clrA, va_up, hk]
    rw [e1]
    exact ⟨e2, fun q => absurd rfl q⟩
  · show (clrS σ).2.2.1.1 2 = (yClear M).2.2.1 4
    rw [x2, n4]
  · rw [n4] at ht; exact absurd ht (Nat.not_lt_zero t)
theorem CP.pl {σ : ST} {M : MT} (h : CP σ M) {n : Nat} (hn : n < (σ.1 0).2.1) : (σ.1 0).2.2 0 n = mOf M n 0 := by
  rw [h.2.1.1.2.2.2.1 n hn, dm, if_neg (h.2.1.2.2.1 n (by rw [← h.2.1.1.2.2.1]; exact hn))]
theorem ok_letter {σ : ST} {M : MT} (h : CP σ M) (a b : Int32) : OK σ (xLetter σ a b) (yLetter M a b) := by
  have hL := h.2.1.1.2.2.1
  unfold xLetter yLetter
  rw [hL]
  by_cases c : wi a 0 (nI (M.2.1 0) - 1) = true ∧ wi b 0 6 = true
  · rw [if_pos c, if_pos c]
    obtain ⟨j, hj, hje⟩ := wi_let (by rw [← hL]; exact h.2.1.1.1.1) c.1
    obtain ⟨q, hq, hqe⟩ := wi_nat (n := 6) (by decide) c.2
    have h64 := h.2.1.1.1.1
    refine ⟨?_, h, rfl⟩
    show (σ.1 0).2.2 b.toNatClampNeg a.toNatClampNeg = _
    rw [hje, hqe, nI_clamp (by omega), nI_clamp (by omega)]
    by_cases q0 : q = 0
    · rw [q0]; exact h.pl (by omega)
    · exact h.2.1.1.2.2.2.2.1 j q (by omega) (by omega) (by omega)
  · rw [if_neg c, if_neg c]; exact ⟨rfl, h, rfl⟩
theorem ok_line {σ : ST} {M : MT} (h : CP σ M) (a : Int32) : OK σ (xLine σ a) (yLine M a) := by
  unfold xLine yLine
  split
  · exact ⟨fAt_eq h.2.1.1 a, h, rfl⟩
  · exact ⟨rfl, h, rfl⟩
theorem EQM_mR (M : MT) (w : RowT) : EQM M (mR M w) := ⟨⟨fun _ _ => rfl, by simp [mR, va_up], by simp [mR, va_up], fun _ _ => rfl⟩, by simp [mR, va_up], by simp [mR, va_up], fun _ _ => rfl, rfl, rfl, rfl⟩
theorem ok_sorted {σ : ST} {M : MT} (h : CP σ M) (k : Int32) : OK σ (xSorted σ k) (ySorted M k) := by
  unfold xSorted ySorted
  by_cases c : 0 ≤ k
  · rw [if_pos c, if_pos c]
    obtain ⟨hz, ho⟩ := rr_inj (sort_rr h.2.1.1 (σ.2.1 14))
    have hM : M.2.1 0 ≤ 64 := by rw [← h.2.1.1.2.2.1]; exact h.2.1.1.1.1
    have hz64 := (mSort_ok hM).1
    refine ⟨?_, (h.r14 _).eqm (EQM_mR M _), rfl⟩
    show rAt (sortW (σ.1 0) (σ.2.1 14)) k = _
    unfold rAt
    rw [hz]
    by_cases c2 : k < nI (mSort M).2
    · rw [if_pos ⟨c, c2⟩, if_pos c2]
      obtain ⟨j, hj, he⟩ := nI_of (Int32.not_lt.mpr c)
      rw [he] at c2 ⊢
      have := (nI_ltI hj (by omega)).mp c2
      rw [nI_clamp hj, ho j (by omega)]
    · rw [if_neg (fun q => c2 q.2), if_neg c2]
  · rw [if_neg c, if_neg c]; exact ⟨rfl, h, rfl⟩
theorem mCt_ca {σ : ST} {M : MT} (h : CP σ M) (p : Nat) : mCt M (nI p) = ca (σ.1 0) p := by
  rw [mCt_cn, ← h.2.1.1.2.2.1]
  exact cn_congr _ (fun k hk => by rw [decide_eq_decide, ← h.pl hk])
theorem ok_count {σ : ST} {M : MT} (h : CP σ M) (a : Int32) : OK σ (xCount σ a) (yCount M a) := by
  have hR := h.2.1.1
  unfold xCount yCount
  by_cases c : wi a 0 11 = true
  · rw [if_pos c, if_pos c]
    obtain ⟨q, hq, hqe⟩ := wi_nat (n := 11) (by decide) c
    refine ⟨?_, h, rfl⟩
    show cntX σ a.toNatClampNeg = cntM M a.toNatClampNeg
    rw [hqe, nI_clamp (by omega)]
    have ht := hR.2.2.2.2.2.2
    rcases (show q = 0 ∨ q = 1 ∨ q = 2 ∨ q = 3 ∨ q = 4 ∨ q = 5 ∨ q = 6 ∨ q = 7 ∨ q = 8 ∨ q = 9 ∨ q = 10 ∨ q = 11 by omega) with e | e | e | e | e | e | e | e | e | e | e | e <;> subst e
    · exact hR.2.1 0 (by decide)
    · exact hR.2.1 1 (by decide)
    · exact hR.2.1 2 (by decide)
    · exact hR.2.1 3 (by decide)
    · show nI _ = nI _; rw [hR.2.2.1]
    · show _ = nI (mCt M (nI 0)); rw [mCt_ca h]; exact ht 0 (by decide)
    · show _ = nI (mCt M (nI 1)); rw [mCt_ca h]; exact ht 1 (by decide)
    · show _ = nI (mCt M (nI 2)); rw [mCt_ca h]; exact ht 2 (by decide)
    · show _ = nI (mCt M (nI 3)); rw [mCt_ca h]; exact ht 3 (by decide)
    · show _ = nI (mCt M (nI 4)); rw [mCt_ca h]; exact ht 4 (by decide)
    · show nI _ = nI _; rw [h.2.2.2.2.2.1]
    · show nI _ = nI _; rw [h.2.2.1]
  · rw [if_neg c, if_neg c]; exact ⟨rfl, h, rfl⟩
