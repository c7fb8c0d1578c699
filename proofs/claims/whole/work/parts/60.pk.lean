def OK (σ : ST) (p : Int32 × ST) (q : Int32 × MT) : Prop := p.1 = q.1 ∧ CP p.2 q.2 ∧ p.2.2.2.2 = σ.2.2.2
theorem wi_rng {a : Int32} {lo hi : Nat} (hl : lo < 2 ^ 31) (hh : hi < 2 ^ 31) (h : wi a (nI lo) (nI hi) = true) : ∃ v, lo ≤ v ∧ v ≤ hi ∧ a = nI v := by
  simp only [wi, Bool.and_eq_true, decide_eq_true_iff] at h
  have h0 : ¬ a < 0 := fun q => by
    have h1 := Int32.le_iff_toInt_le.mp h.1
    have h2 := Int32.lt_iff_toInt_lt.mp q
    rw [nI_toInt hl] at h1
    have : (0 : Int32).toInt = 0 := rfl
    omega
  obtain ⟨j, hj, he⟩ := nI_of h0
  rw [he] at h
  exact ⟨j, (nI_leI hl hj).mp h.1, (nI_leI hj hh).mp h.2, he⟩
theorem fAt_eq {F : FabT} {M : MT} (h : RF F M) (a : Int32) : fAt F a = mAtL M a := by
  unfold fAt mAtL
  rw [← h.2.2.1]
  refine findN_congr _ _ (fun j _ h2 => ?_)
  unfold pAt mAt
  rw [h.2.2.2.1 j (by omega), h.2.2.2.2.1 j 1 (by omega) (by decide) (by decide)]
  congr 1
  rw [decide_eq_decide]; exact dm_0
theorem CP.rem0 {σ : ST} {M : MT} (h : CP σ M) : CC (σ.1 0) (σ.2.1 0) (mNt M) := by
  have := h.rem.2.1
  rw [remS_f (by omega), remS_q (by omega)] at this
  exact this
theorem ok_tells {σ : ST} {M : MT} (h : CP σ M) (a b c : Int32) : OK σ (xTells σ a b c) (yTells M a b c) := by
  have hR := h.2.1.1
  unfold xTells yTells
  by_cases c1 : wi a 1 3 = true ∧ wi b 0 8 = true ∧ wi c 0 24 = true
  · rw [if_pos c1, if_pos c1]
    have e : ((σ.1 0).1 0 = a ∧ (σ.1 0).1 1 = b ∧ (σ.1 0).1 2 = c) = (a = M.1 0 ∧ b = M.1 1 ∧ c = M.1 2) := by
      rw [hR.2.1 0 (by decide), hR.2.1 1 (by decide), hR.2.1 2 (by decide)]
      apply propext
      exact ⟨fun q => ⟨q.1.symm, q.2.1.symm, q.2.2.symm⟩, fun q => ⟨q.1.symm, q.2.1.symm, q.2.2.symm⟩⟩
    by_cases c2 : a = M.1 0 ∧ b = M.1 1 ∧ c = M.1 2
    · rw [if_pos (e.mpr c2), if_pos c2]; exact ⟨rfl, h, rfl⟩
    · rw [if_neg (fun q => c2 (e.mp q)), if_neg c2]
      obtain ⟨hR0, hQ0, hB0⟩ := h.rem0
      have hk1 := (mNt_keep M).1
      obtain ⟨va, a1, a2, a3⟩ := wi_rng (lo := 1) (hi := 3) (by decide) (by decide) c1.1
      obtain ⟨vc, _, c4, c5⟩ := wi_rng (lo := 0) (hi := 24) (by decide) (by decide) c1.2.2
      refine ⟨rfl, h.rem.main (F := (va_up (va_up (va_up (σ.1 0).1 0 a) 1 b) 2 c, (σ.1 0).2)) (Q := σ.2.1 0) (N := (va_up (va_up (va_up M.1 0 a) 1 b) 2 c, (mNt M).2)) ⟨⟨hR0.1, fun w hw => ?_, hR0.2.2.1, hR0.2.2.2.1, hR0.2.2.2.2.1, hR0.2.2.2.2.2.1, hR0.2.2.2.2.2.2⟩, ⟨hQ0.1, hQ0.2.1, hQ0.2.2.1, hQ0.2.2.2⟩, hB0.1, ?_, ?_, ?_⟩ ⟨rfl, rfl, rfl, rfl, rfl, rfl⟩ sF_at ?_ (fun j h1 h2 => ⟨sF_ne h1, rfl⟩) rfl, rfl⟩
      · show va_up (va_up (va_up (σ.1 0).1 0 a) 1 b) 2 c w = va_up (va_up (va_up M.1 0 a) 1 b) 2 c w
        have := hR.2.1 w hw
        simp only [va_up, this]
      · show ∃ v, v ≤ 99 ∧ va_up (va_up (va_up M.1 0 a) 1 b) 2 c 3 = nI v
        rw [up_n (by decide), up_n (by decide), up_n (by decide)]; exact h.2.1.2.2.2.1
      · exact ⟨va, a1, a2, by show va_up (va_up (va_up M.1 0 a) 1 b) 2 c 0 = _; rw [up_n (by decide), up_n (by decide), up_s]; exact a3⟩
      · exact ⟨vc, c4, by show va_up (va_up (va_up M.1 0 a) 1 b) 2 c 2 = _; rw [up_s]; exact c5⟩
      · show (remS σ).2.1 0 = _
        rw [remS_q (by omega)]
  · rw [if_neg c1, if_neg c1]; exact ⟨rfl, h, rfl⟩
def nw (a b c t : Int32) (w : Nat) : Int32 := match w with
  | 0 => 0
  | 1 => a
  | 2 => b
  | 3 => c
  | 4 => t
  | 5 => -9
  | _ => 0
theorem adL_at (F : FabT) (a b c : Int32) {w n : Nat} (hw : w < 7) : (adL F a b c).2.2 w n = if n = F.2.1 then nw a b c (F.1 3) w else F.2.2 w n := by
  rcases (show w = 0 ∨ w = 1 ∨ w = 2 ∨ w = 3 ∨ w = 4 ∨ w = 5 ∨ w = 6 by omega) with e | e | e | e | e | e | e <;> subst e <;> by_cases hn : n = F.2.1 <;> simp [adL, va_up, upd, hn, nw]
theorem adL_7 (F : FabT) (a b c : Int32) : (adL F a b c).2.2 7 = upd (F.2.2 7) 0 (F.2.2 7 0 + 1) := by simp [adL, va_up]
theorem mAdd_of (M : MT) (n : Nat) (a b c : Int32) {k u : Nat} (hu : u < 8) : mOf (mAdd M n a b c) k u = if k = n then nw a b c (M.1 3) u else mOf M k u := by
  unfold mAdd
  simp only [mOf_mSet (show 7 < 8 by decide) hu, mOf_mSet (show 6 < 8 by decide) hu, mOf_mSet (show 5 < 8 by decide) hu, mOf_mSet (show 4 < 8 by decide) hu, mOf_mSet (show 3 < 8 by decide) hu, mOf_mSet (show 2 < 8 by decide) hu, mOf_mSet (show 1 < 8 by decide) hu, mOf_mSet (show 0 < 8 by decide) hu]
  rcases (show u = 0 ∨ u = 1 ∨ u = 2 ∨ u = 3 ∨ u = 4 ∨ u = 5 ∨ u = 6 ∨ u = 7 by omega) with e | e | e | e | e | e | e | e <;> subst e <;> by_cases hn : k = n <;> simp [hn, nw]
theorem CC_add {F : FabT} {Q : RowT} {M N : MT} {a b c : Int32} (h : CC F Q M) (hl : F.2.1 < 64) (hb : ∃ v, v < 8 ∧ b = nI v) (n1 : N.1 = M.1) (n2 : N.2.1 0 = M.2.1 0 + 1) (n3 : N.2.1 1 = M.2.1 1)
    (no : ∀ k u, u < 8 → mOf N k u = if k = M.2.1 0 then nw a b c (M.1 3) u else mOf M k u) : CC (adL F a b c) Q N := by
  obtain ⟨hR, hQ, hB⟩ := h
  have hL := hR.2.2.1
  have pk : PK (adL F a b c) := by
    refine ⟨by show F.2.1 + 1 ≤ 64; omega, fun n hn => ?_⟩
    have hn : n < F.2.1 + 1 := hn
    rw [adL_at F a b c (by decide)]
    by_cases e : n = F.2.1
    · rw [if_pos e]; exact ⟨0, by decide, rfl⟩
    · rw [if_neg e]; exact hR.1.2 n (by omega)
  have caN : ∀ p, p < 5 → ca (adL F a b c) p = ca F p + (if p = 0 then 1 else 0) := fun p hp => by
    show cn (fun k => decide ((adL F a b c).2.2 0 k = nI p)) (F.2.1 + 1) = _
    rw [cn, adL_at F a b c (by decide), if_pos rfl]
    congr 1
    · exact cn_congr _ (fun k hk => by rw [adL_at F a b c (by decide), if_neg (by omega)])
    · show (decide ((0 : Int32) = nI p)).toNat = _
      rcases (show p = 0 ∨ p = 1 ∨ p = 2 ∨ p = 3 ∨ p = 4 by omega) with e | e | e | e | e <;> subst e <;> decide
  refine ⟨⟨pk, fun w hw => by rw [n1]; exact hR.2.1 w hw, by rw [n2, ← hL]; rfl, fun n hn => ?_, fun n w hn h0 hw => ?_, fun n hn => ?_, fun p hp => ?_⟩, ⟨fun n => ?_, fun n hn => ?_, ?_, ?_⟩, fun n hn => ?_, by rw [n1]; exact hB.2.1, by rw [n1]; exact hB.2.2.1, by rw [n1]; exact hB.2.2.2⟩
  · have hn : n < F.2.1 + 1 := hn
    rw [adL_at F a b c (by decide), no n 0 (by decide), ← hL]
    by_cases e : n = F.2.1
    · rw [if_pos e, if_pos e]; rfl
    · rw [if_neg e, if_neg e]; exact hR.2.2.2.1 n (by omega)
  · have hn : n < F.2.1 + 1 := hn
    rw [adL_at F a b c hw, no n w (by omega), ← hL]
    by_cases e : n = F.2.1
    · rw [if_pos e, if_pos e, hR.2.1 3 (by decide)]
    · rw [if_neg e, if_neg e]; exact hR.2.2.2.2.1 n w (by omega) h0 hw
  · have hn : n < F.2.1 + 1 := hn
    rw [adL_at F a b c (by decide)]
    by_cases e : n = F.2.1
    · rw [if_pos e]; exact hb
    · rw [if_neg e]; exact hR.2.2.2.2.2.1 n (by omega)
  · rw [adL_7, caN p hp]
    have := hR.2.2.2.2.2.2 p hp
    by_cases e : p = 0
    · subst e; rw [ud_s, if_pos rfl, this, nI_1]
    · rw [ud_ne e, if_neg e, this]; rfl
  · rw [hQ.1]
    show _ ↔ n < F.2.1 + 1 ∧ _
    rw [adL_at F a b c (by decide)]
    by_cases e : n = F.2.1
    · rw [if_pos e]
      exact ⟨fun q => absurd q.1 (by omega), fun q => absurd q.2 (by show ¬ (0 : Int32) = 2; decide)⟩
    · rw [if_neg e]
      exact ⟨fun q => ⟨by have := q.1; omega, q.2⟩, fun q => ⟨by have := q.1; omega, q.2⟩⟩
  · have hlt := ((hQ.1 n).mp hn).1
    rw [no n 7 (by decide), if_neg (by omega), n3]; exact hQ.2.1 n hn
  · refine hQ.2.2.1.imp_of_mem (fun {x y} hx hy q => ?_)
    have h1 := ((hQ.1 x).mp hx).1
    have h2 := ((hQ.1 y).mp hy).1
    rw [no x 7 (by decide), if_neg (by omega), no y 7 (by decide), if_neg (by omega)]; exact q
  · rw [n3, caN 2 (by decide), caN 3 (by decide), if_neg (by decide), if_neg (by decide)]; exact hQ.2.2.2
  · rw [n2] at hn
    rw [no n 0 (by decide)]
    by_cases e : n = M.2.1 0
    · rw [if_pos e]; show ¬ (0 : Int32) = 5; decide
    · rw [if_neg e]; exact hB.1 n (by omega)
theorem ok_puts {σ : ST} {M : MT} (h : CP σ M) (a b c : Int32) : OK σ (xPuts σ a b c) (yPuts M a b c) := by
  have hR := h.2.1.1
  have h64 := hR.1.1
  have hL := hR.2.2.1
  unfold xPuts yPuts
  by_cases c1 : wi a 0 7 = true ∧ wi b 0 7 = true ∧ wi c 0 3 = true
  · rw [if_pos c1, if_pos c1, fAt_eq hR]
    by_cases c2 : mAtL M a = -9
    · rw [if_pos c2, if_pos c2]
      by_cases c3 : M.2.1 0 = 64
      · rw [if_neg (by omega), if_pos c3]; exact ⟨rfl, h, rfl⟩
      · rw [if_pos (by omega), if_neg c3]
        obtain ⟨vb, _, b2, b3⟩ := wi_rng (lo := 0) (hi := 7) (by decide) (by decide) c1.2.1
        have hk := mNt_keep M
        refine ⟨by show nI _ = nI _; rw [hL], h.rem.main (F := adL (σ.1 0) a b c) (Q := σ.2.1 0) (N := ((mAdd (mNt M) (M.2.1 0) a b c).1, va_up (mAdd (mNt M) (M.2.1 0) a b c).2.1 0 (M.2.1 0 + 1), (mAdd (mNt M) (M.2.1 0) a b c).2.2)) (CC_add h.rem0 (by omega) ⟨vb, by omega, b3⟩ rfl ?_ ?_ (fun k u hu => ?_)) ⟨?_, ?_, rfl, rfl, rfl, rfl⟩ sF_at ?_ (fun j h1 h2 => ⟨sF_ne h1, rfl⟩) rfl, rfl⟩
        · show va_up (mAdd (mNt M) (M.2.1 0) a b c).2.1 0 (M.2.1 0 + 1) 0 = _
          rw [up_s, hk.2.1]
        · show va_up (mAdd (mNt M) (M.2.1 0) a b c).2.1 0 (M.2.1 0 + 1) 1 = _
          rw [up_n (by decide)]; rfl
        · rw [hk.2.1]
          show mOf (mAdd (mNt M) (M.2.1 0) a b c) k u = _
          exact mAdd_of _ _ _ _ _ hu
        · show va_up (mAdd (mNt M) (M.2.1 0) a b c).2.1 0 (M.2.1 0 + 1) 2 = _
          rw [up_n (by decide)]; rfl
        · show va_up (mAdd (mNt M) (M.2.1 0) a b c).2.1 0 (M.2.1 0 + 1) 4 = _
          rw [up_n (by decide)]; rfl
        · show (remS σ).2.1 0 = _
          rw [remS_q (by omega)]
    · rw [if_neg c2, if_neg c2]; exact ⟨rfl, h, rfl⟩
  · rw [if_neg c1, if_neg c1]; exact ⟨rfl, h, rfl⟩
