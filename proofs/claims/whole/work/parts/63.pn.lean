theorem ok_sees {σ : ST} {M : MT} (h : CP σ M) (a b : Int32) : OK σ (xSees σ a b) (ySees M a b) := by
  unfold xSees ySees
  by_cases c : wi a 1 40 = true ∧ wi b 0 64 = true
  · rw [if_pos c, if_pos c]
    obtain ⟨h1, h2, h3, h4, h5, h6, h7⟩ := h
    have h66 := h1.2.2.2.2.2.1
    by_cases c2 : M.2.1 4 = 6
    · rw [if_neg (by omega), if_pos c2]; exact ⟨rfl, ⟨h1, h2, h3, h4, h5, h6, h7⟩, rfl⟩
    · rw [if_pos (by omega), if_neg c2, seeS, if_pos (by omega), h6]
      obtain ⟨v, v1, v2, v3⟩ := wi_rng (lo := 1) (hi := 40) (by decide) (by decide) c.1
      refine ⟨rfl, ⟨⟨h1.1, h1.2.1, h1.2.2.1, ?_, ?_, ?_, fun t ht => ?_⟩, h2.ec ⟨fun _ _ => rfl, by simp [va_up], by simp [va_up], fun _ _ => rfl⟩, ?_, fun p hp => ?_, fun k hk => ?_, ?_, fun t ht => ?_⟩, rfl⟩
      · show va_up σ.2.2.1.1 2 (M.2.1 4 + 1) 0 < 10
        rw [up_n (by decide)]; exact h1.2.2.2.1
      · show va_up σ.2.2.1.1 2 (M.2.1 4 + 1) 1 ≤ 10
        rw [up_n (by decide)]; exact h1.2.2.2.2.1
      · show va_up σ.2.2.1.1 2 (M.2.1 4 + 1) 2 ≤ 6
        rw [up_s]; omega
      · have ht : t < va_up σ.2.2.1.1 2 (M.2.1 4 + 1) 2 := ht
        rw [up_s] at ht
        show ∃ s, s ≤ 40 ∧ va_up (va_up σ.2.2.1.2 0 (upd (σ.2.2.1.2 0) (M.2.1 4) a)) 1 (upd (σ.2.2.1.2 1) (M.2.1 4) b) 0 t = nI s
        rw [up_n (by decide), up_s]
        by_cases e : t = M.2.1 4
        · rw [e, ud_s]; exact ⟨v, v2, v3⟩
        · rw [ud_ne e]; exact h1.2.2.2.2.2.2 t (by omega)
      · show va_up σ.2.2.1.1 2 (M.2.1 4 + 1) 1 = va_up M.2.1 4 (M.2.1 4 + 1) 2
        rw [up_n (by decide), up_n (by decide)]; exact h3
      · have hp : p < va_up M.2.1 4 (M.2.1 4 + 1) 2 := hp
        rw [up_n (by decide)] at hp
        show SNAP (σ.1 (2 + ix (va_up σ.2.2.1.1 2 (M.2.1 4 + 1) 0) (va_up M.2.1 4 (M.2.1 4 + 1) 2) p)) (σ.2.1 (2 + ix (va_up σ.2.2.1.1 2 (M.2.1 4 + 1) 0) (va_up M.2.1 4 (M.2.1 4 + 1) 2) p)) (va_up (va_up M.2.2.1 6 (upd (M.2.2.1 6) (M.2.1 4) a)) 7 (upd (M.2.2.1 7) (M.2.1 4) b) 1) p
        rw [up_n (by decide), up_n (by decide), up_n (by decide), up_n (by decide)]; exact h4 p hp
      · exact h5 k hk
      · show va_up σ.2.2.1.1 2 (M.2.1 4 + 1) 2 = va_up M.2.1 4 (M.2.1 4 + 1) 4
        rw [up_s, up_s]
      · have ht : t < va_up M.2.1 4 (M.2.1 4 + 1) 4 := ht
        rw [up_s] at ht
        show va_up (va_up σ.2.2.1.2 0 (upd (σ.2.2.1.2 0) (M.2.1 4) a)) 1 (upd (σ.2.2.1.2 1) (M.2.1 4) b) 0 t = va_up (va_up M.2.2.1 6 (upd (M.2.2.1 6) (M.2.1 4) a)) 7 (upd (M.2.2.1 7) (M.2.1 4) b) 6 t ∧ va_up (va_up σ.2.2.1.2 0 (upd (σ.2.2.1.2 0) (M.2.1 4) a)) 1 (upd (σ.2.2.1.2 1) (M.2.1 4) b) 1 t = va_up (va_up M.2.2.1 6 (upd (M.2.2.1 6) (M.2.1 4) a)) 7 (upd (M.2.2.1 7) (M.2.1 4) b) 7 t ∧ ∃ s, 1 ≤ s ∧ s ≤ 40 ∧ va_up (va_up M.2.2.1 6 (upd (M.2.2.1 6) (M.2.1 4) a)) 7 (upd (M.2.2.1 7) (M.2.1 4) b) 6 t = nI s
        rw [up_s, up_s, up_n (show (0 : Nat) ≠ 1 by decide), up_s, up_n (show (6 : Nat) ≠ 7 by decide), up_s]
        by_cases e : t = M.2.1 4
        · rw [e, ud_s, ud_s, ud_s, ud_s]; exact ⟨rfl, rfl, v, v1, v2, v3⟩
        · rw [ud_ne e, ud_ne e, ud_ne e, ud_ne e]; exact h7 t (by omega)
  · rw [if_neg c, if_neg c]; exact ⟨rfl, h, rfl⟩
theorem ok_forget {σ : ST} {M : MT} (h : CP σ M) : OK σ (xForget σ) (yForget M) := by
  obtain ⟨h1, h2, h3, h4, h5, h6, h7⟩ := h
  refine ⟨by show nI _ = nI _; rw [h6], ⟨⟨h1.1, h1.2.1, h1.2.2.1, ?_, ?_, ?_, fun t ht => ?_⟩, h2.ec ⟨fun _ _ => rfl, by simp [yForget, va_up], by simp [yForget, va_up], fun _ _ => rfl⟩, ?_, fun p hp => ?_, h5, ?_, fun t ht => ?_⟩, rfl⟩
  · show va_up σ.2.2.1.1 2 0 0 < 10
    rw [up_n (by decide)]; exact h1.2.2.2.1
  · show va_up σ.2.2.1.1 2 0 1 ≤ 10
    rw [up_n (by decide)]; exact h1.2.2.2.2.1
  · show va_up σ.2.2.1.1 2 0 2 ≤ 6
    rw [up_s]; omega
  · have ht : t < va_up σ.2.2.1.1 2 0 2 := ht
    rw [up_s] at ht; exact absurd ht (Nat.not_lt_zero t)
  · show va_up σ.2.2.1.1 2 0 1 = va_up M.2.1 4 0 2
    rw [up_n (by decide), up_n (by decide)]; exact h3
  · have hp : p < va_up M.2.1 4 0 2 := hp
    rw [up_n (by decide)] at hp
    show SNAP (σ.1 (2 + ix (va_up σ.2.2.1.1 2 0 0) (va_up M.2.1 4 0 2) p)) (σ.2.1 (2 + ix (va_up σ.2.2.1.1 2 0 0) (va_up M.2.1 4 0 2) p)) (M.2.2.1 1) p
    rw [up_n (by decide), up_n (by decide)]; exact h4 p hp
  · show va_up σ.2.2.1.1 2 0 2 = va_up M.2.1 4 0 4
    rw [up_s, up_s]
  · have ht : t < va_up M.2.1 4 0 4 := ht
    rw [up_s] at ht; exact absurd ht (Nat.not_lt_zero t)
theorem ok_back {σ : ST} {M : MT} (h : CP σ M) (a : Int32) : ∃ p q, (∀ j, j < 2 → a = nI j → M.2.2.1 2 j ≠ 0 → M.2.2.1 1 (520 * (10 + j) + 4) = nI p ∧ M.2.2.1 1 (520 * (10 + j) + 5) = nI q) ∧ OK σ (xBack σ a) (yBack M a p q) := by
  unfold xBack yBack
  by_cases c : wi a 0 1 = true
  · obtain ⟨k, hk, hke⟩ := wi_nat (n := 1) (by decide) c
    have hjk : ∀ j, j < 2 → a = nI j → j = k := fun j hj e => (nI_eq (by omega) (by omega)).mp (e.symm.trans hke)
    have hf := h.2.2.2.2.1 k (by omega)
    by_cases c2 : M.2.2.1 2 k = 0
    · refine ⟨0, 0, fun j hj e q => absurd (by rw [hjk j hj e]; exact c2) q, ?_⟩
      rw [if_pos c, if_pos c, hke, nI_clamp (by omega), hf.1, if_pos c2, if_pos c2]; exact ⟨rfl, h, rfl⟩
    · obtain ⟨N, hN, hK⟩ := hf.2 c2
      refine ⟨N.2.1 0, N.2.1 1, fun j hj e _ => by rw [hjk j hj e]; exact ⟨hK.2.1, hK.2.2.1⟩, ?_⟩
      rw [if_pos c, if_pos c, hke, nI_clamp (by omega), hf.1, if_neg c2, if_neg c2]
      refine ⟨?_, h.back (τ := sX (cpS σ 0 (12 + k)) (va_up σ.2.2.1.1 1 0, σ.2.2.1.2)) (i := 12 + k) (p := 10 + k) (by omega) (by omega) hN hK (nx := σ.2.2.1.1 0) (d := 0) (by omega) h.1.2.2.2.1 (fun q hq => absurd hq (Nat.not_lt_zero q)) (cpS_f (σ := σ) (i := 0) (j := 12 + k)) (cpS_q (σ := σ) (i := 0) (j := 12 + k)) (fun j h1 h2 => ⟨cpS_fn (σ := σ) (i := 0) (j := 12 + k) h1, cpS_qn (σ := σ) (i := 0) (j := 12 + k) h1⟩) ?_ ?_ ?_ rfl (O := mDn (mCb M (10 + k) (N.2.1 0) (N.2.1 1) 512) 0) ?_ ?_ ?_ (fun j hj => ?_), rfl⟩
      · show nI _ = nI _
        rw [hN.1.2.2.1]
      · simp [sX, va_up]
      · simp [sX, va_up]
      · simp [sX, va_up]
      · have := mCb_ec hK
        exact ⟨this.1, by simp [mDn, mCb, va_up], by simp [mDn, mCb, va_up], this.2.2.2⟩
      · simp [mDn, va_up]
      · simp [mDn, mCb, va_up]
      · show va_up M.2.2.1 0 _ j = _
        exact up_n hj
  · refine ⟨0, 0, fun j hj e _ => absurd (by rw [e]; rcases (show j = 0 ∨ j = 1 by omega) with q | q <;> subst q <;> decide) c, ?_⟩
    rw [if_neg c, if_neg c]; exact ⟨rfl, h, rfl⟩
