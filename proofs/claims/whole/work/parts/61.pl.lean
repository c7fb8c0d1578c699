def N5 (L : Nat) (M : MT) : Prop := ∀ n, n < L → ¬ mOf M n 0 = 5
theorem N5_mw (o : Nat → Nat) (L : Nat) : ∀ m k q s M, N5 L M → N5 L (mwL o m k q s M) := by
  intro m
  induction m with
  | zero => intro k q s M h; exact h
  | succ m ih =>
    intro k q s M h
    rw [mwL]
    generalize (if 0 < k ∧ mOf M (o (k - 1)) 2 = mOf M (o k) 2 then s + 1 else 0) = s'
    split
    · refine ih _ _ _ _ (fun n hn => ?_)
      rw [mWin_of (by decide), if_neg (fun q => absurd q.2 (by decide))]
      split
      · decide
      · exact h n hn
    · exact ih _ _ _ _ h
theorem N5_t2 (o : Nat → Nat) (g : Nat → Int32) (L : Nat) : ∀ m k M, (∀ t, k ≤ t → t < k + m → ¬ g t = 5) → N5 L M → N5 L (t2L o g m k M) := by
  intro m
  induction m with
  | zero => intro k M _ h; exact h
  | succ m ih =>
    intro k M hg h
    rw [t2L]
    refine ih _ _ (fun t h1 h2 => hg t (by omega) (by omega)) (fun n hn => ?_)
    rw [mT2_of _ _ _ _ _ (by decide)]
    split
    · show ¬ g k = 5
      exact hg k (Nat.le_refl _) (by omega)
    · exact h n hn
theorem N5_go (L : Nat) : ∀ m a c M, N5 L M → N5 L (goL m a c M).2 := by
  intro m
  induction m with
  | zero => intro a c M h; exact h
  | succ m ih =>
    intro a c M h
    rw [goL]
    split
    · exact ih _ _ _ h
    · refine ih _ _ _ (fun n hn => ?_)
      rw [mOut_of _ _ _ _ (by decide)]
      split
      · show ¬ (3 : Int32) = 5
        decide
      · exact h n hn
theorem N5_mGo {L : Nat} {M : MT} (h : N5 L M) : N5 L (mGo M).2 := by
  have h1 : N5 L (mWins (mR M (mSort M))) := N5_mw _ _ _ _ _ _ _ h
  have h2 : N5 L (mG1 M) := by
    unfold mG1 mTurns
    refine N5_t2 _ _ _ _ _ _ (fun t _ ht => ?_) h1
    rw [tnG, if_pos (by omega), mTv]
    split
    · decide
    · split <;> decide
  exact N5_go _ _ _ _ _ h2
theorem NB_go {M : MT} (h : NB M) {v : Nat} (hv : v < 99) (e : M.1 3 = nI v) : NB (mGo M).2 := by
  have k := mGo_keep M
  refine ⟨fun n hn => ?_, ⟨v + 1, by omega, ?_⟩, ?_, ?_⟩
  · rw [k.2.2.1] at hn; exact N5_mGo (L := M.2.1 0) h.1 n hn
  · rw [k.2.1, e, nI_1]
  · rw [k.1 0 (by decide)]; exact h.2.2.1
  · rw [k.1 2 (by decide)]; exact h.2.2.2
theorem ok_slot {σ : ST} {M : MT} (h : CP σ M) : OK σ (xSlot σ) (ySlot M) := by
  obtain ⟨v, hv, ev⟩ := h.2.1.2.2.2.1
  have e3 : (σ.1 0).1 3 = nI v := by rw [h.2.1.1.2.1 3 (by decide), ev]
  unfold xSlot ySlot
  rw [e3, ev]
  by_cases c : v = 99
  · rw [if_neg (by rw [c]; decide), if_pos (by rw [c]; rfl)]; exact ⟨rfl, h, rfl⟩
  · have hlt : nI v < 99 := (nI_ltI (by omega) (by decide)).mpr (show v < 99 by omega)
    have hne : ¬ nI v = 99 := fun q => c ((nI_eq (b := 99) (by omega) (by decide)).mp q)
    rw [if_pos hlt, if_neg hne]
    have h0 := h.rem0
    have kM := mGo_keep (mNt M)
    have f0 : (remS σ).1 0 = σ.1 0 := remS_f (by omega)
    have q0 : (remS σ).2.1 0 = σ.2.1 0 := remS_q (by omega)
    obtain ⟨s1, s2, s3, _⟩ := slot_RF (W := (remS σ).2.1 14) (B := (remS σ).2.1 15) h0.1 h0.2.1
    have e0 : (slS (remS σ) 0).1 0 = slF (σ.1 0) (σ.2.1 0) ((remS σ).2.1 14) ((remS σ).2.1 15) := by rw [slS_f, f0, q0]
    have e1 : (slS (remS σ) 0).2.1 0 = (slO (σ.1 0) (σ.2.1 0) ((remS σ).2.1 14) ((remS σ).2.1 15)).2 := by rw [slS_q (by decide), f0, q0]
    refine ⟨?_, h.rem.main (N := (mGo (mNt M)).2) ⟨s1, s2, NB_go h0.2.2 (v := v) (by omega) (by rw [(mNt_keep M).1, ev])⟩ ⟨kM.2.2.2.1, kM.2.2.2.2.1, kM.2.2.2.2.2 1 (by decide) (by decide), kM.2.2.2.2.2 2 (by decide) (by decide), kM.2.2.2.2.2 6 (by decide) (by decide), kM.2.2.2.2.2 7 (by decide) (by decide)⟩ e0 e1 (fun j h1 h2 => ⟨slS_fn h1, slS_qn h1 h2⟩) rfl, rfl⟩
    show ((slS (remS σ) 0).1 0).2.2 7 3 - (σ.1 0).2.2 7 3 = nI (mGo (mNt M)).1
    rw [s3, e0]
theorem ix_prv {nx d : Nat} (hn : nx < 10) (hd : d ≤ 10) (hd0 : 0 < d) : ix nx d (d - 1) = prv nx ∧ prv nx < 10 := by
  unfold ix prv; split <;> omega
theorem ix_back {nx d p : Nat} (hn : nx < 10) (hd : d ≤ 10) (hp : p < d - 1) : ix (prv nx) (d - 1) p = ix nx d p := by
  unfold ix prv; split <;> omega
/-- main becomes what was kept -/
theorem CP.back {σ : ST} {M : MT} (h : CP σ M) {i p : Nat} (hi : 2 ≤ i) (hi2 : i < 14) {N : MT} (hN : CC (σ.1 i) (σ.2.1 i) N) (hK : KR (M.2.2.1 1) p N) {nx d : Nat} (hd : d ≤ M.2.1 2) (hnx : nx < 10) (hix : ∀ q, q < d → ix nx d q = ix (σ.2.2.1.1 0) (M.2.1 2) q)
    {τ : ST} (t0 : τ.1 0 = cpF (σ.1 0) (σ.1 i)) (tq : τ.2.1 0 = cpR (σ.2.1 0) (σ.2.1 i)) (tf : ∀ j, j ≠ 0 → j < 14 → τ.1 j = σ.1 j ∧ τ.2.1 j = σ.2.1 j) (x0 : τ.2.2.1.1 0 = nx) (x1 : τ.2.2.1.1 1 = d) (x2 : τ.2.2.1.1 2 = σ.2.2.1.1 2) (x3 : τ.2.2.1.2 = σ.2.2.1.2)
    {O : MT} (o0 : EC N O) (o2 : O.2.1 2 = d) (o4 : O.2.1 4 = M.2.1 4) (ok : ∀ j, j ≠ 0 → O.2.2.1 j = M.2.2.1 j) : CP τ O := by
  obtain ⟨h1, h2, h3, h4, h5, h6, h7⟩ := h
  have hc : CC (τ.1 0) (τ.2.1 0) O := by rw [t0, tq]; exact (hN.ec o0).cp
  have hok := rq_ok hc.1.1 hc.2.1
  have hd10 := h1.2.2.2.2.1
  have hix10 : ∀ p, ix (σ.2.2.1.1 0) (M.2.1 2) p < 10 := fun p => Nat.mod_lt _ (by decide)
  refine ⟨⟨hc.1.1, hok, fun j hj => ?_, by rw [x0]; exact hnx, by rw [x1]; omega, by rw [x2]; exact h1.2.2.2.2.2.1, by rw [x2, x3]; exact h1.2.2.2.2.2.2⟩, hc, by rw [x1, o2], fun q hq => ?_, fun k hk => ?_, by rw [x2, o4]; exact h6, fun t ht => ?_⟩
  · by_cases e : j = 0
    · rw [e]; exact ⟨hc.1.1.1, hok.1⟩
    · rw [(tf j e hj).1, (tf j e hj).2]; exact h1.2.2.1 j hj
  · rw [o2] at hq
    have := hix10 q
    rw [x0, o2, hix q hq, ok 1 (by decide), (tf _ (by omega) (by omega)).1, (tf _ (by omega) (by omega)).2]; exact h4 q (by omega)
  · rw [x3, ok 1 (by decide), ok 2 (by decide), (tf _ (by omega) (by omega)).1, (tf _ (by omega) (by omega)).2]; exact h5 k hk
  · rw [o4] at ht
    rw [x3, ok 6 (by decide), ok 7 (by decide)]; exact h7 t ht
theorem ok_undo {σ : ST} {M : MT} (h : CP σ M) : ∃ a b, (0 < M.2.1 2 → M.2.2.1 1 (520 * (M.2.1 2 - 1) + 4) = nI a) ∧ (0 < M.2.1 2 → M.2.2.1 1 (520 * (M.2.1 2 - 1) + 5) = nI b) ∧ OK σ (xUndo σ) (yUndo M a b) := by
  have hn := h.1.2.2.2.1
  have hd := h.1.2.2.2.2.1
  have h3 := h.2.2.1
  by_cases c : M.2.1 2 = 0
  · refine ⟨0, 0, fun q => absurd q (by omega), fun q => absurd q (by omega), ?_⟩
    unfold xUndo yUndo
    rw [if_pos (by rw [h3]; exact c), if_pos c]; exact ⟨rfl, h, rfl⟩
  · obtain ⟨N, hN, hK⟩ := h.2.2.2.1 (M.2.1 2 - 1) (by omega)
    obtain ⟨i1, i2⟩ := ix_prv hn (show M.2.1 2 ≤ 10 by omega) (by omega)
    rw [i1] at hN
    refine ⟨N.2.1 0, N.2.1 1, fun _ => hK.2.1, fun _ => hK.2.2.1, ?_⟩
    unfold xUndo yUndo
    rw [if_neg (by rw [h3]; exact c), if_neg c, h3]
    refine ⟨rfl, h.back (τ := givS σ) (i := 2 + prv (σ.2.2.1.1 0)) (p := M.2.1 2 - 1) (by omega) (by omega) hN hK (nx := prv (σ.2.2.1.1 0)) (d := M.2.1 2 - 1) (by omega) i2 (fun q hq => ix_back hn (by omega) hq) (cpS_f (σ := σ) (i := 0) (j := 2 + prv (σ.2.2.1.1 0))) (cpS_q (σ := σ) (i := 0) (j := 2 + prv (σ.2.2.1.1 0))) (fun j h1 h2 => ⟨cpS_fn (σ := σ) (i := 0) (j := 2 + prv (σ.2.2.1.1 0)) h1, cpS_qn (σ := σ) (i := 0) (j := 2 + prv (σ.2.2.1.1 0)) h1⟩) ?_ ?_ ?_ rfl (mCb_ec (M := mDn M (M.2.1 2 - 1)) hK) ?_ ?_ (fun j hj => ?_), rfl⟩
    · simp [givS, sX, va_up]
    · show (givS σ).2.2.1.1 1 = _
      simp only [givS, sX, va_up]; rw [← h3]; simp
    · simp [givS, sX, va_up]
    · simp [mCb, mDn, va_up]
    · simp [mCb, mDn, va_up]
    · show va_up M.2.2.1 0 _ j = _
      exact up_n hj
