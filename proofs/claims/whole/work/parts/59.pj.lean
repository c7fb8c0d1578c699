/-- remembering and noting -/
theorem mNt_kept (M : MT) (hd : M.2.1 2 ≤ 10) : (mNt M).2.1 2 = min (M.2.1 2 + 1) 10 ∧ KR ((mNt M).2.2.1 1) ((mNt M).2.1 2 - 1) M ∧
    (∀ p, p + 1 < (mNt M).2.1 2 → ∀ t, t < 520 → (mNt M).2.2.1 1 (520 * p + t) = M.2.2.1 1 (520 * (if M.2.1 2 = 10 then p + 1 else p) + t)) ∧ (∀ t, 5200 ≤ t → (mNt M).2.2.1 1 t = M.2.2.1 1 t) ∧ (mNt M).2.2.1 0 = M.2.2.1 0 := by
  have k0 := (mNt_keep M).2.2.2.2 0 (by decide)
  by_cases h : M.2.1 2 = 10
  · obtain ⟨S, hS⟩ : ∃ S, S = mSh M := ⟨_, rfl⟩
    have eS : S = mDn (mKp M (shG M 4680)) 9 := by rw [hS, mSh, if_pos h]
    have s2 : S.2.1 2 = 9 := by rw [eS]; simp [mDn, va_up]
    have sk : S.2.2.1 1 = shG M 4680 := by rw [eS]; exact mKp_1 _ _
    have e2 : (mNt M).2.1 2 = 10 := by rw [mNt, ← hS, s2]; simp [mDn, va_up]
    have ek : (mNt M).2.2.1 1 = wrG S 9 512 := by rw [mNt, ← hS, s2]; exact mKp_1 _ _
    have kw := KR_wr S 9
    have s0 : S.2.1 0 = M.2.1 0 := by rw [eS]; simp [mDn, mKp, va_up]
    have s1 : S.2.1 1 = M.2.1 1 := by rw [eS]; simp [mDn, mKp, va_up]
    have si : S.2.2.1 0 = M.2.2.1 0 := by rw [eS]; exact mKp_0 _ _
    have sc : S.1 = M.1 := by rw [eS]; rfl
    unfold KR at kw
    rw [s0, s1, si, sc] at kw
    rw [e2, ek]
    refine ⟨by rw [h]; decide, kw, fun p hp t ht => ?_, fun t ht => ?_, k0⟩
    · rw [if_pos h, wrG_ne S (by omega) ht, sk, shG, if_pos (by omega), show 520 * p + t + 520 = 520 * (p + 1) + t by omega]
    · rw [wrG, if_neg (by omega), if_neg (by omega), if_neg (by omega), if_neg (by omega), if_neg (by omega), if_neg (by omega), if_neg (by omega), sk, shG, if_neg (by omega)]
  · have eS : mSh M = M := by rw [mSh, if_neg h]
    have e2 : (mNt M).2.1 2 = M.2.1 2 + 1 := by rw [mNt, eS]; simp [mDn, va_up]
    have ek : (mNt M).2.2.1 1 = wrG M (M.2.1 2) 512 := by rw [mNt, eS]; exact mKp_1 _ _
    rw [e2, ek, Nat.add_sub_cancel]
    refine ⟨by omega, KR_wr M _, fun p hp t ht => by rw [if_neg h]; exact wrG_ne M (by omega) ht, fun t ht => ?_, k0⟩
    rw [wrG, if_neg (by omega), if_neg (by omega), if_neg (by omega), if_neg (by omega), if_neg (by omega), if_neg (by omega), if_neg (by omega)]
theorem remS_x {σ : ST} : (remS σ).2.2.1.1 0 = nxt (σ.2.2.1.1 0) ∧ (remS σ).2.2.1.1 1 = min (σ.2.2.1.1 1 + 1) 10 ∧ (remS σ).2.2.1.1 2 = σ.2.2.1.1 2 ∧ (remS σ).2.2.1.2 = σ.2.2.1.2 ∧ (remS σ).2.2.2 = σ.2.2.2 :=
  ⟨by simp [remS, sX, va_up], by simp [remS, sX, va_up], by simp [remS, sX, va_up], rfl, rfl⟩
theorem remS_at {σ : ST} : (remS σ).1 (2 + σ.2.2.1.1 0) = cpF (σ.1 (2 + σ.2.2.1.1 0)) (σ.1 0) ∧ (remS σ).2.1 (2 + σ.2.2.1.1 0) = cpR (σ.2.1 (2 + σ.2.2.1.1 0)) (σ.2.1 0) := ⟨cpS_f, cpS_q⟩
theorem ix_new {nx d : Nat} (hn : nx < 10) (hd : d ≤ 10) (hd0 : 0 < d) : ix (nxt nx) d (d - 1) = nx := by
  unfold ix nxt; split <;> omega
theorem ix_old {nx d p : Nat} (hn : nx < 10) (hd : d < 10) (hp : p < d) : ix (nxt nx) (d + 1) p = ix nx d p ∧ ix nx d p ≠ nx := by
  unfold ix nxt; split <;> omega
theorem ix_full {nx p : Nat} (hn : nx < 10) (hp : p < 9) : ix (nxt nx) 10 p = ix nx 10 (p + 1) ∧ ix nx 10 (p + 1) ≠ nx := by
  unfold ix nxt; split <;> omega
theorem XO.rem {σ : ST} (h : XO σ) : XO (remS σ) := by
  obtain ⟨h1, h2, h3, h4, h5, h6, h7⟩ := h
  obtain ⟨x1, x2, x3, x4, x5⟩ := remS_x (σ := σ)
  refine ⟨by rw [remS_f (by omega)]; exact h1, by rw [remS_f (by omega), remS_q (by omega)]; exact h2, fun j hj => ?_, by rw [x1]; unfold nxt; split <;> omega, by rw [x2]; omega, by rw [x3]; exact h6, by rw [x3, x4]; exact h7⟩
  by_cases e : j = 2 + σ.2.2.1.1 0
  · rw [e, remS_at.1, remS_at.2]; exact h3 0 (by decide)
  · rw [remS_f e, remS_q e]; exact h3 j hj
/-- the pasts after a remembering: the state beyond main stands -/
theorem CP.rem {σ : ST} {M : MT} (h : CP σ M) : CP (remS σ) (mNt M) := by
  have hX := h.1.rem
  obtain ⟨h1, h2, h3, h4, h5, h6, h7⟩ := h
  obtain ⟨x1, x2, x3, x4, x5⟩ := remS_x (σ := σ)
  have hn := h1.2.2.2.1
  have hd := h1.2.2.2.2.1
  obtain ⟨k1, k2, k3, k4, k5⟩ := mNt_keep M
  obtain ⟨m1, m2, m3, m4, m5⟩ := mNt_kept M (by rw [← h3]; exact hd)
  have hec : EC M (mNt M) := ⟨fun w _ => by rw [k1], k2, k3, fun t _ => by rw [m5]⟩
  refine ⟨hX, by rw [remS_f (by omega), remS_q (by omega)]; exact h2.ec hec, by rw [x2, m1, h3], fun p hp => ?_, fun k hk => ?_, by rw [x3, k4]; exact h6, fun t ht => ?_⟩
  · rw [x1]
    by_cases e : p = (mNt M).2.1 2 - 1
    · have hi : ix (nxt (σ.2.2.1.1 0)) ((mNt M).2.1 2) p = σ.2.2.1.1 0 := by rw [e]; exact ix_new hn (by omega) (by omega)
      rw [hi, remS_at.1, remS_at.2, e]
      exact ⟨M, h2.cp, m2⟩
    · by_cases hf : M.2.1 2 = 10
      · have e10 : (mNt M).2.1 2 = 10 := by rw [m1, hf]; decide
        rw [e10] at hp e ⊢
        obtain ⟨i1, i2⟩ := ix_full (p := p) hn (by omega)
        rw [i1, remS_f (by omega), remS_q (by omega)]
        have := h4 (p + 1) (by omega)
        rw [hf] at this
        exact this.cg (fun t ht => by rw [m3 p (by omega) t ht, if_pos hf])
      · have e1 : (mNt M).2.1 2 = M.2.1 2 + 1 := by rw [m1]; omega
        rw [e1] at hp e ⊢
        obtain ⟨i1, i2⟩ := ix_old (nx := σ.2.2.1.1 0) (d := M.2.1 2) (p := p) hn (by omega) (by omega)
        rw [i1, remS_f (by omega), remS_q (by omega)]
        exact (h4 p (by omega)).cg (fun t ht => by rw [m3 p (by omega) t ht, if_neg hf])
  · rw [x4, k5 2 (by decide), remS_f (by omega), remS_q (by omega)]
    exact ⟨(h5 k hk).1, fun q => ((h5 k hk).2 q).cg (fun t ht => m4 _ (by omega))⟩
  · rw [k4] at ht
    rw [x4, k5 6 (by decide), k5 7 (by decide)]; exact h7 t ht
/-- main alone changes -/
theorem CP.main {σ : ST} {M : MT} (h : CP σ M) {F : FabT} {Q : RowT} {N : MT} (hc : CC F Q N) (hN : N.2.1 2 = M.2.1 2 ∧ N.2.1 4 = M.2.1 4 ∧ N.2.2.1 1 = M.2.2.1 1 ∧ N.2.2.1 2 = M.2.2.1 2 ∧ N.2.2.1 6 = M.2.2.1 6 ∧ N.2.2.1 7 = M.2.2.1 7)
    {τ : ST} (t0 : τ.1 0 = F) (tq : τ.2.1 0 = Q) (tf : ∀ j, j ≠ 0 → j < 14 → τ.1 j = σ.1 j ∧ τ.2.1 j = σ.2.1 j) (tx : τ.2.2.1 = σ.2.2.1) : CP τ N := by
  obtain ⟨h1, h2, h3, h4, h5, h6, h7⟩ := h
  obtain ⟨n2, n4, nk, nf, n6, n7⟩ := hN
  have hok := rq_ok hc.1.1 hc.2.1
  have hix : ∀ p, ix (σ.2.2.1.1 0) (M.2.1 2) p < 10 := fun p => Nat.mod_lt _ (by decide)
  refine ⟨⟨by rw [t0]; exact hc.1.1, by rw [t0, tq]; exact hok, fun j hj => ?_, by rw [tx]; exact h1.2.2.2.1, by rw [tx]; exact h1.2.2.2.2.1, by rw [tx]; exact h1.2.2.2.2.2.1, by rw [tx]; exact h1.2.2.2.2.2.2⟩, by rw [t0, tq]; exact hc, by rw [tx, n2]; exact h3, fun p hp => ?_, fun k hk => ?_, by rw [tx, n4]; exact h6, fun t ht => ?_⟩
  · by_cases e : j = 0
    · rw [e, t0, tq]; exact ⟨hc.1.1.1, hok.1⟩
    · rw [(tf j e hj).1, (tf j e hj).2]; exact h1.2.2.1 j hj
  · rw [n2] at hp
    have := hix p
    rw [tx, n2, nk, (tf _ (by omega) (by omega)).1, (tf _ (by omega) (by omega)).2]; exact h4 p hp
  · rw [tx, nf, nk, (tf _ (by omega) (by omega)).1, (tf _ (by omega) (by omega)).2]; exact h5 k hk
  · rw [n4] at ht
    rw [tx, n6, n7]; exact h7 t ht
