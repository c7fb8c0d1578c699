/-- what a trial leaves of the reference -/
theorem EQM_try {M D : MT} (h : D.2.2.1 1 = wrG M 12 512) (h2 : D.2.1 2 = M.2.1 2) (h4 : D.2.1 4 = M.2.1 4) (ha : D.2.2.1 2 = M.2.2.1 2 ∧ D.2.2.1 6 = M.2.2.1 6 ∧ D.2.2.1 7 = M.2.2.1 7) : EQM M (mCb D 12 (M.2.1 0) (M.2.1 1) 512) := by
  have hK : KR (D.2.2.1 1) 12 M := by rw [h]; exact KR_wr M 12
  refine ⟨mCb_ec hK, ?_, ?_, fun t ht => ?_, ?_, ?_, ?_⟩
  · rw [← h2]; simp [mCb, va_up]
  · rw [← h4]; simp [mCb, va_up]
  · show va_up D.2.2.1 0 (cbI D 12 512) 1 t = _
    rw [up_n (by decide), h, wrG, if_neg (by omega), if_neg (by omega), if_neg (by omega), if_neg (by omega), if_neg (by omega), if_neg (by omega), if_neg (by omega)]
  · show va_up D.2.2.1 0 (cbI D 12 512) 2 = _
    rw [up_n (by decide)]; exact ha.1
  · show va_up D.2.2.1 0 (cbI D 12 512) 6 = _
    rw [up_n (by decide)]; exact ha.2.1
  · show va_up D.2.2.1 0 (cbI D 12 512) 7 = _
    rw [up_n (by decide)]; exact ha.2.2
theorem mWr_e (M : MT) : EC M (mWr M 12) ∧ (mWr M 12).2.1 = M.2.1 ∧ (∀ j, j ≠ 1 → (mWr M 12).2.2.1 j = M.2.2.1 j) := ⟨⟨fun _ _ => rfl, rfl, rfl, fun _ _ => rfl⟩, rfl, fun j hj => by simp [mWr, mKp, va_up, hj]⟩
theorem CT_0 {σ : ST} {M : MT} (h : CP σ M) : CT (cpS σ 1 0) (mWr M 12) := by
  have hc : CC ((cpS σ 1 0).1 1) ((cpS σ 1 0).2.1 1) (mWr M 12) := by rw [cpS_f, cpS_q]; exact (h.2.1.ec (mWr_e M).1).cp
  refine ⟨hc.1, hc.2.1, ?_⟩
  obtain ⟨v, v1, v2, v3⟩ := hc.2.2.2.2.1
  exact ⟨v, v1, v2, by rw [hc.1.2.1 0 (by decide)]; exact v3⟩
theorem mOv_live {τ : ST} {M : MT} (h : CT τ M) : mOv M = true ↔ fLive (τ.1 1) = 0 := by
  have hR := h.1
  have e : ∀ p, p < 3 → mCt M (nI p) = ca (τ.1 1) p := fun p hp => by
    rw [mCt_cn, ← hR.2.2.1]
    refine cn_congr _ (fun k hk => ?_)
    rw [decide_eq_decide, hR.2.2.2.1 k hk]
    rcases (show p = 0 ∨ p = 1 ∨ p = 2 by omega) with q | q | q <;> subst q
    · exact dm_0.symm
    · exact dm_1.symm
    · exact dm_2.symm
  have hT := hR.2.2.2.2.2.2
  unfold mOv fLive
  rw [decide_eq_true_iff, hT 0 (by decide), hT 1 (by decide), hT 2 (by decide), ← e 0 (by decide), ← e 1 (by decide), ← e 2 (by decide)]
  exact Iff.rfl
theorem mdL_stuck : ∀ m k τ M, CT τ M → SK τ → ¬ fLive (τ.1 1) = 0 → ¬ mOv (mdL m k M).2 = true := by
  intro m
  induction m with
  | zero => intro k τ M h _ hl q; exact hl ((mOv_live h).mp q)
  | succ m ih =>
    intro k τ M h hS hl
    rw [mdL, if_neg (fun q => hl ((mOv_live h).mp q))]
    obtain ⟨a1, a2, a3⟩ := SK.sl h hS
    exact ih (k + 1) (slS τ 1) (mGo M).2 h.sl.1 a1 (by rw [a3]; exact hl)
theorem drL_eq : ∀ m k τ M, CT τ M → (drL (m + 1) k τ).1 = if mOv (mdL m k M).2 = true then nI (mdL m k M).1 else -9 := by
  intro m
  induction m with
  | zero =>
    intro k τ M h
    rw [drL]
    by_cases c : fLive (τ.1 1) = 0
    · rw [if_pos c, mdL, if_pos ((mOv_live h).mpr c)]
    · rw [if_neg c, mdL, if_neg (fun q => c ((mOv_live h).mp q))]
      split <;> rfl
  | succ m ih =>
    intro k τ M h
    rw [drL]
    by_cases c : fLive (τ.1 1) = 0
    · rw [if_pos c, mdL, if_pos ((mOv_live h).mpr c), if_pos ((mOv_live h).mpr c)]
    · rw [if_neg c, mdL, if_neg (fun q => c ((mOv_live h).mp q))]
      by_cases c2 : tryB τ = true
      · rw [if_pos c2]; exact ih (k + 1) (slS τ 1) (mGo M).2 h.sl.1
      · rw [if_neg c2]
        have hb : tryB τ = false := by simpa using c2
        have hl : fLive ((slS τ 1).1 1) = fLive (τ.1 1) := by
          unfold tryB at hb
          exact Classical.not_not.mp (of_decide_eq_false hb)
        rw [if_neg (mdL_stuck m (k + 1) (slS τ 1) (mGo M).2 h.sl.1 (SK_of h hb) (by rw [hl]; exact c))]
theorem drL_same {σ : ST} : ∀ m k τ, TO τ → Same σ τ → Same σ (drL m k τ).2 := by
  intro m
  induction m with
  | zero => intro k τ _ h; exact h
  | succ m ih =>
    intro k τ hT h
    have hs : Same σ (slS τ 1) := by
      obtain ⟨h1, h2, h3, h4, h5⟩ := h
      have hT2 := hT.sl
      exact ⟨fun j hj => by rw [slS_fn hj]; exact h1 j hj, fun j hj h14 => by rw [slS_qn hj h14]; exact h2 j hj h14, h3, hT2.1.1, hT2.2.1⟩
    rw [drL]
    split
    · exact h
    · split
      · exact ih _ _ hT.sl hs
      · exact hs
theorem cp_same {σ : ST} (hX : XO σ) : Same σ (cpS σ 1 0) := by
  have hT := TO.cp hX
  exact ⟨fun j hj => cpS_fn hj, fun j hj _ => cpS_qn hj, rfl, hT.1.1, hT.2.1⟩
theorem mdL_n : ∀ (m k : Nat) (M : MT), (mdL m k M).2.2.1 2 = M.2.1 2 ∧ (mdL m k M).2.2.1 4 = M.2.1 4 := by
  intro m
  induction m with
  | zero => intro k M; exact ⟨rfl, rfl⟩
  | succ m ih =>
    intro k M
    by_cases h : mOv M = true
    · rw [mdL, if_pos h]; exact ⟨rfl, rfl⟩
    · rw [mdL, if_neg h]
      have := ih (k + 1) (mGo M).2
      have k2 := mGo_keep M
      exact ⟨this.1.trans k2.2.2.2.1, this.2.trans k2.2.2.2.2.1⟩
theorem ok_drain {σ : ST} {M : MT} (h : CP σ M) : OK σ (xDrain σ) (yDrain M (M.2.1 0) (M.2.1 1)) := by
  have hs := drL_same 100 0 (cpS σ 1 0) (TO.cp h.1) (cp_same h.1)
  have hk := fun j h1 h2 => mdL_k 99 0 (mWr M 12) j h1 h2
  have hn := mdL_n 99 0 (mWr M 12)
  have hw := (mWr_e M).2.2
  refine ⟨drL_eq 99 0 (cpS σ 1 0) (mWr M 12) (CT_0 h), (h.same hs).eqm (EQM_try ?_ hn.1 hn.2 ⟨?_, ?_, ?_⟩), ?_⟩
  · exact (hk 1 (by decide) (by decide)).trans (mWr_12 M)
  · exact (hk 2 (by decide) (by decide)).trans (hw 2 (by decide))
  · exact (hk 6 (by decide) (by decide)).trans (hw 6 (by decide))
  · exact (hk 7 (by decide) (by decide)).trans (hw 7 (by decide))
  · have := congrArg Prod.snd hs.2.2.1
    exact this
theorem N5_mo (L : Nat) : ∀ m o M, N5 L M → N5 L (moL m o M).2 := by
  intro m
  induction m with
  | zero => intro o M h; exact h
  | succ m ih => intro o M h; rw [moL]; exact ih _ _ (N5_mGo h)
theorem ct4 {F : FabT} {M : MT} (hR : RF F M) (h5 : N5 F.2.1 M) : mCt M 4 = ca F 4 := by
  rw [mCt_cn, ← hR.2.2.1]
  refine cn_congr _ (fun k hk => ?_)
  rw [decide_eq_decide, hR.2.2.2.1 k hk, dm, if_neg (h5 k hk)]; exact Iff.rfl
theorem drp_lb {σ : ST} {M : MT} (h : CP σ M) (n : Nat) {b : Int32} (hb : ∃ v, 1 ≤ v ∧ v ≤ 3 ∧ b = nI v) : (drp σ n b).1 = (yLb M n b).1 ∧ EQM M (yLb M n b).2 := by
  have hC := CT_0 h
  have f1 : (cpS σ 1 0).1 1 = cpF (σ.1 1) (σ.1 0) := cpS_f
  have t1 : (trN σ b).1 1 = (va_up (cpF (σ.1 1) (σ.1 0)).1 0 b, (cpF (σ.1 1) (σ.1 0)).2) := by unfold trN; exact sF_at
  have t2 : (trN σ b).2.1 1 = (cpS σ 1 0).2.1 1 := rfl
  have hR : RF ((trN σ b).1 1) (mNs (mWr M 12) b) := by
    have hR := hC.1
    rw [f1] at hR
    rw [t1]
    refine ⟨hR.1, fun w hw => ?_, hR.2.2.1, hR.2.2.2.1, hR.2.2.2.2.1, hR.2.2.2.2.2.1, hR.2.2.2.2.2.2⟩
    show va_up (cpF (σ.1 1) (σ.1 0)).1 0 b w = va_up (mWr M 12).1 0 b w
    by_cases e : w = 0
    · rw [e, up_s, up_s]
    · rw [up_n e, up_n e]; exact hR.2.1 w hw
  have hQ : RQ ((trN σ b).1 1) ((trN σ b).2.1 1) (mNs (mWr M 12) b) := by
    have hQ := hC.2.1
    rw [f1] at hQ
    rw [t1, t2]; exact ⟨hQ.1, hQ.2.1, hQ.2.2.1, hQ.2.2.2⟩
  have hCT : CT (trN σ b) (mNs (mWr M 12) b) := ⟨hR, hQ, by
    obtain ⟨v, v1, v2, v3⟩ := hb
    exact ⟨v, v1, v2, by rw [t1]; show va_up (cpF (σ.1 1) (σ.1 0)).1 0 b 0 = _; rw [up_s]; exact v3⟩⟩
  have h5 : N5 (M.2.1 0) (mNs (mWr M 12) b) := h.2.1.2.2.1
  have hL : ((trN σ b).1 1).2.1 = M.2.1 0 := hR.2.2.1
  obtain ⟨c1, _⟩ := slN_CT n (trN σ b) (mNs (mWr M 12) b) 0 hCT
  have hk := moL_k n 0 (mNs (mWr M 12) b)
  have hLn : ((slN n (trN σ b)).1 1).2.1 = M.2.1 0 := by rw [c1.1.2.2.1, hk.2.1]; rfl
  refine ⟨?_, EQM_try ?_ hk.2.2.1 hk.2.2.2.1 ⟨?_, ?_, ?_⟩⟩
  · show ((dpL n (trN σ b) true).1 1).2.2 7 4 - (σ.1 0).2.2 7 4 = nI (mCt (mTr (mNs (mWr M 12) b) n).2 4) - nI (mCt (mNs (mWr M 12) b) 4)
    rw [dpL_sl n _ _ true hCT (Or.inl rfl), c1.1.2.2.2.2.2.2 4 (by decide), h.2.1.1.2.2.2.2.2.2 4 (by decide)]
    have e1 := ct4 c1.1 (by rw [hLn]; exact N5_mo _ _ _ _ h5)
    have e2 := ct4 hR (by rw [hL]; exact h5)
    have e3 : ca ((trN σ b).1 1) 4 = ca (σ.1 0) 4 := by rw [t1]; exact ca_cp (σ.1 1) (σ.1 0) 4
    rw [← e3, ← e2, ← e1]; rfl
  · exact (hk.1 1 (by decide) (by decide)).trans (mWr_12 M)
  · exact (hk.1 2 (by decide) (by decide)).trans ((mWr_e M).2.2 2 (by decide))
  · exact (hk.1 6 (by decide) (by decide)).trans ((mWr_e M).2.2 6 (by decide))
  · exact (hk.1 7 (by decide) (by decide)).trans ((mWr_e M).2.2 7 (by decide))
theorem CP.drp {σ : ST} {M : MT} (h : CP σ M) (n : Nat) {b : Int32} (hb : ∃ v, 1 ≤ v ∧ v ≤ 3 ∧ b = nI v) : CP (drp σ n b).2 (yLb M n b).2 := (h.same (drp_same h.1 n b)).eqm (drp_lb h n hb).2
theorem drp_m {σ : ST} (hX : XO σ) (n : Nat) (b : Int32) : (drp σ n b).2.2.2.2 = σ.2.2.2 := congrArg Prod.snd (drp_same hX n b).2.2.1
theorem ok_lost {σ : ST} {M : MT} (h : CP σ M) (a : Int32) : OK σ (xLost σ a) (yLost M a) := by
  unfold xLost yLost
  split
  · have e : (σ.1 0).1 0 = M.1 0 := h.2.1.1.2.1 0 (by decide)
    have hb := h.2.1.2.2.2.2.1
    rw [e]
    exact ⟨(drp_lb h _ hb).1, h.drp _ hb, drp_m h.1 _ _⟩
  · exact ⟨rfl, h, rfl⟩
theorem fw_eq (n : Nat) : ∀ m k σ M, 1 ≤ k → k + m ≤ 4 → CP σ M → OK σ (fwL n m k σ) (ywL n m k M) := by
  intro m
  induction m with
  | zero => intro k σ M _ _ h; exact ⟨rfl, h, rfl⟩
  | succ m ih =>
    intro k σ M hk hm h
    have hb : ∃ v, 1 ≤ v ∧ v ≤ 3 ∧ nI k = nI v := ⟨k, hk, by omega, rfl⟩
    have e := (drp_lb h n hb).1
    rw [fwL, ywL, e]
    split
    · exact ⟨rfl, h.drp n hb, drp_m h.1 _ _⟩
    · obtain ⟨i1, i2, i3⟩ := ih (k + 1) _ _ (by omega) (by omega) (h.drp n hb)
      exact ⟨i1, i2, i3.trans (drp_m h.1 _ _)⟩
theorem ok_fewest {σ : ST} {M : MT} (h : CP σ M) (a : Int32) : OK σ (xFewest σ a) (yFewest M a) := by
  unfold xFewest yFewest
  split
  · exact fw_eq _ 3 1 σ M (by decide) (by decide) h
  · exact ⟨rfl, h, rfl⟩
