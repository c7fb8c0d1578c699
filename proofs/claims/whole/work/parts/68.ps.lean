theorem alL_iff (s o : Nat → Int32) (a b : Int32) : ∀ m t, alL s o a b m t = true ↔ ∀ i, t ≤ i → i < t + m → s i = a → o i = b := by
  intro m
  induction m with
  | zero => intro t; exact ⟨fun _ i h1 h2 => by omega, fun _ => rfl⟩
  | succ m ih =>
    intro t
    rw [alL]
    by_cases c : s t = a ∧ o t ≠ b
    · rw [if_pos c]
      exact ⟨fun q => absurd q (by decide), fun q => absurd (q t (Nat.le_refl _) (by omega) c.1) c.2⟩
    · rw [if_neg c, ih]
      constructor
      · intro q i h1 h2 e
        by_cases ei : i = t
        · rw [ei] at e ⊢; exact Classical.byContradiction (fun r => c ⟨e, r⟩)
        · exact q i (by omega) (by omega) e
      · intro q i h1 h2 e; exact q i (by omega) (by omega) e
theorem lgL_ge (s : Nat → Int32) : ∀ m t a, a ≤ lgL s m t a ∧ ∀ i, t ≤ i → i < t + m → s i ≤ lgL s m t a := by
  intro m
  induction m with
  | zero => intro t a; exact ⟨Int32.le_refl _, fun i h1 h2 => by omega⟩
  | succ m ih =>
    intro t a
    rw [lgL]
    obtain ⟨i1, i2⟩ := ih (t + 1) (if a < s t then s t else a)
    have h1 : a ≤ (if a < s t then s t else a) ∧ s t ≤ (if a < s t then s t else a) := by
      split
      · rename_i c; exact ⟨Int32.le_of_lt c, Int32.le_refl _⟩
      · rename_i c; exact ⟨Int32.le_refl _, Int32.not_lt.mp c⟩
    refine ⟨Int32.le_trans h1.1 i1, fun i a1 a2 => ?_⟩
    by_cases e : i = t
    · rw [e]; exact Int32.le_trans h1.2 i1
    · exact i2 i (by omega) (by omega)
theorem exL_iff (sl ou : Nat → Int32) (z : Nat) (b3 : Int32) : ∀ m k τ M go, CT τ M → (go = true ∨ SK τ) → ((exL sl ou z b3 m k τ go).1 = true ↔ ∀ j, j < m → alL sl ou (nI (k + j)) (((slN (j + 1) τ).1 1).2.2 7 3 - b3) z 0 = true) := by
  intro m
  induction m with
  | zero => intro k τ M go _ _; exact ⟨fun _ j h => absurd h (Nat.not_lt_zero j), fun _ => rfl⟩
  | succ m ih =>
    intro k τ M go h hg
    by_cases c : go = true
    · rw [exL, if_pos c]
      have hg2 : tryB τ = true ∨ SK (slS τ 1) := by
        cases e : tryB τ
        · exact Or.inr (SK_of h e)
        · exact Or.inl rfl
      have i1 := ih (k + 1) (slS τ 1) (mGo M).2 (tryB τ) h.sl.1 hg2
      by_cases c2 : alL sl ou (nI k) (((slS τ 1).1 1).2.2 7 3 - b3) z 0 = true
      · rw [if_pos c2, i1]
        constructor
        · intro q j hj
          by_cases e : j = 0
          · rw [e]; exact c2
          · have := q (j - 1) (by omega)
            rw [show k + 1 + (j - 1) = k + j by omega, show j - 1 + 1 = j by omega] at this
            exact this
        · intro q j hj
          have := q (j + 1) (by omega)
          rw [show k + (j + 1) = k + 1 + j by omega] at this
          exact this
      · rw [if_neg c2]
        exact ⟨fun q => absurd q (show ¬ false = true by decide), fun q => absurd (q 0 (by omega)) c2⟩
    · have hS := hg.resolve_left c
      have hsame : ∀ j, ((slN j τ).1 1).2.2 7 3 = (τ.1 1).2.2 7 3 := fun j => (slN_SK j τ M h hS).2.1 3 (Or.inr (Or.inl rfl))
      rw [exL, if_neg c]
      have i1 := ih (k + 1) τ M false h (Or.inr hS)
      by_cases c2 : alL sl ou (nI k) ((τ.1 1).2.2 7 3 - b3) z 0 = true
      · rw [if_pos c2, i1]
        constructor
        · intro q j hj
          by_cases e : j = 0
          · rw [hsame, e]; exact c2
          · have := q (j - 1) (by omega)
            rw [hsame, show k + 1 + (j - 1) = k + j by omega] at this
            rw [hsame]; exact this
        · intro q j hj
          have := q (j + 1) (by omega)
          rw [hsame, show k + (j + 1) = k + 1 + j by omega] at this
          rw [hsame]; exact this
      · rw [if_neg c2]
        exact ⟨fun q => absurd q (show ¬ false = true by decide), fun q => absurd (by have := q 0 (by omega); rw [hsame] at this; exact this) c2⟩
theorem CT_D {σ : ST} {M : MT} (h : CP σ M) {d : Nat} (hd : d < (σ.1 0).2.1) (h0 : (σ.1 0).2.2 0 d = 0) : CT (trD σ d) (mSet (mWr M 12) d 0 5) ∧ ((trD σ d).1 1).2.2 7 3 = (σ.1 0).2.2 7 3 := by
  obtain ⟨hR, hQ, hv⟩ := CT_0 h
  have f1 : (cpS σ 1 0).1 1 = cpF (σ.1 1) (σ.1 0) := cpS_f
  rw [f1] at hR hQ hv
  have t1 : (trD σ d).1 1 = mvL (cpF (σ.1 1) (σ.1 0)) d 4 := by unfold trD; exact sF_at
  have t2 : (trD σ d).2.1 1 = (cpS σ 1 0).2.1 1 := rfl
  have hdC : d < (cpF (σ.1 1) (σ.1 0)).2.1 := hd
  have p0 : (cpF (σ.1 1) (σ.1 0)).2.2 0 d = 0 := by rw [cpF_w _ _ (by decide) hd]; exact h0
  have c2 : ca (mvL (cpF (σ.1 1) (σ.1 0)) d 4) 2 = ca (cpF (σ.1 1) (σ.1 0)) 2 := by
    have := ca_mv (q := 4) hdC 2
    rw [p0] at this; simpa [show ¬ (0 : Int32) = nI 2 by decide, show ¬ nI 4 = nI 2 by decide] using this
  have c3 : ca (mvL (cpF (σ.1 1) (σ.1 0)) d 4) 3 = ca (cpF (σ.1 1) (σ.1 0)) 3 := by
    have := ca_mv (q := 4) hdC 3
    rw [p0] at this; simpa [show ¬ (0 : Int32) = nI 3 by decide, show ¬ nI 4 = nI 3 by decide] using this
  have hT := TL_mv (q := 4) hR.1 hR.2.2.2.2.2.2 hdC (by decide)
  have o7 : ∀ n, mOf (mSet (mWr M 12) d 0 5) n 7 = mOf (mWr M 12) n 7 := fun n => by rw [mOf_mSet (by decide) (by decide), if_neg (fun q => absurd q.2 (by decide))]
  refine ⟨⟨?_, ?_, ?_⟩, ?_⟩
  · rw [t1]
    refine ⟨mvL_pk hR.1 d (by decide), hR.2.1, hR.2.2.1, fun n hn => ?_, fun n w hn w0 hw => ?_, fun n hn => ?_, hT⟩
    · rw [mvL_0, mOf_mSet (by decide) (by decide)]
      by_cases e : n = d
      · rw [if_pos e, if_pos ⟨e, rfl⟩]; decide
      · rw [if_neg e, if_neg (fun q => e q.1)]; exact hR.2.2.2.1 n hn
    · rw [mvL_w _ _ _ (by omega) (by omega), mOf_mSet (by decide) (by omega), if_neg (fun q => by omega)]; exact hR.2.2.2.2.1 n w hn w0 hw
    · rw [mvL_w _ _ _ (by decide) (by decide)]; exact hR.2.2.2.2.2.1 n hn
  · rw [t1, t2]
    refine ⟨fun n => ?_, fun n hn => by rw [o7]; exact hQ.2.1 n hn, ?_, by rw [c2, c3]; exact hQ.2.2.2⟩
    · rw [hQ.1, mvL_0]
      by_cases e : n = d
      · rw [if_pos e, e, p0]; exact ⟨fun q => absurd q.2 (by decide), fun q => absurd q.2 (by decide)⟩
      · rw [if_neg e]; exact Iff.rfl
    · exact hQ.2.2.1.imp (fun {a b} q => by rw [o7, o7]; exact q)
  · rw [t1]; exact hv
  · rw [t1, hT 3 (by decide), c3, ca_cp, h.2.1.1.2.2.2.2.2.2 3 (by decide)]
def Tn (σ : ST) (d n : Nat) : Int32 := ((slN n (trD σ d)).1 1).2.2 7 3 - (σ.1 0).2.2 7 3
theorem ow_val {σ : ST} {M : MT} (h : CP σ M) {d : Nat} (hd : d < (σ.1 0).2.1) (h0 : (σ.1 0).2.2 0 d = 0) (n : Nat) : nI (yOw M d n).1 = Tn σ d n ∧ EQM M (yOw M d n).2 := by
  obtain ⟨hC, h3⟩ := CT_D h hd h0
  obtain ⟨_, c2⟩ := slN_CT n (trD σ d) _ 0 hC
  have hk := moL_k n 0 (mSet (mWr M 12) d 0 5)
  have hs : ∀ j, j ≠ 0 → (mSet (mWr M 12) d 0 5).2.2.1 j = (mWr M 12).2.2.1 j := fun j hj => by simp [mSet, va_up, hj]
  refine ⟨?_, EQM_try ?_ hk.2.2.1 hk.2.2.2.1 ⟨?_, ?_, ?_⟩⟩
  · show nI (moL n 0 (mSet (mWr M 12) d 0 5)).1 = _
    rw [c2, h3, nI_0, Int32.zero_add]; rfl
  · exact (hk.1 1 (by decide) (by decide)).trans ((hs 1 (by decide)).trans (mWr_12 M))
  · exact (hk.1 2 (by decide) (by decide)).trans ((hs 2 (by decide)).trans ((mWr_e M).2.2 2 (by decide)))
  · exact (hk.1 6 (by decide) (by decide)).trans ((hs 6 (by decide)).trans ((mWr_e M).2.2 6 (by decide)))
  · exact (hk.1 7 (by decide) (by decide)).trans ((hs 7 (by decide)).trans ((mWr_e M).2.2 7 (by decide)))
theorem yuI_iff (ks : Nat → Nat) {σ : ST} {d : Nat} (hd : d < (σ.1 0).2.1) (h0 : (σ.1 0).2.2 0 d = 0) : ∀ m i M, CP σ M → ((yuI ks d m i M).1 = true ↔ ∀ i', i ≤ i' → i' < i + m → Tn σ d (ks i') = M.2.2.1 7 i') ∧ EQM M (yuI ks d m i M).2 := by
  intro m
  induction m with
  | zero => intro i M h; exact ⟨⟨fun _ i' a b => by omega, fun _ => rfl⟩, EQM.refl M⟩
  | succ m ih =>
    intro i M h
    obtain ⟨o1, o2⟩ := ow_val h hd h0 (ks i)
    obtain ⟨i1, i2⟩ := ih (i + 1) (yOw M d (ks i)).2 (h.eqm o2)
    rw [yuI, o1]
    by_cases c : Tn σ d (ks i) = M.2.2.1 7 i
    · rw [if_pos c]
      refine ⟨?_, o2.trans i2⟩
      rw [i1, o2.2.2.2.2.2.2]
      constructor
      · intro q i' a b
        by_cases e : i' = i
        · rw [e]; exact c
        · exact q i' (by omega) (by omega)
      · intro q i' a b; exact q i' (by omega) (by omega)
    · rw [if_neg c]
      exact ⟨⟨fun q => absurd q (show ¬ false = true by decide), fun q => absurd (q i (Nat.le_refl _) (by omega)) c⟩, o2⟩
theorem expl_eq {ks : Nat → Nat} {σ : ST} {M : MT} (h : CP σ M) (hks : ∀ i, i < M.2.1 4 → 1 ≤ ks i ∧ ks i ≤ 40 ∧ M.2.2.1 6 i = nI (ks i)) {d : Nat} (hd : d < (σ.1 0).2.1) (h0 : (σ.1 0).2.2 0 d = 0) : (xExpl σ d).1 = (yuI ks d (M.2.1 4) 0 M).1 := by
  obtain ⟨y1, _⟩ := yuI_iff ks hd h0 (M.2.1 4) 0 M h
  have x1 := exL_iff (σ.2.2.1.2 0) (σ.2.2.1.2 1) (σ.2.2.1.1 2) ((σ.1 0).2.2 7 3) (lgN σ) 1 (trD σ d) _ true (CT_D h hd h0).1 (Or.inl rfl)
  obtain ⟨l1, l2⟩ := lgN_eq h.1
  have hge := (lgL_ge (σ.2.2.1.2 0) (σ.2.2.1.1 2) 0 0).2
  rw [l1] at hge
  have hz := h.2.2.2.2.2.1
  have h7 := h.2.2.2.2.2.2
  have hiff : (xExpl σ d).1 = true ↔ (yuI ks d (M.2.1 4) 0 M).1 = true := by
    rw [y1]
    show (exL (σ.2.2.1.2 0) (σ.2.2.1.2 1) (σ.2.2.1.1 2) ((σ.1 0).2.2 7 3) (lgN σ) 1 (trD σ d) true).1 = true ↔ _
    rw [x1]
    simp only [alL_iff]
    constructor
    · intro q i _ hi
      rw [Nat.zero_add] at hi
      obtain ⟨k1, k2, k3⟩ := hks i hi
      obtain ⟨s1, s2, _⟩ := h7 i hi
      have hle := hge i (Nat.zero_le _) (by rw [hz]; omega)
      rw [s1, k3] at hle
      have hle := (nI_leI (by omega) (by omega)).mp hle
      have := q (ks i - 1) (by omega) i (Nat.zero_le _) (by rw [hz]; omega) (by rw [s1, k3, show 1 + (ks i - 1) = ks i by omega])
      rw [show ks i - 1 + 1 = ks i by omega, s2] at this
      exact this.symm
    · intro q j hj i _ hi e
      rw [hz, Nat.zero_add] at hi
      obtain ⟨k1, k2, k3⟩ := hks i hi
      obtain ⟨s1, s2, _⟩ := h7 i hi
      rw [s1, k3] at e
      have e := (nI_eq (by omega) (by omega)).mp e
      have := q i (Nat.zero_le _) (by omega)
      rw [s2, ← this, e, Nat.add_comm 1 j]; rfl
  cases e1 : (xExpl σ d).1 <;> cases e2 : (yuI ks d (M.2.1 4) 0 M).1
  · rfl
  · rw [e1, e2] at hiff; exact absurd (hiff.mpr rfl) (by decide)
  · rw [e1, e2] at hiff; exact absurd (hiff.mp rfl) (by decide)
  · rfl
theorem un_eq (ks : Nat → Nat) : ∀ m t bits σ M, CP σ M → (∀ i, i < M.2.1 4 → 1 ≤ ks i ∧ ks i ≤ 40 ∧ M.2.2.1 6 i = nI (ks i)) → OK σ (unL m t bits σ) (yuL ks m t bits M) := by
  intro m
  induction m with
  | zero => intro t bits σ M h _; exact ⟨rfl, h, rfl⟩
  | succ m ih =>
    intro t bits σ M h hks
    have hf := fAt_eq h.2.1.1 (nI t)
    rw [unL, yuL, yuO]
    by_cases c : mAtL M (nI t) = -9
    · rw [if_pos (hf.trans c)]
      simp only [if_pos c]
      rw [if_neg (show ¬ false = true by decide), Int32.or_zero]
      exact ih (t + 1) bits σ M h hks
    · rw [if_neg (fun q => c (hf.symm.trans q))]
      simp only [if_neg c]
      rcases findN_cases (pAt (σ.1 0) (nI t)) (σ.1 0).2.1 0 with e | ⟨d, _, d2, d3, d4⟩
      · exact absurd (hf.symm.trans e) c
      · have d4 : fAt (σ.1 0) (nI t) = nI d := d4
        have h64 := h.2.1.1.1.1
        have hd : d < (σ.1 0).2.1 := by omega
        have h0 : (σ.1 0).2.2 0 d = 0 := by
          unfold pAt at d3
          simp only [Bool.and_eq_true, decide_eq_true_iff] at d3
          exact d3.1
        rw [← hf, d4, nI_clamp (by omega)]
        have he := expl_eq h hks hd h0
        obtain ⟨_, y2⟩ := yuI_iff ks hd h0 (M.2.1 4) 0 M h
        have hs := xExpl_same h.1 d
        have hcp := (h.same hs).eqm y2
        have hm : (xExpl σ d).2.2.2.2 = σ.2.2.2 := congrArg Prod.snd hs.2.2.1
        have hks2 : ∀ i, i < (yuI ks d (M.2.1 4) 0 M).2.2.1 4 → 1 ≤ ks i ∧ ks i ≤ 40 ∧ (yuI ks d (M.2.1 4) 0 M).2.2.2.1 6 i = nI (ks i) := fun i hi => by
          rw [y2.2.2.1] at hi
          rw [y2.2.2.2.2.2.1]; exact hks i hi
        rw [he]
        by_cases c2 : (yuI ks d (M.2.1 4) 0 M).1 = true
        · rw [if_pos c2, if_pos c2]
          obtain ⟨i1, i2, i3⟩ := ih (t + 1) (bits ||| ((1 : Int32) <<< (nI t &&& 31))) _ _ hcp hks2
          exact ⟨i1, i2, i3.trans hm⟩
        · rw [if_neg c2, if_neg c2, Int32.or_zero]
          obtain ⟨i1, i2, i3⟩ := ih (t + 1) bits _ _ hcp hks2
          exact ⟨i1, i2, i3.trans hm⟩
theorem ok_unseen {σ : ST} {M : MT} (h : CP σ M) : ∃ ks, UO ks M ∧ OK σ (xUnseen σ) (yUnseen ks M) := by
  have hks : ∀ i, i < M.2.1 4 → 1 ≤ (M.2.2.1 6 i).toNatClampNeg ∧ (M.2.2.1 6 i).toNatClampNeg ≤ 40 ∧ M.2.2.1 6 i = nI (M.2.2.1 6 i).toNatClampNeg := fun i hi => by
    obtain ⟨_, _, s, s1, s2, s3⟩ := h.2.2.2.2.2.2 i hi
    rw [s3, nI_clamp (by omega)]; exact ⟨s1, s2, rfl⟩
  refine ⟨fun i => (M.2.2.1 6 i).toNatClampNeg, ⟨by rw [← h.2.1.1.2.2.1]; exact h.2.1.1.1.1, by rw [← h.2.2.2.2.2.1]; exact h.1.2.2.2.2.2.1, fun i hi => (hks i hi).2⟩, un_eq _ 8 0 0 σ M h hks⟩
