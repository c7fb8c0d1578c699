theorem stuck_of {F : FabT} {Q W B : RowT} {M : MT} (hR : RF F M) (hQ : RQ F Q M) (hn : ∃ v, 1 ≤ v ∧ v ≤ 3 ∧ F.1 0 = nI v) (hl : fLive (slF F Q W B) = fLive F) : Stk F Q := by
  obtain ⟨s1, s2, _, s4, s5, s6⟩ := slot_RF (W := W) (B := B) hR hQ
  have hL : (slF F Q W B).2.1 = F.2.1 := by rw [s1.2.2.1, (mGo_keep M).2.2.1, hR.2.2.1]
  have h64 := hR.1.1
  have a1 := ca_all hR.1
  have a2 := ca_all s1.1
  rw [live_eq hR.2.2.2.2.2.2, live_eq s1.2.2.2.2.2.2] at hl
  have hl := (nI_eq (by omega) (by omega)).mp hl
  have e3 : ¬ 0 < (slL F Q W B).2.1.2 := fun q => by have := s5 q; omega
  have e4 : ca (slF F Q W B) 4 = ca F 4 := by omega
  have hq64 := (rq_ok hR.1 hQ).1
  have hq0 : Q.2 = 0 := by
    have := lwL_q (sortW F W) (sortW F W).2 0 (-9) 0 F Q (B.1, 0) hq64
    unfold slL at e3; omega
  have hsz := sortW_sz h64 W
  have hw : cw F = 0 ∨ ¬ nI 0 < F.1 2 := by
    by_cases c : cw F = 0
    · exact Or.inl c
    · refine Or.inr (fun hr => e3 ?_)
      obtain ⟨z, hz⟩ : ∃ z, (sortW F W).2 = z + 1 := ⟨cw F - 1, by omega⟩
      have hm : (sortW F W).1 0 < F.2.1 := ((sortW_mem h64 W _).mp (rv_mem.mpr ⟨0, by omega, rfl⟩)).1
      obtain ⟨a, ha, he⟩ := hR.2.2.2.2.2.1 _ hm
      have hne : ¬ F.2.2 2 ((sortW F W).1 0) = -9 := by rw [he]; exact nI_m9 (by omega)
      obtain ⟨v, v1, v2, v3⟩ := hn
      unfold slL
      rw [hz, lwL, if_neg hne, if_pos ⟨by rw [v3]; exact (nI_ltI (by decide) (by omega)).mpr (by omega), by rw [hq0]; exact hr⟩]
      have e1 : (rAdd Q ((sortW F W).1 0)).2 = 1 := by rw [rAdd, if_pos (by omega), hq0]
      have := lwL_q (sortW F W) z (0 + 1) (F.2.2 2 ((sortW F W).1 0)) 0 (mvL F ((sortW F W).1 0) 2) (rAdd Q ((sortW F W).1 0)) (B.1, 0) (by omega)
      omega
  refine ⟨hq0, hw, fun t ht => ?_⟩
  obtain ⟨q1, q2, q3, q4, B1, b1, b2, b3⟩ := slot_nw (W := W) (B := B) hR hQ hq0 hw
  apply Classical.byContradiction
  intro hc
  obtain ⟨c1, c2, c3⟩ := b2 t ht
  rw [if_neg hc] at c3
  have hs : F.2.2 0 (B1.1 t) = 0 ∨ F.2.2 0 (B1.1 t) = 1 := by simpa [selW] using c2
  have := cn_mlt (p := fun k => decide (F.2.2 0 k = nI 4)) (q := fun k => decide ((slF F Q W B).2.2 0 k = nI 4)) (n := B1.1 t) (by rcases hs with e | e <;> simp only [e] <;> decide) (by simp only [c3]; decide) F.2.1 c1 (fun k hk q => by
    have q := of_decide_eq_true q
    apply decide_eq_true
    rw [q4 k hk (by unfold selW; rw [q]; decide)]; exact q)
  unfold ca at e4
  rw [hL] at e4
  omega
/-- the trial and the reference's trial -/
def CT (τ : ST) (M : MT) : Prop := RF (τ.1 1) M ∧ RQ (τ.1 1) (τ.2.1 1) M ∧ ∃ v, 1 ≤ v ∧ v ≤ 3 ∧ (τ.1 1).1 0 = nI v
theorem CT.sl {τ : ST} {M : MT} (h : CT τ M) : CT (slS τ 1) (mGo M).2 ∧ nI (mGo M).1 = ((slS τ 1).1 1).2.2 7 3 - (τ.1 1).2.2 7 3 := by
  obtain ⟨s1, s2, s3, _⟩ := slot_RF (W := τ.2.1 14) (B := τ.2.1 15) h.1 h.2.1
  have e : (slS τ 1).1 1 = slF (τ.1 1) (τ.2.1 1) (τ.2.1 14) (τ.2.1 15) := slS_f
  have e2 : (slS τ 1).2.1 1 = (slO (τ.1 1) (τ.2.1 1) (τ.2.1 14) (τ.2.1 15)).2 := slS_q (by decide)
  refine ⟨⟨by rw [e]; exact s1, by rw [e, e2]; exact s2, ?_⟩, by rw [e]; exact s3⟩
  obtain ⟨v, v1, v2, v3⟩ := h.2.2
  refine ⟨v, v1, v2, ?_⟩
  rw [e, s1.2.1 0 (by decide), (mGo_keep M).1 0 (by decide), ← h.1.2.1 0 (by decide)]; exact v3
def SK (τ : ST) : Prop := Stk (τ.1 1) (τ.2.1 1)
theorem SK.sl {τ : ST} {M : MT} (h : CT τ M) (hS : SK τ) : SK (slS τ 1) ∧ (∀ p, p = 2 ∨ p = 3 ∨ p = 4 → ((slS τ 1).1 1).2.2 7 p = (τ.1 1).2.2 7 p) ∧ fLive ((slS τ 1).1 1) = fLive (τ.1 1) := by
  obtain ⟨s1, s2, s3⟩ := stuck_step (W := τ.2.1 14) (B := τ.2.1 15) h.1 h.2.1 hS
  have e : (slS τ 1).1 1 = slF (τ.1 1) (τ.2.1 1) (τ.2.1 14) (τ.2.1 15) := slS_f
  have e2 : (slS τ 1).2.1 1 = (slO (τ.1 1) (τ.2.1 1) (τ.2.1 14) (τ.2.1 15)).2 := slS_q (by decide)
  have hT := h.1.2.2.2.2.2.2
  have hT2 := h.sl.1.1.2.2.2.2.2.2
  refine ⟨by unfold SK; rw [e, e2]; exact s1, fun p hp => ?_, ?_⟩
  · rw [hT p (by omega), hT2 p (by omega), e, s2 p hp]
  · rw [live_eq hT, live_eq hT2, e, s2 2 (Or.inl rfl), s3]
theorem SK_of {τ : ST} {M : MT} (h : CT τ M) (hb : tryB τ = false) : SK (slS τ 1) := by
  have hl : fLive ((slS τ 1).1 1) = fLive (τ.1 1) := by
    unfold tryB at hb
    have := of_decide_eq_false hb
    exact Classical.not_not.mp this
  refine (SK.sl h ?_).1
  refine stuck_of (W := τ.2.1 14) (B := τ.2.1 15) h.1 h.2.1 h.2.2 ?_
  rw [← hl, slS_f]
def slN : Nat → ST → ST
  | 0, τ => τ
  | m + 1, τ => slN m (slS τ 1)
theorem slN_CT : ∀ m τ M o, CT τ M → CT (slN m τ) (moL m o M).2 ∧ nI (moL m o M).1 = nI o + (((slN m τ).1 1).2.2 7 3 - (τ.1 1).2.2 7 3) := by
  intro m
  induction m with
  | zero => intro τ M o h; exact ⟨h, by show nI o = nI o + ((τ.1 1).2.2 7 3 - (τ.1 1).2.2 7 3); rw [Int32.sub_self, Int32.add_zero]⟩
  | succ m ih =>
    intro τ M o h
    obtain ⟨h1, h2⟩ := h.sl
    obtain ⟨i1, i2⟩ := ih (slS τ 1) (mGo M).2 (o + (mGo M).1) h1
    refine ⟨i1, ?_⟩
    show nI (moL m (o + (mGo M).1) (mGo M).2).1 = nI o + (((slN m (slS τ 1)).1 1).2.2 7 3 - (τ.1 1).2.2 7 3)
    rw [i2, ← nI_add, h2]
    generalize ((slN m (slS τ 1)).1 1).2.2 7 3 = x
    generalize ((slS τ 1).1 1).2.2 7 3 = y
    generalize (τ.1 1).2.2 7 3 = z
    simp only [Int32.sub_eq_add_neg]
    have e : nI o + (y + -z) + (x + -y) = (y + -y) + (nI o + (x + -z)) := by ac_rfl
    rw [e, Int32.add_right_neg, Int32.zero_add]
theorem slN_SK : ∀ m τ M, CT τ M → SK τ → SK (slN m τ) ∧ (∀ p, p = 2 ∨ p = 3 ∨ p = 4 → ((slN m τ).1 1).2.2 7 p = (τ.1 1).2.2 7 p) ∧ fLive ((slN m τ).1 1) = fLive (τ.1 1) := by
  intro m
  induction m with
  | zero => intro τ M _ h; exact ⟨h, fun _ _ => rfl, rfl⟩
  | succ m ih =>
    intro τ M h hS
    obtain ⟨a1, a2, a3⟩ := SK.sl h hS
    obtain ⟨b1, b2, b3⟩ := ih (slS τ 1) (mGo M).2 h.sl.1 a1
    exact ⟨b1, fun p hp => (b2 p hp).trans (a2 p hp), b3.trans a3⟩
theorem dpL_sl : ∀ m τ M go, CT τ M → (go = true ∨ SK τ) → ((dpL m τ go).1 1).2.2 7 4 = ((slN m τ).1 1).2.2 7 4 := by
  intro m
  induction m with
  | zero => intro τ M go _ _; rfl
  | succ m ih =>
    intro τ M go h hg
    by_cases c : go = true
    · rw [dpL, if_pos c, slN]
      refine ih (slS τ 1) (mGo M).2 (tryB τ) h.sl.1 ?_
      cases e : tryB τ
      · exact Or.inr (SK_of h e)
      · exact Or.inl rfl
    · rw [dpL, if_neg c]
      exact ((slN_SK (m + 1) τ M h (hg.resolve_left c)).2.1 4 (Or.inr (Or.inr rfl))).symm
