theorem cn_mlt {p q : Nat → Bool} {n : Nat} (h1 : p n = false) (h2 : q n = true) : ∀ L, n < L → (∀ k, k < L → p k = true → q k = true) → cn p L < cn q L := by
  intro L
  induction L with
  | zero => intro h; exact absurd h (Nat.not_lt_zero n)
  | succ L ih =>
    intro hn h
    rw [cn, cn]
    by_cases e : n = L
    · subst e
      have := cn_mono n (fun k hk => h k (by omega))
      rw [h1, h2]; simp [Bool.toNat]; omega
    · have := ih (by omega) (fun k hk => h k (by omega))
      have h3 := h L (Nat.lt_succ_self L)
      cases e1 : p L <;> cases e2 : q L <;> simp_all [Bool.toNat] <;> omega
def cw (F : FabT) : Nat := cn (selW F) F.2.1
theorem cw_01 (F : FabT) : ca F 0 + ca F 1 = cw F := by
  unfold ca cw
  rw [cn_or (fun k q => by have a := of_decide_eq_true q.1; have b := of_decide_eq_true q.2; rw [a] at b; exact absurd b (by decide))]
  rfl
theorem ca_all {F : FabT} (hF : PK F) : cw F + ca F 2 + ca F 3 + ca F 4 = F.2.1 := by
  have key : ∀ L, L ≤ F.2.1 → cn (selW F) L + cn (fun k => decide (F.2.2 0 k = nI 2)) L + cn (fun k => decide (F.2.2 0 k = nI 3)) L + cn (fun k => decide (F.2.2 0 k = nI 4)) L = L := by
    intro L
    induction L with
    | zero => intro _; rfl
    | succ L ih =>
      intro hL
      have h := ih (by omega)
      obtain ⟨p, hp, he⟩ := hF.2 L (by omega)
      rw [cn, cn, cn, cn]
      have e : (selW F L).toNat + (decide (F.2.2 0 L = nI 2)).toNat + (decide (F.2.2 0 L = nI 3)).toNat + (decide (F.2.2 0 L = nI 4)).toNat = 1 := by
        unfold selW; rw [he]
        rcases (show p = 0 ∨ p = 1 ∨ p = 2 ∨ p = 3 ∨ p = 4 by omega) with e | e | e | e | e <;> subst e <;> decide
      omega
  exact key F.2.1 (Nat.le_refl _)
theorem live_eq {F : FabT} (hT : TL F) : fLive F = nI (cw F + ca F 2) := by
  unfold fLive
  rw [hT 0 (by decide), hT 1 (by decide), hT 2 (by decide), nI_add, nI_add, cw_01]
theorem sortW_sz {F : FabT} (hL : F.2.1 ≤ 64) (W : RowT) : (sortW F W).2 = cw F := by
  have := len_cn (p := selW F) (L := F.2.1) (sortW_nd hL W) (sortW_mem hL W)
  rw [rr, rv_len] at this
  exact this
def Stk (F : FabT) (Q : RowT) : Prop := Q.2 = 0 ∧ (cw F = 0 ∨ ¬ nI 0 < F.1 2) ∧ ∀ t, t < cw F → nI t < F.1 1
theorem lwL_no (W : RowT) (Q : RowT) : ∀ m t a s F B, ¬ nI Q.2 < F.1 2 → (lwL W m t a s F Q B).1 = F ∧ (lwL W m t a s F Q B).2.1 = Q := by
  intro m
  induction m with
  | zero => intro t a s F B _; exact ⟨rfl, rfl⟩
  | succ m ih =>
    intro t a s F B h
    rw [lwL, if_neg (fun q => h q.2)]
    exact ih _ _ _ _ _ h
theorem lwL_q (W : RowT) : ∀ m t a s F Q B, Q.2 ≤ 64 → Q.2 ≤ (lwL W m t a s F Q B).2.1.2 := by
  intro m
  induction m with
  | zero => intro t a s F Q B _; exact Nat.le_refl _
  | succ m ih =>
    intro t a s F Q B h
    rw [lwL]
    generalize (if F.2.2 2 (W.1 t) = a then s + 1 else 0) = s'
    split
    · refine Nat.le_trans ?_ (ih _ _ _ _ (rAdd Q (W.1 t)) _ ?_)
      · unfold rAdd; split
        · exact Nat.le_succ _
        · exact Nat.le_refl _
      · unfold rAdd; split
        · show Q.2 + 1 ≤ 64; omega
        · exact h
    · exact ih _ _ _ _ _ _ h
/-- with an empty queue and no winner: all are turned back or dropped -/
theorem slot_nw {F : FabT} {Q W B : RowT} {M : MT} (hR : RF F M) (hQ : RQ F Q M) (h0 : Q.2 = 0) (hn : cw F = 0 ∨ ¬ nI 0 < F.1 2) :
    (slO F Q W B).2.2 = 0 ∧ (slF F Q W B).2.1 = F.2.1 ∧ (∀ w, w ≠ 3 → (slF F Q W B).1 w = F.1 w) ∧ (∀ n, n < F.2.1 → selW F n = false → (slF F Q W B).2.2 0 n = F.2.2 0 n) ∧
    ∃ B1 : RowT, B1.2 = cw F ∧ (∀ t, t < cw F → B1.1 t < F.2.1 ∧ selW F (B1.1 t) = true ∧ (slF F Q W B).2.2 0 (B1.1 t) = if nI t < F.1 1 then 1 else 4) ∧ ∀ n, n < F.2.1 → selW F n = true → ∃ t, t < cw F ∧ B1.1 t = n := by
  have h64 := hR.1.1
  have hL := hR.2.2.1
  have hsz := sortW_sz h64 W
  have e12 : (slL F Q W B).1 = F ∧ (slL F Q W B).2.1 = Q := by
    unfold slL
    rcases hn with e | e
    · rw [hsz, e]; exact ⟨rfl, rfl⟩
    · exact lwL_no _ _ _ _ _ _ _ _ (by rw [h0]; exact e)
  obtain ⟨hz, ho⟩ := rr_inj (sort_rr hR W)
  have hmem := sortW_mem h64 W
  have hnd := sortW_nd h64 W
  rw [sort_rr hR W] at hnd
  have hmem2 : ∀ t, t < (mSort M).2 → (mSort M).1 t < F.2.1 ∧ selW F ((mSort M).1 t) = true := fun t ht => by
    rw [← hmem, sort_rr hR W]; exact rv_mem.mpr ⟨t, ht, rfl⟩
  have hz64 : (mSort M).2 ≤ 64 := (mSort_ok (by rw [← hL]; exact h64)).1
  have hMa : RF F (mR M (mSort M)) := ⟨hR.1, hR.2.1, hL, hR.2.2.2.1, hR.2.2.2.2.1, hR.2.2.2.2.2.1, hR.2.2.2.2.2.2⟩
  have hQa : RQ F Q (mR M (mSort M)) := ⟨hQ.1, hQ.2.1, hQ.2.2.1, hQ.2.2.2⟩
  have hlock := lock (mSort M).1 (mSort M).2 hz64 (sortW F W) (fun t ht => ho t (by rw [hz]; exact ht)) hnd F (mR M (mSort M)) (mSort M).2 0 (-9) 0 F Q (B.1, 0) (mR M (mSort M)) (Nat.zero_add _) (fun t' _ h2 => hmem2 t' h2) (Or.inl ⟨rfl, rfl⟩)
    ⟨hMa, hQa, rfl, fun _ _ _ => rfl, rfl, rfl, rfl, [], List.Perm.refl _, fun x hx => absurd hx (List.not_mem_nil), fun x hx => absurd hx (List.not_mem_nil), List.Pairwise.nil⟩
  have e1 : lwL (sortW F W) (mSort M).2 0 (-9) 0 F Q (B.1, 0) = slL F Q W B := by rw [slL, hz]
  rw [e1] at hlock
  obtain ⟨_, _, _, _, _, _, _, Wn, hp, hWn, hB, _⟩ := hlock
  rw [e12.1] at hWn hB
  have hWe : Wn = [] := by
    apply List.eq_nil_iff_forall_not_mem.mpr
    intro x hx
    obtain ⟨t, ht, he⟩ := rv_mem.mp (hp.mem_iff.mp (List.mem_append_right _ hx))
    have h1 := (hmem2 t ht).2
    rw [he] at h1
    have h1 : F.2.2 0 x = 0 ∨ F.2.2 0 x = 1 := by simpa [selW] using h1
    rw [(hWn x hx).2] at h1
    exact absurd h1 (by decide)
  rw [hWe, List.append_nil] at hp
  obtain ⟨B1, hB1⟩ : ∃ B1, B1 = (slL F Q W B).2.2 := ⟨_, rfl⟩
  rw [← hB1] at hp hB
  have hBnd : (rr B1).Nodup := hp.nodup_iff.mpr hnd
  have hBz : B1.2 = cw F := by
    have := hp.length_eq
    rw [rr, rv_len, rv_len] at this
    rw [this, ← hz, hsz]
  have hBin : ∀ j, j < B1.2 → B1.1 j ∈ rr B1 := fun j hj => rv_mem.mpr ⟨j, hj, rfl⟩
  obtain ⟨a1, a2, a3, a4, a5, a6⟩ := tbL_at B1 B1.2 0 F hR.1 hR.2.2.2.2.2.2 (fun j _ h2 => (hB _ (hBin j (by omega))).1) (fun a b _ q2 _ q4 e => rv_nd hBnd a b (by omega) (by omega) e)
  have eO : slO F Q W B = (tbL B1 B1.2 0 F, Q.1, 0) := by
    unfold slO slT
    rw [← hB1, e12.1, e12.2, h0]; rfl
  have eF : slF F Q W B = (va_up F.1 3 (F.1 3 + 1), (tbL B1 B1.2 0 F).2) := by
    unfold slF; rw [eO, a1]
  rw [eF, eO]
  refine ⟨rfl, a2, fun w hw => up_n hw, fun n hn hs => ?_, B1, hBz, fun t ht => ?_, fun n hn hs => ?_⟩
  · refine a6 n (fun j _ h2 e => ?_) 0 (by decide)
    have := (hB _ (hBin j (by omega))).2
    rw [e, hs] at this; exact absurd this (by decide)
  · refine ⟨(hB _ (hBin t (by omega))).1, (hB _ (hBin t (by omega))).2, ?_⟩
    show (tbL B1 B1.2 0 F).2.2 0 (B1.1 t) = _
    rw [a5 t (Nat.zero_le _) (by omega) 0 (by decide), tbV]
    rfl
  · have : n ∈ rr B1 := hp.mem_iff.mpr (by
      have := (hmem n).mpr ⟨hn, hs⟩
      rw [sort_rr hR W] at this; exact this)
    obtain ⟨t, ht, he⟩ := rv_mem.mp this
    exact ⟨t, by omega, he⟩
theorem stuck_step {F : FabT} {Q W B : RowT} {M : MT} (hR : RF F M) (hQ : RQ F Q M) (hS : Stk F Q) : Stk (slF F Q W B) (slO F Q W B).2 ∧ (∀ p, p = 2 ∨ p = 3 ∨ p = 4 → ca (slF F Q W B) p = ca F p) ∧ cw (slF F Q W B) = cw F := by
  obtain ⟨s1, s2, s3⟩ := hS
  obtain ⟨q1, q2, q3, q4, B1, b1, b2, b3⟩ := slot_nw (W := W) (B := B) hR hQ s1 s2
  have hpl : ∀ n, n < F.2.1 → (slF F Q W B).2.2 0 n = if selW F n = true then 1 else F.2.2 0 n := fun n hn => by
    by_cases c : selW F n = true
    · obtain ⟨t, ht, he⟩ := b3 n hn c
      have := (b2 t ht).2.2
      rw [if_pos (s3 t ht), he] at this
      rw [if_pos c, this]
    · rw [if_neg c]; exact q4 n hn (by simpa using c)
  have hsel : ∀ n, n < F.2.1 → selW (slF F Q W B) n = selW F n := fun n hn => by
    by_cases c : selW F n = true
    · rw [c]; unfold selW; rw [hpl n hn, if_pos c]; decide
    · have e := hpl n hn
      rw [if_neg c] at e
      unfold selW; rw [e]
  have hcw : cw (slF F Q W B) = cw F := by unfold cw; rw [q2]; exact cn_congr _ hsel
  refine ⟨⟨q1, by rw [hcw, q3 2 (by decide)]; exact s2, by rw [hcw, q3 1 (by decide)]; exact s3⟩, fun p hp => ?_, hcw⟩
  unfold ca
  rw [q2]
  refine cn_congr _ (fun k hk => ?_)
  rw [decide_eq_decide, hpl k hk]
  by_cases c : selW F k = true
  · have hs : F.2.2 0 k = 0 ∨ F.2.2 0 k = 1 := by simpa [selW] using c
    rw [if_pos c]
    constructor
    · intro q; rcases hp with e | e | e <;> subst e <;> exact absurd q (by decide)
    · intro q; rcases hs with e | e <;> rw [e] at q <;> rcases hp with r | r | r <;> subst r <;> exact absurd q (by decide)
  · rw [if_neg c]
