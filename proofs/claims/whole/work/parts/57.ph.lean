theorem cn_mono {p q : Nat → Bool} : ∀ L, (∀ k, k < L → p k = true → q k = true) → cn p L ≤ cn q L := by
  intro L
  induction L with
  | zero => intro _; exact Nat.le_refl _
  | succ L ih =>
    intro h
    have h1 := ih (fun k hk => h k (by omega))
    have h2 := h L (Nat.lt_succ_self L)
    rw [cn, cn]
    cases e1 : p L <;> cases e2 : q L <;> simp_all [Bool.toNat] <;> omega
theorem cn_or {p q : Nat → Bool} (h : ∀ k, ¬ (p k = true ∧ q k = true)) : ∀ L, cn p L + cn q L = cn (fun k => p k || q k) L := by
  intro L
  induction L with
  | zero => rfl
  | succ L ih =>
    rw [cn, cn, cn]
    have := h L
    cases e1 : p L <;> cases e2 : q L <;> simp_all [Bool.toNat] <;> omega
theorem ca_23 (F : FabT) : ca F 2 + ca F 3 = cn (fun k => decide (F.2.2 0 k = nI 2) || decide (F.2.2 0 k = nI 3)) F.2.1 :=
  cn_or (fun k q => by have a := of_decide_eq_true q.1; have b := of_decide_eq_true q.2; rw [a] at b; exact absurd b (by decide)) _
theorem out_RF {F : FabT} {Q : RowT} {M : MT} (hR : RF F M) (hQ : RQ F Q M) : RF (foL Q.2 0 0 0 F Q.1).1 (goL 8 0 0 M).2 ∧ RQ (foL Q.2 0 0 0 F Q.1).1 (foL Q.2 0 0 0 F Q.1).2 (goL 8 0 0 M).2 := by
  have hM : M.2.1 0 ≤ 64 := by rw [← hR.2.2.1]; exact hR.1.1
  have hL := hR.2.2.1
  have plM : ∀ n, n ∈ rr Q ↔ n < F.2.1 ∧ mOf M n 0 = 2 := fun n => by
    rw [hQ.1]
    constructor
    · intro q; exact ⟨q.1, by have := q.2; rw [hR.2.2.2.1 n q.1, dm_2] at this; exact this⟩
    · intro q; exact ⟨q.1, by rw [hR.2.2.2.1 n q.1, dm_2]; exact q.2⟩
  have hin : ∀ t, t < Q.2 → Q.1 t ∈ rr Q := fun t ht => rv_mem.mpr ⟨t, ht, rfl⟩
  have hlt : ∀ t, t < Q.2 → Q.1 t < F.2.1 := fun t ht => ((hQ.1 _).mp (hin t ht)).1
  have had : ∀ t, t < Q.2 → F.2.2 2 (Q.1 t) = mOf M (Q.1 t) 2 := fun t ht => hR.2.2.2.2.1 _ 2 (hlt t ht) (by decide) (by decide)
  have hpw : ∀ a b, a < b → b < Q.2 → (mOf M (Q.1 a) 7).toInt < (mOf M (Q.1 b) 7).toInt := rv_pw (f := fun n => (mOf M n 7).toInt) Q.2 hQ.2.2.1
  have hqP : ∀ a n i, mqP M a n i = true ↔ mOf M i 0 = 2 ∧ mOf M i 2 = a ∧ (mOf M i 7).toInt < (mOf M n 7).toInt := fun a n i => by
    unfold mqP; simp only [Bool.and_eq_true, decide_eq_true_iff, Int32.lt_iff_toInt_lt]
  obtain ⟨fi, hfie⟩ : ∃ fi : Nat → Bool, fi = fun n => decide (mqS M (mOf M n 2) n = 0) := ⟨_, rfl⟩
  have hfi0 : ∀ n, fi n = true ↔ mqS M (mOf M n 2) n = 0 := fun n => by rw [hfie]; exact decide_eq_true_iff
  have hfi : ∀ q, q < Q.2 → (fi (Q.1 q) = true ↔ ∀ t', t' < q → F.2.2 2 (Q.1 t') ≠ F.2.2 2 (Q.1 q)) := fun q hq => by
    rw [hfi0]
    unfold mqS
    rw [ctL_0, had q hq]
    constructor
    · intro h t' ht' e
      rw [had t' (by omega)] at e
      have := cn_some (p := mqP M (mOf M (Q.1 q) 2) (Q.1 q)) (k := Q.1 t') ((hqP _ _ _).mpr ⟨((plM _).mp (hin t' (by omega))).2, e, hpw t' q ht' hq⟩) (M.2.1 0) (by rw [← hL]; exact hlt t' (by omega))
      omega
    · intro h
      apply Classical.byContradiction
      intro hc
      obtain ⟨i, hi, hpi⟩ := cn_pos (Nat.pos_of_ne_zero hc)
      obtain ⟨i0, i2, i7⟩ := (hqP _ _ _).mp hpi
      obtain ⟨t', ht', he⟩ := rv_mem.mp ((plM i).mpr ⟨by rw [hL]; exact hi, i0⟩)
      rw [← he] at i2 i7
      have hlt' : t' < q := by
        rcases Nat.lt_trichotomy t' q with a | a | a
        · exact a
        · rw [a] at i7; omega
        · have := hpw q t' a ht'; omega
      exact h t' hlt' (by rw [had t' ht']; exact i2)
  have hU : ∀ a, a < 8 → ∀ n j, n < M.2.1 0 → j < M.2.1 0 → mqF M (nI a) 0 n = true → mqF M (nI a) 0 j = true → n = j := fun a ha n j hn hj f1 f2 => by
    obtain ⟨n0, n2, ns⟩ := (mqF_iff hM).mp f1
    obtain ⟨j0, j2, js⟩ := (mqF_iff hM).mp f2
    obtain ⟨t1, ht1, e1⟩ := rv_mem.mp ((plM n).mpr ⟨by rw [hL]; exact hn, n0⟩)
    obtain ⟨t2, ht2, e2⟩ := rv_mem.mp ((plM j).mpr ⟨by rw [hL]; exact hj, j0⟩)
    unfold mqS at ns js
    rw [ctL_0] at ns js
    rcases Nat.lt_trichotomy t1 t2 with q | q | q
    · have h7 := hpw t1 t2 q ht2
      rw [e1, e2] at h7
      have := cn_some (p := mqP M (nI a) j) (k := n) ((hqP _ _ _).mpr ⟨n0, n2, h7⟩) _ hn
      omega
    · rw [← e1, ← e2, q]
    · have h7 := hpw t2 t1 q ht1
      rw [e1, e2] at h7
      have := cn_some (p := mqP M (nI a) n) (k := j) ((hqP _ _ _).mpr ⟨j0, j2, h7⟩) _ hj
      omega
  obtain ⟨f1, f2, f3, f4, f5, f6⟩ := foL_at fi Q.2 Q.1 (rq_nd hQ) F (fun q hq => ⟨hlt q hq, hR.2.2.2.2.2.1 _ (hlt q hq)⟩) hfi Q.2 0 0 0 F Q.1 (Nat.zero_add _) (Nat.le_refl _) (fun _ _ _ => rfl) hR.1 hR.2.2.2.2.2.2 rfl rfl
    (fun a _ => ⟨fun _ t' h => absurd h (Nat.not_lt_zero t'), fun _ => Int32.zero_and⟩) rfl (fun w _ n => by rw [foV, if_neg (fun q => absurd q.1 (List.not_mem_nil))])
  obtain ⟨g1, g2, g3⟩ := goL_at hM hU 8 0 0 M rfl (GO_0 M)
  obtain ⟨D, hD⟩ : ∃ D, D = foL Q.2 0 0 0 F Q.1 := ⟨_, rfl⟩
  obtain ⟨N, hN⟩ : ∃ N, N = (goL 8 0 0 M).2 := ⟨_, rfl⟩
  rw [← hD] at f1 f2 f3 f4 f5 f6 ⊢
  rw [← hN] at g1 g2 g3 ⊢
  have hiff : ∀ n, n < F.2.1 → ((n ∈ rv Q.1 Q.2 ∧ fi n = true) ↔ PO M 8 n) := fun n hn => by
    have := plM n
    unfold rr at this
    rw [this, hfi0]
    obtain ⟨a, ha, he⟩ := hR.2.2.2.2.2.1 n hn
    rw [hR.2.2.2.2.1 n 2 hn (by decide) (by decide)] at he
    exact ⟨fun q => ⟨q.1.2, ⟨a, ha, he⟩, q.2⟩, fun q => ⟨⟨hn, q.1⟩, q.2.2⟩⟩
  have h7 : ∀ n, n < F.2.1 → mOf N n 7 = mOf M n 7 := fun n hn => by
    by_cases q : PO M 8 n
    · exact (g3 n (by rw [← hL]; exact hn)).1 q 7 (by decide)
    · exact (g3 n (by rw [← hL]; exact hn)).2 q 7 (by decide)
  have hpl : ∀ n, D.1.2.2 0 n = if n ∈ rv Q.1 Q.2 ∧ fi n = true then 3 else F.2.2 0 n := fun n => by
    rw [f6 0 (by decide) n, foV]; rfl
  refine ⟨⟨f1, fun w hw => ?_, ?_, fun n hn => ?_, fun n w hn h0 hw => ?_, fun n hn => ?_, f2⟩, fun n => ?_, fun n hn => ?_, ?_, ?_⟩
  · rw [f3, g1]; exact hR.2.1 w hw
  · rw [f4, g2]; exact hL
  · rw [f4] at hn
    rw [hpl n]
    by_cases q : PO M 8 n
    · rw [if_pos ((hiff n hn).mpr q), (g3 n (by rw [← hL]; exact hn)).1 q 0 (by decide)]; rfl
    · rw [if_neg (fun r => q ((hiff n hn).mp r)), (g3 n (by rw [← hL]; exact hn)).2 q 0 (by decide)]; exact hR.2.2.2.1 n hn
  · rw [f4] at hn
    rw [f6 w hw n, foV]
    have fw := hR.2.2.2.2.1 n w hn h0 hw
    by_cases q : PO M 8 n
    · rw [if_pos ((hiff n hn).mpr q), (g3 n (by rw [← hL]; exact hn)).1 q w (by omega), goW, if_neg (show ¬ w = 0 by omega), if_neg (show ¬ w = 0 by omega), hR.2.1 3 (by decide), fw]
    · rw [if_neg (fun r => q ((hiff n hn).mp r)), (g3 n (by rw [← hL]; exact hn)).2 q w (by omega)]; exact fw
  · rw [f4] at hn
    obtain ⟨a, ha, he⟩ := hR.2.2.2.2.2.1 n hn
    refine ⟨a, ha, ?_⟩
    rw [f6 2 (by decide) n, foV]
    by_cases q : n ∈ rv Q.1 Q.2 ∧ fi n = true
    · rw [if_pos q, if_neg (by decide), if_neg (by decide), he]
    · rw [if_neg q, he]
  · show n ∈ rv D.2.1 D.2.2 ↔ _
    rw [f5, List.mem_filter, f4, hpl n]
    have hq1 := hQ.1 n
    unfold rr at hq1
    constructor
    · rintro ⟨a, b⟩
      have b : fi n = false := by simpa using b
      rw [if_neg (fun q => by rw [b] at q; exact absurd q.2 (by decide))]
      exact hq1.mp a
    · rintro ⟨a, b⟩
      by_cases q : n ∈ rv Q.1 Q.2 ∧ fi n = true
      · rw [if_pos q] at b; exact absurd b (by decide)
      · rw [if_neg q] at b
        have hm := hq1.mpr ⟨a, b⟩
        refine ⟨hm, ?_⟩
        cases e : fi n
        · rfl
        · exact absurd ⟨hm, e⟩ q
  · have hn : n ∈ rv D.2.1 D.2.2 := hn
    rw [f5, List.mem_filter] at hn
    rw [h7 n ((hQ.1 n).mp hn.1).1, g2]; exact hQ.2.1 n hn.1
  · show (rv D.2.1 D.2.2).Pairwise _
    rw [f5]
    refine (List.Pairwise.filter _ hQ.2.2.1).imp_of_mem (fun {a b} ha hb q => ?_)
    rw [h7 a ((hQ.1 a).mp (List.mem_filter.mp ha).1).1, h7 b ((hQ.1 b).mp (List.mem_filter.mp hb).1).1]; exact q
  · rw [g2, hQ.2.2.2, ca_23, ca_23, f4]
    refine cn_congr _ (fun k hk => ?_)
    rw [hpl k]
    by_cases q : k ∈ rv Q.1 Q.2 ∧ fi k = true
    · have h2 : F.2.2 0 k = nI 2 := ((hQ.1 k).mp q.1).2
      rw [if_pos q, h2]; decide
    · rw [if_neg q]
theorem lwL_un (W : RowT) (n : Nat) : ∀ m t a s F Q B, (∀ t', t ≤ t' → t' < t + m → W.1 t' ≠ n) → (lwL W m t a s F Q B).1.2.2 0 n = F.2.2 0 n := by
  intro m
  induction m with
  | zero => intro t a s F Q B _; rfl
  | succ m ih =>
    intro t a s F Q B h
    rw [lwL]
    generalize (if F.2.2 2 (W.1 t) = a then s + 1 else 0) = s'
    split
    · rw [ih _ _ _ _ _ _ (fun t' h1 h2 => h t' (by omega) (by omega)), mvL_0, if_neg (fun e => h t (Nat.le_refl _) (by omega) e.symm)]
    · exact ih _ _ _ _ _ _ (fun t' h1 h2 => h t' (by omega) (by omega))
theorem lwL_or (W : RowT) (n : Nat) : ∀ m t a s F Q B, (lwL W m t a s F Q B).1.2.2 0 n = F.2.2 0 n ∨ (lwL W m t a s F Q B).1.2.2 0 n = 2 := by
  intro m
  induction m with
  | zero => intro t a s F Q B; exact Or.inl rfl
  | succ m ih =>
    intro t a s F Q B
    rw [lwL]
    generalize (if F.2.2 2 (W.1 t) = a then s + 1 else 0) = s'
    split
    · rcases ih (t + 1) (F.2.2 2 (W.1 t)) s' (mvL F (W.1 t) 2) (rAdd Q (W.1 t)) B with e | e
      · rw [mvL_0] at e
        by_cases c : n = W.1 t
        · rw [if_pos c] at e; exact Or.inr e
        · rw [if_neg c] at e; exact Or.inl e
      · exact Or.inr e
    · exact ih _ _ _ _ _ _
theorem slot_T {F : FabT} {Q W B : RowT} {M : MT} (hR : RF F M) (hQ : RQ F Q M) : RF (slT F Q W B) (mG1 M) ∧ RQ (slT F Q W B) (slL F Q W B).2.1 (mG1 M) ∧ ca (slT F Q W B) 3 = ca F 3 ∧ ca F 4 ≤ ca (slT F Q W B) 4 := by
  have hL := hR.2.2.1
  have h64 := hR.1.1
  obtain ⟨hz, ho⟩ := rr_inj (sort_rr hR W)
  have hmem := sortW_mem h64 W
  have hnd := sortW_nd h64 W
  rw [sort_rr hR W] at hnd
  have hmem2 : ∀ t, t < (mSort M).2 → (mSort M).1 t < F.2.1 ∧ selW F ((mSort M).1 t) = true := fun t ht => by
    rw [← hmem, sort_rr hR W]; exact rv_mem.mpr ⟨t, ht, rfl⟩
  have hz64 : (mSort M).2 ≤ 64 := (mSort_ok (by rw [← hL]; exact h64)).1
  have hMa : RF F (mR M (mSort M)) := ⟨hR.1, hR.2.1, hL, hR.2.2.2.1, hR.2.2.2.2.1, hR.2.2.2.2.2.1, hR.2.2.2.2.2.2⟩
  have hQa : RQ F Q (mR M (mSort M)) := ⟨hQ.1, hQ.2.1, hQ.2.2.1, hQ.2.2.2⟩
  have hlock := lock (mSort M).1 (mSort M).2 hz64 (sortW F W) (fun t ht => ho t (by rw [hz]; exact ht)) hnd F (mR M (mSort M)) (mSort M).2 0 (-9) 0 F Q (B.1, 0) (mR M (mSort M)) (Nat.zero_add _) (fun t' _ h2 => hmem2 t' h2) (Or.inl ⟨rfl, rfl⟩)
    ⟨hMa, hQa, rfl, fun _ _ _ => rfl, rfl, rfl, rfl, [], List.Perm.refl _, fun x hx => absurd hx (List.not_mem_nil), fun x hx => absurd hx (List.not_mem_nil), List.Pairwise.nil⟩
  have e1 : lwL (sortW F W) (mSort M).2 0 (-9) 0 F Q (B.1, 0) = slL F Q W B := by rw [slL, hz]
  have e2 : mwL (mSort M).1 (mSort M).2 0 Q.2 0 (mR M (mSort M)) = mWins (mR M (mSort M)) := by
    rw [mWins, mR_3]
    have : mCt (mR M (mSort M)) 2 = Q.2 := by
      rw [rq_len hQ, mCt_cn, mR_0, ← hL]
      exact cn_congr _ (fun k hk => by rw [decide_eq_decide, hR.2.2.2.1 k hk, mOf_mR]; exact dm_2.symm)
    rw [this]; rfl
  rw [e1, e2] at hlock
  have hca : ∀ p, p = 3 ∨ p = 4 → ca (slL F Q W B).1 p = ca F p := by
    intro p hp
    unfold ca
    have hLL : (slL F Q W B).1.2.1 = F.2.1 := hlock.2.2.1
    rw [hLL]
    refine cn_congr _ (fun k hk => ?_)
    rw [decide_eq_decide, ← e1]
    by_cases hs : selW F k = true
    · have hs : F.2.2 0 k = 0 ∨ F.2.2 0 k = 1 := by simpa [selW] using hs
      have h3 : ¬ F.2.2 0 k = nI p := by rcases hs with e | e <;> rw [e] <;> rcases hp with r | r <;> subst r <;> decide
      rcases lwL_or (sortW F W) k (mSort M).2 0 (-9) 0 F Q (B.1, 0) with e | e
      · rw [e]
      · rw [e]; exact ⟨fun q => absurd q (by rcases hp with r | r <;> subst r <;> decide), fun q => absurd q h3⟩
    · rw [lwL_un (sortW F W) k (mSort M).2 0 (-9) 0 F Q (B.1, 0) (fun t' _ h2 e => hs (by rw [← e, ho t' (by omega)]; exact (hmem2 t' (by omega)).2))]
  have hoM : (mWins (mR M (mSort M))).2.2.2 = (mSort M).1 := hlock.2.2.2.2.2.1
  have h3M : (mWins (mR M (mSort M))).2.1 3 = (mSort M).2 := by rw [hlock.2.2.2.2.2.2.1, mR_3]
  obtain ⟨t1, t2⟩ := turn_RF (F := (slL F Q W B).1) (Q := (slL F Q W B).2.1) (B := (slL F Q W B).2.2) hnd hlock hoM h3M
  have hlQ : RQ (slL F Q W B).1 (slL F Q W B).2.1 (mWins (mR M (mSort M))) := hlock.2.1
  have tkk := turn_key (F := (slL F Q W B).1) (Q := (slL F Q W B).2.1) (B := (slL F Q W B).2.2) hnd hlock hoM h3M
  have tk := tkk.2.2.2.2.2.1
  have hca2 : ca (slT F Q W B) 3 = ca (slL F Q W B).1 3 := by
    have a1 := hlQ.2.2.2
    have a2 := rq_len hlQ
    have b1 := t2.2.2.2
    have b2 := rq_len t2
    rw [tk] at b1
    show ca (tbL (slL F Q W B).2.2 (slL F Q W B).2.2.2 0 (slL F Q W B).1) 3 = _
    omega
  refine ⟨t1, t2, hca2.trans (hca 3 (Or.inl rfl)), ?_⟩
  rw [← hca 4 (Or.inr rfl)]
  show cn _ _ ≤ cn _ (tbL (slL F Q W B).2.2 (slL F Q W B).2.2.2 0 (slL F Q W B).1).2.1
  rw [tkk.2.1]
  refine cn_mono _ (fun k hk q => ?_)
  have q := of_decide_eq_true q
  apply decide_eq_true
  rcases tkk.2.2.2.2.2.2.2 k hk with ⟨j, _, _, hs, _⟩ | ⟨k1, _⟩
  · have hs : (slL F Q W B).1.2.2 0 k = 0 ∨ (slL F Q W B).1.2.2 0 k = 1 := by simpa [selW] using hs
    rw [q] at hs; exact absurd hs (by decide)
  · exact (k1 0 (by decide)).trans q
theorem foL_un (n : Nat) : ∀ m t sv l F g, l ≤ t → (∀ t', t ≤ t' → t' < t + m → g t' ≠ n) → (foL m t sv l F g).1.2.2 0 n = F.2.2 0 n := by
  intro m
  induction m with
  | zero => intro t sv l F g _ _; rfl
  | succ m ih =>
    intro t sv l F g hl h
    have hne : n ≠ g t := fun e => h t (Nat.le_refl _) (by omega) e.symm
    rw [foL]
    split
    · rw [ih _ _ _ _ _ (by omega) (fun t' h1 h2 => h t' (by omega) (by omega)), enL_at _ _ _ _ _ (by decide), if_neg hne]
    · exact ih _ _ _ _ _ (by omega) (fun t' h1 h2 => by rw [up_n (by omega)]; exact h t' (by omega) (by omega))
theorem foL_l : ∀ m t sv l F g, (foL m t sv l F g).2.2 ≤ l + m := by
  intro m
  induction m with
  | zero => intro t sv l F g; exact Nat.le_refl _
  | succ m ih =>
    intro t sv l F g
    rw [foL]
    split
    · have := ih (t + 1) (sv ||| ((1 : Int32) <<< (F.2.2 2 (g t) &&& 31))) l (enL F (g t) 3) g; omega
    · have := ih (t + 1) sv (l + 1) F (va_up g l (g t)); omega
theorem slot_RF {F : FabT} {Q W B : RowT} {M : MT} (hR : RF F M) (hQ : RQ F Q M) : RF (slF F Q W B) (mGo M).2 ∧ RQ (slF F Q W B) (slO F Q W B).2 (mGo M).2 ∧ nI (mGo M).1 = (slF F Q W B).2.2 7 3 - F.2.2 7 3 ∧
    ca F 3 ≤ ca (slF F Q W B) 3 ∧ (0 < (slL F Q W B).2.1.2 → ca F 3 < ca (slF F Q W B) 3) ∧ ca F 4 ≤ ca (slF F Q W B) 4 := by
  obtain ⟨t1, t2, hca, hca4⟩ := slot_T (W := W) (B := B) hR hQ
  obtain ⟨u1, u2⟩ := out_RF t1 t2
  have u1 : RF (slO F Q W B).1 (goL 8 0 0 (mG1 M)).2 := u1
  have u2 : RQ (slO F Q W B).1 (slO F Q W B).2 (goL 8 0 0 (mG1 M)).2 := u2
  have hc := goL_c 8 0 0 (mG1 M) (by rw [← t1.2.2.1]; exact t1.1.1)
  have hct : ∀ {G : FabT} {N : MT}, RF G N → mCt N 3 = ca G 3 := fun {G N} h => by
    rw [mCt_cn, ← h.2.2.1]
    exact cn_congr _ (fun k hk => by rw [decide_eq_decide, h.2.2.2.1 k hk]; exact dm_3.symm)
  rw [hct t1, hct u1, hca] at hc
  refine ⟨⟨u1.1, fun w hw => ?_, u1.2.2.1, u1.2.2.2.1, u1.2.2.2.2.1, u1.2.2.2.2.2.1, u1.2.2.2.2.2.2⟩, ⟨u2.1, u2.2.1, u2.2.2.1, u2.2.2.2⟩, ?_, ?_, fun hpos => ?_, ?_⟩
  · show va_up (slO F Q W B).1.1 3 ((slO F Q W B).1.1 3 + 1) w = va_up (goL 8 0 0 (mG1 M)).2.1 3 ((goL 8 0 0 (mG1 M)).2.1 3 + 1) w
    by_cases e : w = 3
    · rw [e, up_s, up_s, u1.2.1 3 (by decide)]
    · rw [up_n e, up_n e]; exact u1.2.1 w hw
  · have f1 : (slF F Q W B).2.2 7 3 = nI (ca (slO F Q W B).1 3) := u1.2.2.2.2.2.2 3 (by decide)
    have f2 : F.2.2 7 3 = nI (ca F 3) := hR.2.2.2.2.2.2 3 (by decide)
    rw [f1, f2, pk_sub (by omega)]
    show nI (goL 8 0 0 (mG1 M)).1 = _
    congr 1; omega
  · show ca F 3 ≤ ca (slO F Q W B).1 3
    omega
  · show ca F 3 < ca (slO F Q W B).1 3
    have a1 := t2.2.2.2
    have a2 := rq_len t2
    have b1 := u2.2.2.2
    have b2 := rq_len u2
    rw [(goL_keep 8 0 0 (mG1 M)).2.1] at b1
    have hl : (slO F Q W B).2.2 + 1 ≤ (slL F Q W B).2.1.2 := by
      obtain ⟨z, hz⟩ : ∃ z, (slL F Q W B).2.1.2 = z + 1 := ⟨(slL F Q W B).2.1.2 - 1, by omega⟩
      unfold slO
      rw [hz, foL, if_pos Int32.zero_and]
      have := foL_l z (0 + 1) (0 ||| ((1 : Int32) <<< ((slT F Q W B).2.2 2 ((slL F Q W B).2.1.1 0) &&& 31))) 0 (enL (slT F Q W B) ((slL F Q W B).2.1.1 0) 3) (slL F Q W B).2.1.1
      omega
    omega
  · refine Nat.le_trans hca4 ?_
    have hLL : (slO F Q W B).1.2.1 = (slT F Q W B).2.1 := by rw [u1.2.2.1, t1.2.2.1, (goL_keep 8 0 0 (mG1 M)).2.1]
    show cn _ _ ≤ cn _ (slO F Q W B).1.2.1
    rw [hLL]
    refine cn_mono _ (fun k hk q => ?_)
    have q := of_decide_eq_true q
    apply decide_eq_true
    have := foL_un k (slL F Q W B).2.1.2 0 0 0 (slT F Q W B) (slL F Q W B).2.1.1 (Nat.le_refl _) (fun t' _ h2 e => by
      have := ((t2.1 k).mp (by rw [← e]; exact rv_mem.mpr ⟨t', by omega, rfl⟩)).2
      rw [q] at this; exact absurd this (by decide))
    exact this.trans q
