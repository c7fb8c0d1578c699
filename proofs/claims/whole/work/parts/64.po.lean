theorem ok_keep {σ : ST} {M : MT} (h : CP σ M) (a : Int32) : OK σ (xKeep σ a) (yKeep M a) := by
  unfold xKeep yKeep
  by_cases c : wi a 0 1 = true
  · rw [if_pos c, if_pos c]
    obtain ⟨k, hk, hke⟩ := wi_nat (n := 1) (by decide) c
    rw [hke, nI_clamp (by omega)]
    obtain ⟨h1, h2, h3, h4, h5, h6, h7⟩ := h
    have hd := h1.2.2.2.2.1
    have hix : ∀ p, ix (σ.2.2.1.1 0) (M.2.1 2) p < 10 := fun p => Nat.mod_lt _ (by decide)
    have fn : ∀ j, j ≠ 12 + k → (cpS σ (12 + k) 0).1 j = σ.1 j := fun j hj => cpS_fn hj
    have qn : ∀ j, j ≠ 12 + k → (cpS σ (12 + k) 0).2.1 j = σ.2.1 j := fun j hj => cpS_qn hj
    have nk : (mWr M (10 + k)).2.2.1 1 = wrG M (10 + k) 512 := mKp_1 _ _
    refine ⟨by show nI _ = nI _; rw [h2.1.2.2.1], ⟨⟨?_, ?_, fun j hj => ?_, h1.2.2.2.1, h1.2.2.2.2.1, h1.2.2.2.2.2.1, h1.2.2.2.2.2.2⟩, ?_, h3, fun p hp => ?_, fun q hq => ?_, h6, fun t ht => ?_⟩, rfl⟩
    · show PK ((cpS σ (12 + k) 0).1 0)
      rw [fn 0 (by omega)]; exact h1.1
    · show ROK ((cpS σ (12 + k) 0).1 0).2.1 ((cpS σ (12 + k) 0).2.1 0)
      rw [fn 0 (by omega), qn 0 (by omega)]; exact h1.2.1
    · show ((cpS σ (12 + k) 0).1 j).2.1 ≤ 64 ∧ ((cpS σ (12 + k) 0).2.1 j).2 ≤ 64
      by_cases e : j = 12 + k
      · rw [e, cpS_f, cpS_q]; exact h1.2.2.1 0 (by decide)
      · rw [fn j e, qn j e]; exact h1.2.2.1 j hj
    · show CC ((cpS σ (12 + k) 0).1 0) ((cpS σ (12 + k) 0).2.1 0) _
      rw [fn 0 (by omega), qn 0 (by omega)]; exact h2.ec ⟨fun _ _ => rfl, rfl, rfl, fun _ _ => rfl⟩
    · have := hix p
      have hp : p < M.2.1 2 := hp
      show SNAP ((cpS σ (12 + k) 0).1 (2 + ix (σ.2.2.1.1 0) (M.2.1 2) p)) ((cpS σ (12 + k) 0).2.1 (2 + ix (σ.2.2.1.1 0) (M.2.1 2) p)) ((mWr M (10 + k)).2.2.1 1) p
      rw [fn _ (by omega), qn _ (by omega), nk]
      exact (h4 p hp).cg (fun t ht => wrG_ne M (by omega) ht)
    · show va_up σ.2.2.1.2 2 (upd (σ.2.2.1.2 2) k 1) 2 q = va_up (mWr M (10 + k)).2.2.1 2 (upd (M.2.2.1 2) k 1) 2 q ∧ (¬ va_up (mWr M (10 + k)).2.2.1 2 (upd (M.2.2.1 2) k 1) 2 q = 0 → SNAP ((cpS σ (12 + k) 0).1 (12 + q)) ((cpS σ (12 + k) 0).2.1 (12 + q)) ((mWr M (10 + k)).2.2.1 1) (10 + q))
      rw [up_s, up_s, nk]
      by_cases e : q = k
      · rw [e, ud_s, ud_s, cpS_f, cpS_q]
        exact ⟨rfl, fun _ => ⟨M, h2.cp, KR_wr M _⟩⟩
      · rw [ud_ne e, ud_ne e, fn _ (by omega), qn _ (by omega)]
        exact ⟨(h5 q hq).1, fun r => ((h5 q hq).2 r).cg (fun t ht => wrG_ne M (by omega) ht)⟩
    · exact h7 t ht
  · rw [if_neg c, if_neg c]; exact ⟨rfl, h, rfl⟩
theorem findN_un {p : Nat → Bool} {n : Nat} (hn : p n = true) : ∀ m k, k ≤ n → n < k + m → (∀ j, k ≤ j → j < k + m → p j = true → j = n) → findN p m k = nI n := by
  intro m
  induction m with
  | zero => intro k h1 h2; omega
  | succ m ih =>
    intro k h1 h2 hu
    rw [findN]
    by_cases e : p k = true
    · rw [if_pos e, hu k (Nat.le_refl _) (by omega) e]
    · rw [if_neg e]
      have : k ≠ n := fun q => e (by rw [q]; exact hn)
      exact ih (k + 1) (by omega) (by omega) (fun j a b c => hu j (by omega) (by omega) c)
theorem findN_no {p : Nat → Bool} : ∀ m k, (∀ j, k ≤ j → j < k + m → p j = false) → findN p m k = -9 := by
  intro m
  induction m with
  | zero => intro k _; rfl
  | succ m ih =>
    intro k h
    rw [findN, if_neg (by rw [h k (Nat.le_refl _) (by omega)]; decide)]
    exact ih (k + 1) (fun j a b => h j (by omega) (by omega))
/-- the same address before t -/
def sb (F : FabT) (Q : RowT) (a : Int32) (t : Nat) : Nat := ((rv Q.1 t).filter (fun n => decide (F.2.2 2 n = a))).length
theorem sb_s (F : FabT) (Q : RowT) (a : Int32) (t : Nat) : sb F Q a (t + 1) = if F.2.2 2 (Q.1 t) = a then sb F Q a t + 1 else sb F Q a t := by
  unfold sb
  rw [rv, List.filter_cons]
  by_cases c : F.2.2 2 (Q.1 t) = a
  · rw [if_pos (decide_eq_true c), if_pos c]; rfl
  · rw [if_neg (by rw [decide_eq_true_iff]; exact c), if_neg c]
theorem sb_mono (F : FabT) (Q : RowT) (a : Int32) {t u : Nat} (h : t ≤ u) : sb F Q a t ≤ sb F Q a u := by
  induction h with
  | refl => exact Nat.le_refl _
  | step _ ih => rw [sb_s]; split <;> omega
theorem sb_le (F : FabT) (Q : RowT) (a : Int32) (t : Nat) : sb F Q a t ≤ t := by
  unfold sb; exact Nat.le_trans (List.length_filter_le _ _) (by rw [rv_len]; exact Nat.le_refl _)
theorem qFind_at (F : FabT) (Q : RowT) (a k : Int32) : ∀ m t, t + m = Q.2 → (qFind F Q a k m t (sb F Q a t) = -9 ∧ ∀ j, t ≤ j → j < Q.2 → ¬ (F.2.2 2 (Q.1 j) = a ∧ nI (sb F Q a j) = k)) ∨
    ∃ j, t ≤ j ∧ j < Q.2 ∧ F.2.2 2 (Q.1 j) = a ∧ nI (sb F Q a j) = k ∧ qFind F Q a k m t (sb F Q a t) = nI (Q.1 j) := by
  intro m
  induction m with
  | zero => intro t ht; exact Or.inl ⟨rfl, fun j h1 h2 => by omega⟩
  | succ m ih =>
    intro t ht
    rw [qFind]
    by_cases c1 : F.2.2 2 (Q.1 t) = a
    · rw [if_pos c1]
      by_cases c2 : nI (sb F Q a t) = k
      · rw [if_pos c2]; exact Or.inr ⟨t, Nat.le_refl _, by omega, c1, c2, rfl⟩
      · rw [if_neg c2]
        have e : sb F Q a t + 1 = sb F Q a (t + 1) := by rw [sb_s, if_pos c1]
        rw [e]
        rcases ih (t + 1) (by omega) with ⟨e1, e2⟩ | ⟨j, j1, j2, j3, j4, j5⟩
        · refine Or.inl ⟨e1, fun j h1 h2 => ?_⟩
          by_cases ej : j = t
          · rw [ej]; exact fun q => c2 q.2
          · exact e2 j (by omega) h2
        · exact Or.inr ⟨j, by omega, j2, j3, j4, j5⟩
    · rw [if_neg c1]
      have e : sb F Q a t = sb F Q a (t + 1) := by rw [sb_s, if_neg c1]
      rw [e]
      rcases ih (t + 1) (by omega) with ⟨e1, e2⟩ | ⟨j, j1, j2, j3, j4, j5⟩
      · refine Or.inl ⟨e1, fun j h1 h2 => ?_⟩
        by_cases ej : j = t
        · rw [ej]; exact fun q => c1 q.1
        · exact e2 j (by omega) h2
      · exact Or.inr ⟨j, by omega, j2, j3, j4, j5⟩
theorem mqS_sb {F : FabT} {Q : RowT} {M : MT} (hR : RF F M) (hQ : RQ F Q M) (a : Int32) {t : Nat} (ht : t < Q.2) : mqS M a (Q.1 t) = sb F Q a t := by
  have hL := hR.2.2.1
  have hpw : ∀ x y, x < y → y < Q.2 → (mOf M (Q.1 x) 7).toInt < (mOf M (Q.1 y) 7).toInt := rv_pw (f := fun n => (mOf M n 7).toInt) Q.2 hQ.2.2.1
  have hmem : ∀ i, i < Q.2 → Q.1 i < F.2.1 ∧ mOf M (Q.1 i) 0 = 2 := fun i hi => by
    have := (hQ.1 (Q.1 i)).mp (rv_mem.mpr ⟨i, hi, rfl⟩)
    refine ⟨this.1, ?_⟩
    have h2 := this.2
    rw [hR.2.2.2.1 _ this.1, dm_2] at h2; exact h2
  unfold mqS sb
  rw [ctL_0]
  refine (len_cn (l := (rv Q.1 t).filter (fun n => decide (F.2.2 2 n = a))) (List.Pairwise.filter _ ?_) (fun i => ?_)).symm
  · have hnd := rq_nd hQ
    have : ∀ z, t ≤ z → (rv Q.1 z).Nodup → (rv Q.1 t).Nodup := by
      intro z hz
      induction hz with
      | refl => exact id
      | step _ ih => intro q; rw [rv, List.nodup_cons] at q; exact ih q.2
    exact this Q.2 (by omega) hnd
  · rw [List.mem_filter, decide_eq_true_iff]
    unfold mqP
    simp only [Bool.and_eq_true, decide_eq_true_iff, Int32.lt_iff_toInt_lt]
    constructor
    · rintro ⟨q1, q2⟩
      obtain ⟨x, hx, hxe⟩ := rv_mem.mp q1
      obtain ⟨m1, m2⟩ := hmem x (by omega)
      rw [← hxe] at q2 ⊢
      exact ⟨by rw [← hL]; exact m1, m2, by rw [← hR.2.2.2.2.1 _ 2 m1 (by decide) (by decide)]; exact q2, hpw x t hx ht⟩
    · rintro ⟨q0, q1, q2, q3⟩
      rw [← hL] at q0
      obtain ⟨x, hx, hxe⟩ := rv_mem.mp ((hQ.1 i).mpr ⟨q0, by rw [hR.2.2.2.1 i q0, dm_2]; exact q1⟩)
      refine ⟨rv_mem.mpr ⟨x, ?_, hxe⟩, by rw [hR.2.2.2.2.1 i 2 q0 (by decide) (by decide)]; exact q2⟩
      rw [← hxe] at q3
      rcases Nat.lt_trichotomy x t with e | e | e
      · exact e
      · rw [e] at q3; omega
      · have := hpw t x e hx; omega
theorem qFind_mQ {F : FabT} {Q : RowT} {M : MT} (hR : RF F M) (hQ : RQ F Q M) (a k : Int32) : qFind F Q a k Q.2 0 0 = mQ M a k := by
  have hL := hR.2.2.1
  have hz := (rq_ok hR.1 hQ).1
  have hmem : ∀ i, i < Q.2 → Q.1 i < F.2.1 ∧ mOf M (Q.1 i) 0 = 2 := fun i hi => by
    have := (hQ.1 (Q.1 i)).mp (rv_mem.mpr ⟨i, hi, rfl⟩)
    refine ⟨this.1, ?_⟩
    have h2 := this.2
    rw [hR.2.2.2.1 _ this.1, dm_2] at h2; exact h2
  have hF : ∀ n, n < F.2.1 → (mqF M a k n = true ↔ ∃ t, t < Q.2 ∧ Q.1 t = n ∧ F.2.2 2 n = a ∧ nI (sb F Q a t) = k) := fun n hn => by
    unfold mqF
    simp only [Bool.and_eq_true, decide_eq_true_iff]
    rw [← hR.2.2.2.2.1 n 2 hn (by decide) (by decide)]
    constructor
    · rintro ⟨q1, q2, q3⟩
      obtain ⟨t, ht, he⟩ := rv_mem.mp ((hQ.1 n).mpr ⟨hn, by rw [hR.2.2.2.1 n hn, dm_2]; exact q1⟩)
      exact ⟨t, ht, he, q2, by rw [← he, mqS_sb hR hQ a ht] at q3; exact q3⟩
    · rintro ⟨t, ht, he, q2, q3⟩
      refine ⟨by rw [← he]; exact (hmem t ht).2, q2, ?_⟩
      rw [← he, mqS_sb hR hQ a ht]; exact q3
  have e0 : sb F Q a 0 = 0 := rfl
  have h := qFind_at F Q a k Q.2 0 (Nat.zero_add _)
  rw [e0] at h
  unfold mQ
  rw [← hL]
  rcases h with ⟨h1, h2⟩ | ⟨j, j1, j2, j3, j4, j5⟩
  · rw [h1]
    refine (findN_no _ _ (fun n _ hn => ?_)).symm
    rw [← Bool.not_eq_true]
    intro q
    obtain ⟨t, ht, he, q2, q3⟩ := (hF n (by omega)).mp q
    exact h2 t (Nat.zero_le _) ht ⟨by rw [he]; exact q2, q3⟩
  · rw [j5]
    refine (findN_un ((hF _ (hmem j j2).1).mpr ⟨j, j2, rfl, j3, j4⟩) _ _ (Nat.zero_le _) (by have := (hmem j j2).1; omega) (fun n _ hn q => ?_)).symm
    obtain ⟨t, ht, he, q2, q3⟩ := (hF n (by omega)).mp q
    rw [← he] at q2
    have e : sb F Q a t = sb F Q a j := by
      have a1 := sb_le F Q a t
      have a2 := sb_le F Q a j
      exact (nI_eq (by omega) (by omega)).mp (q3.trans j4.symm)
    have ht' : t = j := by
      rcases Nat.lt_trichotomy t j with q | q | q
      · have := sb_mono F Q a (show t + 1 ≤ j from q)
        rw [sb_s, if_pos q2] at this; omega
      · exact q
      · have := sb_mono F Q a (show j + 1 ≤ t from q)
        rw [sb_s, if_pos j3] at this; omega
    rw [← he, ht']
theorem ok_queue {σ : ST} {M : MT} (h : CP σ M) (a k : Int32) : OK σ (xQueue σ a k) (yQueue M a k) := by
  unfold xQueue yQueue
  split
  · exact ⟨qFind_mQ h.2.1.1 h.2.1.2.1 a k, h, rfl⟩
  · exact ⟨rfl, h, rfl⟩
theorem srL_sorted (pr : Nat → Int32) (sel : Nat → Bool) : ∀ m k l, (∀ x, x ∈ l → x < k) → l.Pairwise (fun y z => ah pr z y = true) → (srL (fun k y => ah pr k y) sel m k l).Pairwise (fun y z => ah pr z y = true) := by
  intro m
  induction m with
  | zero => intro k l _ h; exact h
  | succ m ih =>
    intro k l hl h
    rw [srL]
    by_cases c : sel k = true
    · rw [if_pos c]
      refine ih (k + 1) _ (fun x hx => ?_) (oin_sorted pr k l (fun q => absurd (hl k q) (Nat.lt_irrefl k)) h)
      rcases List.mem_cons.mp ((oin_perm _ _ _).mem_iff.mp hx) with e | e
      · omega
      · have := hl x e; omega
    · rw [if_neg c]; exact ih (k + 1) l (fun x hx => by have := hl x hx; omega) h
theorem ok_turned {σ : ST} {M : MT} (h : CP σ M) (k : Int32) : OK σ (xTurned σ k) (yTurned M k) := by
  unfold xTurned yTurned
  by_cases c : 0 ≤ k
  · rw [if_pos c, if_pos c]
    refine ⟨?_, h.r14 _, rfl⟩
    show rAt (sortT (σ.1 0) (σ.2.1 14)) k = findN (mtF M k) (M.2.1 0) 0
    have hR := h.2.1.1
    have h64 := hR.1.1
    have hL := hR.2.2.1
    obtain ⟨F, hF⟩ : ∃ F, F = σ.1 0 := ⟨_, rfl⟩
    have hpl := fun n (hn : n < (σ.1 0).2.1) => h.pl hn
    rw [← hF] at hR h64 hL hpl ⊢
    obtain ⟨w, hw⟩ : ∃ w, w = sortT F (σ.2.1 14) := ⟨_, rfl⟩
    have hrr : rr w = srL (fun k y => ah (F.2.2 3) k y) (selT F) F.2.1 0 [] := by
      rw [hw]; unfold sortT
      rw [srtL_rr F _ _ F.2.1 0 ((σ.2.1 14).1, 0) (Nat.le_refl _) (by omega)]
      exact srL_congr F.2.1 (fun _ _ => rfl) (fun a b _ _ => gB_ah F a b) F.2.1 0 [] (by omega) (fun x hx => absurd hx (List.not_mem_nil))
    have hnd : (rr w).Nodup := by rw [hrr]; exact srL_nodup _ _ _ List.nodup_nil (fun x hx => absurd hx (List.not_mem_nil))
    have hmem : ∀ x, x ∈ rr w ↔ x < F.2.1 ∧ selT F x = true := fun x => by
      rw [hrr, srL_mem]
      exact ⟨fun q => q.elim (fun e => absurd e (List.not_mem_nil)) (fun r => ⟨by omega, r.2.2⟩), fun q => Or.inr ⟨Nat.zero_le _, by omega, q.2⟩⟩
    have hpw : (rr w).Pairwise (fun y z => ah (F.2.2 3) z y = true) := by rw [hrr]; exact srL_sorted _ _ _ _ _ (fun x hx => absurd hx (List.not_mem_nil)) List.Pairwise.nil
    have hidx := ah_idx (F.2.2 3) w.1 w.2 hpw
    have hz : w.2 ≤ 64 := by
      have := len_cn (p := selT F) (L := F.2.1) hnd hmem
      rw [rr, rv_len] at this
      have := cn_le (selT F) F.2.1
      omega
    have hs : ∀ t, t < w.2 → w.1 t < F.2.1 ∧ mOf M (w.1 t) 0 = 1 := fun t ht => by
      have := (hmem (w.1 t)).mp (rv_mem.mpr ⟨t, ht, rfl⟩)
      refine ⟨this.1, ?_⟩
      rw [← hpl _ this.1]; simpa [selT] using this.2
    have hcnt : ∀ t, t < w.2 → mtS M (w.1 t) = t := fun t ht => by
      obtain ⟨t1, t2⟩ := hs t ht
      refine Eq.trans ?_ (hidx t ht)
      unfold mtS
      rw [ctL_0, ← hL, List.countP_eq_length_filter]
      refine (len_cn (l := (rr w).filter (fun m => ah (F.2.2 3) m (w.1 t))) (List.Pairwise.filter _ hnd) (fun i => ?_)).symm
      rw [List.mem_filter, hmem]
      unfold mtP
      simp only [Bool.and_eq_true, decide_eq_true_iff]
      constructor
      · rintro ⟨⟨q1, q2⟩, q3⟩
        have e1 : mOf M i 0 = 1 := by rw [← hpl i q1]; simpa [selT] using q2
        refine ⟨q1, fun e => ?_, e1, ?_⟩
        · rw [e, ah_irr] at q3; exact absurd q3 (by decide)
        · rw [mAh_ah]; unfold ah at q3 ⊢
          rw [hR.2.2.2.2.1 i 3 q1 (by decide) (by decide), hR.2.2.2.2.1 _ 3 t1 (by decide) (by decide)] at q3; exact q3
      · rintro ⟨q1, _, q3, q4⟩
        refine ⟨⟨q1, by rw [← hpl i q1] at q3; simpa [selT] using q3⟩, ?_⟩
        rw [mAh_ah] at q4; unfold ah at q4 ⊢
        rw [hR.2.2.2.2.1 i 3 q1 (by decide) (by decide), hR.2.2.2.2.1 _ 3 t1 (by decide) (by decide)]; exact q4
    have hFi : ∀ n, n < F.2.1 → (mtF M k n = true ↔ ∃ t, t < w.2 ∧ w.1 t = n ∧ nI t = k) := fun n hn => by
      unfold mtF
      simp only [Bool.and_eq_true, decide_eq_true_iff]
      constructor
      · rintro ⟨q1, q2⟩
        obtain ⟨t, ht, he⟩ := rv_mem.mp ((hmem n).mpr ⟨hn, by rw [← hpl n hn] at q1; simpa [selT] using q1⟩)
        exact ⟨t, ht, he, by rw [← he, hcnt t ht] at q2; exact q2⟩
      · rintro ⟨t, ht, he, q⟩
        rw [← he, hcnt t ht]; exact ⟨(hs t ht).2, q⟩
    rw [← hw]
    unfold rAt
    rw [← hL]
    obtain ⟨j, hj, hje⟩ := nI_of (Int32.not_lt.mpr c)
    rw [hje] at hFi c ⊢
    by_cases c2 : j < w.2
    · rw [if_pos ⟨c, (nI_ltI hj (by omega)).mpr c2⟩, nI_clamp hj]
      refine (findN_un ((hFi _ (hs j c2).1).mpr ⟨j, c2, rfl, rfl⟩) _ _ (Nat.zero_le _) (by have := (hs j c2).1; omega) (fun n _ hn q => ?_)).symm
      obtain ⟨t, ht, he, q3⟩ := (hFi n (by omega)).mp q
      rw [← he, (nI_eq (by omega) hj).mp q3]
    · rw [if_neg (fun q => c2 ((nI_ltI hj (by omega)).mp q.2))]
      refine (findN_no _ _ (fun n _ hn => ?_)).symm
      rw [← Bool.not_eq_true]
      intro q
      obtain ⟨t, ht, he, q3⟩ := (hFi n (by omega)).mp q
      have := (nI_eq (by omega) hj).mp q3
      omega
  · rw [if_neg c, if_neg c]; exact ⟨rfl, h, rfl⟩
