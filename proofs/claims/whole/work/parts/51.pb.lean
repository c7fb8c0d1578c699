def dm (x : Int32) : Int32 := if x = 5 then 4 else x
theorem dm_0 {x : Int32} : dm x = 0 ↔ x = 0 := by
  unfold dm; by_cases h : x = 5
  · subst h; decide
  · rw [if_neg h]
theorem dm_1 {x : Int32} : dm x = 1 ↔ x = 1 := by
  unfold dm; by_cases h : x = 5
  · subst h; decide
  · rw [if_neg h]
theorem dm_2 {x : Int32} : dm x = 2 ↔ x = 2 := by
  unfold dm; by_cases h : x = 5
  · subst h; decide
  · rw [if_neg h]
theorem dm_3 {x : Int32} : dm x = 3 ↔ x = 3 := by
  unfold dm; by_cases h : x = 5
  · subst h; decide
  · rw [if_neg h]
def ca (F : FabT) (p : Nat) : Nat := cn (fun k => decide (F.2.2 0 k = nI p)) F.2.1
def TL (F : FabT) : Prop := ∀ p, p < 5 → F.2.2 7 p = nI (ca F p)
/-- the class's fabric and the reference's numbers -/
def RF (F : FabT) (M : MT) : Prop :=
  PK F ∧ (∀ w, w < 4 → F.1 w = M.1 w) ∧ F.2.1 = M.2.1 0 ∧ (∀ n, n < F.2.1 → F.2.2 0 n = dm (mOf M n 0)) ∧
  (∀ n w, n < F.2.1 → 0 < w → w < 7 → F.2.2 w n = mOf M n w) ∧ (∀ n, n < F.2.1 → ∃ a, a < 8 ∧ F.2.2 2 n = nI a) ∧ TL F
/-- the class's queue -/
def RQ (F : FabT) (Q : RowT) (M : MT) : Prop :=
  (∀ n, n ∈ rr Q ↔ n < F.2.1 ∧ F.2.2 0 n = 2) ∧ (∀ n, n ∈ rr Q → (mOf M n 7).toInt < (M.2.1 1 : Int)) ∧
  (rr Q).Pairwise (fun y z => (mOf M z 7).toInt < (mOf M y 7).toInt) ∧ M.2.1 1 = ca F 2 + ca F 3
theorem cn_add2 {p q : Nat → Bool} (h : ∀ k, ¬ (p k = true ∧ q k = true)) : ∀ L, cn p L + cn q L ≤ L := by
  intro L
  induction L with
  | zero => exact Nat.le_refl _
  | succ L ih =>
    rw [cn, cn]
    have := h L
    cases e1 : p L <;> cases e2 : q L <;> simp_all [Bool.toNat] <;> omega
theorem cn_lt {p : Nat → Bool} {n : Nat} (hp : p n = false) : ∀ L, n < L → cn p L < L := by
  intro L
  induction L with
  | zero => intro h; exact absurd h (Nat.not_lt_zero n)
  | succ L ih =>
    intro h
    rw [cn]
    by_cases e : n = L
    · subst e; rw [hp]; have := cn_le p n; simp [Bool.toNat]; omega
    · have := ih (by omega); cases p L <;> simp [Bool.toNat] <;> omega
theorem cn_filter (p : Nat → Bool) : ∀ L, ((List.range L).filter p).length = cn p L := by
  intro L
  induction L with
  | zero => rfl
  | succ L ih =>
    rw [List.range_succ, List.filter_append, List.length_append, ih, cn]
    cases h : p L <;> simp [List.filter, h, Bool.toNat]
theorem len_cn {l : List Nat} {p : Nat → Bool} {L : Nat} (hn : l.Nodup) (h : ∀ n, n ∈ l ↔ n < L ∧ p n = true) : l.length = cn p L := by
  rw [← cn_filter]
  refine ((List.perm_ext_iff_of_nodup hn (List.Pairwise.filter _ List.nodup_range)).mpr (fun a => ?_)).length_eq
  rw [h, List.mem_filter, List.mem_range]
theorem rq_nd {F : FabT} {Q : RowT} {M : MT} (h : RQ F Q M) : (rr Q).Nodup := h.2.2.1.imp (fun q e => by rw [e] at q; omega)
theorem rq_len {F : FabT} {Q : RowT} {M : MT} (h : RQ F Q M) : Q.2 = ca F 2 := by
  have := len_cn (p := fun k => decide (F.2.2 0 k = nI 2)) (L := F.2.1) (rq_nd h) (fun n => by rw [h.1, decide_eq_true_iff]; exact Iff.rfl)
  rw [rr, rv_len] at this
  exact this
theorem rq_ok {F : FabT} {Q : RowT} {M : MT} (hF : PK F) (h : RQ F Q M) : ROK F.2.1 Q := by
  refine ⟨?_, fun t ht => ((h.1 _).mp (rv_mem.mpr ⟨t, ht, rfl⟩)).1⟩
  rw [rq_len h]; exact Nat.le_trans (cn_le _ _) hF.1
theorem ca_mv {F : FabT} {n q : Nat} (hn : n < F.2.1) (r : Nat) : ca (mvL F n q) r + (decide (F.2.2 0 n = nI r)).toNat = ca F r + (decide (nI q = nI r)).toNat := by
  have := cn_upd (p := fun k => decide (F.2.2 0 k = nI r)) (q := fun k => decide ((mvL F n q).2.2 0 k = nI r)) (n := n) (fun k hk => by simp only [mvL_0, if_neg hk]) F.2.1 hn
  have e : (mvL F n q).2.2 0 n = nI q := by rw [mvL_0, if_pos rfl]
  simp only [e] at this
  exact this
theorem mvL_7 (F : FabT) (n q : Nat) : (mvL F n q).2.2 7 = upd (upd (F.2.2 7) (F.2.2 0 n).toNatClampNeg (F.2.2 7 (F.2.2 0 n).toNatClampNeg - 1)) q (upd (F.2.2 7) (F.2.2 0 n).toNatClampNeg (F.2.2 7 (F.2.2 0 n).toNatClampNeg - 1) q + 1) := by
  simp only [mvL, up_s]
theorem TL_mv {F : FabT} {n q : Nat} (hF : PK F) (hT : TL F) (hn : n < F.2.1) (hq : q < 5) : TL (mvL F n q) := by
  obtain ⟨p, hp, he⟩ := hF.2 n hn
  intro r hr
  have hc := ca_mv (q := q) hn r
  rw [mvL_7, he, nI_clamp (by omega)]
  rw [he] at hc
  have e1 : decide (nI p = nI r) = decide (p = r) := by rw [decide_eq_decide]; exact nI_eq (by omega) (by omega)
  have e2 : decide (nI q = nI r) = decide (q = r) := by rw [decide_eq_decide]; exact nI_eq (by omega) (by omega)
  rw [e1, e2] at hc
  by_cases hqr : r = q
  · subst hqr
    rw [ud_s]
    by_cases hpr : r = p
    · subst hpr
      rw [ud_s, hT r hr]
      have : ca (mvL F n r) r = ca F r := by simpa using hc
      rw [this]
      have h1 : (nI (ca F r) - 1 + 1 : Int32) = nI (ca F r) := by rw [Int32.sub_add_cancel]
      exact h1
    · rw [ud_ne hpr, hT r hr, nI_1]
      have : ca (mvL F n r) r = ca F r + 1 := by simpa [show ¬ p = r from fun e => hpr e.symm] using hc
      rw [this]
  · rw [ud_ne hqr]
    by_cases hpr : r = p
    · subst hpr
      rw [ud_s, hT r hr]
      have : ca F r = ca (mvL F n q) r + 1 := by simpa [show ¬ q = r from fun e => hqr e.symm] using hc.symm
      rw [this, nI_pred]
    · rw [ud_ne hpr, hT r hr]
      have : ca (mvL F n q) r = ca F r := by simpa [show ¬ q = r from fun e => hqr e.symm, show ¬ p = r from fun e => hpr e.symm] using hc
      rw [this]
theorem mOf_mSet {M : MT} {n w k u : Nat} {v : Int32} (hw : w < 8) (hu : u < 8) : mOf (mSet M n w v) k u = if k = n ∧ u = w then v else mOf M k u := by
  show va_up M.2.2.1 0 (upd (M.2.2.1 0) (8 * n + w) v) 0 (8 * k + u) = _
  rw [up_s]
  by_cases h : k = n ∧ u = w
  · rw [if_pos h, h.1, h.2, ud_s]
  · rw [if_neg h, ud_ne (by omega)]; rfl
theorem gB_mSo {F : FabT} {M : MT} (h : RF F M) {a b : Nat} (ha : a < F.2.1) (hb : b < F.2.1) : gB F a b true = mSo M a b := by
  have h5 := h.2.2.2.2.1
  unfold gB mSo mAh
  rw [h5 a 2 ha (by decide) (by decide), h5 b 2 hb (by decide) (by decide), h5 a 3 ha (by decide) (by decide), h5 b 3 hb (by decide) (by decide)]
  simp only [true_and]
theorem selW_mIn {F : FabT} {M : MT} (h : RF F M) {k : Nat} (hk : k < F.2.1) : selW F k = mIn M k := by
  unfold selW mIn
  rw [h.2.2.2.1 k hk]
  congr 1
  · rw [decide_eq_decide]; exact dm_0
  · rw [decide_eq_decide]; exact dm_1
theorem sort_rr {F : FabT} {M : MT} (h : RF F M) (W : RowT) : rr (sortW F W) = rr (mSort M) := by
  have hL := h.1.1
  unfold sortW mSort
  rw [srtL_rr F _ _ F.2.1 0 (W.1, 0) (Nat.le_refl _) (by omega), msL_rr M (M.2.1 0) 0 (M.2.2.2, 0) (Nat.le_refl _) (by rw [← h.2.2.1]; omega), ← h.2.2.1]
  exact srL_congr F.2.1 (fun k hk => selW_mIn h hk) (fun a b ha hb => gB_mSo h ha hb) F.2.1 0 [] (by omega) (fun x hx => absurd hx (List.not_mem_nil))
theorem sortW_mem {F : FabT} (hL : F.2.1 ≤ 64) (W : RowT) (x : Nat) : x ∈ rr (sortW F W) ↔ x < F.2.1 ∧ selW F x = true := by
  unfold sortW
  rw [srtL_rr F _ _ F.2.1 0 (W.1, 0) (Nat.le_refl _) (by omega), srL_mem]
  constructor
  · rintro (e | ⟨_, b, c⟩)
    · exact absurd e (List.not_mem_nil)
    · exact ⟨by omega, c⟩
  · rintro ⟨a, b⟩; exact Or.inr ⟨Nat.zero_le _, by omega, b⟩
theorem sortW_nd {F : FabT} (hL : F.2.1 ≤ 64) (W : RowT) : (rr (sortW F W)).Nodup := by
  unfold sortW
  rw [srtL_rr F _ _ F.2.1 0 (W.1, 0) (Nat.le_refl _) (by omega)]
  exact srL_nodup _ _ _ List.nodup_nil (fun x hx => absurd hx (List.not_mem_nil))
theorem mWin_of {M : MT} {n k u : Nat} (hu : u < 8) : mOf (mWin M n) k u = if k = n ∧ u = 7 then nI (M.2.1 1) else if k = n ∧ u = 0 then 2 else mOf M k u := by
  show mOf (mSet (mSet M n 0 2) n 7 (nI (M.2.1 1))) k u = _
  rw [mOf_mSet (by decide) hu, mOf_mSet (by decide) hu]
theorem mWin_n {M : MT} {n : Nat} : (mWin M n).1 = M.1 ∧ (mWin M n).2.1 0 = M.2.1 0 ∧ (mWin M n).2.1 1 = M.2.1 1 + 1 ∧ (mWin M n).2.1 3 = M.2.1 3 ∧ (mWin M n).2.2.2 = M.2.2.2 :=
  ⟨rfl, by simp [mWin, va_up], by simp [mWin, va_up], by simp [mWin, va_up], rfl⟩
theorem RF_win {F : FabT} {M : MT} {n : Nat} (h : RF F M) (hn : n < F.2.1) : RF (mvL F n 2) (mWin M n) := by
  obtain ⟨h1, h2, h3, h4, h5, h6, h7⟩ := h
  obtain ⟨k1, k2, k3, k4, k5⟩ := mWin_n (M := M) (n := n)
  refine ⟨mvL_pk h1 n (by decide), fun w hw => by rw [k1]; exact h2 w hw, by rw [k2]; exact h3, fun k hk => ?_, fun k w hk hw hw7 => ?_, fun k hk => ?_, TL_mv h1 h7 hn (by decide)⟩
  · rw [mvL_0, mWin_of (by decide)]
    by_cases e : k = n
    · rw [if_pos e, if_neg (fun q => absurd q.2 (by decide)), if_pos ⟨e, rfl⟩]; decide
    · rw [if_neg e, if_neg (fun q => e q.1), if_neg (fun q => e q.1)]; exact h4 k hk
  · rw [mvL_w F n 2 (by omega) (by omega), mWin_of (by omega), if_neg (fun q => by omega), if_neg (fun q => by omega)]; exact h5 k w hk hw hw7
  · rw [mvL_w F n 2 (by decide) (by decide)]; exact h6 k hk
theorem RQ_win {F : FabT} {Q : RowT} {M : MT} {n : Nat} (hR : RF F M) (h : RQ F Q M) (hn : n < F.2.1) (hs : selW F n = true) : Q.2 < 64 ∧ RQ (mvL F n 2) (rAdd Q n) (mWin M n) := by
  have hL := hR.1.1
  have hn2 : F.2.2 0 n = 0 ∨ F.2.2 0 n = 1 := by simpa [selW] using hs
  have hne2 : ¬ F.2.2 0 n = nI 2 := by rcases hn2 with e | e <;> rw [e] <;> decide
  have hne3 : ¬ F.2.2 0 n = nI 3 := by rcases hn2 with e | e <;> rw [e] <;> decide
  have hq : Q.2 < 64 := by
    rw [rq_len h]
    have := cn_lt (p := fun k => decide (F.2.2 0 k = nI 2)) (n := n) (by simp [hne2]) F.2.1 hn
    unfold ca; omega
  have hc2 : ca (mvL F n 2) 2 = ca F 2 + 1 := by have := ca_mv (q := 2) hn 2; simpa [hne2] using this
  have hc3 : ca (mvL F n 2) 3 = ca F 3 := by have := ca_mv (q := 2) hn 3; simpa [hne3, show ¬ nI 2 = nI 3 by decide] using this
  have hnq : n ∉ rr Q := fun q => hne2 ((h.1 n).mp q).2
  have hcnt : M.2.1 1 ≤ 64 := by
    rw [h.2.2.2]
    have := cn_add2 (p := fun k => decide (F.2.2 0 k = nI 2)) (q := fun k => decide (F.2.2 0 k = nI 3)) (fun k q => by
      have a := of_decide_eq_true q.1; have b := of_decide_eq_true q.2; rw [a] at b; exact absurd b (by decide)) F.2.1
    unfold ca; omega
  obtain ⟨k1, k2, k3, k4, k5⟩ := mWin_n (M := M) (n := n)
  have hnew : (mOf (mWin M n) n 7).toInt = (M.2.1 1 : Int) := by rw [mWin_of (by decide), if_pos ⟨rfl, rfl⟩, nI_toInt (by omega)]
  have hold : ∀ k, k ∈ rr Q → mOf (mWin M n) k 7 = mOf M k 7 := fun k hk => by
    have e : k ≠ n := fun e => hnq (e ▸ hk)
    rw [mWin_of (by decide), if_neg (fun q => e q.1), if_neg (fun q => e q.1)]
  refine ⟨hq, fun k => ?_, fun k hk => ?_, ?_, ?_⟩
  · rw [rr_add n hq, List.mem_cons, h.1, mvL_0]
    by_cases e : k = n
    · subst e
      rw [if_pos rfl]
      exact ⟨fun _ => ⟨hn, rfl⟩, fun _ => Or.inl rfl⟩
    · rw [if_neg e]
      exact ⟨fun q => q.elim (fun a => absurd a e) id, fun q => Or.inr q⟩
  · rw [rr_add n hq, List.mem_cons] at hk
    rw [k3]
    rcases hk with e | e
    · rw [e, hnew]; omega
    · rw [hold k e]; have := h.2.1 k e; omega
  · rw [rr_add n hq, List.pairwise_cons]
    refine ⟨fun z hz => ?_, h.2.2.1.imp_of_mem (fun {a b} ha hb q => by rw [hold a ha, hold b hb]; exact q)⟩
    rw [hold z hz, hnew]; exact h.2.1 z hz
  · rw [k3, hc2, hc3, h.2.2.2]; omega
