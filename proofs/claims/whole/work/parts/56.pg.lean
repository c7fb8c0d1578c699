theorem findN_congr {p q : Nat → Bool} : ∀ m k, (∀ j, k ≤ j → j < k + m → p j = q j) → findN p m k = findN q m k := by
  intro m
  induction m with
  | zero => intro k _; rfl
  | succ m ih =>
    intro k h
    rw [findN, findN, h k (Nat.le_refl _) (by omega), ih (k + 1) (fun j h1 h2 => h j (by omega) (by omega))]
theorem nI_m9 {j : Nat} (h : j < 2 ^ 31) : ¬ nI j = -9 := fun e => by
  have := congrArg Int32.toInt e
  rw [nI_toInt h] at this
  have h9 : (-9 : Int32).toInt = -9 := rfl
  omega
theorem findN_none {p : Nat → Bool} : ∀ m k, k + m < 2 ^ 31 → findN p m k = -9 → ∀ j, k ≤ j → j < k + m → p j = false := by
  intro m
  induction m with
  | zero => intro k _ _ j h1 h2; omega
  | succ m ih =>
    intro k hk h j h1 h2
    rw [findN] at h
    by_cases e : p k = true
    · rw [if_pos e] at h; exact absurd h (nI_m9 (by omega))
    · rw [if_neg e] at h
      by_cases e2 : j = k
      · rw [e2]; simpa using e
      · exact ih (k + 1) (by omega) h j (by omega) (by omega)
theorem cn_some {p : Nat → Bool} {k : Nat} (hp : p k = true) : ∀ L, k < L → 0 < cn p L := by
  intro L
  induction L with
  | zero => intro h; exact absurd h (Nat.not_lt_zero k)
  | succ L ih =>
    intro h
    rw [cn]
    by_cases e : k = L
    · subst e; rw [hp]; simp [Bool.toNat]
    · have := ih (by omega); omega
def PO (M : MT) (a n : Nat) : Prop := mOf M n 0 = 2 ∧ (∃ b, b < a ∧ mOf M n 2 = nI b) ∧ mqS M (mOf M n 2) n = 0
def goW (M : MT) (n u : Nat) : Int32 := if u = 0 then 3 else if u = 5 then M.1 3 else mOf M n u
def GO (M0 : MT) (a : Nat) (M : MT) : Prop := M.1 = M0.1 ∧ M.2.1 = M0.2.1 ∧ ∀ n, n < M0.2.1 0 → (PO M0 a n → ∀ u, u < 8 → mOf M n u = goW M0 n u) ∧ (¬ PO M0 a n → ∀ u, u < 8 → mOf M n u = mOf M0 n u)
theorem mOut_of (M : MT) (j k u : Nat) (hu : u < 8) : mOf (mOut M j) k u = if k = j then goW M j u else mOf M k u := by
  unfold mOut goW
  rw [mOf_mSet (by decide) hu, mOf_mSet (by decide) hu]
  by_cases e : k = j
  · subst e
    by_cases u5 : u = 5
    · subst u5; simp
    · by_cases u0 : u = 0
      · subst u0; simp
      · simp [u0, u5]
  · simp [e]
theorem mqS_le (M : MT) (a : Int32) (n : Nat) : mqS M a n ≤ M.2.1 0 := by unfold mqS; rw [ctL_0]; exact cn_le _ _
theorem mqF_iff {M : MT} (hM : M.2.1 0 ≤ 64) {a n : Nat} : mqF M (nI a) 0 n = true ↔ mOf M n 0 = 2 ∧ mOf M n 2 = nI a ∧ mqS M (nI a) n = 0 := by
  have h := mqS_le M (nI a) n
  unfold mqF
  simp only [Bool.and_eq_true, decide_eq_true_iff]
  have e : nI (mqS M (nI a) n) = 0 ↔ mqS M (nI a) n = 0 := by
    rw [← nI_0]; exact nI_eq (by omega) (by omega)
  rw [e]
theorem goL_at {M0 : MT} (hM : M0.2.1 0 ≤ 64) (hU : ∀ a, a < 8 → ∀ n j, n < M0.2.1 0 → j < M0.2.1 0 → mqF M0 (nI a) 0 n = true → mqF M0 (nI a) 0 j = true → n = j) : ∀ m a c M, a + m = 8 → GO M0 a M → GO M0 8 (goL m a c M).2 := by
  intro m
  induction m with
  | zero => intro a c M ha h; have e : a = 8 := by omega
            subst e; exact h
  | succ m ih =>
    intro a c M ha h
    obtain ⟨h1, h2, h3⟩ := h
    have hnp : ∀ i, mOf M0 i 2 = nI a → ¬ PO M0 a i := fun i hi q => by
      obtain ⟨_, ⟨b, hb, hbe⟩, _⟩ := q
      rw [hi] at hbe
      have := (nI_eq (by omega) (by omega)).mp hbe
      omega
    have hsame : ∀ i, i < M0.2.1 0 → mOf M0 i 2 = nI a → ∀ u, u < 8 → mOf M i u = mOf M0 i u := fun i hi he => (h3 i hi).2 (hnp i he)
    have h22 : ∀ i, i < M0.2.1 0 → mOf M i 2 = mOf M0 i 2 := fun i hi => by
      by_cases q : PO M0 a i
      · exact (h3 i hi).1 q 2 (by decide)
      · exact (h3 i hi).2 q 2 (by decide)
    have hqS : ∀ n, n < M0.2.1 0 → mOf M0 n 2 = nI a → mqS M (nI a) n = mqS M0 (nI a) n := fun n hn he => by
      unfold mqS
      rw [ctL_0, ctL_0, h2]
      refine cn_congr _ (fun i hi => ?_)
      unfold mqP
      rw [h22 i hi]
      by_cases e : mOf M0 i 2 = nI a
      · rw [hsame i hi e 0 (by decide), hsame i hi e 7 (by decide), hsame n hn he 7 (by decide)]
      · simp [e]
    have hF : ∀ n, n < M0.2.1 0 → mqF M (nI a) 0 n = mqF M0 (nI a) 0 n := fun n hn => by
      unfold mqF
      rw [h22 n hn]
      by_cases e : mOf M0 n 2 = nI a
      · rw [hsame n hn e 0 (by decide), hqS n hn e]
      · simp [e]
    rw [goL]
    by_cases c1 : mQ M (nI a) 0 = -9
    · rw [if_pos c1]
      refine ih (a + 1) c M (by omega) ⟨h1, h2, fun n hn => ?_⟩
      have hf : mqF M0 (nI a) 0 n = false := by
        rw [← hF n hn]
        exact findN_none _ 0 (by rw [h2]; omega) c1 n (Nat.zero_le _) (by rw [h2]; omega)
      have hiff : PO M0 (a + 1) n ↔ PO M0 a n := by
        constructor
        · rintro ⟨q1, ⟨b, hb, hbe⟩, q3⟩
          by_cases e : b = a
          · subst e
            have := (mqF_iff hM (a := b) (n := n)).mpr ⟨q1, hbe, by rw [← hbe]; exact q3⟩
            rw [hf] at this; exact absurd this (by decide)
          · exact ⟨q1, ⟨b, by omega, hbe⟩, q3⟩
        · rintro ⟨q1, ⟨b, hb, hbe⟩, q3⟩; exact ⟨q1, ⟨b, by omega, hbe⟩, q3⟩
      rw [hiff]; exact h3 n hn
    · rw [if_neg c1]
      obtain ⟨j, hj, hjf, hje⟩ := mQ_nat c1
      rw [h2] at hj
      rw [hje, nI_clamp (by omega)]
      rw [hF j hj] at hjf
      obtain ⟨j0, j2, js⟩ := (mqF_iff hM).mp hjf
      refine ih (a + 1) (c + 1) (mOut M j) (by omega) ⟨h1, h2, fun n hn => ?_⟩
      by_cases e : n = j
      · subst e
        refine ⟨fun _ u hu => ?_, fun q => absurd ⟨j0, ⟨a, by omega, j2⟩, by rw [j2]; exact js⟩ q⟩
        rw [mOut_of _ _ _ _ hu, if_pos rfl]
        unfold goW
        rw [h1, hsame n hn j2 u hu]
      · have hiff : PO M0 (a + 1) n ↔ PO M0 a n := by
          constructor
          · rintro ⟨q1, ⟨b, hb, hbe⟩, q3⟩
            by_cases e2 : b = a
            · subst e2
              exact absurd (hU b (by omega) n j hn hj ((mqF_iff hM).mpr ⟨q1, hbe, by rw [← hbe]; exact q3⟩) hjf) e
            · exact ⟨q1, ⟨b, by omega, hbe⟩, q3⟩
          · rintro ⟨q1, ⟨b, hb, hbe⟩, q3⟩; exact ⟨q1, ⟨b, by omega, hbe⟩, q3⟩
        rw [hiff]
        exact ⟨fun q u hu => by rw [mOut_of _ _ _ _ hu, if_neg e]; exact (h3 n hn).1 q u hu, fun q u hu => by rw [mOut_of _ _ _ _ hu, if_neg e]; exact (h3 n hn).2 q u hu⟩
theorem GO_0 (M : MT) : GO M 0 M := ⟨rfl, rfl, fun n _ => ⟨fun q => by obtain ⟨_, ⟨b, hb, _⟩, _⟩ := q; omega, fun _ _ _ => rfl⟩⟩
theorem mCt_cn (M : MT) (a : Int32) : mCt M a = cn (fun k => decide (mOf M k 0 = a)) (M.2.1 0) := ctL_0 _ _
theorem goL_c : ∀ m a c M, M.2.1 0 ≤ 64 → (goL m a c M).1 + mCt M 3 = c + mCt (goL m a c M).2 3 := by
  intro m
  induction m with
  | zero => intro a c M _; rfl
  | succ m ih =>
    intro a c M hM
    rw [goL]
    by_cases c1 : mQ M (nI a) 0 = -9
    · rw [if_pos c1]; exact ih _ _ _ hM
    · rw [if_neg c1]
      obtain ⟨j, hj, hjf, hje⟩ := mQ_nat c1
      rw [hje, nI_clamp (by omega)]
      obtain ⟨j0, _, _⟩ := (mqF_iff hM).mp hjf
      have h := ih (a + 1) (c + 1) (mOut M j) hM
      have e : mCt (mOut M j) 3 = mCt M 3 + 1 := by
        rw [mCt_cn, mCt_cn]
        have := cn_upd (p := fun k => decide (mOf M k 0 = 3)) (q := fun k => decide (mOf (mOut M j) k 0 = 3)) (n := j) (fun k hk => by simp only [mOut_of _ _ _ _ (show 0 < 8 by decide), if_neg hk]) (M.2.1 0) hj
        have e1 : mOf (mOut M j) j 0 = 3 := by rw [mOut_of _ _ _ _ (by decide), if_pos rfl]; rfl
        simp only [e1, j0] at this
        have e2 : (mOut M j).2.1 0 = M.2.1 0 := rfl
        rw [e2]
        simpa using this
      rw [e] at h; omega
theorem rv_pw {f : Nat → Int} {g : Nat → Nat} : ∀ k, (rv g k).Pairwise (fun y z => f z < f y) → ∀ a b, a < b → b < k → f (g a) < f (g b) := by
  intro k
  induction k with
  | zero => intro _ a b _ hb; exact absurd hb (Nat.not_lt_zero b)
  | succ k ih =>
    intro h a b hab hb
    rw [rv, List.pairwise_cons] at h
    by_cases e : b = k
    · rw [e]; exact h.1 _ (rv_mem.mpr ⟨a, by omega, rfl⟩)
    · exact ih h.2 a b hab (by omega)
