def msL (M : MT) : Nat → Nat → RowT → RowT
  | 0, _, w => w
  | m + 1, k, w => msL M m (k + 1) (if mIn M k then rIns (fun y => mSo M k y) w k else w)
/-- order and sorted as a row -/
def mR (M : MT) (w : RowT) : MT := (M.1, va_up M.2.1 3 w.2, M.2.2.1, w.1)
def mSort (M : MT) : RowT := msL M (M.2.1 0) 0 (M.2.2.2, 0)
theorem rIns_sz (lt : Nat → Bool) (w : RowT) (x : Nat) : (rIns lt w x).2 ≤ w.2 + 1 := by
  unfold rIns
  by_cases h : w.2 < 64
  · rw [if_pos h]; exact Nat.le_refl _
  · rw [if_neg h]; exact Nat.le_succ _
theorem msL_ok {M : MT} : ∀ (m k : Nat) (w : RowT), ROK k w → k + m ≤ 64 → ROK (k + m) (msL M m k w) := by
  intro m
  induction m with
  | zero => intro k w h _; exact h
  | succ m ih =>
    intro k w h hk
    have : k + (m + 1) = (k + 1) + m := by omega
    rw [this]
    refine ih (k + 1) _ ?_ (by omega)
    by_cases e : mIn M k = true
    · rw [if_pos e]; exact rIns_ok (h.mono (by omega)) (by omega)
    · rw [if_neg e]; exact h.mono (by omega)
theorem mSort_ok {M : MT} (hM : M.2.1 0 ≤ 64) : ROK (M.2.1 0) (mSort M) := by
  have := msL_ok (M := M) (M.2.1 0) 0 (M.2.2.2, 0) ⟨Nat.zero_le _, fun t h => absurd h (Nat.not_lt_zero t)⟩ (by omega)
  rwa [Nat.zero_add] at this
theorem mOf_mR (M : MT) (w : RowT) (n k : Nat) : mOf (mR M w) n k = mOf M n k := rfl
theorem mR_mR (M : MT) (w v : RowT) : mR (mR M w) v = mR M v := by simp [mR, bx_uu]
theorem mR_0 (M : MT) (w : RowT) : (mR M w).2.1 0 = M.2.1 0 := by simp [mR, va_up]
theorem mR_3 (M : MT) (w : RowT) : (mR M w).2.1 3 = w.2 := by simp [mR, va_up]
theorem mR_o (M : MT) (w : RowT) : (mR M w).2.2.2 = w.1 := rfl
set_option maxHeartbeats 4000000 in
theorem i_X6_sorts {K : KX} {E : EnvT} (hE : EOK E) (h : Cx K E cX6_sorts 3 RX6 3 66) {σ : ST} (M : MT) (n : Nat) (hn : n < 64) (sz : Nat) (hsz : sz < 64) : ∀ k g, k ≤ sz → (∀ t, t < k → g t < 64) → (∀ at1, at1 < 65 → GG K E (sM σ (mR M (va_up (insL (fun y => mSo M n y) g k).1 (insL (fun y => mSo M n y) g k).2 n, sz + 1))) 85 [(0, .ref (ad E 11 0 0)), (1, .int (nI n)), (2, .int (nI at1))] []) → GG K E (sM σ (mR M (g, sz))) 28 [(0, .ref (ad E 11 0 0)), (1, .int (nI n)), (2, .int (nI k))] [] := by
  intro k
  induction k with
  | zero =>
    intro g hk hg hp
    refine g_iload_n h (q := 2) 2 dX6_sorts_28 rfl ?_
    refine g_nif_le h (a := 0) 68 dX6_sorts_29 (by decide) (by omega) (fun c1 => ?_) (fun c1 => ?_)
    · refine g_aload_n h (q := 0) 0 dX6_sorts_68 rfl ?_
      refine g_gMo h fl_X6_29 dX6_sorts_69 ?_
      refine g_iload_n h (q := 2) 2 dX6_sorts_72 rfl ?_
      refine g_iload_n h (q := 1) 1 dX6_sorts_73 rfl ?_
      refine g_sO h (0) (by omega) (m := n) dX6_sorts_74 (fun M2 hM2 => ?_)
      refine g_aload_n h (q := 0) 0 dX6_sorts_75 rfl ?_
      refine g_dup h dX6_sorts_76 rfl ?_
      refine g_gMn h 3 (by decide) fl_X6_90 dX6_sorts_77 ?_
      refine g_is (nI (sz)) (by rw [hM2]; simp [mR, va_up]) ?_
      refine g_iconst h (v := 1) dX6_sorts_80 (by decide) ?_
      refine g_iadd h dX6_sorts_81 ?_
      refine g_is (nI (sz + 1)) (nI_add sz 1) ?_
      refine g_pMn h 3 (by decide) (m := sz + 1) fl_X6_90 dX6_sorts_82 (fun M3 hM3 => ?_)
      rw [show M3 = mR M (va_up g (0) n, sz + 1) by rw [hM3, hM2]; simp [mR, bx_uu]]
      have e : insL (fun y => mSo M n y) g 0 = (g, 0) := by simp [insL]
      rw [e] at hp
      exact hp _ (by omega)
    · exfalso; omega
  | succ k ih =>
    intro g hk hg hp
    refine g_iload_n h (q := 2) 2 dX6_sorts_28 rfl ?_
    refine g_nif_le h (a := k + 1) 68 dX6_sorts_29 (by decide) (by omega) (fun c1 => ?_) (fun c1 => ?_)
    · exfalso; omega
    · refine g_aload_n h (q := 0) 0 dX6_sorts_32 rfl ?_
      refine g_iload_n h (q := 1) 1 dX6_sorts_33 rfl ?_
      refine g_aload_n h (q := 0) 0 dX6_sorts_34 rfl ?_
      refine g_gMo h fl_X6_29 dX6_sorts_35 ?_
      refine g_iload_n h (q := 2) 2 dX6_sorts_38 rfl ?_
      refine g_iconst h (v := 1) dX6_sorts_39 (by decide) ?_
      refine g_isub h dX6_sorts_40 ?_
      refine g_is (nI ((k + 1) - 1)) (pk_sub (a := (k + 1)) (b := 1) (by omega)) ?_
      refine g_lO h ((k + 1) - 1) (by omega) dX6_sorts_41 ?_
      refine g_is (nI (g k)) (rfl) ?_
      refine g_callV h mv_X6_isSooner 11 0 0 ⟨rfl, rfl⟩ rfl rfl (As := [.int (nI (n)), .int (nI (g k))]) (c_X6_isSooner (kl K) hE (σ := σ) (M := (mR M (g, sz))) n (g k) hn (hg k (by omega))) ml_X6_96 rfl (by decide) (by decide) rfl (Nat.le_of_ble_eq_true rfl) dX6_sorts_42 (fun v σ9 h9 => ?_)
      rw [h9.1, h9.2]; clear h9
      rw [show mSo (mR M (g, sz)) n (g k) = mSo M n (g k) from rfl]
      refine g_if_eq h 68 dX6_sorts_45 (by decide) (fun c2 => ?_) (fun c2 => ?_)
      · refine g_aload_n h (q := 0) 0 dX6_sorts_68 rfl ?_
        refine g_gMo h fl_X6_29 dX6_sorts_69 ?_
        refine g_iload_n h (q := 2) 2 dX6_sorts_72 rfl ?_
        refine g_iload_n h (q := 1) 1 dX6_sorts_73 rfl ?_
        refine g_sO h (k + 1) (by omega) (m := n) dX6_sorts_74 (fun M1 hM1 => ?_)
        refine g_aload_n h (q := 0) 0 dX6_sorts_75 rfl ?_
        refine g_dup h dX6_sorts_76 rfl ?_
        refine g_gMn h 3 (by decide) fl_X6_90 dX6_sorts_77 ?_
        refine g_is (nI (sz)) (by rw [hM1]; simp [mR, va_up]) ?_
        refine g_iconst h (v := 1) dX6_sorts_80 (by decide) ?_
        refine g_iadd h dX6_sorts_81 ?_
        refine g_is (nI (sz + 1)) (nI_add sz 1) ?_
        refine g_pMn h 3 (by decide) (m := sz + 1) fl_X6_90 dX6_sorts_82 (fun M2 hM2 => ?_)
        rw [show M2 = mR M (va_up g (k + 1) n, sz + 1) by rw [hM2, hM1]; simp [mR, bx_uu]]
        have e : insL (fun y => mSo M n y) g ((k + 1)) = (g, k + 1) := by simp [insL, bI_0.mp c2]
        rw [e] at hp
        exact hp _ (by omega)
      · refine g_aload_n h (q := 0) 0 dX6_sorts_48 rfl ?_
        refine g_gMo h fl_X6_29 dX6_sorts_49 ?_
        refine g_iload_n h (q := 2) 2 dX6_sorts_52 rfl ?_
        refine g_aload_n h (q := 0) 0 dX6_sorts_53 rfl ?_
        refine g_gMo h fl_X6_29 dX6_sorts_54 ?_
        refine g_iload_n h (q := 2) 2 dX6_sorts_57 rfl ?_
        refine g_iconst h (v := 1) dX6_sorts_58 (by decide) ?_
        refine g_isub h dX6_sorts_59 ?_
        refine g_is (nI ((k + 1) - 1)) (pk_sub (a := (k + 1)) (b := 1) (by omega)) ?_
        refine g_lO h ((k + 1) - 1) (by omega) dX6_sorts_60 ?_
        refine g_is (nI (g k)) (rfl) ?_
        refine g_sO h (k + 1) (by omega) (m := g k) dX6_sorts_61 (fun M3 hM3 => ?_)
        refine g_iinc h (q := 2) (v := nI (k)) 2 [(0, .ref (ad E 11 0 0)), (1, .int (nI (n))), (2, .int (nI (k)))] dX6_sorts_62 rfl (nI_dec (k + 1) 1 (by omega)) (by decide) rfl ?_
        refine g_goto h 28 dX6_sorts_65 (by decide) ?_
        rw [show M3 = mR M (va_up g (k + 1) (g k), sz) by rw [hM3]; simp [mR]]
        refine ih _ (by omega) (fun t q => by rw [up_n (by omega)]; exact hg t (by omega)) ?_
        have e : insL (fun y => mSo M n y) g (k + 1) = insL (fun y => mSo M n y) (va_up g (k + 1) (g k)) k := by simp [insL, bI_1.mp c2]
        rw [e] at hp
        exact hp
set_option maxHeartbeats 4000000 in
theorem l_X6_sorts {K : KX} {E : EnvT} (hE : EOK E) (h : Cx K E cX6_sorts 3 RX6 3 66) {σ : ST} {post : Option Value → ST → Prop} (hR : Rx K E none post) (M : MT) (hM : M.2.1 0 ≤ 64) : ∀ m k w, k + m = M.2.1 0 → w.2 ≤ k → ROK k w → post none (sM σ (mR M (msL M m k w))) → GG K E (sM σ (mR M w)) 7 [(0, .ref (ad E 11 0 0)), (1, .int (nI k))] [] := by
  intro m
  induction m with
  | zero =>
    intro k w hk hs hw hp
    refine g_iload_n h (q := 1) 1 dX6_sorts_7 rfl ?_
    refine g_aload_n h (q := 0) 0 dX6_sorts_8 rfl ?_
    refine g_gMn h 0 (by decide) fl_X6_50 dX6_sorts_9 ?_
    refine g_is (nI (M.2.1 0)) (by rw [mR_0]) ?_
    refine g_ncmp_ge h (a := k) (b := M.2.1 0) 91 dX6_sorts_12 (by decide) (by omega) (by omega) (fun c1 => ?_) (fun c1 => ?_)
    · exact g_vret h hR dX6_sorts_91 (hp)
    · exfalso; omega
  | succ m ih =>
    intro k w hk hs hw hp
    have hw1 := hw.1
    refine g_iload_n h (q := 1) 1 dX6_sorts_7 rfl ?_
    refine g_aload_n h (q := 0) 0 dX6_sorts_8 rfl ?_
    refine g_gMn h 0 (by decide) fl_X6_50 dX6_sorts_9 ?_
    refine g_is (nI (M.2.1 0)) (by rw [mR_0]) ?_
    refine g_ncmp_ge h (a := k) (b := M.2.1 0) 91 dX6_sorts_12 (by decide) (by omega) (by omega) (fun c1 => ?_) (fun c1 => ?_)
    · exfalso; omega
    · refine g_aload_n h (q := 0) 0 dX6_sorts_15 rfl ?_
      refine g_iload_n h (q := 1) 1 dX6_sorts_16 rfl ?_
      refine g_callV h mv_X6_isIn 11 0 0 ⟨rfl, rfl⟩ rfl rfl (As := [.int (nI (k))]) (c_X6_isIn (kl K) hE (σ := σ) (M := (mR M w)) k (by omega)) ml_X6_93 rfl (by decide) (by decide) rfl (Nat.le_of_ble_eq_true rfl) dX6_sorts_17 (fun v σ9 h9 => ?_)
      rw [h9.1, h9.2]; clear h9
      rw [show mIn (mR M w) k = mIn M k from rfl]
      refine g_if_eq h 85 dX6_sorts_20 (by decide) (fun c2 => ?_) (fun c2 => ?_)
      · refine g_iinc h (q := 1) (v := nI (k + 1)) 1 [(0, .ref (ad E 11 0 0)), (1, .int (nI (k + 1)))] dX6_sorts_85 rfl (nI_inc k 1) (by decide) rfl ?_
        refine g_goto h 7 dX6_sorts_88 (by decide) ?_
        exact ih (k + 1) w (by omega) (by omega) (hw.mono (by omega)) (by rw [msL, if_neg (by rw [bI_0.mp c2]; decide)] at hp; exact hp)
      · refine g_aload_n h (q := 0) 0 dX6_sorts_23 rfl ?_
        refine g_gMn h 3 (by decide) fl_X6_90 dX6_sorts_24 ?_
        refine g_is (nI (w.2)) (by rw [mR_3]) ?_
        refine g_istore_n h (q := 2) [(0, .ref (ad E 11 0 0)), (1, .int (nI (k))), (2, .int (nI (w.2)))] dX6_sorts_27 (by decide) rfl ?_
        refine i_X6_sorts hE h M k (by omega) w.2 (by omega) w.2 w.1 (Nat.le_refl _) (fun t q => Nat.lt_of_lt_of_le (hw.2 t q) (by omega)) (fun at1 hat => ?_)
        rw [show (va_up (insL (fun y => mSo M k y) w.1 w.2).1 (insL (fun y => mSo M k y) w.1 w.2).2 k, w.2 + 1) = rIns (fun y => mSo M k y) w k by rw [rIns, if_pos (by omega)]]
        refine g_iinc h (q := 1) (v := nI (k + 1)) 1 [(0, .ref (ad E 11 0 0)), (1, .int (nI (k + 1))), (2, .int (nI (at1)))] dX6_sorts_85 rfl (nI_inc k 1) (by decide) rfl ?_
        refine g_goto h 7 dX6_sorts_88 (by decide) ?_
        refine g_sub [(0, .ref (ad E 11 0 0)), (1, .int (nI (k + 1)))] [0, 1] rfl ?_
        exact ih (k + 1) _ (by omega) (Nat.le_trans (rIns_sz _ _ _) (by omega)) (rIns_ok (hw.mono (by omega)) (by omega)) (by rw [msL, if_pos (bI_1.mp c2)] at hp; exact hp)
set_option maxHeartbeats 4000000 in
theorem c_X6_sorts (l : Launch) {E : EnvT} (hE : EOK E) {σ : ST} {M : MT} (hM : M.2.1 0 ≤ 64) : Con l E yX6_sorts cX6_sorts 3 none 3 66 [.ref (ad E 11 0 0)] (sM σ M) (rV (sM σ (mR M (mSort M)))) := by
  refine con_intro hE (by decide) (Nat.le_of_ble_eq_true rfl) (fun K hkl h hR => ?_)
  subst hkl
  have h : Cx K E cX6_sorts 3 RX6 3 66 := h
  show GG K E (sM σ M) 0 [(0, .ref (ad E 11 0 0))] []
  refine g_aload_n h (q := 0) 0 dX6_sorts_0 rfl ?_
  refine g_iconst h (v := 0) dX6_sorts_1 (by decide) ?_
  refine g_pMn h 3 (by decide) (m := 0) fl_X6_90 dX6_sorts_2 (fun M1 hM1 => ?_)
  refine g_iconst h (v := 0) dX6_sorts_5 (by decide) ?_
  refine g_istore_n h (q := 1) [(0, .ref (ad E 11 0 0)), (1, .int 0)] dX6_sorts_6 (by decide) rfl ?_
  rw [show M1 = mR M (M.2.2.2, 0) from hM1]
  exact l_X6_sorts hE h hR M hM _ 0 (M.2.2.2, 0) (Nat.zero_add _) (Nat.le_refl _) ⟨Nat.zero_le _, fun t q => absurd q (Nat.not_lt_zero t)⟩ ⟨rfl, rfl⟩
