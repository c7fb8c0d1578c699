def wsL : Nat → Nat → Int64 → Int64
  | 0, _, a => a
  | m + 1, j, a => wsL m (j + 1) (a * (nI (8 - j)).toInt64 / (nI (j + 1)).toInt64)
theorem ws_ne : ∀ j, j < 8 → (nI (j + 1)).toInt64 ≠ 0 := by decide
def gdT : Nat → Int64 → Int64 → Bool
  | 0, _, y => decide (y = 0)
  | m + 1, x, y => decide (y = 0) || gdT m y (x - x / y * y)
def yuU (x l : Nat) : Nat → Nat → Int64 → Int64
  | 0, _, a => a
  | m + 1, k, a => yuU x l m (k + 1) (a + (nI (k - l)).toInt64 * wsL k 0 1 * pwL (nI x).toInt64 k 1 * pwL (80 - (nI x).toInt64) (8 - k) 1)
def shM (x l : Nat) : Int64 := yuU x l (8 - l) (l + 1) 0
theorem shM_ok : ∀ x, x < 11 → ∀ l, l < 9 → shM x l = shU x l ∧ gdT 200 (shU x l) (pwL 80 8 1) = true ∧ shD x l ≠ 0 := by decide +kernel
set_option maxHeartbeats 4000000 in
theorem l_X6_ways {K : KX} {E : EnvT} (hE : EOK E) (h : Cx K E cX6_ways 4 RX6 0 0) {σ : ST} {post : Option Value → ST → Prop} (hR : Rx K E (some .long) post) (n : Nat) (hn : n ≤ 8) : ∀ m j a, j + m = n → post (some (.long (wsL m j a))) σ → GG K E σ 4 [(0, .int (nI n)), (1, .long a), (3, .int (nI j))] [] := by
  intro m
  induction m with
  | zero =>
    intro j a hm hp
    refine g_iload_n h (q := 3) 2 dX6_ways_4 rfl ?_
    refine g_iload_n h (q := 0) 0 dX6_ways_5 rfl ?_
    refine g_ncmp_ge h (a := j) (b := n) 28 dX6_ways_6 (by decide) (by omega) (by omega) (fun c1 => ?_) (fun c1 => ?_)
    · refine g_lload_n h (q := 1) 1 dX6_ways_28 rfl ?_
      exact g_lret h hR dX6_ways_29 (hp)
    · exfalso; omega
  | succ m ih =>
    intro j a hm hp
    refine g_iload_n h (q := 3) 2 dX6_ways_4 rfl ?_
    refine g_iload_n h (q := 0) 0 dX6_ways_5 rfl ?_
    refine g_ncmp_ge h (a := j) (b := n) 28 dX6_ways_6 (by decide) (by omega) (by omega) (fun c1 => ?_) (fun c1 => ?_)
    · exfalso; omega
    · refine g_lload_n h (q := 1) 1 dX6_ways_9 rfl ?_
      refine g_bipush h (v := 8) dX6_ways_10 (by decide) ?_
      refine g_iload_n h (q := 3) 2 dX6_ways_12 rfl ?_
      refine g_isub h dX6_ways_13 ?_
      refine g_is (nI (8 - j)) (pk_sub (a := 8) (b := j) (by omega)) ?_
      refine g_i2l h dX6_ways_14 ?_
      refine g_lmul h dX6_ways_15 ?_
      refine g_iload_n h (q := 3) 2 dX6_ways_16 rfl ?_
      refine g_iconst h (v := 1) dX6_ways_17 (by decide) ?_
      refine g_iadd h dX6_ways_18 ?_
      refine g_is (nI (j + 1)) (nI_add j 1) ?_
      refine g_i2l h dX6_ways_19 ?_
      refine g_ldiv h dX6_ways_20 (ws_ne j (by omega)) ?_
      refine g_lstore_n h (q := 1) [(0, .int (nI (n))), (1, .long ((a * ((nI (8 - j)).toInt64)) / ((nI (j + 1)).toInt64))), (3, .int (nI (j)))] dX6_ways_21 (by decide) rfl ?_
      refine g_iinc h (q := 3) (v := nI (j + 1)) 2 [(0, .int (nI (n))), (1, .long ((a * ((nI (8 - j)).toInt64)) / ((nI (j + 1)).toInt64))), (3, .int (nI (j + 1)))] dX6_ways_22 rfl (nI_inc j 1) (by decide) rfl ?_
      refine g_goto h 4 dX6_ways_25 (by decide) ?_
      exact ih (j + 1) _ (by omega) hp
set_option maxHeartbeats 4000000 in
theorem c_X6_ways (l : Launch) {E : EnvT} (hE : EOK E) {σ : ST} (n : Nat) (hn : n ≤ 8) : Con l E yX6_ways cX6_ways 4 (some .long) 0 0 [.int (nI (n))] σ (rL (wsL n 0 1) σ) := by
  refine con_intro hE (by decide) (Nat.le_of_ble_eq_true rfl) (fun K hkl h hR => ?_)
  subst hkl
  have h : Cx K E cX6_ways 4 RX6 0 0 := h
  show GG K E σ 0 [(0, .int (nI (n)))] []
  refine g_lconst h (v := 1) dX6_ways_0 (by decide) ?_
  refine g_lstore_n h (q := 1) [(0, .int (nI (n))), (1, .long 1)] dX6_ways_1 (by decide) rfl ?_
  refine g_iconst h (v := 0) dX6_ways_2 (by decide) ?_
  refine g_istore_n h (q := 3) [(0, .int (nI (n))), (1, .long 1), (3, .int 0)] dX6_ways_3 (by decide) rfl ?_
  exact l_X6_ways hE h hR n hn n 0 1 (Nat.zero_add _) ⟨rfl, rfl⟩
set_option maxHeartbeats 4000000 in
theorem l_X6_gcd {K : KX} {E : EnvT} (hE : EOK E) (h : Cx K E cX6_gcd 10 RX6 0 0) {σ : ST} {post : Option Value → ST → Prop} (hR : Rx K E (some .long) post) (a b : Int64) : ∀ m x y, gdT m x y = true → post (some (.long (cdL m x y))) σ → GG K E σ 6 [(0, .long a), (2, .long b), (4, .long x), (6, .long y)] [] := by
  intro m
  induction m with
  | zero =>
    intro x y hg hp
    have hy : y = 0 := by simpa [gdT] using hg
    refine g_lload h (q := 6) 3 dX6_gcd_6 rfl ?_
    refine g_lconst h (v := 0) dX6_gcd_8 (by decide) ?_
    refine g_lcmp h dX6_gcd_9 ?_
    refine g_if_eq h 31 dX6_gcd_10 (by decide) (fun c1 => ?_) (fun c1 => ?_)
    · refine g_lload h (q := 4) 2 dX6_gcd_31 rfl ?_
      exact g_lret h hR dX6_gcd_33 (hp)
    · exact absurd (cmp_0.mpr hy) c1
  | succ m ih =>
    intro x y hg hp
    refine g_lload h (q := 6) 3 dX6_gcd_6 rfl ?_
    refine g_lconst h (v := 0) dX6_gcd_8 (by decide) ?_
    refine g_lcmp h dX6_gcd_9 ?_
    refine g_if_eq h 31 dX6_gcd_10 (by decide) (fun c2 => ?_) (fun c2 => ?_)
    · refine g_lload h (q := 4) 2 dX6_gcd_31 rfl ?_
      exact g_lret h hR dX6_gcd_33 (by rw [cdL, if_pos (cmp_0.mp c2)] at hp; exact hp)
    · refine g_lload h (q := 4) 2 dX6_gcd_13 rfl ?_
      refine g_lload h (q := 6) 3 dX6_gcd_15 rfl ?_
      refine g_lrem h dX6_gcd_17 (fun e => c2 (cmp_0.mpr e)) ?_
      refine g_lstore h (q := 8) [(0, .long a), (2, .long b), (4, .long x), (6, .long y), (8, .long (x - x / y * y))] dX6_gcd_18 (by decide) rfl ?_
      refine g_lload h (q := 6) 3 dX6_gcd_20 rfl ?_
      refine g_lstore h (q := 4) [(0, .long a), (2, .long b), (4, .long y), (6, .long y), (8, .long (x - x / y * y))] dX6_gcd_22 (by decide) rfl ?_
      refine g_lload h (q := 8) 4 dX6_gcd_24 rfl ?_
      refine g_lstore h (q := 6) [(0, .long a), (2, .long b), (4, .long y), (6, .long (x - x / y * y)), (8, .long (x - x / y * y))] dX6_gcd_26 (by decide) rfl ?_
      refine g_goto h 6 dX6_gcd_28 (by decide) ?_
      refine g_sub [(0, .long a), (2, .long b), (4, .long y), (6, .long (x - x / y * y))] [0, 1, 2, 3] rfl ?_
      have hy : ¬ y = 0 := fun e => c2 (cmp_0.mpr e)
      exact ih _ _ (by simpa [gdT, hy] using hg) (by rw [cdL, if_neg hy] at hp; exact hp)
set_option maxHeartbeats 4000000 in
theorem c_X6_gcd (l : Launch) {E : EnvT} (hE : EOK E) {σ : ST} (a b : Int64) (m : Nat) (hg : gdT m a b = true) : Con l E yX6_gcd cX6_gcd 10 (some .long) 0 0 [.long a, .long b] σ (rL (cdL m a b) σ) := by
  refine con_intro hE (by decide) (Nat.le_of_ble_eq_true rfl) (fun K hkl h hR => ?_)
  subst hkl
  have h : Cx K E cX6_gcd 10 RX6 0 0 := h
  show GG K E σ 0 [(0, .long a), (2, .long b)] []
  refine g_lload_n h (q := 0) 0 dX6_gcd_0 rfl ?_
  refine g_lstore h (q := 4) [(0, .long a), (2, .long b), (4, .long a)] dX6_gcd_1 (by decide) rfl ?_
  refine g_lload_n h (q := 2) 1 dX6_gcd_3 rfl ?_
  refine g_lstore h (q := 6) [(0, .long a), (2, .long b), (4, .long a), (6, .long b)] dX6_gcd_4 (by decide) rfl ?_
  exact l_X6_gcd hE h hR a b m a b hg ⟨rfl, rfl⟩
set_option maxHeartbeats 4000000 in
theorem l_X6_share {K : KX} {E : EnvT} (hE : EOK E) (h : Cx K E cX6_share 10 RX6 1 29) {σ : ST} {M : MT} (x0 l0 : Nat) (hx0 : x0 ≤ 10) (hl0 : l0 ≤ 8) (c : Int32) : ∀ m k a, k + m = 9 → l0 ≤ k → (∀ k9, GG K E (sM σ M) 93 [(0, .ref (ad E 11 0 0)), (1, .int (nI x0)), (2, .int (nI l0)), (3, .int c), (4, .long (yuU x0 l0 m k a)), (6, .int k9)] []) → GG K E (sM σ M) 41 [(0, .ref (ad E 11 0 0)), (1, .int (nI x0)), (2, .int (nI l0)), (3, .int c), (4, .long a), (6, .int (nI k))] [] := by
  intro m
  induction m with
  | zero =>
    intro k a hm hlk hp
    refine g_iload h (q := 6) 5 dX6_share_41 rfl ?_
    refine g_bipush h (v := 8) dX6_share_43 (by decide) ?_
    refine g_ncmp_gt h (a := k) (b := 8) 93 dX6_share_45 (by decide) (by omega) (by omega) (fun c1 => ?_) (fun c1 => ?_)
    · exact hp _
    · exfalso; omega
  | succ m ih =>
    intro k a hm hlk hp
    refine g_iload h (q := 6) 5 dX6_share_41 rfl ?_
    refine g_bipush h (v := 8) dX6_share_43 (by decide) ?_
    refine g_ncmp_gt h (a := k) (b := 8) 93 dX6_share_45 (by decide) (by omega) (by omega) (fun c1 => ?_) (fun c1 => ?_)
    · exfalso; omega
    · refine g_lload h (q := 4) 4 dX6_share_48 rfl ?_
      refine g_iload h (q := 6) 5 dX6_share_50 rfl ?_
      refine g_iload_n h (q := 2) 2 dX6_share_52 rfl ?_
      refine g_isub h dX6_share_53 ?_
      refine g_is (nI (k - l0)) (pk_sub (a := k) (b := l0) (by omega)) ?_
      refine g_i2l h dX6_share_54 ?_
      refine g_iload h (q := 6) 5 dX6_share_55 rfl ?_
      refine g_callS h ms_X6_ways (As := [.int (nI (k))]) (c_X6_ways (kl K) hE (σ := sM σ M) k (by omega)) ml_X6_136 rfl (by decide) (by decide) rfl (Nat.le_of_ble_eq_true rfl) dX6_share_57 (fun v σ9 h9 => ?_)
      rw [h9.1, h9.2]; clear h9
      refine g_lmul h dX6_share_60 ?_
      refine g_iload_n h (q := 1) 1 dX6_share_61 rfl ?_
      refine g_i2l h dX6_share_62 ?_
      refine g_iload h (q := 6) 5 dX6_share_63 rfl ?_
      refine g_callS h ms_X6_power (As := [.long ((nI (x0)).toInt64), .int (nI (k))]) (c_X6_power (kl K) hE (σ := sM σ M) (nI x0).toInt64 k (by omega)) ml_X6_140 rfl (by decide) (by decide) rfl (Nat.le_of_ble_eq_true rfl) dX6_share_65 (fun v σ9 h9 => ?_)
      rw [h9.1, h9.2]; clear h9
      refine g_lmul h dX6_share_68 ?_
      refine g_ldc2 h cj_X6_144 dX6_share_69 ?_
      refine g_iload_n h (q := 1) 1 dX6_share_72 rfl ?_
      refine g_i2l h dX6_share_73 ?_
      refine g_lsub h dX6_share_74 ?_
      refine g_bipush h (v := 8) dX6_share_75 (by decide) ?_
      refine g_iload h (q := 6) 5 dX6_share_77 rfl ?_
      refine g_isub h dX6_share_79 ?_
      refine g_is (nI (8 - k)) (pk_sub (a := 8) (b := k) (by omega)) ?_
      refine g_callS h ms_X6_power (As := [.long (80 - ((nI (x0)).toInt64)), .int (nI (8 - k))]) (c_X6_power (kl K) hE (σ := sM σ M) (80 - (nI x0).toInt64) (8 - k) (by omega)) ml_X6_140 rfl (by decide) (by decide) rfl (Nat.le_of_ble_eq_true rfl) dX6_share_80 (fun v σ9 h9 => ?_)
      rw [h9.1, h9.2]; clear h9
      refine g_lmul h dX6_share_83 ?_
      refine g_ladd h dX6_share_84 ?_
      refine g_lstore h (q := 4) [(0, .ref (ad E 11 0 0)), (1, .int (nI (x0))), (2, .int (nI (l0))), (3, .int c), (4, .long (a + (((((nI (k - l0)).toInt64) * (wsL k 0 1)) * (pwL (nI x0).toInt64 k 1)) * (pwL (80 - (nI x0).toInt64) (8 - k) 1)))), (6, .int (nI (k)))] dX6_share_85 (by decide) rfl ?_
      refine g_iinc h (q := 6) (v := nI (k + 1)) 5 [(0, .ref (ad E 11 0 0)), (1, .int (nI (x0))), (2, .int (nI (l0))), (3, .int c), (4, .long (a + (((((nI (k - l0)).toInt64) * (wsL k 0 1)) * (pwL (nI x0).toInt64 k 1)) * (pwL (80 - (nI x0).toInt64) (8 - k) 1)))), (6, .int (nI (k + 1)))] dX6_share_87 rfl (nI_inc k 1) (by decide) rfl ?_
      refine g_goto h 41 dX6_share_90 (by decide) ?_
      exact ih (k + 1) _ (by omega) (by omega) hp
set_option maxHeartbeats 4000000 in
theorem c_X6_share (l : Launch) {E : EnvT} (hE : EOK E) {σ : ST} {M : MT} (a b c : Int32) : Con l E yX6_share cX6_share 10 (some .long) 1 29 [.ref (ad E 11 0 0), .int a, .int b, .int c] (sM σ M) (rL (xShare a b c) (sM σ M)) := by
  refine con_intro hE (by decide) (Nat.le_of_ble_eq_true rfl) (fun K hkl h hR => ?_)
  subst hkl
  have h : Cx K E cX6_share 10 RX6 1 29 := h
  show GG K E (sM σ M) 0 [(0, .ref (ad E 11 0 0)), (1, .int a), (2, .int b), (3, .int c)] []
  refine g_iload_n h (q := 1) 1 dX6_share_0 rfl ?_
  refine g_iconst h (v := 0) dX6_share_1 (by decide) ?_
  refine g_bipush h (v := 10) dX6_share_2 (by decide) ?_
  refine g_callS h ms_X6_in (As := [.int a, .int 0, .int 10]) (c_X6_in (kl K) hE (σ := σ) (M := M) a 0 10) ml_X6_63 rfl (by decide) (by decide) rfl (Nat.le_of_ble_eq_true rfl) dX6_share_4 (fun v σ9 h9 => ?_)
  rw [h9.1, h9.2]; clear h9
  refine g_if_eq h 29 dX6_share_7 (by decide) (fun c1 => ?_) (fun c1 => ?_)
  · refine g_ldc2 h cj_X6_134 dX6_share_29 ?_
    exact g_lret h hR dX6_share_32 (show rL _ _ _ _ from ⟨by rw [xShare, if_neg (by simp [bI_0.mp c1])], rfl⟩)
  · refine g_iload_n h (q := 2) 2 dX6_share_10 rfl ?_
    refine g_iconst h (v := 0) dX6_share_11 (by decide) ?_
    refine g_bipush h (v := 8) dX6_share_12 (by decide) ?_
    refine g_callS h ms_X6_in (As := [.int b, .int 0, .int 8]) (c_X6_in (kl K) hE (σ := σ) (M := M) b 0 8) ml_X6_63 rfl (by decide) (by decide) rfl (Nat.le_of_ble_eq_true rfl) dX6_share_14 (fun v σ9 h9 => ?_)
    rw [h9.1, h9.2]; clear h9
    refine g_if_eq h 29 dX6_share_17 (by decide) (fun c2 => ?_) (fun c2 => ?_)
    · refine g_ldc2 h cj_X6_134 dX6_share_29 ?_
      exact g_lret h hR dX6_share_32 (show rL _ _ _ _ from ⟨by rw [xShare, if_neg (by simp [bI_1.mp c1, bI_0.mp c2])], rfl⟩)
    · refine g_iload_n h (q := 3) 3 dX6_share_20 rfl ?_
      refine g_iconst h (v := 0) dX6_share_21 (by decide) ?_
      refine g_iconst h (v := 1) dX6_share_22 (by decide) ?_
      refine g_callS h ms_X6_in (As := [.int c, .int 0, .int 1]) (c_X6_in (kl K) hE (σ := σ) (M := M) c 0 1) ml_X6_63 rfl (by decide) (by decide) rfl (Nat.le_of_ble_eq_true rfl) dX6_share_23 (fun v σ9 h9 => ?_)
      rw [h9.1, h9.2]; clear h9
      refine g_if_ne h 33 dX6_share_26 (by decide) (fun c3 => ?_) (fun c3 => ?_)
      · have hwa := bI_1.mp c1
        obtain ⟨x0, hx0, hex0⟩ := wi_nat (n := 10) (by decide) hwa
        subst hex0
        have hcx0 : (nI x0).toNatClampNeg = x0 := nI_clamp (by omega)
        have hwb := bI_1.mp c2
        obtain ⟨l0, hl0, hel0⟩ := wi_nat (n := 8) (by decide) hwb
        subst hel0
        have hcl0 : (nI l0).toNatClampNeg = l0 := nI_clamp (by omega)
        obtain ⟨hU, hG, hD⟩ := shM_ok x0 (by omega) l0 (by omega)
        refine g_lconst h (v := 0) dX6_share_33 (by decide) ?_
        refine g_lstore h (q := 4) [(0, .ref (ad E 11 0 0)), (1, .int (nI (x0))), (2, .int (nI (l0))), (3, .int c), (4, .long 0)] dX6_share_34 (by decide) rfl ?_
        refine g_iload_n h (q := 2) 2 dX6_share_36 rfl ?_
        refine g_iconst h (v := 1) dX6_share_37 (by decide) ?_
        refine g_iadd h dX6_share_38 ?_
        refine g_is (nI (l0 + 1)) (nI_add l0 1) ?_
        refine g_istore h (q := 6) [(0, .ref (ad E 11 0 0)), (1, .int (nI (x0))), (2, .int (nI (l0))), (3, .int c), (4, .long 0), (6, .int (nI (l0 + 1)))] dX6_share_39 (by decide) rfl ?_
        refine l_X6_share hE h x0 l0 hx0 hl0 c (8 - l0) (l0 + 1) 0 (by omega) (by omega) (fun k9 => ?_)
        rw [show yuU x0 l0 (8 - l0) (l0 + 1) 0 = shU x0 l0 from hU]
        refine g_ldc2 h cj_X6_144 dX6_share_93 ?_
        refine g_bipush h (v := 8) dX6_share_96 (by decide) ?_
        refine g_callS h ms_X6_power (As := [.long 80, .int 8]) (c_X6_power (kl K) hE (σ := sM σ M) 80 8 (by decide)) ml_X6_140 rfl (by decide) (by decide) rfl (Nat.le_of_ble_eq_true rfl) dX6_share_98 (fun v σ9 h9 => ?_)
        rw [h9.1, h9.2]; clear h9
        refine g_lstore h (q := 6) [(0, .ref (ad E 11 0 0)), (1, .int (nI (x0))), (2, .int (nI (l0))), (3, .int c), (4, .long (shU x0 l0)), (6, .long (pwL 80 8 1))] dX6_share_101 (by decide) rfl ?_
        refine g_lload h (q := 4) 4 dX6_share_103 rfl ?_
        refine g_lload h (q := 6) 5 dX6_share_105 rfl ?_
        refine g_callS h ms_X6_gcd (As := [.long (shU x0 l0), .long (pwL 80 8 1)]) (c_X6_gcd (kl K) hE (σ := sM σ M) (shU x0 l0) (pwL 80 8 1) 200 hG) ml_X6_146 rfl (by decide) (by decide) rfl (Nat.le_of_ble_eq_true rfl) dX6_share_107 (fun v σ9 h9 => ?_)
        rw [h9.1, h9.2]; clear h9
        refine g_lstore h (q := 8) [(0, .ref (ad E 11 0 0)), (1, .int (nI (x0))), (2, .int (nI (l0))), (3, .int c), (4, .long (shU x0 l0)), (6, .long (pwL 80 8 1)), (8, .long (shD x0 l0))] dX6_share_110 (by decide) rfl ?_
        refine g_iload_n h (q := 3) 3 dX6_share_112 rfl ?_
        refine g_if_ne h 124 dX6_share_113 (by decide) (fun c5 => ?_) (fun c5 => ?_)
        · refine g_lload h (q := 6) 5 dX6_share_124 rfl ?_
          refine g_lload h (q := 8) 6 dX6_share_126 rfl ?_
          refine g_ldiv h dX6_share_128 (hD) ?_
          exact g_lret h hR dX6_share_129 (show rL _ _ _ _ from ⟨by rw [xShare, if_pos ⟨hwa, hwb, bI_1.mp c3⟩, hcx0, hcl0, if_neg hD, if_neg c5], rfl⟩)
        · refine g_lload h (q := 4) 4 dX6_share_116 rfl ?_
          refine g_lload h (q := 8) 6 dX6_share_118 rfl ?_
          refine g_ldiv h dX6_share_120 (hD) ?_
          refine g_goto h 129 dX6_share_121 (by decide) ?_
          exact g_lret h hR dX6_share_129 (show rL _ _ _ _ from ⟨by rw [xShare, if_pos ⟨hwa, hwb, bI_1.mp c3⟩, hcx0, hcl0, if_neg hD, if_pos c5], rfl⟩)
      · refine g_ldc2 h cj_X6_134 dX6_share_29 ?_
        exact g_lret h hR dX6_share_32 (show rL _ _ _ _ from ⟨by rw [xShare, if_neg (by simp [bI_1.mp c1, bI_1.mp c2, bI_0.mp c3])], rfl⟩)
