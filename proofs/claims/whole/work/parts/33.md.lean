def mqP (M : MT) (a : Int32) (n i : Nat) : Bool := decide (mOf M i 0 = 2) && (decide (mOf M i 2 = a) && decide (mOf M i 7 < mOf M n 7))
def mqS (M : MT) (a : Int32) (n : Nat) : Nat := ctL (mqP M a n) (M.2.1 0) 0 0
def mqF (M : MT) (a kk : Int32) (n : Nat) : Bool := decide (mOf M n 0 = 2) && (decide (mOf M n 2 = a) && decide (nI (mqS M a n) = kk))
def mQ (M : MT) (a kk : Int32) : Int32 := findN (mqF M a kk) (M.2.1 0) 0
set_option maxHeartbeats 4000000 in
theorem i_X6_queued {K : KX} {E : EnvT} (hE : EOK E) (h : Cx K E cX6_queued 6 RX6 1 22) {σ : ST} {M : MT} (hM : M.2.1 0 ≤ 64) (a kk : Int32) (n : Nat) (hn : n < 64) : ∀ m i c, i + m = M.2.1 0 → c ≤ i → (GG K E (sM σ M) 101 [(0, .ref (ad E 11 0 0)), (1, .int a), (2, .int kk), (3, .int (nI n)), (4, .int (nI (ctL (mqP M a n) m i c)))] []) → GG K E (sM σ M) 36 [(0, .ref (ad E 11 0 0)), (1, .int a), (2, .int kk), (3, .int (nI n)), (4, .int (nI c)), (5, .int (nI i))] [] := by
  intro m
  induction m with
  | zero =>
    intro i c hi hc hp
    refine g_iload h (q := 5) 5 dX6_queued_36 rfl ?_
    refine g_aload_n h (q := 0) 0 dX6_queued_38 rfl ?_
    refine g_gMn h 0 (by decide) fl_X6_50 dX6_queued_39 ?_
    refine g_ncmp_ge h (a := i) (b := M.2.1 0) 101 dX6_queued_42 (by decide) (by omega) (by omega) (fun c1 => ?_) (fun c1 => ?_)
    · refine g_sub [(0, .ref (ad E 11 0 0)), (1, .int a), (2, .int kk), (3, .int (nI (n))), (4, .int (nI (c)))] [0, 1, 2, 3, 4] rfl ?_
      exact hp
    · exfalso; omega
  | succ m ih =>
    intro i c hi hc hp
    refine g_iload h (q := 5) 5 dX6_queued_36 rfl ?_
    refine g_aload_n h (q := 0) 0 dX6_queued_38 rfl ?_
    refine g_gMn h 0 (by decide) fl_X6_50 dX6_queued_39 ?_
    refine g_ncmp_ge h (a := i) (b := M.2.1 0) 101 dX6_queued_42 (by decide) (by omega) (by omega) (fun c1 => ?_) (fun c1 => ?_)
    · exfalso; omega
    · refine g_iload h (q := 4) 4 dX6_queued_45 rfl ?_
      refine g_aload_n h (q := 0) 0 dX6_queued_47 rfl ?_
      refine g_iload h (q := 5) 5 dX6_queued_48 rfl ?_
      refine g_iconst h (v := 0) dX6_queued_50 (by decide) ?_
      refine g_callV h mv_X6_of 11 0 0 ⟨rfl, rfl⟩ rfl rfl (As := [.int (nI (i)), .int 0]) (c_X6_of (kl K) hE (σ := σ) (M := M) (i) 0 (by omega) (by decide)) ml_X6_70 rfl (by decide) (by decide) rfl (Nat.le_of_ble_eq_true rfl) dX6_queued_51 (fun v σ9 h9 => ?_)
      rw [h9.1, h9.2]; clear h9
      refine g_iconst h (v := 2) dX6_queued_54 (by decide) ?_
      refine g_icmp_ne h 91 dX6_queued_55 (by decide) (fun c2 => ?_) (fun c2 => ?_)
      · refine g_iconst h (v := 0) dX6_queued_91 (by decide) ?_
        refine g_iadd h dX6_queued_92 ?_
        refine g_is (nI (c + 0)) (nI_add c 0) ?_
        refine g_istore h (q := 4) [(0, .ref (ad E 11 0 0)), (1, .int a), (2, .int kk), (3, .int (nI (n))), (4, .int (nI (c + 0))), (5, .int (nI (i)))] dX6_queued_93 (by decide) rfl ?_
        refine g_iinc h (q := 5) (v := nI (i + 1)) 5 [(0, .ref (ad E 11 0 0)), (1, .int a), (2, .int kk), (3, .int (nI (n))), (4, .int (nI (c + 0))), (5, .int (nI (i + 1)))] dX6_queued_95 rfl (nI_inc i 1) (by decide) rfl ?_
        refine g_goto h 36 dX6_queued_98 (by decide) ?_
        refine ih (i + 1) (c + 0) (by omega) (by omega) ?_
        have e : mqP M a n i = false := by simp [mqP, c2]
        have e2 : ctL (mqP M a n) (m + 1) i c = ctL (mqP M a n) m (i + 1) (c + 0) := by simp [ctL, e]
        rw [← e2]
        exact hp
      · refine g_aload_n h (q := 0) 0 dX6_queued_58 rfl ?_
        refine g_iload h (q := 5) 5 dX6_queued_59 rfl ?_
        refine g_iconst h (v := 2) dX6_queued_61 (by decide) ?_
        refine g_callV h mv_X6_of 11 0 0 ⟨rfl, rfl⟩ rfl rfl (As := [.int (nI (i)), .int 2]) (c_X6_of (kl K) hE (σ := σ) (M := M) (i) 2 (by omega) (by decide)) ml_X6_70 rfl (by decide) (by decide) rfl (Nat.le_of_ble_eq_true rfl) dX6_queued_62 (fun v σ9 h9 => ?_)
        rw [h9.1, h9.2]; clear h9
        refine g_iload_n h (q := 1) 1 dX6_queued_65 rfl ?_
        refine g_icmp_ne h 91 dX6_queued_66 (by decide) (fun c3 => ?_) (fun c3 => ?_)
        · refine g_iconst h (v := 0) dX6_queued_91 (by decide) ?_
          refine g_iadd h dX6_queued_92 ?_
          refine g_is (nI (c + 0)) (nI_add c 0) ?_
          refine g_istore h (q := 4) [(0, .ref (ad E 11 0 0)), (1, .int a), (2, .int kk), (3, .int (nI (n))), (4, .int (nI (c + 0))), (5, .int (nI (i)))] dX6_queued_93 (by decide) rfl ?_
          refine g_iinc h (q := 5) (v := nI (i + 1)) 5 [(0, .ref (ad E 11 0 0)), (1, .int a), (2, .int kk), (3, .int (nI (n))), (4, .int (nI (c + 0))), (5, .int (nI (i + 1)))] dX6_queued_95 rfl (nI_inc i 1) (by decide) rfl ?_
          refine g_goto h 36 dX6_queued_98 (by decide) ?_
          refine ih (i + 1) (c + 0) (by omega) (by omega) ?_
          have e : mqP M a n i = false := by simp [mqP, c2, c3]
          have e2 : ctL (mqP M a n) (m + 1) i c = ctL (mqP M a n) m (i + 1) (c + 0) := by simp [ctL, e]
          rw [← e2]
          exact hp
        · refine g_aload_n h (q := 0) 0 dX6_queued_69 rfl ?_
          refine g_iload h (q := 5) 5 dX6_queued_70 rfl ?_
          refine g_bipush h (v := 7) dX6_queued_72 (by decide) ?_
          refine g_callV h mv_X6_of 11 0 0 ⟨rfl, rfl⟩ rfl rfl (As := [.int (nI (i)), .int 7]) (c_X6_of (kl K) hE (σ := σ) (M := M) (i) 7 (by omega) (by decide)) ml_X6_70 rfl (by decide) (by decide) rfl (Nat.le_of_ble_eq_true rfl) dX6_queued_74 (fun v σ9 h9 => ?_)
          rw [h9.1, h9.2]; clear h9
          refine g_aload_n h (q := 0) 0 dX6_queued_77 rfl ?_
          refine g_iload_n h (q := 3) 3 dX6_queued_78 rfl ?_
          refine g_bipush h (v := 7) dX6_queued_79 (by decide) ?_
          refine g_callV h mv_X6_of 11 0 0 ⟨rfl, rfl⟩ rfl rfl (As := [.int (nI (n)), .int 7]) (c_X6_of (kl K) hE (σ := σ) (M := M) (n) 7 (hn) (by decide)) ml_X6_70 rfl (by decide) (by decide) rfl (Nat.le_of_ble_eq_true rfl) dX6_queued_81 (fun v σ9 h9 => ?_)
          rw [h9.1, h9.2]; clear h9
          refine g_icmp_ge h 91 dX6_queued_84 (by decide) (fun c4 => ?_) (fun c4 => ?_)
          · refine g_iconst h (v := 0) dX6_queued_91 (by decide) ?_
            refine g_iadd h dX6_queued_92 ?_
            refine g_is (nI (c + 0)) (nI_add c 0) ?_
            refine g_istore h (q := 4) [(0, .ref (ad E 11 0 0)), (1, .int a), (2, .int kk), (3, .int (nI (n))), (4, .int (nI (c + 0))), (5, .int (nI (i)))] dX6_queued_93 (by decide) rfl ?_
            refine g_iinc h (q := 5) (v := nI (i + 1)) 5 [(0, .ref (ad E 11 0 0)), (1, .int a), (2, .int kk), (3, .int (nI (n))), (4, .int (nI (c + 0))), (5, .int (nI (i + 1)))] dX6_queued_95 rfl (nI_inc i 1) (by decide) rfl ?_
            refine g_goto h 36 dX6_queued_98 (by decide) ?_
            refine ih (i + 1) (c + 0) (by omega) (by omega) ?_
            have e : mqP M a n i = false := by simp [mqP, c2, c3, i_nlt c4]
            have e2 : ctL (mqP M a n) (m + 1) i c = ctL (mqP M a n) m (i + 1) (c + 0) := by simp [ctL, e]
            rw [← e2]
            exact hp
          · refine g_iconst h (v := 1) dX6_queued_87 (by decide) ?_
            refine g_goto h 92 dX6_queued_88 (by decide) ?_
            refine g_iadd h dX6_queued_92 ?_
            refine g_is (nI (c + 1)) (nI_add c 1) ?_
            refine g_istore h (q := 4) [(0, .ref (ad E 11 0 0)), (1, .int a), (2, .int kk), (3, .int (nI (n))), (4, .int (nI (c + 1))), (5, .int (nI (i)))] dX6_queued_93 (by decide) rfl ?_
            refine g_iinc h (q := 5) (v := nI (i + 1)) 5 [(0, .ref (ad E 11 0 0)), (1, .int a), (2, .int kk), (3, .int (nI (n))), (4, .int (nI (c + 1))), (5, .int (nI (i + 1)))] dX6_queued_95 rfl (nI_inc i 1) (by decide) rfl ?_
            refine g_goto h 36 dX6_queued_98 (by decide) ?_
            refine ih (i + 1) (c + 1) (by omega) (by omega) ?_
            have e : mqP M a n i = true := by simp [mqP, c2, c3, i_lt c4]
            have e2 : ctL (mqP M a n) (m + 1) i c = ctL (mqP M a n) m (i + 1) (c + 1) := by simp [ctL, e]
            rw [← e2]
            exact hp
set_option maxHeartbeats 4000000 in
theorem l_X6_queued {K : KX} {E : EnvT} (hE : EOK E) (h : Cx K E cX6_queued 6 RX6 1 22) {σ : ST} {M : MT} {post : Option Value → ST → Prop} (hR : Rx K E (some .int) post) (hM : M.2.1 0 ≤ 64) (a kk : Int32) : ∀ m n, n + m = M.2.1 0 → post (some (.int (findN (mqF M a kk) m n))) (sM σ M) → GG K E (sM σ M) 2 [(0, .ref (ad E 11 0 0)), (1, .int a), (2, .int kk), (3, .int (nI n))] [] := by
  intro m
  induction m with
  | zero =>
    intro n hn hp
    refine g_iload_n h (q := 3) 3 dX6_queued_2 rfl ?_
    refine g_aload_n h (q := 0) 0 dX6_queued_3 rfl ?_
    refine g_gMn h 0 (by decide) fl_X6_50 dX6_queued_4 ?_
    refine g_ncmp_ge h (a := n) (b := M.2.1 0) 115 dX6_queued_7 (by decide) (by omega) (by omega) (fun c1 => ?_) (fun c1 => ?_)
    · refine g_bipush h (v := (-9)) dX6_queued_115 (by decide) ?_
      exact g_iret h hR dX6_queued_117 (hp)
    · exfalso; omega
  | succ m ih =>
    intro n hn hp
    refine g_iload_n h (q := 3) 3 dX6_queued_2 rfl ?_
    refine g_aload_n h (q := 0) 0 dX6_queued_3 rfl ?_
    refine g_gMn h 0 (by decide) fl_X6_50 dX6_queued_4 ?_
    refine g_ncmp_ge h (a := n) (b := M.2.1 0) 115 dX6_queued_7 (by decide) (by omega) (by omega) (fun c1 => ?_) (fun c1 => ?_)
    · exfalso; omega
    · refine g_aload_n h (q := 0) 0 dX6_queued_10 rfl ?_
      refine g_iload_n h (q := 3) 3 dX6_queued_11 rfl ?_
      refine g_iconst h (v := 0) dX6_queued_12 (by decide) ?_
      refine g_callV h mv_X6_of 11 0 0 ⟨rfl, rfl⟩ rfl rfl (As := [.int (nI (n)), .int 0]) (c_X6_of (kl K) hE (σ := σ) (M := M) (n) 0 (by omega) (by decide)) ml_X6_70 rfl (by decide) (by decide) rfl (Nat.le_of_ble_eq_true rfl) dX6_queued_13 (fun v σ9 h9 => ?_)
      rw [h9.1, h9.2]; clear h9
      refine g_iconst h (v := 2) dX6_queued_16 (by decide) ?_
      refine g_icmp_ne h 109 dX6_queued_17 (by decide) (fun c2 => ?_) (fun c2 => ?_)
      · refine g_iinc h (q := 3) (v := nI (n + 1)) 3 [(0, .ref (ad E 11 0 0)), (1, .int a), (2, .int kk), (3, .int (nI (n + 1)))] dX6_queued_109 rfl (nI_inc n 1) (by decide) rfl ?_
        refine g_goto h 2 dX6_queued_112 (by decide) ?_
        refine g_sub [(0, .ref (ad E 11 0 0)), (1, .int a), (2, .int kk), (3, .int (nI (n + 1)))] [0, 1, 2, 3] rfl ?_
        have e : mqF M a kk n = false := by simp [mqF, c2]
        exact ih (n + 1) (by omega) (by simpa [findN, e] using hp)
      · refine g_aload_n h (q := 0) 0 dX6_queued_20 rfl ?_
        refine g_iload_n h (q := 3) 3 dX6_queued_21 rfl ?_
        refine g_iconst h (v := 2) dX6_queued_22 (by decide) ?_
        refine g_callV h mv_X6_of 11 0 0 ⟨rfl, rfl⟩ rfl rfl (As := [.int (nI (n)), .int 2]) (c_X6_of (kl K) hE (σ := σ) (M := M) (n) 2 (by omega) (by decide)) ml_X6_70 rfl (by decide) (by decide) rfl (Nat.le_of_ble_eq_true rfl) dX6_queued_23 (fun v σ9 h9 => ?_)
        rw [h9.1, h9.2]; clear h9
        refine g_iload_n h (q := 1) 1 dX6_queued_26 rfl ?_
        refine g_icmp_ne h 109 dX6_queued_27 (by decide) (fun c3 => ?_) (fun c3 => ?_)
        · refine g_iinc h (q := 3) (v := nI (n + 1)) 3 [(0, .ref (ad E 11 0 0)), (1, .int a), (2, .int kk), (3, .int (nI (n + 1)))] dX6_queued_109 rfl (nI_inc n 1) (by decide) rfl ?_
          refine g_goto h 2 dX6_queued_112 (by decide) ?_
          refine g_sub [(0, .ref (ad E 11 0 0)), (1, .int a), (2, .int kk), (3, .int (nI (n + 1)))] [0, 1, 2, 3] rfl ?_
          have e : mqF M a kk n = false := by simp [mqF, c2, c3]
          exact ih (n + 1) (by omega) (by simpa [findN, e] using hp)
        · refine g_iconst h (v := 0) dX6_queued_30 (by decide) ?_
          refine g_istore h (q := 4) [(0, .ref (ad E 11 0 0)), (1, .int a), (2, .int kk), (3, .int (nI (n))), (4, .int 0)] dX6_queued_31 (by decide) rfl ?_
          refine g_iconst h (v := 0) dX6_queued_33 (by decide) ?_
          refine g_istore h (q := 5) [(0, .ref (ad E 11 0 0)), (1, .int a), (2, .int kk), (3, .int (nI (n))), (4, .int 0), (5, .int 0)] dX6_queued_34 (by decide) rfl ?_
          refine i_X6_queued hE h hM a kk n (by omega) (M.2.1 0) 0 0 (Nat.zero_add _) (Nat.le_refl _) ?_
          rw [show ctL (mqP M a n) (M.2.1 0) 0 0 = mqS M a n from rfl]
          refine g_iload h (q := 4) 4 dX6_queued_101 rfl ?_
          refine g_iload_n h (q := 2) 2 dX6_queued_103 rfl ?_
          refine g_icmp_ne h 109 dX6_queued_104 (by decide) (fun c4 => ?_) (fun c4 => ?_)
          · refine g_iinc h (q := 3) (v := nI (n + 1)) 3 [(0, .ref (ad E 11 0 0)), (1, .int a), (2, .int kk), (3, .int (nI (n + 1))), (4, .int (nI (mqS M a n)))] dX6_queued_109 rfl (nI_inc n 1) (by decide) rfl ?_
            refine g_goto h 2 dX6_queued_112 (by decide) ?_
            refine g_sub [(0, .ref (ad E 11 0 0)), (1, .int a), (2, .int kk), (3, .int (nI (n + 1)))] [0, 1, 2, 3] rfl ?_
            have e : mqF M a kk n = false := by simp [mqF, c2, c3, c4]
            exact ih (n + 1) (by omega) (by simpa [findN, e] using hp)
          · refine g_iload_n h (q := 3) 3 dX6_queued_107 rfl ?_
            exact g_iret h hR dX6_queued_108 (by
        have e : mqF M a kk n = true := by simp [mqF, c2, c3, c4]
        simpa [findN, e] using hp)
set_option maxHeartbeats 4000000 in
theorem c_X6_queued (l : Launch) {E : EnvT} (hE : EOK E) {σ : ST} {M : MT} (hM : M.2.1 0 ≤ 64) (a kk : Int32) : Con l E yX6_queued cX6_queued 6 (some .int) 1 22 [.ref (ad E 11 0 0), .int a, .int kk] (sM σ M) (rI (mQ M a kk) (sM σ M)) := by
  refine con_intro hE (by decide) (Nat.le_of_ble_eq_true rfl) (fun K hkl h hR => ?_)
  subst hkl
  have h : Cx K E cX6_queued 6 RX6 1 22 := h
  show GG K E (sM σ M) 0 [(0, .ref (ad E 11 0 0)), (1, .int a), (2, .int kk)] []
  refine g_iconst h (v := 0) dX6_queued_0 (by decide) ?_
  refine g_istore_n h (q := 3) [(0, .ref (ad E 11 0 0)), (1, .int a), (2, .int kk), (3, .int 0)] dX6_queued_1 (by decide) rfl ?_
  exact l_X6_queued hE h hR hM a kk _ 0 (Nat.zero_add _) ⟨rfl, rfl⟩
def mOut (M : MT) (j : Nat) : MT := mSet (mSet M j 0 3) j 5 (M.1 3)
def goL : Nat → Nat → Nat → MT → Nat × MT
  | 0, _, c, M => (c, M)
  | m + 1, a, c, M => if mQ M (nI a) 0 = -9 then goL m (a + 1) c M else goL m (a + 1) (c + 1) (mOut M (mQ M (nI a) 0).toNatClampNeg)
def mG1 (M : MT) : MT := mTurns (mWins (mR M (mSort M)))
def mGo (M : MT) : Nat × MT := ((goL 8 0 0 (mG1 M)).1, va_up (goL 8 0 0 (mG1 M)).2.1 3 ((goL 8 0 0 (mG1 M)).2.1 3 + 1), (goL 8 0 0 (mG1 M)).2.2)
theorem mQ_nat {M : MT} {a kk : Int32} (h : ¬ mQ M a kk = -9) : ∃ j, j < M.2.1 0 ∧ mqF M a kk j = true ∧ mQ M a kk = nI j := by
  rcases findN_cases (mqF M a kk) (M.2.1 0) 0 with e | ⟨j, _, h2, h3, h4⟩
  · exact absurd e h
  · exact ⟨j, by omega, h3, h4⟩
/-- what wins and turns leave alone -/
theorem mwL_keep (o : Nat → Nat) : ∀ (m k q s : Nat) (M : MT), (mwL o m k q s M).1 = M.1 ∧ (mwL o m k q s M).2.1 0 = M.2.1 0 ∧ (mwL o m k q s M).2.1 3 = M.2.1 3 ∧ (mwL o m k q s M).2.2.2 = M.2.2.2 ∧ (mwL o m k q s M).2.1 2 = M.2.1 2 ∧ (mwL o m k q s M).2.1 4 = M.2.1 4 ∧ (∀ j, j ≠ 0 → (mwL o m k q s M).2.2.1 j = M.2.2.1 j) := by
  intro m
  induction m with
  | zero => intro k q s M; exact ⟨rfl, rfl, rfl, rfl, rfl, rfl, fun _ _ => rfl⟩
  | succ m ih =>
    intro k q s M
    have hw : (mWin M (o k)).1 = M.1 ∧ (mWin M (o k)).2.1 0 = M.2.1 0 ∧ (mWin M (o k)).2.1 3 = M.2.1 3 ∧ (mWin M (o k)).2.2.2 = M.2.2.2 ∧ (mWin M (o k)).2.1 2 = M.2.1 2 ∧ (mWin M (o k)).2.1 4 = M.2.1 4 ∧ (∀ j, j ≠ 0 → (mWin M (o k)).2.2.1 j = M.2.2.1 j) :=
      ⟨rfl, by simp [mWin, va_up], by simp [mWin, va_up], rfl, by simp [mWin, va_up], by simp [mWin, va_up], fun j hj => by simp [mWin, mSet, va_up, hj]⟩
    by_cases hc : nI (if 0 < k ∧ mOf M (o (k - 1)) 2 = mOf M (o k) 2 then s + 1 else 0) < M.1 0 ∧ nI q < M.1 2
    · rw [mwL, if_pos hc]
      obtain ⟨a1, a2, a3, a4, a5, a6, a7⟩ := ih (k + 1) (q + 1) (if 0 < k ∧ mOf M (o (k - 1)) 2 = mOf M (o k) 2 then s + 1 else 0) (mWin M (o k))
      exact ⟨a1.trans hw.1, a2.trans hw.2.1, a3.trans hw.2.2.1, a4.trans hw.2.2.2.1, a5.trans hw.2.2.2.2.1, a6.trans hw.2.2.2.2.2.1, fun j hj => (a7 j hj).trans (hw.2.2.2.2.2.2 j hj)⟩
    · rw [mwL, if_neg hc]
      exact ih _ _ _ M
theorem t2L_keep (o : Nat → Nat) (g : Nat → Int32) : ∀ (m k : Nat) (M : MT), (t2L o g m k M).1 = M.1 ∧ (t2L o g m k M).2.1 = M.2.1 ∧ (t2L o g m k M).2.2.2 = M.2.2.2 ∧ (∀ j, j ≠ 0 → (t2L o g m k M).2.2.1 j = M.2.2.1 j) := by
  intro m
  induction m with
  | zero => intro k M; exact ⟨rfl, rfl, rfl, fun _ _ => rfl⟩
  | succ m ih =>
    intro k M
    obtain ⟨a1, a2, a3, a4⟩ := ih (k + 1) (mT2 M (o k) (g k))
    rw [t2L]
    exact ⟨a1, a2, a3, fun j hj => (a4 j hj).trans (by simp [mT2, mSet, va_up, hj])⟩
theorem mWins_keep (M : MT) : (mWins M).1 = M.1 ∧ (mWins M).2.1 0 = M.2.1 0 ∧ (mWins M).2.1 3 = M.2.1 3 ∧ (mWins M).2.2.2 = M.2.2.2 ∧ (mWins M).2.1 2 = M.2.1 2 ∧ (mWins M).2.1 4 = M.2.1 4 ∧ (∀ j, j ≠ 0 → (mWins M).2.2.1 j = M.2.2.1 j) := mwL_keep _ _ _ _ _ _
theorem mTurns_keep (M : MT) : (mTurns M).1 = M.1 ∧ (mTurns M).2.1 = M.2.1 ∧ (mTurns M).2.2.2 = M.2.2.2 ∧ (∀ j, j ≠ 0 → j ≠ 3 → (mTurns M).2.2.1 j = M.2.2.1 j) := by
  obtain ⟨a1, a2, a3, a4⟩ := t2L_keep M.2.2.2 (tnG M M.2.2.2 (M.2.1 3) (M.2.2.1 3) (M.2.1 3)) (M.2.1 3) 0 (mTn M (tnG M M.2.2.2 (M.2.1 3) (M.2.2.1 3) (M.2.1 3)))
  exact ⟨a1, a2, a3, fun j hj h3 => (a4 j hj).trans (by simp [mTn, va_up, h3])⟩
theorem mG1_keep (M : MT) : (mG1 M).1 = M.1 ∧ (mG1 M).2.1 0 = M.2.1 0 ∧ (mG1 M).2.1 2 = M.2.1 2 ∧ (mG1 M).2.1 4 = M.2.1 4 ∧ (∀ j, j ≠ 0 → j ≠ 3 → (mG1 M).2.2.1 j = M.2.2.1 j) := by
  obtain ⟨a1, a2, a3, a4⟩ := mTurns_keep (mWins (mR M (mSort M)))
  obtain ⟨b1, b2, b3, b4, b5, b6, b7⟩ := mWins_keep (mR M (mSort M))
  refine ⟨a1.trans b1, ?_, ?_, ?_, fun j hj h3 => (a4 j hj h3).trans (b7 j hj)⟩
  · show (mTurns (mWins (mR M (mSort M)))).2.1 0 = _
    rw [a2, b2, mR_0]
  · show (mTurns (mWins (mR M (mSort M)))).2.1 2 = _
    rw [a2, b5]; simp [mR, va_up]
  · show (mTurns (mWins (mR M (mSort M)))).2.1 4 = _
    rw [a2, b6]; simp [mR, va_up]
theorem goL_keep : ∀ (m a c : Nat) (M : MT), (goL m a c M).2.1 = M.1 ∧ (goL m a c M).2.2.1 = M.2.1 ∧ (goL m a c M).2.2.2.2 = M.2.2.2 ∧ (∀ j, j ≠ 0 → (goL m a c M).2.2.2.1 j = M.2.2.1 j) := by
  intro m
  induction m with
  | zero => intro a c M; exact ⟨rfl, rfl, rfl, fun _ _ => rfl⟩
  | succ m ih =>
    intro a c M
    by_cases h : mQ M (nI a) 0 = -9
    · rw [goL, if_pos h]; exact ih _ _ _
    · rw [goL, if_neg h]
      obtain ⟨a1, a2, a3, a4⟩ := ih (a + 1) (c + 1) (mOut M (mQ M (nI a) 0).toNatClampNeg)
      exact ⟨a1, a2, a3, fun j hj => (a4 j hj).trans (by simp [mOut, mSet, va_up, hj])⟩
theorem mGo_keep (M : MT) : (∀ w, w ≠ 3 → (mGo M).2.1 w = M.1 w) ∧ (mGo M).2.1 3 = M.1 3 + 1 ∧ (mGo M).2.2.1 0 = M.2.1 0 ∧ (mGo M).2.2.1 2 = M.2.1 2 ∧ (mGo M).2.2.1 4 = M.2.1 4 ∧ (∀ j, j ≠ 0 → j ≠ 3 → (mGo M).2.2.2.1 j = M.2.2.1 j) := by
  obtain ⟨a1, a2, a3, a4⟩ := goL_keep 8 0 0 (mG1 M)
  obtain ⟨b1, b2, b3, b4, b5⟩ := mG1_keep M
  refine ⟨fun w hw => ?_, ?_, ?_, ?_, ?_, fun j hj h3 => (a4 j hj).trans (b5 j hj h3)⟩
  · show va_up (goL 8 0 0 (mG1 M)).2.1 3 ((goL 8 0 0 (mG1 M)).2.1 3 + 1) w = _
    rw [up_n hw, a1, b1]
  · show va_up (goL 8 0 0 (mG1 M)).2.1 3 ((goL 8 0 0 (mG1 M)).2.1 3 + 1) 3 = _
    rw [up_s, a1, b1]
  · show (goL 8 0 0 (mG1 M)).2.2.1 0 = _
    rw [a2, b2]
  · show (goL 8 0 0 (mG1 M)).2.2.1 2 = _
    rw [a2, b3]
  · show (goL 8 0 0 (mG1 M)).2.2.1 4 = _
    rw [a2, b4]
set_option maxHeartbeats 4000000 in
theorem l_X6_goes {K : KX} {E : EnvT} (hE : EOK E) (h : Cx K E cX6_goes 4 RX6 4 88) {σ : ST} {p : Int32 × ST} (hR : Rx K E (some .int) (rP p)) : ∀ m a c M, a + m = 8 → M.2.1 0 ≤ 64 → c ≤ a → p = (nI (goL m a c M).1, sM σ (va_up (goL m a c M).2.1 3 ((goL m a c M).2.1 3 + 1), (goL m a c M).2.2)) → GG K E (sM σ M) 16 [(0, .ref (ad E 11 0 0)), (1, .int (nI c)), (2, .int (nI a))] [] := by
  intro m
  induction m with
  | zero =>
    intro a c M ha hM hc hp
    refine g_iload_n h (q := 2) 2 dX6_goes_16 rfl ?_
    refine g_bipush h (v := 8) dX6_goes_17 (by decide) ?_
    refine g_ncmp_ge h (a := a) (b := 8) 61 dX6_goes_19 (by decide) (by omega) (by omega) (fun c1 => ?_) (fun c1 => ?_)
    · refine g_aload_n h (q := 0) 0 dX6_goes_61 rfl ?_
      refine g_dup h dX6_goes_62 rfl ?_
      refine g_gMc h 3 (by decide) fl_X6_47 dX6_goes_63 ?_
      refine g_iconst h (v := 1) dX6_goes_66 (by decide) ?_
      refine g_iadd h dX6_goes_67 ?_
      refine g_pMc h 3 (by decide) fl_X6_47 dX6_goes_68 (fun M2 hM2 => ?_)
      refine g_iload_n h (q := 1) 1 dX6_goes_71 rfl ?_
      exact g_iret h hR dX6_goes_72 (rP_of (q := (nI c, sM σ M2)) (by rw [hp, hM2]; rfl))
    · exfalso; omega
  | succ m ih =>
    intro a c M ha hM hc hp
    refine g_iload_n h (q := 2) 2 dX6_goes_16 rfl ?_
    refine g_bipush h (v := 8) dX6_goes_17 (by decide) ?_
    refine g_ncmp_ge h (a := a) (b := 8) 61 dX6_goes_19 (by decide) (by omega) (by omega) (fun c1 => ?_) (fun c1 => ?_)
    · exfalso; omega
    · refine g_aload_n h (q := 0) 0 dX6_goes_22 rfl ?_
      refine g_iload_n h (q := 2) 2 dX6_goes_23 rfl ?_
      refine g_iconst h (v := 0) dX6_goes_24 (by decide) ?_
      refine g_callV h mv_X6_queued 11 0 0 ⟨rfl, rfl⟩ rfl rfl (As := [.int (nI (a)), .int 0]) (c_X6_queued (kl K) hE (σ := σ) (M := M) hM (nI a) 0) ml_X6_111 rfl (by decide) (by decide) rfl (Nat.le_of_ble_eq_true rfl) dX6_goes_25 (fun v σ9 h9 => ?_)
      rw [h9.1, h9.2]; clear h9
      refine g_istore_n h (q := 3) [(0, .ref (ad E 11 0 0)), (1, .int (nI (c))), (2, .int (nI (a))), (3, .int (mQ M (nI a) 0))] dX6_goes_28 (by decide) rfl ?_
      refine g_iload_n h (q := 3) 3 dX6_goes_29 rfl ?_
      refine g_bipush h (v := (-9)) dX6_goes_30 (by decide) ?_
      refine g_icmp_eq h 55 dX6_goes_32 (by decide) (fun c2 => ?_) (fun c2 => ?_)
      · refine g_iinc h (q := 2) (v := nI (a + 1)) 2 [(0, .ref (ad E 11 0 0)), (1, .int (nI (c))), (2, .int (nI (a + 1))), (3, .int (mQ M (nI a) 0))] dX6_goes_55 rfl (nI_inc a 1) (by decide) rfl ?_
        refine g_goto h 16 dX6_goes_58 (by decide) ?_
        refine g_sub [(0, .ref (ad E 11 0 0)), (1, .int (nI (c))), (2, .int (nI (a + 1)))] [0, 1, 2] rfl ?_
        exact ih (a + 1) c M (by omega) hM (by omega) (by rw [hp, goL, if_pos c2])
      · refine g_aload_n h (q := 0) 0 dX6_goes_35 rfl ?_
        obtain ⟨j, hj, hjf, hje⟩ := mQ_nat c2
        have hjc : (mQ M (nI a) 0).toNatClampNeg = j := by rw [hje, nI_clamp (by omega)]
        refine g_iload_n h (q := 3) 3 dX6_goes_36 rfl ?_
        refine g_is (nI j) hje ?_
        refine g_iconst h (v := 0) dX6_goes_37 (by decide) ?_
        refine g_iconst h (v := 3) dX6_goes_38 (by decide) ?_
        refine g_callV h mv_X6_sets 11 0 0 ⟨rfl, rfl⟩ rfl rfl (As := [.int (nI (j)), .int 0, .int 3]) (c_X6_sets (kl K) hE (σ := σ) (M := M) j 0 (by omega) (by decide) (3)) ml_X6_82 rfl (by decide) (by decide) rfl (Nat.le_of_ble_eq_true rfl) dX6_goes_39 (fun v σ9 h9 => ?_)
        rw [h9.1, h9.2]; clear h9
        obtain ⟨Ma, hMa⟩ : ∃ X, X = mSet M j 0 (3) := ⟨_, rfl⟩
        rw [← hMa]
        refine g_aload_n h (q := 0) 0 dX6_goes_42 rfl ?_
        refine g_iload_n h (q := 3) 3 dX6_goes_43 rfl ?_
        refine g_is (nI j) hje ?_
        refine g_iconst h (v := 5) dX6_goes_44 (by decide) ?_
        refine g_aload_n h (q := 0) 0 dX6_goes_45 rfl ?_
        refine g_gMc h 3 (by decide) fl_X6_47 dX6_goes_46 ?_
        refine g_is (M.1 3) (by rw [hMa]; rfl) ?_
        refine g_callV h mv_X6_sets 11 0 0 ⟨rfl, rfl⟩ rfl rfl (As := [.int (nI (j)), .int 5, .int (M.1 3)]) (c_X6_sets (kl K) hE (σ := σ) (M := Ma) j 5 (by omega) (by decide) (M.1 3)) ml_X6_82 rfl (by decide) (by decide) rfl (Nat.le_of_ble_eq_true rfl) dX6_goes_49 (fun v σ9 h9 => ?_)
        rw [h9.1, h9.2]; clear h9
        obtain ⟨Mb, hMb⟩ : ∃ X, X = mSet Ma j 5 (M.1 3) := ⟨_, rfl⟩
        rw [← hMb]
        refine g_iinc h (q := 1) (v := nI (c + 1)) 1 [(0, .ref (ad E 11 0 0)), (1, .int (nI (c + 1))), (2, .int (nI (a))), (3, .int (mQ M (nI a) 0))] dX6_goes_52 rfl (nI_inc c 1) (by decide) rfl ?_
        refine g_iinc h (q := 2) (v := nI (a + 1)) 2 [(0, .ref (ad E 11 0 0)), (1, .int (nI (c + 1))), (2, .int (nI (a + 1))), (3, .int (mQ M (nI a) 0))] dX6_goes_55 rfl (nI_inc a 1) (by decide) rfl ?_
        refine g_goto h 16 dX6_goes_58 (by decide) ?_
        refine g_sub [(0, .ref (ad E 11 0 0)), (1, .int (nI (c + 1))), (2, .int (nI (a + 1)))] [0, 1, 2] rfl ?_
        exact ih (a + 1) (c + 1) Mb (by omega) (by rw [hMb, hMa]; exact hM) (by omega) (by rw [hp, goL, if_neg c2, hjc, show Mb = mOut M j by rw [hMb, hMa]; rfl])
set_option maxHeartbeats 4000000 in
theorem c_X6_goes (l : Launch) {E : EnvT} (hE : EOK E) {σ : ST} {M : MT} (hM : M.2.1 0 ≤ 64) : Con l E yX6_goes cX6_goes 4 (some .int) 4 88 [.ref (ad E 11 0 0)] (sM σ M) (rP (nI (mGo M).1, sM σ (mGo M).2)) := by
  refine con_intro hE (by decide) (Nat.le_of_ble_eq_true rfl) (fun K hkl h hR => ?_)
  subst hkl
  have h : Cx K E cX6_goes 4 RX6 4 88 := h
  show GG K E (sM σ M) 0 [(0, .ref (ad E 11 0 0))] []
  have hso := mSort_ok hM
  have hz0 : (mR M (mSort M)).2.1 3 = (mSort M).2 := mR_3 M _
  have hw := mWins_keep (mR M (mSort M))
  refine g_aload_n h (q := 0) 0 dX6_goes_0 rfl ?_
  refine g_callV h mv_X6_sorts 11 0 0 ⟨rfl, rfl⟩ rfl rfl (As := []) (c_X6_sorts (kl K) hE (σ := σ) (M := M) hM) ml_X6_102 rfl (by decide) (by decide) rfl (Nat.le_of_ble_eq_true rfl) dX6_goes_1 (fun v σ9 h9 => ?_)
  rw [h9.1, h9.2]; clear h9
  obtain ⟨Ma, hMa⟩ : ∃ X, X = mR M (mSort M) := ⟨_, rfl⟩
  rw [← hMa] at hz0 hw ⊢
  have ho : Ma.2.2.2 = (mSort M).1 := by rw [hMa]; rfl
  have hm : Ma.2.1 0 = M.2.1 0 := by rw [hMa, mR_0]
  refine g_aload_n h (q := 0) 0 dX6_goes_4 rfl ?_
  refine g_callV h mv_X6_wins 11 0 0 ⟨rfl, rfl⟩ rfl rfl (As := []) (c_X6_wins (kl K) hE (σ := σ) (M := Ma) (by rw [hm]; exact hM) (by rw [hz0]; exact hso.1) (fun t q => by rw [ho]; rw [hz0] at q; exact Nat.lt_of_lt_of_le (hso.2 t q) hM)) ml_X6_105 rfl (by decide) (by decide) rfl (Nat.le_of_ble_eq_true rfl) dX6_goes_5 (fun v σ9 h9 => ?_)
  rw [h9.1, h9.2]; clear h9
  obtain ⟨Mb, hMb⟩ : ∃ X, X = mWins Ma := ⟨_, rfl⟩
  rw [← hMb] at hw ⊢
  refine g_aload_n h (q := 0) 0 dX6_goes_8 rfl ?_
  refine g_callV h mv_X6_turns 11 0 0 ⟨rfl, rfl⟩ rfl rfl (As := []) (c_X6_turns (kl K) hE (σ := σ) (M := Mb) (by rw [hw.2.2.1, hz0]; exact hso.1) (fun t q => by rw [hw.2.2.2.1, ho]; rw [hw.2.2.1, hz0] at q; exact Nat.lt_of_lt_of_le (hso.2 t q) hM)) ml_X6_108 rfl (by decide) (by decide) rfl (Nat.le_of_ble_eq_true rfl) dX6_goes_9 (fun v σ9 h9 => ?_)
  rw [h9.1, h9.2]; clear h9
  obtain ⟨Mc, hMc⟩ : ∃ X, X = mTurns Mb := ⟨_, rfl⟩
  rw [← hMc]
  refine g_iconst h (v := 0) dX6_goes_12 (by decide) ?_
  refine g_istore_n h (q := 1) [(0, .ref (ad E 11 0 0)), (1, .int 0)] dX6_goes_13 (by decide) rfl ?_
  refine g_iconst h (v := 0) dX6_goes_14 (by decide) ?_
  refine g_istore_n h (q := 2) [(0, .ref (ad E 11 0 0)), (1, .int 0), (2, .int 0)] dX6_goes_15 (by decide) rfl ?_
  have e : Mc = mG1 M := by rw [hMc, hMb, hMa]; rfl
  exact l_X6_goes (σ := σ) hE h hR 8 0 0 Mc rfl (by rw [e, (mG1_keep M).2.1]; exact hM) (Nat.le_refl _) (by rw [e]; rfl)
