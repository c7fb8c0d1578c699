def cntM (M : MT) (k : Nat) : Int32 := match k with
  | 0 => M.1 0
  | 1 => M.1 1
  | 2 => M.1 2
  | 3 => M.1 3
  | 4 => nI (M.2.1 0)
  | 5 => nI (mCt M (nI 0))
  | 6 => nI (mCt M (nI 1))
  | 7 => nI (mCt M (nI 2))
  | 8 => nI (mCt M (nI 3))
  | 9 => nI (mCt M (nI 4))
  | 10 => nI (M.2.1 4)
  | _ => nI (M.2.1 2)
def yCount (M : MT) (a : Int32) : Int32 × MT := if wi a 0 11 = true then (cntM M a.toNatClampNeg, M) else (-1, M)
set_option maxHeartbeats 4000000 in
theorem c_X6_count (l : Launch) {E : EnvT} (hE : EOK E) {σ : ST} {M : MT} (hM : M.2.1 0 ≤ 64) (a : Int32) : Con l E yX6_count cX6_count 2 (some .int) 2 45 [.ref (ad E 11 0 0), .int a] (sM σ M) (rM (yCount M a) σ) := by
  refine con_intro hE (by decide) (Nat.le_of_ble_eq_true rfl) (fun K hkl h hR => ?_)
  subst hkl
  have h : Cx K E cX6_count 2 RX6 2 45 := h
  show GG K E (sM σ M) 0 [(0, .ref (ad E 11 0 0)), (1, .int a)] []
  refine g_iload_n h (q := 1) 1 dX6_count_0 rfl ?_
  rcases tab_cases a 12 (by decide) with ⟨kw, hkw, hwe⟩ | hout
  · rcases (show kw = 0 ∨ kw = 1 ∨ kw = 2 ∨ kw = 3 ∨ kw = 4 ∨ kw = 5 ∨ kw = 6 ∨ kw = 7 ∨ kw = 8 ∨ kw = 9 ∨ kw = 10 ∨ kw = 11 by omega) with rfl | rfl | rfl | rfl | rfl | rfl | rfl | rfl | rfl | rfl | rfl | rfl
    · subst hwe
      refine g_tabIn h 64 dX6_count_1 (by decide) (by decide) rfl (by decide) ?_
      refine g_aload_n h (q := 0) 0 dX6_count_64 rfl ?_
      refine g_gMc h 0 (by decide) fl_X6_7 dX6_count_65 ?_
      exact g_iret h hR dX6_count_68 (rM_of (q := (cntM M 0, M)) (by rw [yCount, if_pos (by decide)]; rfl))
    · subst hwe
      refine g_tabIn h 69 dX6_count_1 (by decide) (by decide) rfl (by decide) ?_
      refine g_aload_n h (q := 0) 0 dX6_count_69 rfl ?_
      refine g_gMc h 1 (by decide) fl_X6_13 dX6_count_70 ?_
      exact g_iret h hR dX6_count_73 (rM_of (q := (cntM M 1, M)) (by rw [yCount, if_pos (by decide)]; rfl))
    · subst hwe
      refine g_tabIn h 74 dX6_count_1 (by decide) (by decide) rfl (by decide) ?_
      refine g_aload_n h (q := 0) 0 dX6_count_74 rfl ?_
      refine g_gMc h 2 (by decide) fl_X6_16 dX6_count_75 ?_
      exact g_iret h hR dX6_count_78 (rM_of (q := (cntM M 2, M)) (by rw [yCount, if_pos (by decide)]; rfl))
    · subst hwe
      refine g_tabIn h 79 dX6_count_1 (by decide) (by decide) rfl (by decide) ?_
      refine g_aload_n h (q := 0) 0 dX6_count_79 rfl ?_
      refine g_gMc h 3 (by decide) fl_X6_47 dX6_count_80 ?_
      exact g_iret h hR dX6_count_83 (rM_of (q := (cntM M 3, M)) (by rw [yCount, if_pos (by decide)]; rfl))
    · subst hwe
      refine g_tabIn h 84 dX6_count_1 (by decide) (by decide) rfl (by decide) ?_
      refine g_aload_n h (q := 0) 0 dX6_count_84 rfl ?_
      refine g_gMn h 0 (by decide) fl_X6_50 dX6_count_85 ?_
      exact g_iret h hR dX6_count_88 (rM_of (q := (cntM M 4, M)) (by rw [yCount, if_pos (by decide)]; rfl))
    · subst hwe
      refine g_tabIn h 89 dX6_count_1 (by decide) (by decide) rfl (by decide) ?_
      refine g_aload_n h (q := 0) 0 dX6_count_89 rfl ?_
      refine g_iload_n h (q := 1) 1 dX6_count_90 rfl ?_
      refine g_iconst h (v := 5) dX6_count_91 (by decide) ?_
      refine g_isub h dX6_count_92 ?_
      refine g_is (nI (5 - 5)) (pk_sub (a := 5) (b := 5) (by omega)) ?_
      refine g_is (nI 0) rfl ?_
      refine g_callV h mv_X6_manyAt 11 0 0 ⟨rfl, rfl⟩ rfl rfl (As := [.int (nI (0))]) (c_X6_manyAt (kl K) hE (σ := σ) (M := M) hM (nI 0)) ml_X6_99 rfl (by decide) (by decide) rfl (Nat.le_of_ble_eq_true rfl) dX6_count_93 (fun v σ9 h9 => ?_)
      rw [h9.1, h9.2]; clear h9
      exact g_iret h hR dX6_count_96 (rM_of (q := (cntM M 5, M)) (by rw [yCount, if_pos (by decide)]; rfl))
    · subst hwe
      refine g_tabIn h 89 dX6_count_1 (by decide) (by decide) rfl (by decide) ?_
      refine g_aload_n h (q := 0) 0 dX6_count_89 rfl ?_
      refine g_iload_n h (q := 1) 1 dX6_count_90 rfl ?_
      refine g_iconst h (v := 5) dX6_count_91 (by decide) ?_
      refine g_isub h dX6_count_92 ?_
      refine g_is (nI (6 - 5)) (pk_sub (a := 6) (b := 5) (by omega)) ?_
      refine g_is (nI 1) rfl ?_
      refine g_callV h mv_X6_manyAt 11 0 0 ⟨rfl, rfl⟩ rfl rfl (As := [.int (nI (1))]) (c_X6_manyAt (kl K) hE (σ := σ) (M := M) hM (nI 1)) ml_X6_99 rfl (by decide) (by decide) rfl (Nat.le_of_ble_eq_true rfl) dX6_count_93 (fun v σ9 h9 => ?_)
      rw [h9.1, h9.2]; clear h9
      exact g_iret h hR dX6_count_96 (rM_of (q := (cntM M 6, M)) (by rw [yCount, if_pos (by decide)]; rfl))
    · subst hwe
      refine g_tabIn h 89 dX6_count_1 (by decide) (by decide) rfl (by decide) ?_
      refine g_aload_n h (q := 0) 0 dX6_count_89 rfl ?_
      refine g_iload_n h (q := 1) 1 dX6_count_90 rfl ?_
      refine g_iconst h (v := 5) dX6_count_91 (by decide) ?_
      refine g_isub h dX6_count_92 ?_
      refine g_is (nI (7 - 5)) (pk_sub (a := 7) (b := 5) (by omega)) ?_
      refine g_is (nI 2) rfl ?_
      refine g_callV h mv_X6_manyAt 11 0 0 ⟨rfl, rfl⟩ rfl rfl (As := [.int (nI (2))]) (c_X6_manyAt (kl K) hE (σ := σ) (M := M) hM (nI 2)) ml_X6_99 rfl (by decide) (by decide) rfl (Nat.le_of_ble_eq_true rfl) dX6_count_93 (fun v σ9 h9 => ?_)
      rw [h9.1, h9.2]; clear h9
      exact g_iret h hR dX6_count_96 (rM_of (q := (cntM M 7, M)) (by rw [yCount, if_pos (by decide)]; rfl))
    · subst hwe
      refine g_tabIn h 89 dX6_count_1 (by decide) (by decide) rfl (by decide) ?_
      refine g_aload_n h (q := 0) 0 dX6_count_89 rfl ?_
      refine g_iload_n h (q := 1) 1 dX6_count_90 rfl ?_
      refine g_iconst h (v := 5) dX6_count_91 (by decide) ?_
      refine g_isub h dX6_count_92 ?_
      refine g_is (nI (8 - 5)) (pk_sub (a := 8) (b := 5) (by omega)) ?_
      refine g_is (nI 3) rfl ?_
      refine g_callV h mv_X6_manyAt 11 0 0 ⟨rfl, rfl⟩ rfl rfl (As := [.int (nI (3))]) (c_X6_manyAt (kl K) hE (σ := σ) (M := M) hM (nI 3)) ml_X6_99 rfl (by decide) (by decide) rfl (Nat.le_of_ble_eq_true rfl) dX6_count_93 (fun v σ9 h9 => ?_)
      rw [h9.1, h9.2]; clear h9
      exact g_iret h hR dX6_count_96 (rM_of (q := (cntM M 8, M)) (by rw [yCount, if_pos (by decide)]; rfl))
    · subst hwe
      refine g_tabIn h 89 dX6_count_1 (by decide) (by decide) rfl (by decide) ?_
      refine g_aload_n h (q := 0) 0 dX6_count_89 rfl ?_
      refine g_iload_n h (q := 1) 1 dX6_count_90 rfl ?_
      refine g_iconst h (v := 5) dX6_count_91 (by decide) ?_
      refine g_isub h dX6_count_92 ?_
      refine g_is (nI (9 - 5)) (pk_sub (a := 9) (b := 5) (by omega)) ?_
      refine g_is (nI 4) rfl ?_
      refine g_callV h mv_X6_manyAt 11 0 0 ⟨rfl, rfl⟩ rfl rfl (As := [.int (nI (4))]) (c_X6_manyAt (kl K) hE (σ := σ) (M := M) hM (nI 4)) ml_X6_99 rfl (by decide) (by decide) rfl (Nat.le_of_ble_eq_true rfl) dX6_count_93 (fun v σ9 h9 => ?_)
      rw [h9.1, h9.2]; clear h9
      exact g_iret h hR dX6_count_96 (rM_of (q := (cntM M 9, M)) (by rw [yCount, if_pos (by decide)]; rfl))
    · subst hwe
      refine g_tabIn h 97 dX6_count_1 (by decide) (by decide) rfl (by decide) ?_
      refine g_aload_n h (q := 0) 0 dX6_count_97 rfl ?_
      refine g_gMn h 4 (by decide) fl_X6_121 dX6_count_98 ?_
      exact g_iret h hR dX6_count_101 (rM_of (q := (cntM M 10, M)) (by rw [yCount, if_pos (by decide)]; rfl))
    · subst hwe
      refine g_tabIn h 102 dX6_count_1 (by decide) (by decide) rfl (by decide) ?_
      refine g_aload_n h (q := 0) 0 dX6_count_102 rfl ?_
      refine g_gMn h 2 (by decide) fl_X6_56 dX6_count_103 ?_
      exact g_iret h hR dX6_count_106 (rM_of (q := (cntM M 11, M)) (by rw [yCount, if_pos (by decide)]; rfl))
  · refine g_tabOut h 107 dX6_count_1 (by omega) (by decide) ?_
    refine g_iconst h (v := (-1)) dX6_count_107 (by decide) ?_
    exact g_iret h hR dX6_count_108 (rM_of (q := (-1, M)) (by rw [yCount, if_neg (fun q => by rw [wi_out (n := 12) (by decide) hout] at q; exact absurd q (by decide))]))
def ySorted (M : MT) (k : Int32) : Int32 × MT := if 0 ≤ k then (if k < nI (mSort M).2 then nI ((mSort M).1 k.toNatClampNeg) else -9, mR M (mSort M)) else (-1, M)
set_option maxHeartbeats 4000000 in
theorem c_X6_sorted (l : Launch) {E : EnvT} (hE : EOK E) {σ : ST} {M : MT} (hM : M.2.1 0 ≤ 64) (k : Int32) : Con l E yX6_sorted cX6_sorted 2 (some .int) 4 88 [.ref (ad E 11 0 0), .int k] (sM σ M) (rM (ySorted M k) σ) := by
  refine con_intro hE (by decide) (Nat.le_of_ble_eq_true rfl) (fun K hkl h hR => ?_)
  subst hkl
  have h : Cx K E cX6_sorted 2 RX6 4 88 := h
  show GG K E (sM σ M) 0 [(0, .ref (ad E 11 0 0)), (1, .int k)] []
  have hso := (mSort_ok hM).1
  refine g_iload_n h (q := 1) 1 dX6_sorted_0 rfl ?_
  refine g_if_ge h 6 dX6_sorted_1 (by decide) (fun c1 => ?_) (fun c1 => ?_)
  · refine g_aload_n h (q := 0) 0 dX6_sorted_6 rfl ?_
    refine g_callV h mv_X6_sorts 11 0 0 ⟨rfl, rfl⟩ rfl rfl (As := []) (c_X6_sorts (kl K) hE (σ := σ) (M := M) hM) ml_X6_102 rfl (by decide) (by decide) rfl (Nat.le_of_ble_eq_true rfl) dX6_sorted_7 (fun v σ9 h9 => ?_)
    rw [h9.1, h9.2]; clear h9
    refine g_iload_n h (q := 1) 1 dX6_sorted_10 rfl ?_
    refine g_aload_n h (q := 0) 0 dX6_sorted_11 rfl ?_
    refine g_gMn h 3 (by decide) fl_X6_90 dX6_sorted_12 ?_
    refine g_is (nI (mSort M).2) (by rw [mR_3]) ?_
    refine g_icmp_ge h 27 dX6_sorted_15 (by decide) (fun c2 => ?_) (fun c2 => ?_)
    · refine g_bipush h (v := (-9)) dX6_sorted_27 (by decide) ?_
      exact g_iret h hR dX6_sorted_29 (rM_of (q := (-9, mR M (mSort M))) (by rw [ySorted, if_pos c1, if_neg (i_nlt c2)]))
    · obtain ⟨j, hj, hje⟩ : ∃ j : Nat, j < (mSort M).2 ∧ k = nI j := vp_in_of (vp_in_iff.mpr ⟨by have := Int32.le_iff_toInt_le.mp c1; simpa using this, by have := Int32.lt_iff_toInt_lt.mp (i_lt c2); rwa [nI_toInt (by omega)] at this⟩) (by omega)
      subst hje
      refine g_aload_n h (q := 0) 0 dX6_sorted_18 rfl ?_
      refine g_gMo h fl_X6_29 dX6_sorted_19 ?_
      refine g_iload_n h (q := 1) 1 dX6_sorted_22 rfl ?_
      refine g_lO h (j) (by omega) dX6_sorted_23 ?_
      refine g_goto h 29 dX6_sorted_24 (by decide) ?_
      exact g_iret h hR dX6_sorted_29 (rM_of (q := (nI ((mSort M).1 j), mR M (mSort M))) (by rw [ySorted, if_pos c1, if_pos (i_lt c2), nI_clamp (by omega)]))
  · refine g_iconst h (v := (-1)) dX6_sorted_4 (by decide) ?_
    exact g_iret h hR dX6_sorted_5 (rM_of (q := (-1, M)) (by rw [ySorted, if_neg c1]))
def mtP (M : MT) (n i : Nat) : Bool := decide (i ≠ n) && (decide (mOf M i 0 = 1) && mAh M i n)
def mtS (M : MT) (n : Nat) : Nat := ctL (mtP M n) (M.2.1 0) 0 0
def mtF (M : MT) (k : Int32) (n : Nat) : Bool := decide (mOf M n 0 = 1) && decide (nI (mtS M n) = k)
def yTurned (M : MT) (k : Int32) : Int32 × MT := if 0 ≤ k then (findN (mtF M k) (M.2.1 0) 0, M) else (-1, M)
set_option maxHeartbeats 4000000 in
theorem i_X6_turned {K : KX} {E : EnvT} (hE : EOK E) (h : Cx K E cX6_turned 5 RX6 2 44) {σ : ST} {M : MT} (hM : M.2.1 0 ≤ 64) (kk : Int32) (n : Nat) (hn : n < 64) : ∀ m i c, i + m = M.2.1 0 → c ≤ i → (GG K E (sM σ M) 81 [(0, .ref (ad E 11 0 0)), (1, .int kk), (2, .int (nI n)), (3, .int (nI (ctL (mtP M n) m i c)))] []) → GG K E (sM σ M) 31 [(0, .ref (ad E 11 0 0)), (1, .int kk), (2, .int (nI n)), (3, .int (nI c)), (4, .int (nI i))] [] := by
  intro m
  induction m with
  | zero =>
    intro i c hi hc hp
    refine g_iload h (q := 4) 4 dX6_turned_31 rfl ?_
    refine g_aload_n h (q := 0) 0 dX6_turned_33 rfl ?_
    refine g_gMn h 0 (by decide) fl_X6_50 dX6_turned_34 ?_
    refine g_ncmp_ge h (a := i) (b := M.2.1 0) 81 dX6_turned_37 (by decide) (by omega) (by omega) (fun c1 => ?_) (fun c1 => ?_)
    · refine g_sub [(0, .ref (ad E 11 0 0)), (1, .int kk), (2, .int (nI (n))), (3, .int (nI (c)))] [0, 1, 2, 3] rfl ?_
      exact hp
    · exfalso; omega
  | succ m ih =>
    intro i c hi hc hp
    refine g_iload h (q := 4) 4 dX6_turned_31 rfl ?_
    refine g_aload_n h (q := 0) 0 dX6_turned_33 rfl ?_
    refine g_gMn h 0 (by decide) fl_X6_50 dX6_turned_34 ?_
    refine g_ncmp_ge h (a := i) (b := M.2.1 0) 81 dX6_turned_37 (by decide) (by omega) (by omega) (fun c1 => ?_) (fun c1 => ?_)
    · exfalso; omega
    · refine g_iload_n h (q := 3) 3 dX6_turned_40 rfl ?_
      refine g_iload h (q := 4) 4 dX6_turned_41 rfl ?_
      refine g_iload_n h (q := 2) 2 dX6_turned_43 rfl ?_
      refine g_ncmp_eq h (a := i) (b := n) 72 dX6_turned_44 (by decide) (by omega) (by omega) (fun c2 => ?_) (fun c2 => ?_)
      · refine g_iconst h (v := 0) dX6_turned_72 (by decide) ?_
        refine g_iadd h dX6_turned_73 ?_
        refine g_is (nI (c + 0)) (nI_add c 0) ?_
        refine g_istore_n h (q := 3) [(0, .ref (ad E 11 0 0)), (1, .int kk), (2, .int (nI (n))), (3, .int (nI (c + 0))), (4, .int (nI (i)))] dX6_turned_74 (by decide) rfl ?_
        refine g_iinc h (q := 4) (v := nI (i + 1)) 4 [(0, .ref (ad E 11 0 0)), (1, .int kk), (2, .int (nI (n))), (3, .int (nI (c + 0))), (4, .int (nI (i + 1)))] dX6_turned_75 rfl (nI_inc i 1) (by decide) rfl ?_
        refine g_goto h 31 dX6_turned_78 (by decide) ?_
        refine ih (i + 1) (c + 0) (by omega) (by omega) ?_
        have e : mtP M n i = false := by simp [mtP, c2]
        have e2 : ctL (mtP M n) (m + 1) i c = ctL (mtP M n) m (i + 1) (c + 0) := by simp [ctL, e]
        rw [← e2]
        exact hp
      · refine g_aload_n h (q := 0) 0 dX6_turned_47 rfl ?_
        refine g_iload h (q := 4) 4 dX6_turned_48 rfl ?_
        refine g_iconst h (v := 0) dX6_turned_50 (by decide) ?_
        refine g_callV h mv_X6_of 11 0 0 ⟨rfl, rfl⟩ rfl rfl (As := [.int (nI (i)), .int 0]) (c_X6_of (kl K) hE (σ := σ) (M := M) (i) 0 (by omega) (by decide)) ml_X6_70 rfl (by decide) (by decide) rfl (Nat.le_of_ble_eq_true rfl) dX6_turned_51 (fun v σ9 h9 => ?_)
        rw [h9.1, h9.2]; clear h9
        refine g_iconst h (v := 1) dX6_turned_54 (by decide) ?_
        refine g_icmp_ne h 72 dX6_turned_55 (by decide) (fun c3 => ?_) (fun c3 => ?_)
        · refine g_iconst h (v := 0) dX6_turned_72 (by decide) ?_
          refine g_iadd h dX6_turned_73 ?_
          refine g_is (nI (c + 0)) (nI_add c 0) ?_
          refine g_istore_n h (q := 3) [(0, .ref (ad E 11 0 0)), (1, .int kk), (2, .int (nI (n))), (3, .int (nI (c + 0))), (4, .int (nI (i)))] dX6_turned_74 (by decide) rfl ?_
          refine g_iinc h (q := 4) (v := nI (i + 1)) 4 [(0, .ref (ad E 11 0 0)), (1, .int kk), (2, .int (nI (n))), (3, .int (nI (c + 0))), (4, .int (nI (i + 1)))] dX6_turned_75 rfl (nI_inc i 1) (by decide) rfl ?_
          refine g_goto h 31 dX6_turned_78 (by decide) ?_
          refine ih (i + 1) (c + 0) (by omega) (by omega) ?_
          have e : mtP M n i = false := by simp [mtP, c2, c3]
          have e2 : ctL (mtP M n) (m + 1) i c = ctL (mtP M n) m (i + 1) (c + 0) := by simp [ctL, e]
          rw [← e2]
          exact hp
        · refine g_aload_n h (q := 0) 0 dX6_turned_58 rfl ?_
          refine g_iload h (q := 4) 4 dX6_turned_59 rfl ?_
          refine g_iload_n h (q := 2) 2 dX6_turned_61 rfl ?_
          refine g_callV h mv_X6_isAhead 11 0 0 ⟨rfl, rfl⟩ rfl rfl (As := [.int (nI (i)), .int (nI (n))]) (c_X6_isAhead (kl K) hE (σ := σ) (M := M) i n (by omega) hn) ml_X6_86 rfl (by decide) (by decide) rfl (Nat.le_of_ble_eq_true rfl) dX6_turned_62 (fun v σ9 h9 => ?_)
          rw [h9.1, h9.2]; clear h9
          refine g_if_eq h 72 dX6_turned_65 (by decide) (fun c4 => ?_) (fun c4 => ?_)
          · refine g_iconst h (v := 0) dX6_turned_72 (by decide) ?_
            refine g_iadd h dX6_turned_73 ?_
            refine g_is (nI (c + 0)) (nI_add c 0) ?_
            refine g_istore_n h (q := 3) [(0, .ref (ad E 11 0 0)), (1, .int kk), (2, .int (nI (n))), (3, .int (nI (c + 0))), (4, .int (nI (i)))] dX6_turned_74 (by decide) rfl ?_
            refine g_iinc h (q := 4) (v := nI (i + 1)) 4 [(0, .ref (ad E 11 0 0)), (1, .int kk), (2, .int (nI (n))), (3, .int (nI (c + 0))), (4, .int (nI (i + 1)))] dX6_turned_75 rfl (nI_inc i 1) (by decide) rfl ?_
            refine g_goto h 31 dX6_turned_78 (by decide) ?_
            refine ih (i + 1) (c + 0) (by omega) (by omega) ?_
            have e : mtP M n i = false := by simp [mtP, c2, c3, bI_0.mp c4]
            have e2 : ctL (mtP M n) (m + 1) i c = ctL (mtP M n) m (i + 1) (c + 0) := by simp [ctL, e]
            rw [← e2]
            exact hp
          · refine g_iconst h (v := 1) dX6_turned_68 (by decide) ?_
            refine g_goto h 73 dX6_turned_69 (by decide) ?_
            refine g_iadd h dX6_turned_73 ?_
            refine g_is (nI (c + 1)) (nI_add c 1) ?_
            refine g_istore_n h (q := 3) [(0, .ref (ad E 11 0 0)), (1, .int kk), (2, .int (nI (n))), (3, .int (nI (c + 1))), (4, .int (nI (i)))] dX6_turned_74 (by decide) rfl ?_
            refine g_iinc h (q := 4) (v := nI (i + 1)) 4 [(0, .ref (ad E 11 0 0)), (1, .int kk), (2, .int (nI (n))), (3, .int (nI (c + 1))), (4, .int (nI (i + 1)))] dX6_turned_75 rfl (nI_inc i 1) (by decide) rfl ?_
            refine g_goto h 31 dX6_turned_78 (by decide) ?_
            refine ih (i + 1) (c + 1) (by omega) (by omega) ?_
            have e : mtP M n i = true := by simp [mtP, c2, c3, bI_1.mp c4]
            have e2 : ctL (mtP M n) (m + 1) i c = ctL (mtP M n) m (i + 1) (c + 1) := by simp [ctL, e]
            rw [← e2]
            exact hp
set_option maxHeartbeats 4000000 in
theorem l_X6_turned {K : KX} {E : EnvT} (hE : EOK E) (h : Cx K E cX6_turned 5 RX6 2 44) {σ : ST} {M : MT} {post : Option Value → ST → Prop} (hR : Rx K E (some .int) post) (hM : M.2.1 0 ≤ 64) (kk : Int32) : ∀ m n, n + m = M.2.1 0 → post (some (.int (findN (mtF M kk) m n))) (sM σ M) → GG K E (sM σ M) 8 [(0, .ref (ad E 11 0 0)), (1, .int kk), (2, .int (nI n))] [] := by
  intro m
  induction m with
  | zero =>
    intro n hn hp
    refine g_iload_n h (q := 2) 2 dX6_turned_8 rfl ?_
    refine g_aload_n h (q := 0) 0 dX6_turned_9 rfl ?_
    refine g_gMn h 0 (by decide) fl_X6_50 dX6_turned_10 ?_
    refine g_ncmp_ge h (a := n) (b := M.2.1 0) 94 dX6_turned_13 (by decide) (by omega) (by omega) (fun c1 => ?_) (fun c1 => ?_)
    · refine g_bipush h (v := (-9)) dX6_turned_94 (by decide) ?_
      exact g_iret h hR dX6_turned_96 (hp)
    · exfalso; omega
  | succ m ih =>
    intro n hn hp
    refine g_iload_n h (q := 2) 2 dX6_turned_8 rfl ?_
    refine g_aload_n h (q := 0) 0 dX6_turned_9 rfl ?_
    refine g_gMn h 0 (by decide) fl_X6_50 dX6_turned_10 ?_
    refine g_ncmp_ge h (a := n) (b := M.2.1 0) 94 dX6_turned_13 (by decide) (by omega) (by omega) (fun c1 => ?_) (fun c1 => ?_)
    · exfalso; omega
    · refine g_aload_n h (q := 0) 0 dX6_turned_16 rfl ?_
      refine g_iload_n h (q := 2) 2 dX6_turned_17 rfl ?_
      refine g_iconst h (v := 0) dX6_turned_18 (by decide) ?_
      refine g_callV h mv_X6_of 11 0 0 ⟨rfl, rfl⟩ rfl rfl (As := [.int (nI (n)), .int 0]) (c_X6_of (kl K) hE (σ := σ) (M := M) (n) 0 (by omega) (by decide)) ml_X6_70 rfl (by decide) (by decide) rfl (Nat.le_of_ble_eq_true rfl) dX6_turned_19 (fun v σ9 h9 => ?_)
      rw [h9.1, h9.2]; clear h9
      refine g_iconst h (v := 1) dX6_turned_22 (by decide) ?_
      refine g_icmp_ne h 88 dX6_turned_23 (by decide) (fun c2 => ?_) (fun c2 => ?_)
      · refine g_iinc h (q := 2) (v := nI (n + 1)) 2 [(0, .ref (ad E 11 0 0)), (1, .int kk), (2, .int (nI (n + 1)))] dX6_turned_88 rfl (nI_inc n 1) (by decide) rfl ?_
        refine g_goto h 8 dX6_turned_91 (by decide) ?_
        refine g_sub [(0, .ref (ad E 11 0 0)), (1, .int kk), (2, .int (nI (n + 1)))] [0, 1, 2] rfl ?_
        have e : mtF M kk n = false := by simp [mtF, c2]
        exact ih (n + 1) (by omega) (by simpa [findN, e] using hp)
      · refine g_iconst h (v := 0) dX6_turned_26 (by decide) ?_
        refine g_istore_n h (q := 3) [(0, .ref (ad E 11 0 0)), (1, .int kk), (2, .int (nI (n))), (3, .int 0)] dX6_turned_27 (by decide) rfl ?_
        refine g_iconst h (v := 0) dX6_turned_28 (by decide) ?_
        refine g_istore h (q := 4) [(0, .ref (ad E 11 0 0)), (1, .int kk), (2, .int (nI (n))), (3, .int 0), (4, .int 0)] dX6_turned_29 (by decide) rfl ?_
        refine i_X6_turned hE h hM kk n (by omega) (M.2.1 0) 0 0 (Nat.zero_add _) (Nat.le_refl _) ?_
        rw [show ctL (mtP M n) (M.2.1 0) 0 0 = mtS M n from rfl]
        refine g_iload_n h (q := 3) 3 dX6_turned_81 rfl ?_
        refine g_iload_n h (q := 1) 1 dX6_turned_82 rfl ?_
        refine g_icmp_ne h 88 dX6_turned_83 (by decide) (fun c4 => ?_) (fun c4 => ?_)
        · refine g_iinc h (q := 2) (v := nI (n + 1)) 2 [(0, .ref (ad E 11 0 0)), (1, .int kk), (2, .int (nI (n + 1))), (3, .int (nI (mtS M n)))] dX6_turned_88 rfl (nI_inc n 1) (by decide) rfl ?_
          refine g_goto h 8 dX6_turned_91 (by decide) ?_
          refine g_sub [(0, .ref (ad E 11 0 0)), (1, .int kk), (2, .int (nI (n + 1)))] [0, 1, 2] rfl ?_
          have e : mtF M kk n = false := by simp [mtF, c2, c4]
          exact ih (n + 1) (by omega) (by simpa [findN, e] using hp)
        · refine g_iload_n h (q := 2) 2 dX6_turned_86 rfl ?_
          exact g_iret h hR dX6_turned_87 (by
        have e : mtF M kk n = true := by simp [mtF, c2, c4]
        simpa [findN, e] using hp)
set_option maxHeartbeats 4000000 in
theorem c_X6_turned (l : Launch) {E : EnvT} (hE : EOK E) {σ : ST} {M : MT} (hM : M.2.1 0 ≤ 64) (k : Int32) : Con l E yX6_turned cX6_turned 5 (some .int) 2 44 [.ref (ad E 11 0 0), .int k] (sM σ M) (rM (yTurned M k) σ) := by
  refine con_intro hE (by decide) (Nat.le_of_ble_eq_true rfl) (fun K hkl h hR => ?_)
  subst hkl
  have h : Cx K E cX6_turned 5 RX6 2 44 := h
  show GG K E (sM σ M) 0 [(0, .ref (ad E 11 0 0)), (1, .int k)] []
  refine g_iload_n h (q := 1) 1 dX6_turned_0 rfl ?_
  refine g_if_ge h 6 dX6_turned_1 (by decide) (fun c1 => ?_) (fun c1 => ?_)
  · refine g_iconst h (v := 0) dX6_turned_6 (by decide) ?_
    refine g_istore_n h (q := 2) [(0, .ref (ad E 11 0 0)), (1, .int k), (2, .int 0)] dX6_turned_7 (by decide) rfl ?_
    exact l_X6_turned hE h hR hM k _ 0 (Nat.zero_add _) (by rw [yTurned, if_pos c1]; exact ⟨rfl, rfl⟩)
  · refine g_iconst h (v := (-1)) dX6_turned_4 (by decide) ?_
    exact g_iret h hR dX6_turned_5 (rM_of (q := (-1, M)) (by rw [yTurned, if_neg c1]))
def mOv (M : MT) : Bool := decide (nI (mCt M 0) + nI (mCt M 1) + nI (mCt M 2) = 0)
def mdL : Nat → Nat → MT → Nat × MT
  | 0, k, M => (k, M)
  | m + 1, k, M => if mOv M = true then (k, M) else mdL m (k + 1) (mGo M).2
def yDr (M : MT) : Nat × MT := mdL 99 0 (mWr M 12)
def yDrain (M : MT) (a b : Nat) : Int32 × MT := (if mOv (yDr M).2 = true then nI (yDr M).1 else -9, mCb (yDr M).2 12 a b 512)
set_option maxHeartbeats 4000000 in
theorem c_X6_isOver (l : Launch) {E : EnvT} (hE : EOK E) {σ : ST} {M : MT} (hM : M.2.1 0 ≤ 64) : Con l E yX6_isOver cX6_isOver 1 (some .boolean) 2 45 [.ref (ad E 11 0 0)] (sM σ M) (rI (bI (mOv M)) (sM σ M)) := by
  refine con_intro hE (by decide) (Nat.le_of_ble_eq_true rfl) (fun K hkl h hR => ?_)
  subst hkl
  have h : Cx K E cX6_isOver 1 RX6 2 45 := h
  show GG K E (sM σ M) 0 [(0, .ref (ad E 11 0 0))] []
  refine g_aload_n h (q := 0) 0 dX6_isOver_0 rfl ?_
  refine g_iconst h (v := 0) dX6_isOver_1 (by decide) ?_
  refine g_callV h mv_X6_manyAt 11 0 0 ⟨rfl, rfl⟩ rfl rfl (As := [.int 0]) (c_X6_manyAt (kl K) hE (σ := σ) (M := M) hM 0) ml_X6_99 rfl (by decide) (by decide) rfl (Nat.le_of_ble_eq_true rfl) dX6_isOver_2 (fun v σ9 h9 => ?_)
  rw [h9.1, h9.2]; clear h9
  refine g_aload_n h (q := 0) 0 dX6_isOver_5 rfl ?_
  refine g_iconst h (v := 1) dX6_isOver_6 (by decide) ?_
  refine g_callV h mv_X6_manyAt 11 0 0 ⟨rfl, rfl⟩ rfl rfl (As := [.int 1]) (c_X6_manyAt (kl K) hE (σ := σ) (M := M) hM 1) ml_X6_99 rfl (by decide) (by decide) rfl (Nat.le_of_ble_eq_true rfl) dX6_isOver_7 (fun v σ9 h9 => ?_)
  rw [h9.1, h9.2]; clear h9
  refine g_iadd h dX6_isOver_10 ?_
  refine g_aload_n h (q := 0) 0 dX6_isOver_11 rfl ?_
  refine g_iconst h (v := 2) dX6_isOver_12 (by decide) ?_
  refine g_callV h mv_X6_manyAt 11 0 0 ⟨rfl, rfl⟩ rfl rfl (As := [.int 2]) (c_X6_manyAt (kl K) hE (σ := σ) (M := M) hM 2) ml_X6_99 rfl (by decide) (by decide) rfl (Nat.le_of_ble_eq_true rfl) dX6_isOver_13 (fun v σ9 h9 => ?_)
  rw [h9.1, h9.2]; clear h9
  refine g_iadd h dX6_isOver_16 ?_
  refine g_if_ne h 24 dX6_isOver_17 (by decide) (fun c1 => ?_) (fun c1 => ?_)
  · refine g_iconst h (v := 0) dX6_isOver_24 (by decide) ?_
    exact g_zret h hR dX6_isOver_25 (by decide) (show rI _ _ _ _ from ⟨by rw [show mOv M = false by simp [mOv, c1]]; rfl, rfl⟩)
  · refine g_iconst h (v := 1) dX6_isOver_20 (by decide) ?_
    refine g_goto h 25 dX6_isOver_21 (by decide) ?_
    exact g_zret h hR dX6_isOver_25 (by decide) (show rI _ _ _ _ from ⟨by rw [show mOv M = true by simp [mOv, c1]]; rfl, rfl⟩)
set_option maxHeartbeats 4000000 in
theorem l_X6_drain {K : KX} {E : EnvT} (hE : EOK E) (h : Cx K E cX6_drain 3 RX6 5 111) {σ : ST}  : ∀ m k M, k + m = 99 → M.2.1 0 ≤ 64 → ((mdL m k M).2.2.1 0 ≤ 64 → GG K E (sM σ (mdL m k M).2) 32 [(0, .ref (ad E 11 0 0)), (1, .int (nI (mdL m k M).1))] []) → GG K E (sM σ M) 8 [(0, .ref (ad E 11 0 0)), (1, .int (nI k))] [] := by
  intro m
  induction m with
  | zero =>
    intro k M hk hM hp
    refine g_iload_n h (q := 1) 1 dX6_drain_8 rfl ?_
    refine g_bipush h (v := 99) dX6_drain_9 (by decide) ?_
    refine g_ncmp_ge h (a := k) (b := 99) 32 dX6_drain_11 (by decide) (by omega) (by omega) (fun c1 => ?_) (fun c1 => ?_)
    · exact hp hM
    · exfalso; omega
  | succ m ih =>
    intro k M hk hM hp
    refine g_iload_n h (q := 1) 1 dX6_drain_8 rfl ?_
    refine g_bipush h (v := 99) dX6_drain_9 (by decide) ?_
    refine g_ncmp_ge h (a := k) (b := 99) 32 dX6_drain_11 (by decide) (by omega) (by omega) (fun c1 => ?_) (fun c1 => ?_)
    · exfalso; omega
    · refine g_aload_n h (q := 0) 0 dX6_drain_14 rfl ?_
      refine g_callV h mv_X6_isOver 11 0 0 ⟨rfl, rfl⟩ rfl rfl (As := []) (c_X6_isOver (kl K) hE (σ := σ) (M := M) hM) ml_X6_127 rfl (by decide) (by decide) rfl (Nat.le_of_ble_eq_true rfl) dX6_drain_15 (fun v σ9 h9 => ?_)
      rw [h9.1, h9.2]; clear h9
      refine g_if_ne h 32 dX6_drain_18 (by decide) (fun c2 => ?_) (fun c2 => ?_)
      · have e : mdL (m + 1) k M = (k, M) := by rw [mdL, if_pos (bI_1.mp c2)]
        rw [e] at hp
        exact hp hM
      · refine g_aload_n h (q := 0) 0 dX6_drain_21 rfl ?_
        refine g_callV h mv_X6_goes 11 0 0 ⟨rfl, rfl⟩ rfl rfl (As := []) (c_X6_goes (kl K) hE (σ := σ) (M := M) hM) ml_X6_114 rfl (by decide) (by decide) rfl (Nat.le_of_ble_eq_true rfl) dX6_drain_22 (fun v σ9 h9 => ?_)
        rw [h9.1, h9.2]; clear h9
        refine g_pop h dX6_drain_25 rfl ?_
        refine g_iinc h (q := 1) (v := nI (k + 1)) 1 [(0, .ref (ad E 11 0 0)), (1, .int (nI (k + 1)))] dX6_drain_26 rfl (nI_inc k 1) (by decide) rfl ?_
        refine g_goto h 8 dX6_drain_29 (by decide) ?_
        have e : mdL (m + 1) k M = mdL m (k + 1) (mGo M).2 := by rw [mdL, if_neg (by rw [bI_0.mp c2]; decide)]
        rw [e] at hp
        exact ih (k + 1) _ (by omega) (by rw [(mGo_keep M).2.2.1]; exact hM) hp
theorem mdL_k : ∀ (m k : Nat) (M : MT) (j : Nat), j ≠ 0 → j ≠ 3 → (mdL m k M).2.2.2.1 j = M.2.2.1 j := by
  intro m
  induction m with
  | zero => intro k M j _ _; rfl
  | succ m ih =>
    intro k M j h1 h2
    by_cases h : mOv M = true
    · rw [mdL, if_pos h]
    · rw [mdL, if_neg h, ih _ _ _ h1 h2, (mGo_keep M).2.2.2.2.2 j h1 h2]
theorem wrG_4 (M : MT) (p k : Nat) : wrG M p k (520 * p + 4) = nI (M.2.1 0) := by
  rw [wrG, if_neg (by omega), if_neg (by omega), if_neg (by omega), if_neg (by omega), if_pos rfl]
theorem wrG_5 (M : MT) (p k : Nat) : wrG M p k (520 * p + 5) = nI (M.2.1 1) := by
  rw [wrG, if_neg (by omega), if_neg (by omega), if_neg (by omega), if_neg (by omega), if_neg (by omega), if_pos rfl]
set_option maxHeartbeats 4000000 in
theorem c_X6_drain (l : Launch) {E : EnvT} (hE : EOK E) {σ : ST} {M : MT} (hM : M.2.1 0 ≤ 64) : Con l E yX6_drain cX6_drain 3 (some .int) 5 111 [.ref (ad E 11 0 0)] (sM σ M) (rM (yDrain M (M.2.1 0) (M.2.1 1)) σ) := by
  refine con_intro hE (by decide) (Nat.le_of_ble_eq_true rfl) (fun K hkl h hR => ?_)
  subst hkl
  have h : Cx K E cX6_drain 3 RX6 5 111 := h
  show GG K E (sM σ M) 0 [(0, .ref (ad E 11 0 0))] []
  refine g_aload_n h (q := 0) 0 dX6_drain_0 rfl ?_
  refine g_bipush h (v := 12) dX6_drain_1 (by decide) ?_
  refine g_callV h mv_X6_writes 11 0 0 ⟨rfl, rfl⟩ rfl rfl (As := [.int 12]) (c_X6_writes (kl K) hE (σ := σ) (M := M) 12 (by decide)) ml_X6_59 rfl (by decide) (by decide) rfl (Nat.le_of_ble_eq_true rfl) dX6_drain_3 (fun v σ9 h9 => ?_)
  rw [h9.1, h9.2]; clear h9
  refine g_iconst h (v := 0) dX6_drain_6 (by decide) ?_
  refine g_istore_n h (q := 1) [(0, .ref (ad E 11 0 0)), (1, .int 0)] dX6_drain_7 (by decide) rfl ?_
  refine l_X6_drain hE h 99 0 (mWr M 12) rfl hM (fun hm => ?_)
  have hk : (yDr M).2.2.2.1 1 = wrG M 12 512 := by rw [yDr, mdL_k _ _ _ _ (by decide) (by decide)]; exact mKp_1 _ _
  rw [show mdL 99 0 (mWr M 12) = yDr M from rfl] at hm ⊢
  obtain ⟨D, hD⟩ : ∃ D, D = yDr M := ⟨_, rfl⟩
  rw [← hD] at hm hk ⊢
  refine g_aload_n h (q := 0) 0 dX6_drain_32 rfl ?_
  refine g_callV h mv_X6_isOver 11 0 0 ⟨rfl, rfl⟩ rfl rfl (As := []) (c_X6_isOver (kl K) hE (σ := σ) (M := D.2) hm) ml_X6_127 rfl (by decide) (by decide) rfl (Nat.le_of_ble_eq_true rfl) dX6_drain_33 (fun v σ9 h9 => ?_)
  rw [h9.1, h9.2]; clear h9
  refine g_if_eq h 43 dX6_drain_36 (by decide) (fun c3 => ?_) (fun c3 => ?_)
  · refine g_bipush h (v := (-9)) dX6_drain_43 (by decide) ?_
    refine g_istore_n h (q := 2) [(0, .ref (ad E 11 0 0)), (1, .int (nI (D.1))), (2, .int ((-9)))] dX6_drain_45 (by decide) rfl ?_
    refine g_aload_n h (q := 0) 0 dX6_drain_46 rfl ?_
    refine g_bipush h (v := 12) dX6_drain_47 (by decide) ?_
    refine g_callV h mv_X6_comesBack 11 0 0 ⟨rfl, rfl⟩ rfl rfl (As := [.int 12]) (c_X6_comesBack (kl K) hE (σ := σ) (M := D.2) 12 (M.2.1 0) (M.2.1 1) (by decide) (by rw [hk]; exact wrG_4 M 12 512) (by rw [hk]; exact wrG_5 M 12 512)) ml_X6_118 rfl (by decide) (by decide) rfl (Nat.le_of_ble_eq_true rfl) dX6_drain_49 (fun v σ9 h9 => ?_)
    rw [h9.1, h9.2]; clear h9
    refine g_iload_n h (q := 2) 2 dX6_drain_52 rfl ?_
    exact g_iret h hR dX6_drain_53 (rM_of (q := (-9, mCb D.2 12 (M.2.1 0) (M.2.1 1) 512)) (by rw [yDrain, ← hD, if_neg (by rw [bI_0.mp c3]; decide)]))
  · refine g_iload_n h (q := 1) 1 dX6_drain_39 rfl ?_
    refine g_goto h 45 dX6_drain_40 (by decide) ?_
    refine g_istore_n h (q := 2) [(0, .ref (ad E 11 0 0)), (1, .int (nI (D.1))), (2, .int (nI (D.1)))] dX6_drain_45 (by decide) rfl ?_
    refine g_aload_n h (q := 0) 0 dX6_drain_46 rfl ?_
    refine g_bipush h (v := 12) dX6_drain_47 (by decide) ?_
    refine g_callV h mv_X6_comesBack 11 0 0 ⟨rfl, rfl⟩ rfl rfl (As := [.int 12]) (c_X6_comesBack (kl K) hE (σ := σ) (M := D.2) 12 (M.2.1 0) (M.2.1 1) (by decide) (by rw [hk]; exact wrG_4 M 12 512) (by rw [hk]; exact wrG_5 M 12 512)) ml_X6_118 rfl (by decide) (by decide) rfl (Nat.le_of_ble_eq_true rfl) dX6_drain_49 (fun v σ9 h9 => ?_)
    rw [h9.1, h9.2]; clear h9
    refine g_iload_n h (q := 2) 2 dX6_drain_52 rfl ?_
    exact g_iret h hR dX6_drain_53 (rM_of (q := (nI D.1, mCb D.2 12 (M.2.1 0) (M.2.1 1) 512)) (by rw [yDrain, ← hD, if_pos (bI_1.mp c3)]))
