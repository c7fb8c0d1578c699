def mWin (M : MT) (n : Nat) : MT := ((mSet (mSet M n 0 2) n 7 (nI (M.2.1 1))).1, va_up M.2.1 1 (M.2.1 1 + 1), (mSet (mSet M n 0 2) n 7 (nI (M.2.1 1))).2.2)
def mwL (o : Nat → Nat) : Nat → Nat → Nat → Nat → MT → MT
  | 0, _, _, _, M => M
  | m + 1, k, q, s, M =>
    if nI (if 0 < k ∧ mOf M (o (k - 1)) 2 = mOf M (o k) 2 then s + 1 else 0) < M.1 0 ∧ nI q < M.1 2
    then mwL o m (k + 1) (q + 1) (if 0 < k ∧ mOf M (o (k - 1)) 2 = mOf M (o k) 2 then s + 1 else 0) (mWin M (o k))
    else mwL o m (k + 1) q (if 0 < k ∧ mOf M (o (k - 1)) 2 = mOf M (o k) 2 then s + 1 else 0) M
def mWins (M : MT) : MT := mwL M.2.2.2 (M.2.1 3) 0 (mCt M 2) 0 M
set_option maxHeartbeats 4000000 in
theorem l_X6_wins {K : KX} {E : EnvT} (hE : EOK E) (h : Cx K E cX6_wins 5 RX6 2 45) {σ : ST} {post : Option Value → ST → Prop} (hR : Rx K E none post) (o : Nat → Nat) (z : Nat) (hz : z ≤ 64) (ho : ∀ t, t < z → o t < 64) : ∀ m k q s M, k + m = z → s ≤ k → M.2.2.2 = o → M.2.1 3 = z → post none (sM σ (mwL o m k q s M)) → GG K E (sM σ M) 10 [(0, .ref (ad E 11 0 0)), (1, .int (nI q)), (2, .int (nI s)), (3, .int (nI k))] [] := by
  intro m
  induction m with
  | zero =>
    intro k q s M hk hs hMo hMz hp
    refine g_iload_n h (q := 3) 3 dX6_wins_10 rfl ?_
    refine g_aload_n h (q := 0) 0 dX6_wins_11 rfl ?_
    refine g_gMn h 3 (by decide) fl_X6_90 dX6_wins_12 ?_
    refine g_is (nI (z)) (by rw [hMz]) ?_
    refine g_ncmp_ge h (a := k) (b := z) 116 dX6_wins_15 (by decide) (by omega) (by omega) (fun c1 => ?_) (fun c1 => ?_)
    · exact g_vret h hR dX6_wins_116 (hp)
    · exfalso; omega
  | succ m ih =>
    intro k q s M hk hs hMo hMz hp
    have hn64 := ho k (by omega)
    obtain ⟨n, hn⟩ : ∃ n, n = o k := ⟨_, rfl⟩
    rw [← hn] at hn64
    refine g_iload_n h (q := 3) 3 dX6_wins_10 rfl ?_
    refine g_aload_n h (q := 0) 0 dX6_wins_11 rfl ?_
    refine g_gMn h 3 (by decide) fl_X6_90 dX6_wins_12 ?_
    refine g_is (nI (z)) (by rw [hMz]) ?_
    refine g_ncmp_ge h (a := k) (b := z) 116 dX6_wins_15 (by decide) (by omega) (by omega) (fun c1 => ?_) (fun c1 => ?_)
    · exfalso; omega
    · refine g_aload_n h (q := 0) 0 dX6_wins_18 rfl ?_
      refine g_gMo h fl_X6_29 dX6_wins_19 ?_
      refine g_iload_n h (q := 3) 3 dX6_wins_22 rfl ?_
      refine g_lO h (k) (by omega) dX6_wins_23 ?_
      refine g_is (nI (n)) (by rw [hMo, hn]) ?_
      refine g_istore h (q := 4) [(0, .ref (ad E 11 0 0)), (1, .int (nI (q))), (2, .int (nI (s))), (3, .int (nI (k))), (4, .int (nI (n)))] dX6_wins_24 (by decide) rfl ?_
      refine g_iload_n h (q := 3) 3 dX6_wins_26 rfl ?_
      refine g_nif_le h (a := k) 59 dX6_wins_27 (by decide) (by omega) (fun c2 => ?_) (fun c2 => ?_)
      · refine g_iconst h (v := 0) dX6_wins_59 (by decide) ?_
        refine g_istore_n h (q := 2) [(0, .ref (ad E 11 0 0)), (1, .int (nI (q))), (2, .int 0), (3, .int (nI (k))), (4, .int (nI (n)))] dX6_wins_60 (by decide) rfl ?_
        refine g_iload_n h (q := 2) 2 dX6_wins_61 rfl ?_
        refine g_aload_n h (q := 0) 0 dX6_wins_62 rfl ?_
        refine g_gMc h 0 (by decide) fl_X6_7 dX6_wins_63 ?_
        refine g_icmp_ge h 110 dX6_wins_66 (by decide) (fun c4 => ?_) (fun c4 => ?_)
        · refine g_iinc h (q := 3) (v := nI (k + 1)) 3 [(0, .ref (ad E 11 0 0)), (1, .int (nI (q))), (2, .int 0), (3, .int (nI (k + 1))), (4, .int (nI (n)))] dX6_wins_110 rfl (nI_inc k 1) (by decide) rfl ?_
          refine g_goto h 10 dX6_wins_113 (by decide) ?_
          refine g_sub [(0, .ref (ad E 11 0 0)), (1, .int (nI (q))), (2, .int (nI (0))), (3, .int (nI (k + 1)))] [0, 1, 2, 3] rfl ?_
          have hs9 : (if 0 < k ∧ mOf M (o (k - 1)) 2 = mOf M n 2 then s + 1 else 0) = 0 := by rw [if_neg (fun q => absurd q.1 (by omega))]
          have e : mwL o (m + 1) k q s M = mwL o m (k + 1) q (0) M := by rw [mwL, ← hn, hs9, if_neg (fun q => absurd q.1 (i_nlt c4))]
          rw [e] at hp
          exact ih (k + 1) q (0) M (by omega) (by omega) hMo hMz hp
        · refine g_iload_n h (q := 1) 1 dX6_wins_69 rfl ?_
          refine g_aload_n h (q := 0) 0 dX6_wins_70 rfl ?_
          refine g_gMc h 2 (by decide) fl_X6_16 dX6_wins_71 ?_
          refine g_icmp_ge h 110 dX6_wins_74 (by decide) (fun c5 => ?_) (fun c5 => ?_)
          · refine g_iinc h (q := 3) (v := nI (k + 1)) 3 [(0, .ref (ad E 11 0 0)), (1, .int (nI (q))), (2, .int 0), (3, .int (nI (k + 1))), (4, .int (nI (n)))] dX6_wins_110 rfl (nI_inc k 1) (by decide) rfl ?_
            refine g_goto h 10 dX6_wins_113 (by decide) ?_
            refine g_sub [(0, .ref (ad E 11 0 0)), (1, .int (nI (q))), (2, .int (nI (0))), (3, .int (nI (k + 1)))] [0, 1, 2, 3] rfl ?_
            have hs9 : (if 0 < k ∧ mOf M (o (k - 1)) 2 = mOf M n 2 then s + 1 else 0) = 0 := by rw [if_neg (fun q => absurd q.1 (by omega))]
            have e : mwL o (m + 1) k q s M = mwL o m (k + 1) q (0) M := by rw [mwL, ← hn, hs9, if_neg (fun q => absurd q.2 (i_nlt c5))]
            rw [e] at hp
            exact ih (k + 1) q (0) M (by omega) (by omega) hMo hMz hp
          · refine g_aload_n h (q := 0) 0 dX6_wins_77 rfl ?_
            refine g_iload h (q := 4) 4 dX6_wins_78 rfl ?_
            refine g_iconst h (v := 0) dX6_wins_80 (by decide) ?_
            refine g_iconst h (v := 2) dX6_wins_81 (by decide) ?_
            refine g_callV h mv_X6_sets 11 0 0 ⟨rfl, rfl⟩ rfl rfl (As := [.int (nI (n)), .int 0, .int 2]) (c_X6_sets (kl K) hE (σ := σ) (M := M) n 0 hn64 (by decide) (2)) ml_X6_82 rfl (by decide) (by decide) rfl (Nat.le_of_ble_eq_true rfl) dX6_wins_82 (fun v σ9 h9 => ?_)
            rw [h9.1, h9.2]; clear h9
            obtain ⟨Ma, hMa⟩ : ∃ X, X = mSet M n 0 (2) := ⟨_, rfl⟩
            rw [← hMa]
            refine g_aload_n h (q := 0) 0 dX6_wins_85 rfl ?_
            refine g_iload h (q := 4) 4 dX6_wins_86 rfl ?_
            refine g_bipush h (v := 7) dX6_wins_88 (by decide) ?_
            refine g_aload_n h (q := 0) 0 dX6_wins_90 rfl ?_
            refine g_gMn h 1 (by decide) fl_X6_53 dX6_wins_91 ?_
            refine g_is (nI (M.2.1 1)) (by rw [hMa]; rfl) ?_
            refine g_callV h mv_X6_sets 11 0 0 ⟨rfl, rfl⟩ rfl rfl (As := [.int (nI (n)), .int 7, .int (nI (M.2.1 1))]) (c_X6_sets (kl K) hE (σ := σ) (M := Ma) n 7 hn64 (by decide) (nI (M.2.1 1))) ml_X6_82 rfl (by decide) (by decide) rfl (Nat.le_of_ble_eq_true rfl) dX6_wins_94 (fun v σ9 h9 => ?_)
            rw [h9.1, h9.2]; clear h9
            obtain ⟨Mb, hMb⟩ : ∃ X, X = mSet Ma n 7 (nI (M.2.1 1)) := ⟨_, rfl⟩
            rw [← hMb]
            refine g_aload_n h (q := 0) 0 dX6_wins_97 rfl ?_
            refine g_dup h dX6_wins_98 rfl ?_
            refine g_gMn h 1 (by decide) fl_X6_53 dX6_wins_99 ?_
            refine g_is (nI (M.2.1 1)) (by rw [hMb, hMa]; rfl) ?_
            refine g_iconst h (v := 1) dX6_wins_102 (by decide) ?_
            refine g_iadd h dX6_wins_103 ?_
            refine g_is (nI ((M.2.1 1) + 1)) (nI_add (M.2.1 1) 1) ?_
            refine g_pMn h 1 (by decide) (m := (M.2.1 1) + 1) fl_X6_53 dX6_wins_104 (fun M1 hM1 => ?_)
            refine g_iinc h (q := 1) (v := nI (q + 1)) 1 [(0, .ref (ad E 11 0 0)), (1, .int (nI (q + 1))), (2, .int 0), (3, .int (nI (k))), (4, .int (nI (n)))] dX6_wins_107 rfl (nI_inc q 1) (by decide) rfl ?_
            refine g_iinc h (q := 3) (v := nI (k + 1)) 3 [(0, .ref (ad E 11 0 0)), (1, .int (nI (q + 1))), (2, .int 0), (3, .int (nI (k + 1))), (4, .int (nI (n)))] dX6_wins_110 rfl (nI_inc k 1) (by decide) rfl ?_
            refine g_goto h 10 dX6_wins_113 (by decide) ?_
            refine g_sub [(0, .ref (ad E 11 0 0)), (1, .int (nI (q + 1))), (2, .int (nI (0))), (3, .int (nI (k + 1)))] [0, 1, 2, 3] rfl ?_
            have hs9 : (if 0 < k ∧ mOf M (o (k - 1)) 2 = mOf M n 2 then s + 1 else 0) = 0 := by rw [if_neg (fun q => absurd q.1 (by omega))]
            have e2 : M1 = mWin M n := by rw [hM1, hMb, hMa]; rfl
            rw [e2]
            have e : mwL o (m + 1) k q s M = mwL o m (k + 1) (q + 1) (0) (mWin M n) := by rw [mwL, ← hn, hs9, if_pos ⟨i_lt c4, i_lt c5⟩]
            rw [e] at hp
            exact ih (k + 1) (q + 1) (0) (mWin M n) (by omega) (by omega) hMo (by rw [← hMz]; simp [mWin, va_up]) hp
      · refine g_aload_n h (q := 0) 0 dX6_wins_30 rfl ?_
        refine g_aload_n h (q := 0) 0 dX6_wins_31 rfl ?_
        refine g_gMo h fl_X6_29 dX6_wins_32 ?_
        refine g_iload_n h (q := 3) 3 dX6_wins_35 rfl ?_
        refine g_iconst h (v := 1) dX6_wins_36 (by decide) ?_
        refine g_isub h dX6_wins_37 ?_
        refine g_is (nI (k - 1)) (pk_sub (a := k) (b := 1) (by omega)) ?_
        refine g_lO h (k - 1) (by omega) dX6_wins_38 ?_
        refine g_is (nI (o (k - 1))) (by rw [hMo]) ?_
        refine g_iconst h (v := 2) dX6_wins_39 (by decide) ?_
        refine g_callV h mv_X6_of 11 0 0 ⟨rfl, rfl⟩ rfl rfl (As := [.int (nI (o (k - 1))), .int 2]) (c_X6_of (kl K) hE (σ := σ) (M := M) (o (k - 1)) 2 (ho _ (by omega)) (by decide)) ml_X6_70 rfl (by decide) (by decide) rfl (Nat.le_of_ble_eq_true rfl) dX6_wins_40 (fun v σ9 h9 => ?_)
        rw [h9.1, h9.2]; clear h9
        refine g_aload_n h (q := 0) 0 dX6_wins_43 rfl ?_
        refine g_iload h (q := 4) 4 dX6_wins_44 rfl ?_
        refine g_iconst h (v := 2) dX6_wins_46 (by decide) ?_
        refine g_callV h mv_X6_of 11 0 0 ⟨rfl, rfl⟩ rfl rfl (As := [.int (nI (n)), .int 2]) (c_X6_of (kl K) hE (σ := σ) (M := M) (n) 2 (hn64) (by decide)) ml_X6_70 rfl (by decide) (by decide) rfl (Nat.le_of_ble_eq_true rfl) dX6_wins_47 (fun v σ9 h9 => ?_)
        rw [h9.1, h9.2]; clear h9
        refine g_icmp_ne h 59 dX6_wins_50 (by decide) (fun c3 => ?_) (fun c3 => ?_)
        · refine g_iconst h (v := 0) dX6_wins_59 (by decide) ?_
          refine g_istore_n h (q := 2) [(0, .ref (ad E 11 0 0)), (1, .int (nI (q))), (2, .int 0), (3, .int (nI (k))), (4, .int (nI (n)))] dX6_wins_60 (by decide) rfl ?_
          refine g_iload_n h (q := 2) 2 dX6_wins_61 rfl ?_
          refine g_aload_n h (q := 0) 0 dX6_wins_62 rfl ?_
          refine g_gMc h 0 (by decide) fl_X6_7 dX6_wins_63 ?_
          refine g_icmp_ge h 110 dX6_wins_66 (by decide) (fun c4 => ?_) (fun c4 => ?_)
          · refine g_iinc h (q := 3) (v := nI (k + 1)) 3 [(0, .ref (ad E 11 0 0)), (1, .int (nI (q))), (2, .int 0), (3, .int (nI (k + 1))), (4, .int (nI (n)))] dX6_wins_110 rfl (nI_inc k 1) (by decide) rfl ?_
            refine g_goto h 10 dX6_wins_113 (by decide) ?_
            refine g_sub [(0, .ref (ad E 11 0 0)), (1, .int (nI (q))), (2, .int (nI (0))), (3, .int (nI (k + 1)))] [0, 1, 2, 3] rfl ?_
            have hs9 : (if 0 < k ∧ mOf M (o (k - 1)) 2 = mOf M n 2 then s + 1 else 0) = 0 := by rw [if_neg (fun q => c3 q.2)]
            have e : mwL o (m + 1) k q s M = mwL o m (k + 1) q (0) M := by rw [mwL, ← hn, hs9, if_neg (fun q => absurd q.1 (i_nlt c4))]
            rw [e] at hp
            exact ih (k + 1) q (0) M (by omega) (by omega) hMo hMz hp
          · refine g_iload_n h (q := 1) 1 dX6_wins_69 rfl ?_
            refine g_aload_n h (q := 0) 0 dX6_wins_70 rfl ?_
            refine g_gMc h 2 (by decide) fl_X6_16 dX6_wins_71 ?_
            refine g_icmp_ge h 110 dX6_wins_74 (by decide) (fun c5 => ?_) (fun c5 => ?_)
            · refine g_iinc h (q := 3) (v := nI (k + 1)) 3 [(0, .ref (ad E 11 0 0)), (1, .int (nI (q))), (2, .int 0), (3, .int (nI (k + 1))), (4, .int (nI (n)))] dX6_wins_110 rfl (nI_inc k 1) (by decide) rfl ?_
              refine g_goto h 10 dX6_wins_113 (by decide) ?_
              refine g_sub [(0, .ref (ad E 11 0 0)), (1, .int (nI (q))), (2, .int (nI (0))), (3, .int (nI (k + 1)))] [0, 1, 2, 3] rfl ?_
              have hs9 : (if 0 < k ∧ mOf M (o (k - 1)) 2 = mOf M n 2 then s + 1 else 0) = 0 := by rw [if_neg (fun q => c3 q.2)]
              have e : mwL o (m + 1) k q s M = mwL o m (k + 1) q (0) M := by rw [mwL, ← hn, hs9, if_neg (fun q => absurd q.2 (i_nlt c5))]
              rw [e] at hp
              exact ih (k + 1) q (0) M (by omega) (by omega) hMo hMz hp
            · refine g_aload_n h (q := 0) 0 dX6_wins_77 rfl ?_
              refine g_iload h (q := 4) 4 dX6_wins_78 rfl ?_
              refine g_iconst h (v := 0) dX6_wins_80 (by decide) ?_
              refine g_iconst h (v := 2) dX6_wins_81 (by decide) ?_
              refine g_callV h mv_X6_sets 11 0 0 ⟨rfl, rfl⟩ rfl rfl (As := [.int (nI (n)), .int 0, .int 2]) (c_X6_sets (kl K) hE (σ := σ) (M := M) n 0 hn64 (by decide) (2)) ml_X6_82 rfl (by decide) (by decide) rfl (Nat.le_of_ble_eq_true rfl) dX6_wins_82 (fun v σ9 h9 => ?_)
              rw [h9.1, h9.2]; clear h9
              obtain ⟨Ma, hMa⟩ : ∃ X, X = mSet M n 0 (2) := ⟨_, rfl⟩
              rw [← hMa]
              refine g_aload_n h (q := 0) 0 dX6_wins_85 rfl ?_
              refine g_iload h (q := 4) 4 dX6_wins_86 rfl ?_
              refine g_bipush h (v := 7) dX6_wins_88 (by decide) ?_
              refine g_aload_n h (q := 0) 0 dX6_wins_90 rfl ?_
              refine g_gMn h 1 (by decide) fl_X6_53 dX6_wins_91 ?_
              refine g_is (nI (M.2.1 1)) (by rw [hMa]; rfl) ?_
              refine g_callV h mv_X6_sets 11 0 0 ⟨rfl, rfl⟩ rfl rfl (As := [.int (nI (n)), .int 7, .int (nI (M.2.1 1))]) (c_X6_sets (kl K) hE (σ := σ) (M := Ma) n 7 hn64 (by decide) (nI (M.2.1 1))) ml_X6_82 rfl (by decide) (by decide) rfl (Nat.le_of_ble_eq_true rfl) dX6_wins_94 (fun v σ9 h9 => ?_)
              rw [h9.1, h9.2]; clear h9
              obtain ⟨Mb, hMb⟩ : ∃ X, X = mSet Ma n 7 (nI (M.2.1 1)) := ⟨_, rfl⟩
              rw [← hMb]
              refine g_aload_n h (q := 0) 0 dX6_wins_97 rfl ?_
              refine g_dup h dX6_wins_98 rfl ?_
              refine g_gMn h 1 (by decide) fl_X6_53 dX6_wins_99 ?_
              refine g_is (nI (M.2.1 1)) (by rw [hMb, hMa]; rfl) ?_
              refine g_iconst h (v := 1) dX6_wins_102 (by decide) ?_
              refine g_iadd h dX6_wins_103 ?_
              refine g_is (nI ((M.2.1 1) + 1)) (nI_add (M.2.1 1) 1) ?_
              refine g_pMn h 1 (by decide) (m := (M.2.1 1) + 1) fl_X6_53 dX6_wins_104 (fun M2 hM2 => ?_)
              refine g_iinc h (q := 1) (v := nI (q + 1)) 1 [(0, .ref (ad E 11 0 0)), (1, .int (nI (q + 1))), (2, .int 0), (3, .int (nI (k))), (4, .int (nI (n)))] dX6_wins_107 rfl (nI_inc q 1) (by decide) rfl ?_
              refine g_iinc h (q := 3) (v := nI (k + 1)) 3 [(0, .ref (ad E 11 0 0)), (1, .int (nI (q + 1))), (2, .int 0), (3, .int (nI (k + 1))), (4, .int (nI (n)))] dX6_wins_110 rfl (nI_inc k 1) (by decide) rfl ?_
              refine g_goto h 10 dX6_wins_113 (by decide) ?_
              refine g_sub [(0, .ref (ad E 11 0 0)), (1, .int (nI (q + 1))), (2, .int (nI (0))), (3, .int (nI (k + 1)))] [0, 1, 2, 3] rfl ?_
              have hs9 : (if 0 < k ∧ mOf M (o (k - 1)) 2 = mOf M n 2 then s + 1 else 0) = 0 := by rw [if_neg (fun q => c3 q.2)]
              have e2 : M2 = mWin M n := by rw [hM2, hMb, hMa]; rfl
              rw [e2]
              have e : mwL o (m + 1) k q s M = mwL o m (k + 1) (q + 1) (0) (mWin M n) := by rw [mwL, ← hn, hs9, if_pos ⟨i_lt c4, i_lt c5⟩]
              rw [e] at hp
              exact ih (k + 1) (q + 1) (0) (mWin M n) (by omega) (by omega) hMo (by rw [← hMz]; simp [mWin, va_up]) hp
        · refine g_iload_n h (q := 2) 2 dX6_wins_53 rfl ?_
          refine g_iconst h (v := 1) dX6_wins_54 (by decide) ?_
          refine g_iadd h dX6_wins_55 ?_
          refine g_is (nI (s + 1)) (nI_add s 1) ?_
          refine g_goto h 60 dX6_wins_56 (by decide) ?_
          refine g_istore_n h (q := 2) [(0, .ref (ad E 11 0 0)), (1, .int (nI (q))), (2, .int (nI (s + 1))), (3, .int (nI (k))), (4, .int (nI (n)))] dX6_wins_60 (by decide) rfl ?_
          refine g_iload_n h (q := 2) 2 dX6_wins_61 rfl ?_
          refine g_aload_n h (q := 0) 0 dX6_wins_62 rfl ?_
          refine g_gMc h 0 (by decide) fl_X6_7 dX6_wins_63 ?_
          refine g_icmp_ge h 110 dX6_wins_66 (by decide) (fun c4 => ?_) (fun c4 => ?_)
          · refine g_iinc h (q := 3) (v := nI (k + 1)) 3 [(0, .ref (ad E 11 0 0)), (1, .int (nI (q))), (2, .int (nI (s + 1))), (3, .int (nI (k + 1))), (4, .int (nI (n)))] dX6_wins_110 rfl (nI_inc k 1) (by decide) rfl ?_
            refine g_goto h 10 dX6_wins_113 (by decide) ?_
            refine g_sub [(0, .ref (ad E 11 0 0)), (1, .int (nI (q))), (2, .int (nI (s + 1))), (3, .int (nI (k + 1)))] [0, 1, 2, 3] rfl ?_
            have hs9 : (if 0 < k ∧ mOf M (o (k - 1)) 2 = mOf M n 2 then s + 1 else 0) = s + 1 := by rw [if_pos ⟨c2, c3⟩]
            have e : mwL o (m + 1) k q s M = mwL o m (k + 1) q (s + 1) M := by rw [mwL, ← hn, hs9, if_neg (fun q => absurd q.1 (i_nlt c4))]
            rw [e] at hp
            exact ih (k + 1) q (s + 1) M (by omega) (by omega) hMo hMz hp
          · refine g_iload_n h (q := 1) 1 dX6_wins_69 rfl ?_
            refine g_aload_n h (q := 0) 0 dX6_wins_70 rfl ?_
            refine g_gMc h 2 (by decide) fl_X6_16 dX6_wins_71 ?_
            refine g_icmp_ge h 110 dX6_wins_74 (by decide) (fun c5 => ?_) (fun c5 => ?_)
            · refine g_iinc h (q := 3) (v := nI (k + 1)) 3 [(0, .ref (ad E 11 0 0)), (1, .int (nI (q))), (2, .int (nI (s + 1))), (3, .int (nI (k + 1))), (4, .int (nI (n)))] dX6_wins_110 rfl (nI_inc k 1) (by decide) rfl ?_
              refine g_goto h 10 dX6_wins_113 (by decide) ?_
              refine g_sub [(0, .ref (ad E 11 0 0)), (1, .int (nI (q))), (2, .int (nI (s + 1))), (3, .int (nI (k + 1)))] [0, 1, 2, 3] rfl ?_
              have hs9 : (if 0 < k ∧ mOf M (o (k - 1)) 2 = mOf M n 2 then s + 1 else 0) = s + 1 := by rw [if_pos ⟨c2, c3⟩]
              have e : mwL o (m + 1) k q s M = mwL o m (k + 1) q (s + 1) M := by rw [mwL, ← hn, hs9, if_neg (fun q => absurd q.2 (i_nlt c5))]
              rw [e] at hp
              exact ih (k + 1) q (s + 1) M (by omega) (by omega) hMo hMz hp
            · refine g_aload_n h (q := 0) 0 dX6_wins_77 rfl ?_
              refine g_iload h (q := 4) 4 dX6_wins_78 rfl ?_
              refine g_iconst h (v := 0) dX6_wins_80 (by decide) ?_
              refine g_iconst h (v := 2) dX6_wins_81 (by decide) ?_
              refine g_callV h mv_X6_sets 11 0 0 ⟨rfl, rfl⟩ rfl rfl (As := [.int (nI (n)), .int 0, .int 2]) (c_X6_sets (kl K) hE (σ := σ) (M := M) n 0 hn64 (by decide) (2)) ml_X6_82 rfl (by decide) (by decide) rfl (Nat.le_of_ble_eq_true rfl) dX6_wins_82 (fun v σ9 h9 => ?_)
              rw [h9.1, h9.2]; clear h9
              obtain ⟨Ma, hMa⟩ : ∃ X, X = mSet M n 0 (2) := ⟨_, rfl⟩
              rw [← hMa]
              refine g_aload_n h (q := 0) 0 dX6_wins_85 rfl ?_
              refine g_iload h (q := 4) 4 dX6_wins_86 rfl ?_
              refine g_bipush h (v := 7) dX6_wins_88 (by decide) ?_
              refine g_aload_n h (q := 0) 0 dX6_wins_90 rfl ?_
              refine g_gMn h 1 (by decide) fl_X6_53 dX6_wins_91 ?_
              refine g_is (nI (M.2.1 1)) (by rw [hMa]; rfl) ?_
              refine g_callV h mv_X6_sets 11 0 0 ⟨rfl, rfl⟩ rfl rfl (As := [.int (nI (n)), .int 7, .int (nI (M.2.1 1))]) (c_X6_sets (kl K) hE (σ := σ) (M := Ma) n 7 hn64 (by decide) (nI (M.2.1 1))) ml_X6_82 rfl (by decide) (by decide) rfl (Nat.le_of_ble_eq_true rfl) dX6_wins_94 (fun v σ9 h9 => ?_)
              rw [h9.1, h9.2]; clear h9
              obtain ⟨Mb, hMb⟩ : ∃ X, X = mSet Ma n 7 (nI (M.2.1 1)) := ⟨_, rfl⟩
              rw [← hMb]
              refine g_aload_n h (q := 0) 0 dX6_wins_97 rfl ?_
              refine g_dup h dX6_wins_98 rfl ?_
              refine g_gMn h 1 (by decide) fl_X6_53 dX6_wins_99 ?_
              refine g_is (nI (M.2.1 1)) (by rw [hMb, hMa]; rfl) ?_
              refine g_iconst h (v := 1) dX6_wins_102 (by decide) ?_
              refine g_iadd h dX6_wins_103 ?_
              refine g_is (nI ((M.2.1 1) + 1)) (nI_add (M.2.1 1) 1) ?_
              refine g_pMn h 1 (by decide) (m := (M.2.1 1) + 1) fl_X6_53 dX6_wins_104 (fun M3 hM3 => ?_)
              refine g_iinc h (q := 1) (v := nI (q + 1)) 1 [(0, .ref (ad E 11 0 0)), (1, .int (nI (q + 1))), (2, .int (nI (s + 1))), (3, .int (nI (k))), (4, .int (nI (n)))] dX6_wins_107 rfl (nI_inc q 1) (by decide) rfl ?_
              refine g_iinc h (q := 3) (v := nI (k + 1)) 3 [(0, .ref (ad E 11 0 0)), (1, .int (nI (q + 1))), (2, .int (nI (s + 1))), (3, .int (nI (k + 1))), (4, .int (nI (n)))] dX6_wins_110 rfl (nI_inc k 1) (by decide) rfl ?_
              refine g_goto h 10 dX6_wins_113 (by decide) ?_
              refine g_sub [(0, .ref (ad E 11 0 0)), (1, .int (nI (q + 1))), (2, .int (nI (s + 1))), (3, .int (nI (k + 1)))] [0, 1, 2, 3] rfl ?_
              have hs9 : (if 0 < k ∧ mOf M (o (k - 1)) 2 = mOf M n 2 then s + 1 else 0) = s + 1 := by rw [if_pos ⟨c2, c3⟩]
              have e2 : M3 = mWin M n := by rw [hM3, hMb, hMa]; rfl
              rw [e2]
              have e : mwL o (m + 1) k q s M = mwL o m (k + 1) (q + 1) (s + 1) (mWin M n) := by rw [mwL, ← hn, hs9, if_pos ⟨i_lt c4, i_lt c5⟩]
              rw [e] at hp
              exact ih (k + 1) (q + 1) (s + 1) (mWin M n) (by omega) (by omega) hMo (by rw [← hMz]; simp [mWin, va_up]) hp
set_option maxHeartbeats 4000000 in
theorem c_X6_wins (l : Launch) {E : EnvT} (hE : EOK E) {σ : ST} {M : MT} (hM : M.2.1 0 ≤ 64) (hz : M.2.1 3 ≤ 64) (ho : ∀ t, t < M.2.1 3 → M.2.2.2 t < 64) : Con l E yX6_wins cX6_wins 5 none 2 45 [.ref (ad E 11 0 0)] (sM σ M) (rV (sM σ (mWins M))) := by
  refine con_intro hE (by decide) (Nat.le_of_ble_eq_true rfl) (fun K hkl h hR => ?_)
  subst hkl
  have h : Cx K E cX6_wins 5 RX6 2 45 := h
  show GG K E (sM σ M) 0 [(0, .ref (ad E 11 0 0))] []
  refine g_aload_n h (q := 0) 0 dX6_wins_0 rfl ?_
  refine g_iconst h (v := 2) dX6_wins_1 (by decide) ?_
  refine g_callV h mv_X6_manyAt 11 0 0 ⟨rfl, rfl⟩ rfl rfl (As := [.int 2]) (c_X6_manyAt (kl K) hE (σ := σ) (M := M) hM 2) ml_X6_99 rfl (by decide) (by decide) rfl (Nat.le_of_ble_eq_true rfl) dX6_wins_2 (fun v σ9 h9 => ?_)
  rw [h9.1, h9.2]; clear h9
  refine g_istore_n h (q := 1) [(0, .ref (ad E 11 0 0)), (1, .int (nI (mCt M 2)))] dX6_wins_5 (by decide) rfl ?_
  refine g_iconst h (v := 0) dX6_wins_6 (by decide) ?_
  refine g_istore_n h (q := 2) [(0, .ref (ad E 11 0 0)), (1, .int (nI (mCt M 2))), (2, .int 0)] dX6_wins_7 (by decide) rfl ?_
  refine g_iconst h (v := 0) dX6_wins_8 (by decide) ?_
  refine g_istore_n h (q := 3) [(0, .ref (ad E 11 0 0)), (1, .int (nI (mCt M 2))), (2, .int 0), (3, .int 0)] dX6_wins_9 (by decide) rfl ?_
  exact l_X6_wins hE h hR M.2.2.2 (M.2.1 3) hz ho _ 0 (mCt M 2) 0 M (Nat.zero_add _) (Nat.le_refl _) rfl rfl ⟨rfl, rfl⟩
def ahL (M : MT) (o : Nat → Nat) (n : Nat) : Nat → Nat → Nat → Nat
  | 0, _, c => c
  | m + 1, j, c => ahL M o n m (j + 1) (c + (if o j ≠ n ∧ mOf M (o j) 0 ≠ 2 ∧ mAh M (o j) n = true then 1 else 0))
def mAhd (M : MT) (o : Nat → Nat) (z n : Nat) : Nat := if mIn M n then ahL M o n z 0 0 else 0
def mTv (M : MT) (o : Nat → Nat) (z n : Nat) : Int32 := if mOf M n 0 = 2 then 2 else if nI (mAhd M o z n) < M.1 1 then 1 else 4
/-- the row turn is g -/
def mTn (M : MT) (g : Nat → Int32) : MT := (M.1, M.2.1, va_up M.2.2.1 3 g, M.2.2.2)
theorem mOf_mTn (M : MT) (g : Nat → Int32) (n w : Nat) : mOf (mTn M g) n w = mOf M n w := by simp [mOf, mTn, va_up]
theorem mIn_mTn (M : MT) (g : Nat → Int32) (n : Nat) : mIn (mTn M g) n = mIn M n := by simp [mIn, mOf_mTn]
theorem mAh_mTn (M : MT) (g : Nat → Int32) (a b : Nat) : mAh (mTn M g) a b = mAh M a b := by simp [mAh, mOf_mTn]
def tnG (M : MT) (o : Nat → Nat) (z : Nat) (g : Nat → Int32) (k : Nat) : Nat → Int32 := fun t => if t < k then mTv M o z (o t) else g t
theorem tnG_s (M : MT) (o : Nat → Nat) (z : Nat) (g : Nat → Int32) (k : Nat) : upd (tnG M o z g k) k (mTv M o z (o k)) = tnG M o z g (k + 1) := by
  funext t
  by_cases e : t = k
  · subst e; simp [tnG, upd]
  · have e2 : (t < k + 1) = (t < k) := by apply propext; omega
    simp [tnG, upd, e, e2]
def mT2 (M : MT) (n : Nat) (t : Int32) : MT := mSet (mSet (mSet M n 0 t) n 6 (mOf (mSet M n 0 t) n 6 + (if t = 1 then 1 else 0))) n 5 (if t = 4 then M.1 3 else mOf (mSet (mSet M n 0 t) n 6 (mOf (mSet M n 0 t) n 6 + (if t = 1 then 1 else 0))) n 5)
def t2L (o : Nat → Nat) (g : Nat → Int32) : Nat → Nat → MT → MT
  | 0, _, M => M
  | m + 1, k, M => t2L o g m (k + 1) (mT2 M (o k) (g k))
def mTurns (M : MT) : MT := t2L M.2.2.2 (tnG M M.2.2.2 (M.2.1 3) (M.2.2.1 3) (M.2.1 3)) (M.2.1 3) 0 (mTn M (tnG M M.2.2.2 (M.2.1 3) (M.2.2.1 3) (M.2.1 3)))
set_option maxHeartbeats 4000000 in
theorem i_X6_turns {K : KX} {E : EnvT} (hE : EOK E) (h : Cx K E cX6_turns 7 RX6 2 44) {σ : ST} (M : MT) (g : Nat → Int32) (o : Nat → Nat) (z : Nat) (hz : z ≤ 64) (ho : ∀ t, t < z → o t < 64) (hMo : M.2.2.2 = o) (hMz : M.2.1 3 = z) (k n : Nat) (hn : n < 64) (hin : mIn M n = true) : ∀ m j c, j + m = z → c ≤ j → (∀ lv5, GG K E (sM σ (mTn M g)) 101 ([(0, .ref (ad E 11 0 0)), (1, .int (nI k)), (2, .int (nI n)), (3, .int (nI (ahL M o n m j c)))] ++ lv5) []) → ∀ lv5, GG K E (sM σ (mTn M g)) 22 ([(0, .ref (ad E 11 0 0)), (1, .int (nI k)), (2, .int (nI n)), (3, .int (nI c)), (4, .int (nI j))] ++ lv5) [] := by
  intro m
  induction m with
  | zero =>
    intro j c hj hc hp lv5
    refine g_sub [(0, .ref (ad E 11 0 0)), (1, .int (nI k)), (2, .int (nI n)), (3, .int (nI c)), (4, .int (nI j))] [0, 1, 2, 3, 4] rfl ?_
    refine g_iload h (q := 4) 4 dX6_turns_22 rfl ?_
    refine g_aload_n h (q := 0) 0 dX6_turns_24 rfl ?_
    refine g_gMn h 3 (by decide) fl_X6_90 dX6_turns_25 ?_
    refine g_is (nI (z)) (by rw [← hMz]; rfl) ?_
    refine g_ncmp_ge h (a := j) (b := z) 101 dX6_turns_28 (by decide) (by omega) (by omega) (fun c1 => ?_) (fun c1 => ?_)
    · exact hp [(4, .int (nI j))]
    · exfalso; omega
  | succ m ih =>
    intro j c hj hc hp lv5
    refine g_sub [(0, .ref (ad E 11 0 0)), (1, .int (nI k)), (2, .int (nI n)), (3, .int (nI c)), (4, .int (nI j))] [0, 1, 2, 3, 4] rfl ?_
    have hi64 := ho j (by omega)
    obtain ⟨i, hi⟩ : ∃ i, i = o j := ⟨_, rfl⟩
    rw [← hi] at hi64
    refine g_iload h (q := 4) 4 dX6_turns_22 rfl ?_
    refine g_aload_n h (q := 0) 0 dX6_turns_24 rfl ?_
    refine g_gMn h 3 (by decide) fl_X6_90 dX6_turns_25 ?_
    refine g_is (nI (z)) (by rw [← hMz]; rfl) ?_
    refine g_ncmp_ge h (a := j) (b := z) 101 dX6_turns_28 (by decide) (by omega) (by omega) (fun c1 => ?_) (fun c1 => ?_)
    · exfalso; omega
    · refine g_aload_n h (q := 0) 0 dX6_turns_31 rfl ?_
      refine g_iload_n h (q := 2) 2 dX6_turns_32 rfl ?_
      refine g_callV h mv_X6_isIn 11 0 0 ⟨rfl, rfl⟩ rfl rfl (As := [.int (nI (n))]) (c_X6_isIn (kl K) hE (σ := σ) (M := (mTn M g)) n hn) ml_X6_93 rfl (by decide) (by decide) rfl (Nat.le_of_ble_eq_true rfl) dX6_turns_33 (fun v σ9 h9 => ?_)
      rw [h9.1, h9.2]; clear h9
      rw [mIn_mTn]
      refine g_if_eq h 101 dX6_turns_36 (by decide) (fun c2 => ?_) (fun c2 => ?_)
      · exact absurd (bI_0.mp c2) (by rw [hin]; decide)
      · refine g_aload_n h (q := 0) 0 dX6_turns_39 rfl ?_
        refine g_gMo h fl_X6_29 dX6_turns_40 ?_
        refine g_iload h (q := 4) 4 dX6_turns_43 rfl ?_
        refine g_lO h (j) (by omega) dX6_turns_45 ?_
        refine g_is (nI (i)) (by rw [hi, ← hMo]; rfl) ?_
        refine g_istore h (q := 5) [(0, .ref (ad E 11 0 0)), (1, .int (nI (k))), (2, .int (nI (n))), (3, .int (nI (c))), (4, .int (nI (j))), (5, .int (nI (i)))] dX6_turns_46 (by decide) rfl ?_
        refine g_iload h (q := 5) 5 dX6_turns_48 rfl ?_
        refine g_iload_n h (q := 2) 2 dX6_turns_50 rfl ?_
        refine g_ncmp_eq h (a := i) (b := n) 69 dX6_turns_51 (by decide) (by omega) (by omega) (fun c3 => ?_) (fun c3 => ?_)
        · refine g_iconst h (v := 0) dX6_turns_69 (by decide) ?_
          refine g_istore h (q := 6) [(0, .ref (ad E 11 0 0)), (1, .int (nI (k))), (2, .int (nI (n))), (3, .int (nI (c))), (4, .int (nI (j))), (5, .int (nI (i))), (6, .int 0)] dX6_turns_70 (by decide) rfl ?_
          refine g_iload_n h (q := 3) 3 dX6_turns_72 rfl ?_
          refine g_iload h (q := 6) 6 dX6_turns_73 rfl ?_
          refine g_if_eq h 92 dX6_turns_75 (by decide) (fun _ => ?_) (fun c => absurd rfl c)
          refine g_iconst h (v := 0) dX6_turns_92 (by decide) ?_
          refine g_iadd h dX6_turns_93 ?_
          refine g_is (nI (c + 0)) (nI_add c 0) ?_
          refine g_istore_n h (q := 3) [(0, .ref (ad E 11 0 0)), (1, .int (nI (k))), (2, .int (nI (n))), (3, .int (nI (c + 0))), (4, .int (nI (j))), (5, .int (nI (i))), (6, .int 0)] dX6_turns_94 (by decide) rfl ?_
          refine g_iinc h (q := 4) (v := nI (j + 1)) 4 [(0, .ref (ad E 11 0 0)), (1, .int (nI (k))), (2, .int (nI (n))), (3, .int (nI (c + 0))), (4, .int (nI (j + 1))), (5, .int (nI (i))), (6, .int 0)] dX6_turns_95 rfl (nI_inc j 1) (by decide) rfl ?_
          refine g_goto h 22 dX6_turns_98 (by decide) ?_
          refine ih (j + 1) (c + 0) (by omega) (by omega) (fun lv6 => ?_) _
          have e : ahL M o n (m + 1) j c = ahL M o n m (j + 1) (c + 0) := by
            rw [ahL, ← hi, if_neg (fun q => q.1 c3)]
          rw [← e]
          exact hp lv6
        · refine g_aload_n h (q := 0) 0 dX6_turns_54 rfl ?_
          refine g_iload h (q := 5) 5 dX6_turns_55 rfl ?_
          refine g_iconst h (v := 0) dX6_turns_57 (by decide) ?_
          refine g_callV h mv_X6_of 11 0 0 ⟨rfl, rfl⟩ rfl rfl (As := [.int (nI (i)), .int 0]) (c_X6_of (kl K) hE (σ := σ) (M := (mTn M g)) i 0 hi64 (by decide)) ml_X6_70 rfl (by decide) (by decide) rfl (Nat.le_of_ble_eq_true rfl) dX6_turns_58 (fun v σ9 h9 => ?_)
          rw [h9.1, h9.2]; clear h9
          rw [mOf_mTn]
          refine g_iconst h (v := 2) dX6_turns_61 (by decide) ?_
          refine g_icmp_eq h 69 dX6_turns_62 (by decide) (fun c4 => ?_) (fun c4 => ?_)
          · refine g_iconst h (v := 0) dX6_turns_69 (by decide) ?_
            refine g_istore h (q := 6) [(0, .ref (ad E 11 0 0)), (1, .int (nI (k))), (2, .int (nI (n))), (3, .int (nI (c))), (4, .int (nI (j))), (5, .int (nI (i))), (6, .int 0)] dX6_turns_70 (by decide) rfl ?_
            refine g_iload_n h (q := 3) 3 dX6_turns_72 rfl ?_
            refine g_iload h (q := 6) 6 dX6_turns_73 rfl ?_
            refine g_if_eq h 92 dX6_turns_75 (by decide) (fun _ => ?_) (fun c => absurd rfl c)
            refine g_iconst h (v := 0) dX6_turns_92 (by decide) ?_
            refine g_iadd h dX6_turns_93 ?_
            refine g_is (nI (c + 0)) (nI_add c 0) ?_
            refine g_istore_n h (q := 3) [(0, .ref (ad E 11 0 0)), (1, .int (nI (k))), (2, .int (nI (n))), (3, .int (nI (c + 0))), (4, .int (nI (j))), (5, .int (nI (i))), (6, .int 0)] dX6_turns_94 (by decide) rfl ?_
            refine g_iinc h (q := 4) (v := nI (j + 1)) 4 [(0, .ref (ad E 11 0 0)), (1, .int (nI (k))), (2, .int (nI (n))), (3, .int (nI (c + 0))), (4, .int (nI (j + 1))), (5, .int (nI (i))), (6, .int 0)] dX6_turns_95 rfl (nI_inc j 1) (by decide) rfl ?_
            refine g_goto h 22 dX6_turns_98 (by decide) ?_
            refine ih (j + 1) (c + 0) (by omega) (by omega) (fun lv6 => ?_) _
            have e : ahL M o n (m + 1) j c = ahL M o n m (j + 1) (c + 0) := by
              rw [ahL, ← hi, if_neg (fun q => q.2.1 c4)]
            rw [← e]
            exact hp lv6
          · refine g_iconst h (v := 1) dX6_turns_65 (by decide) ?_
            refine g_goto h 70 dX6_turns_66 (by decide) ?_
            refine g_istore h (q := 6) [(0, .ref (ad E 11 0 0)), (1, .int (nI (k))), (2, .int (nI (n))), (3, .int (nI (c))), (4, .int (nI (j))), (5, .int (nI (i))), (6, .int 1)] dX6_turns_70 (by decide) rfl ?_
            refine g_iload_n h (q := 3) 3 dX6_turns_72 rfl ?_
            refine g_iload h (q := 6) 6 dX6_turns_73 rfl ?_
            refine g_if_eq h 92 dX6_turns_75 (by decide) (fun c => absurd c (by decide)) (fun _ => ?_)
            refine g_aload_n h (q := 0) 0 dX6_turns_78 rfl ?_
            refine g_iload h (q := 5) 5 dX6_turns_79 rfl ?_
            refine g_iload_n h (q := 2) 2 dX6_turns_81 rfl ?_
            refine g_callV h mv_X6_isAhead 11 0 0 ⟨rfl, rfl⟩ rfl rfl (As := [.int (nI (i)), .int (nI (n))]) (c_X6_isAhead (kl K) hE (σ := σ) (M := (mTn M g)) i n hi64 hn) ml_X6_86 rfl (by decide) (by decide) rfl (Nat.le_of_ble_eq_true rfl) dX6_turns_82 (fun v σ9 h9 => ?_)
            rw [h9.1, h9.2]; clear h9
            rw [mAh_mTn]
            refine g_if_eq h 92 dX6_turns_85 (by decide) (fun c6 => ?_) (fun c6 => ?_)
            · refine g_iconst h (v := 0) dX6_turns_92 (by decide) ?_
              refine g_iadd h dX6_turns_93 ?_
              refine g_is (nI (c + 0)) (nI_add c 0) ?_
              refine g_istore_n h (q := 3) [(0, .ref (ad E 11 0 0)), (1, .int (nI (k))), (2, .int (nI (n))), (3, .int (nI (c + 0))), (4, .int (nI (j))), (5, .int (nI (i))), (6, .int 1)] dX6_turns_94 (by decide) rfl ?_
              refine g_iinc h (q := 4) (v := nI (j + 1)) 4 [(0, .ref (ad E 11 0 0)), (1, .int (nI (k))), (2, .int (nI (n))), (3, .int (nI (c + 0))), (4, .int (nI (j + 1))), (5, .int (nI (i))), (6, .int 1)] dX6_turns_95 rfl (nI_inc j 1) (by decide) rfl ?_
              refine g_goto h 22 dX6_turns_98 (by decide) ?_
              refine ih (j + 1) (c + 0) (by omega) (by omega) (fun lv6 => ?_) _
              have e : ahL M o n (m + 1) j c = ahL M o n m (j + 1) (c + 0) := by
                rw [ahL, ← hi, if_neg (fun q => by rw [bI_0.mp c6] at q; exact absurd q.2.2 (by decide))]
              rw [← e]
              exact hp lv6
            · refine g_iconst h (v := 1) dX6_turns_88 (by decide) ?_
              refine g_goto h 93 dX6_turns_89 (by decide) ?_
              refine g_iadd h dX6_turns_93 ?_
              refine g_is (nI (c + 1)) (nI_add c 1) ?_
              refine g_istore_n h (q := 3) [(0, .ref (ad E 11 0 0)), (1, .int (nI (k))), (2, .int (nI (n))), (3, .int (nI (c + 1))), (4, .int (nI (j))), (5, .int (nI (i))), (6, .int 1)] dX6_turns_94 (by decide) rfl ?_
              refine g_iinc h (q := 4) (v := nI (j + 1)) 4 [(0, .ref (ad E 11 0 0)), (1, .int (nI (k))), (2, .int (nI (n))), (3, .int (nI (c + 1))), (4, .int (nI (j + 1))), (5, .int (nI (i))), (6, .int 1)] dX6_turns_95 rfl (nI_inc j 1) (by decide) rfl ?_
              refine g_goto h 22 dX6_turns_98 (by decide) ?_
              refine ih (j + 1) (c + 1) (by omega) (by omega) (fun lv6 => ?_) _
              have e : ahL M o n (m + 1) j c = ahL M o n m (j + 1) (c + 1) := by
                rw [ahL, ← hi, if_pos ⟨c3, c4, bI_1.mp c6⟩]
              rw [← e]
              exact hp lv6
set_option maxHeartbeats 4000000 in
theorem k_X6_turns {K : KX} {E : EnvT} (hE : EOK E) (h : Cx K E cX6_turns 7 RX6 2 44) {σ : ST} (M : MT) (g : Nat → Int32) (o : Nat → Nat) (z : Nat) (hz : z ≤ 64) (ho : ∀ t, t < z → o t < 64) (hMo : M.2.2.2 = o) (hMz : M.2.1 3 = z) (hp : ∀ lv5, GG K E (sM σ (mTn M (tnG M o z g z))) 140 ([(0, .ref (ad E 11 0 0))] ++ lv5) []) : ∀ m k, k + m = z → ∀ lv5, GG K E (sM σ (mTn M (tnG M o z g k))) 2 ([(0, .ref (ad E 11 0 0)), (1, .int (nI k))] ++ lv5) [] := by
  intro m
  induction m with
  | zero =>
    intro k hk lv5
    have hkz : k = z := by omega
    subst hkz
    refine g_sub [(0, .ref (ad E 11 0 0)), (1, .int (nI k))] [0, 1] rfl ?_
    refine g_iload_n h (q := 1) 1 dX6_turns_2 rfl ?_
    refine g_aload_n h (q := 0) 0 dX6_turns_3 rfl ?_
    refine g_gMn h 3 (by decide) fl_X6_90 dX6_turns_4 ?_
    refine g_is (nI (k)) (by rw [← hMz]; rfl) ?_
    refine g_ncmp_ge h (a := k) (b := k) 140 dX6_turns_7 (by decide) (by omega) (by omega) (fun c1 => ?_) (fun c1 => ?_)
    · exact hp [(1, .int (nI k))]
    · exfalso; omega
  | succ m ih =>
    intro k hk lv5
    refine g_sub [(0, .ref (ad E 11 0 0)), (1, .int (nI k))] [0, 1] rfl ?_
    have hn64 := ho k (by omega)
    obtain ⟨n, hn⟩ : ∃ n, n = o k := ⟨_, rfl⟩
    rw [← hn] at hn64
    have fin : ∀ c, c = mAhd M o z n → ∀ lv5, GG K E (sM σ (mTn M (tnG M o z g k))) 101 ([(0, .ref (ad E 11 0 0)), (1, .int (nI k)), (2, .int (nI n)), (3, .int (nI c))] ++ lv5) [] := by
      intro c hc lv5
      refine g_sub [(0, .ref (ad E 11 0 0)), (1, .int (nI k)), (2, .int (nI n)), (3, .int (nI c))] [0, 1, 2, 3] rfl ?_
      refine g_aload_n h (q := 0) 0 dX6_turns_101 rfl ?_
      refine g_gMa h 3 (by decide) fl_X6_32 dX6_turns_102 ?_
      refine g_iload_n h (q := 1) 1 dX6_turns_105 rfl ?_
      refine g_aload_n h (q := 0) 0 dX6_turns_106 rfl ?_
      refine g_iload_n h (q := 2) 2 dX6_turns_107 rfl ?_
      refine g_iconst h (v := 0) dX6_turns_108 (by decide) ?_
      refine g_callV h mv_X6_of 11 0 0 ⟨rfl, rfl⟩ rfl rfl (As := [.int (nI (n)), .int 0]) (c_X6_of (kl K) hE (σ := σ) (M := (mTn M (tnG M o z g k))) n 0 hn64 (by decide)) ml_X6_70 rfl (by decide) (by decide) rfl (Nat.le_of_ble_eq_true rfl) dX6_turns_109 (fun v σ9 h9 => ?_)
      rw [h9.1, h9.2]; clear h9
      rw [mOf_mTn]
      refine g_iconst h (v := 2) dX6_turns_112 (by decide) ?_
      refine g_icmp_ne h 120 dX6_turns_113 (by decide) (fun c2 => ?_) (fun c2 => ?_)
      · refine g_iload_n h (q := 3) 3 dX6_turns_120 rfl ?_
        refine g_aload_n h (q := 0) 0 dX6_turns_121 rfl ?_
        refine g_gMc h 1 (by decide) fl_X6_13 dX6_turns_122 ?_
        refine g_is (M.1 1) (rfl) ?_
        refine g_icmp_ge h 132 dX6_turns_125 (by decide) (fun c3 => ?_) (fun c3 => ?_)
        · refine g_iconst h (v := 4) dX6_turns_132 (by decide) ?_
          refine g_sA h 3 (by decide) (k) (show k < 64 by omega) dX6_turns_133 (fun M1 hM1 => ?_)
          refine g_iinc h (q := 1) (v := nI (k + 1)) 1 [(0, .ref (ad E 11 0 0)), (1, .int (nI (k + 1))), (2, .int (nI (n))), (3, .int (nI (c)))] dX6_turns_134 rfl (nI_inc k 1) (by decide) rfl ?_
          refine g_goto h 2 dX6_turns_137 (by decide) ?_
          have e : mTv M o z n = 4 := by rw [mTv, if_neg c2, ← hc, if_neg (i_nlt c3)]
          rw [show M1 = mTn M (tnG M o z g (k + 1)) by rw [hM1, ← tnG_s, ← hn, e]; simp [mTn, bx_uu, up_s]]
          exact ih (k + 1) (by omega) [(2, .int (nI n)), (3, .int (nI c))]
        · refine g_iconst h (v := 1) dX6_turns_128 (by decide) ?_
          refine g_goto h 133 dX6_turns_129 (by decide) ?_
          refine g_sA h 3 (by decide) (k) (show k < 64 by omega) dX6_turns_133 (fun M2 hM2 => ?_)
          refine g_iinc h (q := 1) (v := nI (k + 1)) 1 [(0, .ref (ad E 11 0 0)), (1, .int (nI (k + 1))), (2, .int (nI (n))), (3, .int (nI (c)))] dX6_turns_134 rfl (nI_inc k 1) (by decide) rfl ?_
          refine g_goto h 2 dX6_turns_137 (by decide) ?_
          have e : mTv M o z n = 1 := by rw [mTv, if_neg c2, ← hc, if_pos (i_lt c3)]
          rw [show M2 = mTn M (tnG M o z g (k + 1)) by rw [hM2, ← tnG_s, ← hn, e]; simp [mTn, bx_uu, up_s]]
          exact ih (k + 1) (by omega) [(2, .int (nI n)), (3, .int (nI c))]
      · refine g_iconst h (v := 2) dX6_turns_116 (by decide) ?_
        refine g_goto h 133 dX6_turns_117 (by decide) ?_
        refine g_sA h 3 (by decide) (k) (show k < 64 by omega) dX6_turns_133 (fun M3 hM3 => ?_)
        refine g_iinc h (q := 1) (v := nI (k + 1)) 1 [(0, .ref (ad E 11 0 0)), (1, .int (nI (k + 1))), (2, .int (nI (n))), (3, .int (nI (c)))] dX6_turns_134 rfl (nI_inc k 1) (by decide) rfl ?_
        refine g_goto h 2 dX6_turns_137 (by decide) ?_
        have e : mTv M o z n = 2 := by rw [mTv, if_pos c2]
        rw [show M3 = mTn M (tnG M o z g (k + 1)) by rw [hM3, ← tnG_s, ← hn, e]; simp [mTn, bx_uu, up_s]]
        exact ih (k + 1) (by omega) [(2, .int (nI n)), (3, .int (nI c))]
    refine g_iload_n h (q := 1) 1 dX6_turns_2 rfl ?_
    refine g_aload_n h (q := 0) 0 dX6_turns_3 rfl ?_
    refine g_gMn h 3 (by decide) fl_X6_90 dX6_turns_4 ?_
    refine g_is (nI (z)) (by rw [← hMz]; rfl) ?_
    refine g_ncmp_ge h (a := k) (b := z) 140 dX6_turns_7 (by decide) (by omega) (by omega) (fun c1 => ?_) (fun c1 => ?_)
    · exfalso; omega
    · refine g_aload_n h (q := 0) 0 dX6_turns_10 rfl ?_
      refine g_gMo h fl_X6_29 dX6_turns_11 ?_
      refine g_iload_n h (q := 1) 1 dX6_turns_14 rfl ?_
      refine g_lO h (k) (by omega) dX6_turns_15 ?_
      refine g_is (nI (n)) (by rw [hn, ← hMo]; rfl) ?_
      refine g_istore_n h (q := 2) [(0, .ref (ad E 11 0 0)), (1, .int (nI (k))), (2, .int (nI (n)))] dX6_turns_16 (by decide) rfl ?_
      refine g_iconst h (v := 0) dX6_turns_17 (by decide) ?_
      refine g_istore_n h (q := 3) [(0, .ref (ad E 11 0 0)), (1, .int (nI (k))), (2, .int (nI (n))), (3, .int 0)] dX6_turns_18 (by decide) rfl ?_
      refine g_iconst h (v := 0) dX6_turns_19 (by decide) ?_
      refine g_istore h (q := 4) [(0, .ref (ad E 11 0 0)), (1, .int (nI (k))), (2, .int (nI (n))), (3, .int 0), (4, .int 0)] dX6_turns_20 (by decide) rfl ?_
      by_cases hin : mIn M n = true
      · exact i_X6_turns hE h M (tnG M o z g k) o z hz ho hMo hMz k n hn64 hin z 0 0 (Nat.zero_add _) (Nat.le_refl _) (fun lv6 => fin _ (by rw [mAhd, if_pos hin]) lv6) []
      · refine g_iload h (q := 4) 4 dX6_turns_22 rfl ?_
        refine g_aload_n h (q := 0) 0 dX6_turns_24 rfl ?_
        refine g_gMn h 3 (by decide) fl_X6_90 dX6_turns_25 ?_
        refine g_is (nI (z)) (by rw [← hMz]; rfl) ?_
        refine g_ncmp_ge h (a := 0) (b := z) 101 dX6_turns_28 (by decide) (by omega) (by omega) (fun c4 => ?_) (fun c4 => ?_)
        · exact fin 0 (by rw [mAhd, if_neg hin]) [(4, .int (nI 0))]
        · refine g_aload_n h (q := 0) 0 dX6_turns_31 rfl ?_
          refine g_iload_n h (q := 2) 2 dX6_turns_32 rfl ?_
          refine g_callV h mv_X6_isIn 11 0 0 ⟨rfl, rfl⟩ rfl rfl (As := [.int (nI (n))]) (c_X6_isIn (kl K) hE (σ := σ) (M := (mTn M (tnG M o z g k))) n hn64) ml_X6_93 rfl (by decide) (by decide) rfl (Nat.le_of_ble_eq_true rfl) dX6_turns_33 (fun v σ9 h9 => ?_)
          rw [h9.1, h9.2]; clear h9
          rw [mIn_mTn]
          refine g_if_eq h 101 dX6_turns_36 (by decide) (fun c5 => ?_) (fun c5 => ?_)
          · exact fin 0 (by rw [mAhd, if_neg hin]) [(4, .int (nI 0))]
          · exact absurd (bI_1.mp c5) hin
set_option maxHeartbeats 4000000 in
theorem l_X6_turns {K : KX} {E : EnvT} (hE : EOK E) (h : Cx K E cX6_turns 7 RX6 2 44) {σ : ST} {post : Option Value → ST → Prop} (hR : Rx K E none post) (o : Nat → Nat) (g : Nat → Int32) (z : Nat) (hz : z ≤ 64) (ho : ∀ t, t < z → o t < 64) : ∀ m k M, k + m = z → M.2.2.2 = o → M.2.1 3 = z → M.2.2.1 3 = g → post none (sM σ (t2L o g m k M)) → GG K E (sM σ M) 142 [(0, .ref (ad E 11 0 0)), (1, .int (nI k))] [] := by
  intro m
  induction m with
  | zero =>
    intro k M hk hMo hMz hMg hp
    refine g_iload_n h (q := 1) 1 dX6_turns_142 rfl ?_
    refine g_aload_n h (q := 0) 0 dX6_turns_143 rfl ?_
    refine g_gMn h 3 (by decide) fl_X6_90 dX6_turns_144 ?_
    refine g_is (nI (z)) (by rw [hMz]) ?_
    refine g_ncmp_ge h (a := k) (b := z) 234 dX6_turns_147 (by decide) (by omega) (by omega) (fun c1 => ?_) (fun c1 => ?_)
    · exact g_vret h hR dX6_turns_234 (hp)
    · exfalso; omega
  | succ m ih =>
    intro k M hk hMo hMz hMg hp
    have hn64 := ho k (by omega)
    obtain ⟨n, hn⟩ : ∃ n, n = o k := ⟨_, rfl⟩
    rw [← hn] at hn64
    obtain ⟨t, ht⟩ : ∃ t, t = g k := ⟨_, rfl⟩
    refine g_iload_n h (q := 1) 1 dX6_turns_142 rfl ?_
    refine g_aload_n h (q := 0) 0 dX6_turns_143 rfl ?_
    refine g_gMn h 3 (by decide) fl_X6_90 dX6_turns_144 ?_
    refine g_is (nI (z)) (by rw [hMz]) ?_
    refine g_ncmp_ge h (a := k) (b := z) 234 dX6_turns_147 (by decide) (by omega) (by omega) (fun c1 => ?_) (fun c1 => ?_)
    · exfalso; omega
    · refine g_aload_n h (q := 0) 0 dX6_turns_150 rfl ?_
      refine g_gMo h fl_X6_29 dX6_turns_151 ?_
      refine g_iload_n h (q := 1) 1 dX6_turns_154 rfl ?_
      refine g_lO h (k) (by omega) dX6_turns_155 ?_
      refine g_is (nI (n)) (by rw [hMo, hn]) ?_
      refine g_istore_n h (q := 2) [(0, .ref (ad E 11 0 0)), (1, .int (nI (k))), (2, .int (nI (n)))] dX6_turns_156 (by decide) rfl ?_
      refine g_aload_n h (q := 0) 0 dX6_turns_157 rfl ?_
      refine g_iload_n h (q := 2) 2 dX6_turns_158 rfl ?_
      refine g_iconst h (v := 0) dX6_turns_159 (by decide) ?_
      refine g_aload_n h (q := 0) 0 dX6_turns_160 rfl ?_
      refine g_gMa h 3 (by decide) fl_X6_32 dX6_turns_161 ?_
      refine g_iload_n h (q := 1) 1 dX6_turns_164 rfl ?_
      refine g_lM h 3 (by decide) (k) (show k < 64 by omega) dX6_turns_165 ?_
      refine g_is (t) (by rw [hMg, ht]) ?_
      refine g_callV h mv_X6_sets 11 0 0 ⟨rfl, rfl⟩ rfl rfl (As := [.int (nI (n)), .int 0, .int t]) (c_X6_sets (kl K) hE (σ := σ) (M := M) n 0 hn64 (by decide) (t)) ml_X6_82 rfl (by decide) (by decide) rfl (Nat.le_of_ble_eq_true rfl) dX6_turns_166 (fun v σ9 h9 => ?_)
      rw [h9.1, h9.2]; clear h9
      obtain ⟨Ma, hMa⟩ : ∃ X, X = mSet M n 0 (t) := ⟨_, rfl⟩
      rw [← hMa]
      refine g_aload_n h (q := 0) 0 dX6_turns_169 rfl ?_
      refine g_iload_n h (q := 2) 2 dX6_turns_170 rfl ?_
      refine g_bipush h (v := 6) dX6_turns_171 (by decide) ?_
      refine g_aload_n h (q := 0) 0 dX6_turns_173 rfl ?_
      refine g_iload_n h (q := 2) 2 dX6_turns_174 rfl ?_
      refine g_bipush h (v := 6) dX6_turns_175 (by decide) ?_
      refine g_callV h mv_X6_of 11 0 0 ⟨rfl, rfl⟩ rfl rfl (As := [.int (nI (n)), .int 6]) (c_X6_of (kl K) hE (σ := σ) (M := Ma) n 6 hn64 (by decide)) ml_X6_70 rfl (by decide) (by decide) rfl (Nat.le_of_ble_eq_true rfl) dX6_turns_177 (fun v σ9 h9 => ?_)
      rw [h9.1, h9.2]; clear h9
      refine g_aload_n h (q := 0) 0 dX6_turns_180 rfl ?_
      refine g_gMa h 3 (by decide) fl_X6_32 dX6_turns_181 ?_
      refine g_iload_n h (q := 1) 1 dX6_turns_184 rfl ?_
      refine g_lM h 3 (by decide) (k) (show k < 64 by omega) dX6_turns_185 ?_
      refine g_is (t) (by rw [hMa]; simp [mSet, va_up, hMg, ht]) ?_
      refine g_iconst h (v := 1) dX6_turns_186 (by decide) ?_
      refine g_icmp_ne h 194 dX6_turns_187 (by decide) (fun c2 => ?_) (fun c2 => ?_)
      · refine g_iconst h (v := 0) dX6_turns_194 (by decide) ?_
        refine g_iadd h dX6_turns_195 ?_
        refine g_callV h mv_X6_sets 11 0 0 ⟨rfl, rfl⟩ rfl rfl (As := [.int (nI (n)), .int 6, .int ((mOf Ma n 6) + 0)]) (c_X6_sets (kl K) hE (σ := σ) (M := Ma) n 6 hn64 (by decide) (mOf Ma n 6 + 0)) ml_X6_82 rfl (by decide) (by decide) rfl (Nat.le_of_ble_eq_true rfl) dX6_turns_196 (fun v σ9 h9 => ?_)
        rw [h9.1, h9.2]; clear h9
        obtain ⟨Mb, hMb⟩ : ∃ X, X = mSet Ma n 6 (mOf Ma n 6 + 0) := ⟨_, rfl⟩
        rw [← hMb]
        refine g_aload_n h (q := 0) 0 dX6_turns_199 rfl ?_
        refine g_iload_n h (q := 2) 2 dX6_turns_200 rfl ?_
        refine g_iconst h (v := 5) dX6_turns_201 (by decide) ?_
        refine g_aload_n h (q := 0) 0 dX6_turns_202 rfl ?_
        refine g_gMa h 3 (by decide) fl_X6_32 dX6_turns_203 ?_
        refine g_iload_n h (q := 1) 1 dX6_turns_206 rfl ?_
        refine g_lM h 3 (by decide) (k) (show k < 64 by omega) dX6_turns_207 ?_
        refine g_is (t) (by rw [hMb, hMa]; simp [mSet, va_up, hMg, ht]) ?_
        refine g_iconst h (v := 4) dX6_turns_208 (by decide) ?_
        refine g_icmp_ne h 219 dX6_turns_209 (by decide) (fun c3 => ?_) (fun c3 => ?_)
        · refine g_aload_n h (q := 0) 0 dX6_turns_219 rfl ?_
          refine g_iload_n h (q := 2) 2 dX6_turns_220 rfl ?_
          refine g_iconst h (v := 5) dX6_turns_221 (by decide) ?_
          refine g_callV h mv_X6_of 11 0 0 ⟨rfl, rfl⟩ rfl rfl (As := [.int (nI (n)), .int 5]) (c_X6_of (kl K) hE (σ := σ) (M := Mb) n 5 hn64 (by decide)) ml_X6_70 rfl (by decide) (by decide) rfl (Nat.le_of_ble_eq_true rfl) dX6_turns_222 (fun v σ9 h9 => ?_)
          rw [h9.1, h9.2]; clear h9
          refine g_callV h mv_X6_sets 11 0 0 ⟨rfl, rfl⟩ rfl rfl (As := [.int (nI (n)), .int 5, .int (mOf Mb n 5)]) (c_X6_sets (kl K) hE (σ := σ) (M := Mb) n 5 hn64 (by decide) (mOf Mb n 5)) ml_X6_82 rfl (by decide) (by decide) rfl (Nat.le_of_ble_eq_true rfl) dX6_turns_225 (fun v σ9 h9 => ?_)
          rw [h9.1, h9.2]; clear h9
          obtain ⟨Mc, hMc⟩ : ∃ X, X = mSet Mb n 5 (mOf Mb n 5) := ⟨_, rfl⟩
          rw [← hMc]
          refine g_iinc h (q := 1) (v := nI (k + 1)) 1 [(0, .ref (ad E 11 0 0)), (1, .int (nI (k + 1))), (2, .int (nI (n)))] dX6_turns_228 rfl (nI_inc k 1) (by decide) rfl ?_
          refine g_goto h 142 dX6_turns_231 (by decide) ?_
          refine g_sub [(0, .ref (ad E 11 0 0)), (1, .int (nI (k + 1)))] [0, 1] rfl ?_
          have e2 : Mc = mT2 M n t := by rw [mT2, if_neg c2, if_neg c3, hMc, hMb, hMa]
          rw [e2]
          rw [t2L, ← hn, ← ht] at hp
          exact ih (k + 1) (mT2 M n t) (by omega) hMo hMz (by rw [← hMg]; simp [mT2, mSet, va_up]) hp
        · refine g_aload_n h (q := 0) 0 dX6_turns_212 rfl ?_
          refine g_gMc h 3 (by decide) fl_X6_47 dX6_turns_213 ?_
          refine g_is (M.1 3) (by rw [hMb, hMa]; rfl) ?_
          refine g_goto h 225 dX6_turns_216 (by decide) ?_
          refine g_callV h mv_X6_sets 11 0 0 ⟨rfl, rfl⟩ rfl rfl (As := [.int (nI (n)), .int 5, .int (M.1 3)]) (c_X6_sets (kl K) hE (σ := σ) (M := Mb) n 5 hn64 (by decide) (M.1 3)) ml_X6_82 rfl (by decide) (by decide) rfl (Nat.le_of_ble_eq_true rfl) dX6_turns_225 (fun v σ9 h9 => ?_)
          rw [h9.1, h9.2]; clear h9
          obtain ⟨Mc, hMc⟩ : ∃ X, X = mSet Mb n 5 (M.1 3) := ⟨_, rfl⟩
          rw [← hMc]
          refine g_iinc h (q := 1) (v := nI (k + 1)) 1 [(0, .ref (ad E 11 0 0)), (1, .int (nI (k + 1))), (2, .int (nI (n)))] dX6_turns_228 rfl (nI_inc k 1) (by decide) rfl ?_
          refine g_goto h 142 dX6_turns_231 (by decide) ?_
          refine g_sub [(0, .ref (ad E 11 0 0)), (1, .int (nI (k + 1)))] [0, 1] rfl ?_
          have e2 : Mc = mT2 M n t := by rw [mT2, if_neg c2, if_pos c3, hMc, hMb, hMa]
          rw [e2]
          rw [t2L, ← hn, ← ht] at hp
          exact ih (k + 1) (mT2 M n t) (by omega) hMo hMz (by rw [← hMg]; simp [mT2, mSet, va_up]) hp
      · refine g_iconst h (v := 1) dX6_turns_190 (by decide) ?_
        refine g_goto h 195 dX6_turns_191 (by decide) ?_
        refine g_iadd h dX6_turns_195 ?_
        refine g_callV h mv_X6_sets 11 0 0 ⟨rfl, rfl⟩ rfl rfl (As := [.int (nI (n)), .int 6, .int ((mOf Ma n 6) + 1)]) (c_X6_sets (kl K) hE (σ := σ) (M := Ma) n 6 hn64 (by decide) (mOf Ma n 6 + 1)) ml_X6_82 rfl (by decide) (by decide) rfl (Nat.le_of_ble_eq_true rfl) dX6_turns_196 (fun v σ9 h9 => ?_)
        rw [h9.1, h9.2]; clear h9
        obtain ⟨Mb, hMb⟩ : ∃ X, X = mSet Ma n 6 (mOf Ma n 6 + 1) := ⟨_, rfl⟩
        rw [← hMb]
        refine g_aload_n h (q := 0) 0 dX6_turns_199 rfl ?_
        refine g_iload_n h (q := 2) 2 dX6_turns_200 rfl ?_
        refine g_iconst h (v := 5) dX6_turns_201 (by decide) ?_
        refine g_aload_n h (q := 0) 0 dX6_turns_202 rfl ?_
        refine g_gMa h 3 (by decide) fl_X6_32 dX6_turns_203 ?_
        refine g_iload_n h (q := 1) 1 dX6_turns_206 rfl ?_
        refine g_lM h 3 (by decide) (k) (show k < 64 by omega) dX6_turns_207 ?_
        refine g_is (t) (by rw [hMb, hMa]; simp [mSet, va_up, hMg, ht]) ?_
        refine g_iconst h (v := 4) dX6_turns_208 (by decide) ?_
        refine g_icmp_ne h 219 dX6_turns_209 (by decide) (fun c3 => ?_) (fun c3 => ?_)
        · refine g_aload_n h (q := 0) 0 dX6_turns_219 rfl ?_
          refine g_iload_n h (q := 2) 2 dX6_turns_220 rfl ?_
          refine g_iconst h (v := 5) dX6_turns_221 (by decide) ?_
          refine g_callV h mv_X6_of 11 0 0 ⟨rfl, rfl⟩ rfl rfl (As := [.int (nI (n)), .int 5]) (c_X6_of (kl K) hE (σ := σ) (M := Mb) n 5 hn64 (by decide)) ml_X6_70 rfl (by decide) (by decide) rfl (Nat.le_of_ble_eq_true rfl) dX6_turns_222 (fun v σ9 h9 => ?_)
          rw [h9.1, h9.2]; clear h9
          refine g_callV h mv_X6_sets 11 0 0 ⟨rfl, rfl⟩ rfl rfl (As := [.int (nI (n)), .int 5, .int (mOf Mb n 5)]) (c_X6_sets (kl K) hE (σ := σ) (M := Mb) n 5 hn64 (by decide) (mOf Mb n 5)) ml_X6_82 rfl (by decide) (by decide) rfl (Nat.le_of_ble_eq_true rfl) dX6_turns_225 (fun v σ9 h9 => ?_)
          rw [h9.1, h9.2]; clear h9
          obtain ⟨Mc, hMc⟩ : ∃ X, X = mSet Mb n 5 (mOf Mb n 5) := ⟨_, rfl⟩
          rw [← hMc]
          refine g_iinc h (q := 1) (v := nI (k + 1)) 1 [(0, .ref (ad E 11 0 0)), (1, .int (nI (k + 1))), (2, .int (nI (n)))] dX6_turns_228 rfl (nI_inc k 1) (by decide) rfl ?_
          refine g_goto h 142 dX6_turns_231 (by decide) ?_
          refine g_sub [(0, .ref (ad E 11 0 0)), (1, .int (nI (k + 1)))] [0, 1] rfl ?_
          have e2 : Mc = mT2 M n t := by rw [mT2, if_pos c2, if_neg c3, hMc, hMb, hMa]
          rw [e2]
          rw [t2L, ← hn, ← ht] at hp
          exact ih (k + 1) (mT2 M n t) (by omega) hMo hMz (by rw [← hMg]; simp [mT2, mSet, va_up]) hp
        · refine g_aload_n h (q := 0) 0 dX6_turns_212 rfl ?_
          refine g_gMc h 3 (by decide) fl_X6_47 dX6_turns_213 ?_
          refine g_is (M.1 3) (by rw [hMb, hMa]; rfl) ?_
          refine g_goto h 225 dX6_turns_216 (by decide) ?_
          refine g_callV h mv_X6_sets 11 0 0 ⟨rfl, rfl⟩ rfl rfl (As := [.int (nI (n)), .int 5, .int (M.1 3)]) (c_X6_sets (kl K) hE (σ := σ) (M := Mb) n 5 hn64 (by decide) (M.1 3)) ml_X6_82 rfl (by decide) (by decide) rfl (Nat.le_of_ble_eq_true rfl) dX6_turns_225 (fun v σ9 h9 => ?_)
          rw [h9.1, h9.2]; clear h9
          obtain ⟨Mc, hMc⟩ : ∃ X, X = mSet Mb n 5 (M.1 3) := ⟨_, rfl⟩
          rw [← hMc]
          refine g_iinc h (q := 1) (v := nI (k + 1)) 1 [(0, .ref (ad E 11 0 0)), (1, .int (nI (k + 1))), (2, .int (nI (n)))] dX6_turns_228 rfl (nI_inc k 1) (by decide) rfl ?_
          refine g_goto h 142 dX6_turns_231 (by decide) ?_
          refine g_sub [(0, .ref (ad E 11 0 0)), (1, .int (nI (k + 1)))] [0, 1] rfl ?_
          have e2 : Mc = mT2 M n t := by rw [mT2, if_pos c2, if_pos c3, hMc, hMb, hMa]
          rw [e2]
          rw [t2L, ← hn, ← ht] at hp
          exact ih (k + 1) (mT2 M n t) (by omega) hMo hMz (by rw [← hMg]; simp [mT2, mSet, va_up]) hp
set_option maxHeartbeats 4000000 in
theorem c_X6_turns (l : Launch) {E : EnvT} (hE : EOK E) {σ : ST} {M : MT} (hz : M.2.1 3 ≤ 64) (ho : ∀ t, t < M.2.1 3 → M.2.2.2 t < 64) : Con l E yX6_turns cX6_turns 7 none 2 44 [.ref (ad E 11 0 0)] (sM σ M) (rV (sM σ (mTurns M))) := by
  refine con_intro hE (by decide) (Nat.le_of_ble_eq_true rfl) (fun K hkl h hR => ?_)
  subst hkl
  have h : Cx K E cX6_turns 7 RX6 2 44 := h
  show GG K E (sM σ M) 0 [(0, .ref (ad E 11 0 0))] []
  refine g_iconst h (v := 0) dX6_turns_0 (by decide) ?_
  refine g_istore_n h (q := 1) [(0, .ref (ad E 11 0 0)), (1, .int 0)] dX6_turns_1 (by decide) rfl ?_
  have e0 : M = mTn M (tnG M M.2.2.2 (M.2.1 3) (M.2.2.1 3) 0) := by
    have e1 : tnG M M.2.2.2 (M.2.1 3) (M.2.2.1 3) 0 = M.2.2.1 3 := by funext t; simp [tnG]
    rw [e1]; simp [mTn, up_id]
  rw [show GG K E (sM σ M) = GG K E (sM σ (mTn M (tnG M M.2.2.2 (M.2.1 3) (M.2.2.1 3) 0))) from congrArg (fun X => GG K E (sM σ X)) e0]
  refine k_X6_turns hE h M (M.2.2.1 3) M.2.2.2 (M.2.1 3) hz ho rfl rfl (fun lv5 => ?_) (M.2.1 3) 0 (Nat.zero_add _) []
  refine g_sub [(0, .ref (ad E 11 0 0))] [0] rfl ?_
  refine g_iconst h (v := 0) dX6_turns_140 (by decide) ?_
  refine g_istore_n h (q := 1) [(0, .ref (ad E 11 0 0)), (1, .int 0)] dX6_turns_141 (by decide) rfl ?_
  exact l_X6_turns hE h hR M.2.2.2 _ (M.2.1 3) hz ho (M.2.1 3) 0 _ (Nat.zero_add _) rfl rfl (by simp [mTn, up_s]) ⟨rfl, rfl⟩
