theorem mNt_keep (M : MT) : (mNt M).1 = M.1 ∧ (mNt M).2.1 0 = M.2.1 0 ∧ (mNt M).2.1 1 = M.2.1 1 ∧ (mNt M).2.1 4 = M.2.1 4 ∧ (∀ j, j ≠ 1 → (mNt M).2.2.1 j = M.2.2.1 j) := by
  have h : (mSh M).1 = M.1 ∧ (mSh M).2.1 0 = M.2.1 0 ∧ (mSh M).2.1 1 = M.2.1 1 ∧ (mSh M).2.1 4 = M.2.1 4 ∧ (∀ j, j ≠ 1 → (mSh M).2.2.1 j = M.2.2.1 j) := by
    unfold mSh
    by_cases e : M.2.1 2 = 10
    · rw [if_pos e]; exact ⟨rfl, by simp [mDn, mKp, va_up], by simp [mDn, mKp, va_up], by simp [mDn, mKp, va_up], fun j hj => by simp [mDn, mKp, va_up, hj]⟩
    · rw [if_neg e]; exact ⟨rfl, rfl, rfl, rfl, fun _ _ => rfl⟩
  refine ⟨h.1, ?_, ?_, ?_, fun j hj => ?_⟩
  · rw [← h.2.1]; simp [mNt, mDn, mWr, mKp, va_up]
  · rw [← h.2.2.1]; simp [mNt, mDn, mWr, mKp, va_up]
  · rw [← h.2.2.2.1]; simp [mNt, mDn, mWr, mKp, va_up]
  · rw [← h.2.2.2.2 j hj]; simp [mNt, mDn, mWr, mKp, va_up, hj]
def rM (p : Int32 × MT) (σ : ST) : Option Value → ST → Prop := fun v σ' => v = some (.int p.1) ∧ σ' = sM σ p.2
theorem rM_of {p q : Int32 × MT} {σ : ST} (h : p = q) : rM p σ (some (.int q.1)) (sM σ q.2) := by subst h; exact ⟨rfl, rfl⟩
def yTells (M : MT) (a b c : Int32) : Int32 × MT :=
  if wi a 1 3 = true ∧ wi b 0 8 = true ∧ wi c 0 24 = true then
    (if a = M.1 0 ∧ b = M.1 1 ∧ c = M.1 2 then (-2, M) else (1, va_up (va_up (va_up M.1 0 a) 1 b) 2 c, (mNt M).2))
  else (-1, M)
set_option maxHeartbeats 4000000 in
theorem c_X6_tells (l : Launch) {E : EnvT} (hE : EOK E) {σ : ST} {M : MT} (hd : M.2.1 2 ≤ 10) (a b c : Int32) : Con l E yX6_tells cX6_tells 4 (some .int) 2 44 [.ref (ad E 11 0 0), .int a, .int b, .int c] (sM σ M) (rM (yTells M a b c) σ) := by
  refine con_intro hE (by decide) (Nat.le_of_ble_eq_true rfl) (fun K hkl h hR => ?_)
  subst hkl
  have h : Cx K E cX6_tells 4 RX6 2 44 := h
  show GG K E (sM σ M) 0 [(0, .ref (ad E 11 0 0)), (1, .int a), (2, .int b), (3, .int c)] []
  refine g_iload_n h (q := 1) 1 dX6_tells_0 rfl ?_
  refine g_iconst h (v := 1) dX6_tells_1 (by decide) ?_
  refine g_iconst h (v := 3) dX6_tells_2 (by decide) ?_
  refine g_callS h ms_X6_in (As := [.int a, .int 1, .int 3]) (c_X6_in (kl K) hE (σ := σ) (M := M) a 1 3) ml_X6_63 rfl (by decide) (by decide) rfl (Nat.le_of_ble_eq_true rfl) dX6_tells_3 (fun v σ9 h9 => ?_)
  rw [h9.1, h9.2]; clear h9
  refine g_if_eq h 29 dX6_tells_6 (by decide) (fun c1 => ?_) (fun c1 => ?_)
  · refine g_iconst h (v := (-1)) dX6_tells_29 (by decide) ?_
    exact g_iret h hR dX6_tells_30 (rM_of (q := ((-1), M)) (by simp [yTells, bI_0.mp c1]))
  · refine g_iload_n h (q := 2) 2 dX6_tells_9 rfl ?_
    refine g_iconst h (v := 0) dX6_tells_10 (by decide) ?_
    refine g_bipush h (v := 8) dX6_tells_11 (by decide) ?_
    refine g_callS h ms_X6_in (As := [.int b, .int 0, .int 8]) (c_X6_in (kl K) hE (σ := σ) (M := M) b 0 8) ml_X6_63 rfl (by decide) (by decide) rfl (Nat.le_of_ble_eq_true rfl) dX6_tells_13 (fun v σ9 h9 => ?_)
    rw [h9.1, h9.2]; clear h9
    refine g_if_eq h 29 dX6_tells_16 (by decide) (fun c2 => ?_) (fun c2 => ?_)
    · refine g_iconst h (v := (-1)) dX6_tells_29 (by decide) ?_
      exact g_iret h hR dX6_tells_30 (rM_of (q := ((-1), M)) (by simp [yTells, bI_1.mp c1, bI_0.mp c2]))
    · refine g_iload_n h (q := 3) 3 dX6_tells_19 rfl ?_
      refine g_iconst h (v := 0) dX6_tells_20 (by decide) ?_
      refine g_bipush h (v := 24) dX6_tells_21 (by decide) ?_
      refine g_callS h ms_X6_in (As := [.int c, .int 0, .int 24]) (c_X6_in (kl K) hE (σ := σ) (M := M) c 0 24) ml_X6_63 rfl (by decide) (by decide) rfl (Nat.le_of_ble_eq_true rfl) dX6_tells_23 (fun v σ9 h9 => ?_)
      rw [h9.1, h9.2]; clear h9
      refine g_if_ne h 31 dX6_tells_26 (by decide) (fun c3 => ?_) (fun c3 => ?_)
      · refine g_iload_n h (q := 1) 1 dX6_tells_31 rfl ?_
        refine g_aload_n h (q := 0) 0 dX6_tells_32 rfl ?_
        refine g_gMc h 0 (by decide) fl_X6_7 dX6_tells_33 ?_
        refine g_icmp_ne h 58 dX6_tells_36 (by decide) (fun c4 => ?_) (fun c4 => ?_)
        · refine g_aload_n h (q := 0) 0 dX6_tells_58 rfl ?_
          refine g_callV h mv_X6_notes 11 0 0 ⟨rfl, rfl⟩ rfl rfl (As := []) (c_X6_notes (kl K) hE (σ := σ) (M := M) hd) ml_X6_67 rfl (by decide) (by decide) rfl (Nat.le_of_ble_eq_true rfl) dX6_tells_59 (fun v σ9 h9 => ?_)
          rw [h9.1, h9.2]; clear h9
          obtain ⟨Ma, hMa⟩ : ∃ X, X = mNt M := ⟨_, rfl⟩
          rw [← hMa]
          refine g_aload_n h (q := 0) 0 dX6_tells_62 rfl ?_
          refine g_iload_n h (q := 1) 1 dX6_tells_63 rfl ?_
          refine g_pMc h 0 (by decide) fl_X6_7 dX6_tells_64 (fun M1 hM1 => ?_)
          refine g_aload_n h (q := 0) 0 dX6_tells_67 rfl ?_
          refine g_iload_n h (q := 2) 2 dX6_tells_68 rfl ?_
          refine g_pMc h 1 (by decide) fl_X6_13 dX6_tells_69 (fun M2 hM2 => ?_)
          refine g_aload_n h (q := 0) 0 dX6_tells_72 rfl ?_
          refine g_iload_n h (q := 3) 3 dX6_tells_73 rfl ?_
          refine g_pMc h 2 (by decide) fl_X6_16 dX6_tells_74 (fun M3 hM3 => ?_)
          refine g_iconst h (v := 1) dX6_tells_77 (by decide) ?_
          exact g_iret h hR dX6_tells_78 (rM_of (q := (1, M3)) (by rw [yTells, if_pos ⟨bI_1.mp c1, bI_1.mp c2, bI_1.mp c3⟩, if_neg (by simp [c4])]; rw [hM3, hM2, hM1, hMa]; simp only [(mNt_keep M).1]))
        · refine g_iload_n h (q := 2) 2 dX6_tells_39 rfl ?_
          refine g_aload_n h (q := 0) 0 dX6_tells_40 rfl ?_
          refine g_gMc h 1 (by decide) fl_X6_13 dX6_tells_41 ?_
          refine g_icmp_ne h 58 dX6_tells_44 (by decide) (fun c5 => ?_) (fun c5 => ?_)
          · refine g_aload_n h (q := 0) 0 dX6_tells_58 rfl ?_
            refine g_callV h mv_X6_notes 11 0 0 ⟨rfl, rfl⟩ rfl rfl (As := []) (c_X6_notes (kl K) hE (σ := σ) (M := M) hd) ml_X6_67 rfl (by decide) (by decide) rfl (Nat.le_of_ble_eq_true rfl) dX6_tells_59 (fun v σ9 h9 => ?_)
            rw [h9.1, h9.2]; clear h9
            obtain ⟨Ma, hMa⟩ : ∃ X, X = mNt M := ⟨_, rfl⟩
            rw [← hMa]
            refine g_aload_n h (q := 0) 0 dX6_tells_62 rfl ?_
            refine g_iload_n h (q := 1) 1 dX6_tells_63 rfl ?_
            refine g_pMc h 0 (by decide) fl_X6_7 dX6_tells_64 (fun M4 hM4 => ?_)
            refine g_aload_n h (q := 0) 0 dX6_tells_67 rfl ?_
            refine g_iload_n h (q := 2) 2 dX6_tells_68 rfl ?_
            refine g_pMc h 1 (by decide) fl_X6_13 dX6_tells_69 (fun M5 hM5 => ?_)
            refine g_aload_n h (q := 0) 0 dX6_tells_72 rfl ?_
            refine g_iload_n h (q := 3) 3 dX6_tells_73 rfl ?_
            refine g_pMc h 2 (by decide) fl_X6_16 dX6_tells_74 (fun M6 hM6 => ?_)
            refine g_iconst h (v := 1) dX6_tells_77 (by decide) ?_
            exact g_iret h hR dX6_tells_78 (rM_of (q := (1, M6)) (by rw [yTells, if_pos ⟨bI_1.mp c1, bI_1.mp c2, bI_1.mp c3⟩, if_neg (by simp [c4, c5])]; rw [hM6, hM5, hM4, hMa]; simp only [(mNt_keep M).1]))
          · refine g_iload_n h (q := 3) 3 dX6_tells_47 rfl ?_
            refine g_aload_n h (q := 0) 0 dX6_tells_48 rfl ?_
            refine g_gMc h 2 (by decide) fl_X6_16 dX6_tells_49 ?_
            refine g_icmp_ne h 58 dX6_tells_52 (by decide) (fun c6 => ?_) (fun c6 => ?_)
            · refine g_aload_n h (q := 0) 0 dX6_tells_58 rfl ?_
              refine g_callV h mv_X6_notes 11 0 0 ⟨rfl, rfl⟩ rfl rfl (As := []) (c_X6_notes (kl K) hE (σ := σ) (M := M) hd) ml_X6_67 rfl (by decide) (by decide) rfl (Nat.le_of_ble_eq_true rfl) dX6_tells_59 (fun v σ9 h9 => ?_)
              rw [h9.1, h9.2]; clear h9
              obtain ⟨Ma, hMa⟩ : ∃ X, X = mNt M := ⟨_, rfl⟩
              rw [← hMa]
              refine g_aload_n h (q := 0) 0 dX6_tells_62 rfl ?_
              refine g_iload_n h (q := 1) 1 dX6_tells_63 rfl ?_
              refine g_pMc h 0 (by decide) fl_X6_7 dX6_tells_64 (fun M7 hM7 => ?_)
              refine g_aload_n h (q := 0) 0 dX6_tells_67 rfl ?_
              refine g_iload_n h (q := 2) 2 dX6_tells_68 rfl ?_
              refine g_pMc h 1 (by decide) fl_X6_13 dX6_tells_69 (fun M8 hM8 => ?_)
              refine g_aload_n h (q := 0) 0 dX6_tells_72 rfl ?_
              refine g_iload_n h (q := 3) 3 dX6_tells_73 rfl ?_
              refine g_pMc h 2 (by decide) fl_X6_16 dX6_tells_74 (fun M9 hM9 => ?_)
              refine g_iconst h (v := 1) dX6_tells_77 (by decide) ?_
              exact g_iret h hR dX6_tells_78 (rM_of (q := (1, M9)) (by rw [yTells, if_pos ⟨bI_1.mp c1, bI_1.mp c2, bI_1.mp c3⟩, if_neg (by simp [c4, c5, c6])]; rw [hM9, hM8, hM7, hMa]; simp only [(mNt_keep M).1]))
            · refine g_bipush h (v := (-2)) dX6_tells_55 (by decide) ?_
              exact g_iret h hR dX6_tells_57 (rM_of (q := (-2, M)) (by rw [yTells, if_pos ⟨bI_1.mp c1, bI_1.mp c2, bI_1.mp c3⟩, if_pos ⟨c4, c5, c6⟩]))
      · refine g_iconst h (v := (-1)) dX6_tells_29 (by decide) ?_
        exact g_iret h hR dX6_tells_30 (rM_of (q := ((-1), M)) (by simp [yTells, bI_1.mp c1, bI_1.mp c2, bI_0.mp c3]))
def mAdd (M : MT) (n : Nat) (a b c : Int32) : MT := mSet (mSet (mSet (mSet (mSet (mSet (mSet (mSet M n 0 0) n 1 a) n 2 b) n 3 c) n 4 (M.1 3)) n 5 (-9)) n 6 0) n 7 0
def yPuts (M : MT) (a b c : Int32) : Int32 × MT :=
  if wi a 0 7 = true ∧ wi b 0 7 = true ∧ wi c 0 3 = true then
    (if mAtL M a = -9 then (if M.2.1 0 = 64 then (-3, M) else (nI (M.2.1 0), (mAdd (mNt M) (M.2.1 0) a b c).1, va_up (mAdd (mNt M) (M.2.1 0) a b c).2.1 0 (M.2.1 0 + 1), (mAdd (mNt M) (M.2.1 0) a b c).2.2)) else (-2, M))
  else (-1, M)
set_option maxHeartbeats 4000000 in
theorem c_X6_puts (l : Launch) {E : EnvT} (hE : EOK E) {σ : ST} {M : MT} (hM : M.2.1 0 ≤ 64) (hd : M.2.1 2 ≤ 10) (a b c : Int32) : Con l E yX6_puts cX6_puts 4 (some .int) 2 44 [.ref (ad E 11 0 0), .int a, .int b, .int c] (sM σ M) (rM (yPuts M a b c) σ) := by
  refine con_intro hE (by decide) (Nat.le_of_ble_eq_true rfl) (fun K hkl h hR => ?_)
  subst hkl
  have h : Cx K E cX6_puts 4 RX6 2 44 := h
  show GG K E (sM σ M) 0 [(0, .ref (ad E 11 0 0)), (1, .int a), (2, .int b), (3, .int c)] []
  have hk := mNt_keep M
  refine g_iload_n h (q := 1) 1 dX6_puts_0 rfl ?_
  refine g_callS h ms_X6_isLine (As := [.int a]) (c_X6_isLine (kl K) hE (σ := σ) (M := M) a) ml_X6_74 rfl (by decide) (by decide) rfl (Nat.le_of_ble_eq_true rfl) dX6_puts_1 (fun v σ9 h9 => ?_)
  rw [h9.1, h9.2]; clear h9
  refine g_if_eq h 23 dX6_puts_4 (by decide) (fun c1 => ?_) (fun c1 => ?_)
  · refine g_iconst h (v := (-1)) dX6_puts_23 (by decide) ?_
    exact g_iret h hR dX6_puts_24 (rM_of (q := ((-1), M)) (by simp [yPuts, bI_0.mp c1]))
  · refine g_iload_n h (q := 2) 2 dX6_puts_7 rfl ?_
    refine g_callS h ms_X6_isLine (As := [.int b]) (c_X6_isLine (kl K) hE (σ := σ) (M := M) b) ml_X6_74 rfl (by decide) (by decide) rfl (Nat.le_of_ble_eq_true rfl) dX6_puts_8 (fun v σ9 h9 => ?_)
    rw [h9.1, h9.2]; clear h9
    refine g_if_eq h 23 dX6_puts_11 (by decide) (fun c2 => ?_) (fun c2 => ?_)
    · refine g_iconst h (v := (-1)) dX6_puts_23 (by decide) ?_
      exact g_iret h hR dX6_puts_24 (rM_of (q := ((-1), M)) (by simp [yPuts, bI_1.mp c1, bI_0.mp c2]))
    · refine g_iload_n h (q := 3) 3 dX6_puts_14 rfl ?_
      refine g_iconst h (v := 0) dX6_puts_15 (by decide) ?_
      refine g_iconst h (v := 3) dX6_puts_16 (by decide) ?_
      refine g_callS h ms_X6_in (As := [.int c, .int 0, .int 3]) (c_X6_in (kl K) hE (σ := σ) (M := M) c 0 3) ml_X6_63 rfl (by decide) (by decide) rfl (Nat.le_of_ble_eq_true rfl) dX6_puts_17 (fun v σ9 h9 => ?_)
      rw [h9.1, h9.2]; clear h9
      refine g_if_ne h 25 dX6_puts_20 (by decide) (fun c3 => ?_) (fun c3 => ?_)
      · refine g_aload_n h (q := 0) 0 dX6_puts_25 rfl ?_
        refine g_iload_n h (q := 1) 1 dX6_puts_26 rfl ?_
        refine g_callV h mv_X6_atLine 11 0 0 ⟨rfl, rfl⟩ rfl rfl (As := [.int a]) (c_X6_atLine (kl K) hE (σ := σ) (M := M) hM a) ml_X6_78 rfl (by decide) (by decide) rfl (Nat.le_of_ble_eq_true rfl) dX6_puts_27 (fun v σ9 h9 => ?_)
        rw [h9.1, h9.2]; clear h9
        refine g_bipush h (v := (-9)) dX6_puts_30 (by decide) ?_
        refine g_icmp_eq h 38 dX6_puts_32 (by decide) (fun c4 => ?_) (fun c4 => ?_)
        · refine g_aload_n h (q := 0) 0 dX6_puts_38 rfl ?_
          refine g_gMn h 0 (by decide) fl_X6_50 dX6_puts_39 ?_
          refine g_bipush h (v := 64) dX6_puts_42 (by decide) ?_
          refine g_ncmp_ne h (a := M.2.1 0) (b := 64) 50 dX6_puts_44 (by decide) (by omega) (by omega) (fun c5 => ?_) (fun c5 => ?_)
          · refine g_aload_n h (q := 0) 0 dX6_puts_50 rfl ?_
            refine g_callV h mv_X6_notes 11 0 0 ⟨rfl, rfl⟩ rfl rfl (As := []) (c_X6_notes (kl K) hE (σ := σ) (M := M) hd) ml_X6_67 rfl (by decide) (by decide) rfl (Nat.le_of_ble_eq_true rfl) dX6_puts_51 (fun v σ9 h9 => ?_)
            rw [h9.1, h9.2]; clear h9
            obtain ⟨Ma, hMa⟩ : ∃ X, X = mNt M := ⟨_, rfl⟩
            rw [← hMa] at hk ⊢
            have nMa : Ma.2.1 0 = M.2.1 0 := hk.2.1
            refine g_aload_n h (q := 0) 0 dX6_puts_54 rfl ?_
            refine g_aload_n h (q := 0) 0 dX6_puts_55 rfl ?_
            refine g_gMn h 0 (by decide) fl_X6_50 dX6_puts_56 ?_
            refine g_is (nI (M.2.1 0)) (by rw [nMa]) ?_
            refine g_iconst h (v := 0) dX6_puts_59 (by decide) ?_
            refine g_iconst h (v := 0) dX6_puts_60 (by decide) ?_
            refine g_callV h mv_X6_sets 11 0 0 ⟨rfl, rfl⟩ rfl rfl (As := [.int (nI (M.2.1 0)), .int 0, .int 0]) (c_X6_sets (kl K) hE (σ := σ) (M := Ma) (M.2.1 0) 0 (by omega) (by decide) (0)) ml_X6_82 rfl (by decide) (by decide) rfl (Nat.le_of_ble_eq_true rfl) dX6_puts_61 (fun v σ9 h9 => ?_)
            rw [h9.1, h9.2]; clear h9
            obtain ⟨Mb, hMb⟩ : ∃ X, X = mSet Ma (M.2.1 0) 0 (0) := ⟨_, rfl⟩
            rw [← hMb]
            have nMb : Mb.2.1 0 = M.2.1 0 := by rw [hMb]; exact nMa
            refine g_aload_n h (q := 0) 0 dX6_puts_64 rfl ?_
            refine g_aload_n h (q := 0) 0 dX6_puts_65 rfl ?_
            refine g_gMn h 0 (by decide) fl_X6_50 dX6_puts_66 ?_
            refine g_is (nI (M.2.1 0)) (by rw [nMb]) ?_
            refine g_iconst h (v := 1) dX6_puts_69 (by decide) ?_
            refine g_iload_n h (q := 1) 1 dX6_puts_70 rfl ?_
            refine g_callV h mv_X6_sets 11 0 0 ⟨rfl, rfl⟩ rfl rfl (As := [.int (nI (M.2.1 0)), .int 1, .int a]) (c_X6_sets (kl K) hE (σ := σ) (M := Mb) (M.2.1 0) 1 (by omega) (by decide) (a)) ml_X6_82 rfl (by decide) (by decide) rfl (Nat.le_of_ble_eq_true rfl) dX6_puts_71 (fun v σ9 h9 => ?_)
            rw [h9.1, h9.2]; clear h9
            obtain ⟨Mc, hMc⟩ : ∃ X, X = mSet Mb (M.2.1 0) 1 (a) := ⟨_, rfl⟩
            rw [← hMc]
            have nMc : Mc.2.1 0 = M.2.1 0 := by rw [hMc]; exact nMb
            refine g_aload_n h (q := 0) 0 dX6_puts_74 rfl ?_
            refine g_aload_n h (q := 0) 0 dX6_puts_75 rfl ?_
            refine g_gMn h 0 (by decide) fl_X6_50 dX6_puts_76 ?_
            refine g_is (nI (M.2.1 0)) (by rw [nMc]) ?_
            refine g_iconst h (v := 2) dX6_puts_79 (by decide) ?_
            refine g_iload_n h (q := 2) 2 dX6_puts_80 rfl ?_
            refine g_callV h mv_X6_sets 11 0 0 ⟨rfl, rfl⟩ rfl rfl (As := [.int (nI (M.2.1 0)), .int 2, .int b]) (c_X6_sets (kl K) hE (σ := σ) (M := Mc) (M.2.1 0) 2 (by omega) (by decide) (b)) ml_X6_82 rfl (by decide) (by decide) rfl (Nat.le_of_ble_eq_true rfl) dX6_puts_81 (fun v σ9 h9 => ?_)
            rw [h9.1, h9.2]; clear h9
            obtain ⟨Md, hMd⟩ : ∃ X, X = mSet Mc (M.2.1 0) 2 (b) := ⟨_, rfl⟩
            rw [← hMd]
            have nMd : Md.2.1 0 = M.2.1 0 := by rw [hMd]; exact nMc
            refine g_aload_n h (q := 0) 0 dX6_puts_84 rfl ?_
            refine g_aload_n h (q := 0) 0 dX6_puts_85 rfl ?_
            refine g_gMn h 0 (by decide) fl_X6_50 dX6_puts_86 ?_
            refine g_is (nI (M.2.1 0)) (by rw [nMd]) ?_
            refine g_iconst h (v := 3) dX6_puts_89 (by decide) ?_
            refine g_iload_n h (q := 3) 3 dX6_puts_90 rfl ?_
            refine g_callV h mv_X6_sets 11 0 0 ⟨rfl, rfl⟩ rfl rfl (As := [.int (nI (M.2.1 0)), .int 3, .int c]) (c_X6_sets (kl K) hE (σ := σ) (M := Md) (M.2.1 0) 3 (by omega) (by decide) (c)) ml_X6_82 rfl (by decide) (by decide) rfl (Nat.le_of_ble_eq_true rfl) dX6_puts_91 (fun v σ9 h9 => ?_)
            rw [h9.1, h9.2]; clear h9
            obtain ⟨Me, hMe⟩ : ∃ X, X = mSet Md (M.2.1 0) 3 (c) := ⟨_, rfl⟩
            rw [← hMe]
            have nMe : Me.2.1 0 = M.2.1 0 := by rw [hMe]; exact nMd
            refine g_aload_n h (q := 0) 0 dX6_puts_94 rfl ?_
            refine g_aload_n h (q := 0) 0 dX6_puts_95 rfl ?_
            refine g_gMn h 0 (by decide) fl_X6_50 dX6_puts_96 ?_
            refine g_is (nI (M.2.1 0)) (by rw [nMe]) ?_
            refine g_iconst h (v := 4) dX6_puts_99 (by decide) ?_
            refine g_aload_n h (q := 0) 0 dX6_puts_100 rfl ?_
            refine g_gMc h 3 (by decide) fl_X6_47 dX6_puts_101 ?_
            refine g_is (M.1 3) (by rw [hMe, hMd, hMc, hMb]; show Ma.1 3 = _; rw [hk.1]) ?_
            refine g_callV h mv_X6_sets 11 0 0 ⟨rfl, rfl⟩ rfl rfl (As := [.int (nI (M.2.1 0)), .int 4, .int (M.1 3)]) (c_X6_sets (kl K) hE (σ := σ) (M := Me) (M.2.1 0) 4 (by omega) (by decide) (M.1 3)) ml_X6_82 rfl (by decide) (by decide) rfl (Nat.le_of_ble_eq_true rfl) dX6_puts_104 (fun v σ9 h9 => ?_)
            rw [h9.1, h9.2]; clear h9
            obtain ⟨Mf, hMf⟩ : ∃ X, X = mSet Me (M.2.1 0) 4 (M.1 3) := ⟨_, rfl⟩
            rw [← hMf]
            have nMf : Mf.2.1 0 = M.2.1 0 := by rw [hMf]; exact nMe
            refine g_aload_n h (q := 0) 0 dX6_puts_107 rfl ?_
            refine g_aload_n h (q := 0) 0 dX6_puts_108 rfl ?_
            refine g_gMn h 0 (by decide) fl_X6_50 dX6_puts_109 ?_
            refine g_is (nI (M.2.1 0)) (by rw [nMf]) ?_
            refine g_iconst h (v := 5) dX6_puts_112 (by decide) ?_
            refine g_bipush h (v := (-9)) dX6_puts_113 (by decide) ?_
            refine g_callV h mv_X6_sets 11 0 0 ⟨rfl, rfl⟩ rfl rfl (As := [.int (nI (M.2.1 0)), .int 5, .int ((-9))]) (c_X6_sets (kl K) hE (σ := σ) (M := Mf) (M.2.1 0) 5 (by omega) (by decide) (-9)) ml_X6_82 rfl (by decide) (by decide) rfl (Nat.le_of_ble_eq_true rfl) dX6_puts_115 (fun v σ9 h9 => ?_)
            rw [h9.1, h9.2]; clear h9
            obtain ⟨Mg, hMg⟩ : ∃ X, X = mSet Mf (M.2.1 0) 5 (-9) := ⟨_, rfl⟩
            rw [← hMg]
            have nMg : Mg.2.1 0 = M.2.1 0 := by rw [hMg]; exact nMf
            refine g_aload_n h (q := 0) 0 dX6_puts_118 rfl ?_
            refine g_aload_n h (q := 0) 0 dX6_puts_119 rfl ?_
            refine g_gMn h 0 (by decide) fl_X6_50 dX6_puts_120 ?_
            refine g_is (nI (M.2.1 0)) (by rw [nMg]) ?_
            refine g_bipush h (v := 6) dX6_puts_123 (by decide) ?_
            refine g_iconst h (v := 0) dX6_puts_125 (by decide) ?_
            refine g_callV h mv_X6_sets 11 0 0 ⟨rfl, rfl⟩ rfl rfl (As := [.int (nI (M.2.1 0)), .int 6, .int 0]) (c_X6_sets (kl K) hE (σ := σ) (M := Mg) (M.2.1 0) 6 (by omega) (by decide) (0)) ml_X6_82 rfl (by decide) (by decide) rfl (Nat.le_of_ble_eq_true rfl) dX6_puts_126 (fun v σ9 h9 => ?_)
            rw [h9.1, h9.2]; clear h9
            obtain ⟨Mh, hMh⟩ : ∃ X, X = mSet Mg (M.2.1 0) 6 (0) := ⟨_, rfl⟩
            rw [← hMh]
            have nMh : Mh.2.1 0 = M.2.1 0 := by rw [hMh]; exact nMg
            refine g_aload_n h (q := 0) 0 dX6_puts_129 rfl ?_
            refine g_aload_n h (q := 0) 0 dX6_puts_130 rfl ?_
            refine g_gMn h 0 (by decide) fl_X6_50 dX6_puts_131 ?_
            refine g_is (nI (M.2.1 0)) (by rw [nMh]) ?_
            refine g_bipush h (v := 7) dX6_puts_134 (by decide) ?_
            refine g_iconst h (v := 0) dX6_puts_136 (by decide) ?_
            refine g_callV h mv_X6_sets 11 0 0 ⟨rfl, rfl⟩ rfl rfl (As := [.int (nI (M.2.1 0)), .int 7, .int 0]) (c_X6_sets (kl K) hE (σ := σ) (M := Mh) (M.2.1 0) 7 (by omega) (by decide) (0)) ml_X6_82 rfl (by decide) (by decide) rfl (Nat.le_of_ble_eq_true rfl) dX6_puts_137 (fun v σ9 h9 => ?_)
            rw [h9.1, h9.2]; clear h9
            obtain ⟨Mi, hMi⟩ : ∃ X, X = mSet Mh (M.2.1 0) 7 (0) := ⟨_, rfl⟩
            rw [← hMi]
            have nMi : Mi.2.1 0 = M.2.1 0 := by rw [hMi]; exact nMh
            refine g_aload_n h (q := 0) 0 dX6_puts_140 rfl ?_
            refine g_dup h dX6_puts_141 rfl ?_
            refine g_gMn h 0 (by decide) fl_X6_50 dX6_puts_142 ?_
            refine g_is (nI (M.2.1 0)) (by rw [nMi]) ?_
            refine g_iconst h (v := 1) dX6_puts_145 (by decide) ?_
            refine g_iadd h dX6_puts_146 ?_
            refine g_is (nI ((M.2.1 0) + 1)) (nI_add (M.2.1 0) 1) ?_
            refine g_pMn h 0 (by decide) (m := (M.2.1 0) + 1) fl_X6_50 dX6_puts_147 (fun M1 hM1 => ?_)
            refine g_aload_n h (q := 0) 0 dX6_puts_150 rfl ?_
            refine g_gMn h 0 (by decide) fl_X6_50 dX6_puts_151 ?_
            refine g_is (nI (M.2.1 0 + 1)) (by rw [hM1]; simp [va_up]) ?_
            refine g_iconst h (v := 1) dX6_puts_154 (by decide) ?_
            refine g_isub h dX6_puts_155 ?_
            refine g_is (nI ((M.2.1 0 + 1) - 1)) (pk_sub (a := (M.2.1 0 + 1)) (b := 1) (by omega)) ?_
            exact g_iret h hR dX6_puts_156 (rM_of (q := (nI (M.2.1 0 + 1 - 1), M1)) (by rw [yPuts, if_pos ⟨bI_1.mp c1, bI_1.mp c2, bI_1.mp c3⟩, if_pos c4, if_neg c5, Nat.add_sub_cancel, hM1, ← hMa, show mAdd Ma (M.2.1 0) a b c = Mi by rw [hMi, hMh, hMg, hMf, hMe, hMd, hMc, hMb, mAdd, hk.1]]))
          · refine g_bipush h (v := (-3)) dX6_puts_47 (by decide) ?_
            exact g_iret h hR dX6_puts_49 (rM_of (q := ((-3), M)) (by simp [yPuts, bI_1.mp c1, bI_1.mp c2, bI_1.mp c3, c4, c5]))
        · refine g_bipush h (v := (-2)) dX6_puts_35 (by decide) ?_
          exact g_iret h hR dX6_puts_37 (rM_of (q := ((-2), M)) (by simp [yPuts, bI_1.mp c1, bI_1.mp c2, bI_1.mp c3, c4]))
      · refine g_iconst h (v := (-1)) dX6_puts_23 (by decide) ?_
        exact g_iret h hR dX6_puts_24 (rM_of (q := ((-1), M)) (by simp [yPuts, bI_1.mp c1, bI_1.mp c2, bI_0.mp c3]))
def ySlot (M : MT) : Int32 × MT := if M.1 3 = 99 then (-2, M) else (nI (mGo (mNt M)).1, (mGo (mNt M)).2)
set_option maxHeartbeats 4000000 in
theorem c_X6_slot (l : Launch) {E : EnvT} (hE : EOK E) {σ : ST} {M : MT} (hM : M.2.1 0 ≤ 64) (hd : M.2.1 2 ≤ 10) : Con l E yX6_slot cX6_slot 1 (some .int) 5 111 [.ref (ad E 11 0 0)] (sM σ M) (rM (ySlot M) σ) := by
  refine con_intro hE (by decide) (Nat.le_of_ble_eq_true rfl) (fun K hkl h hR => ?_)
  subst hkl
  have h : Cx K E cX6_slot 1 RX6 5 111 := h
  show GG K E (sM σ M) 0 [(0, .ref (ad E 11 0 0))] []
  have hk := mNt_keep M
  refine g_aload_n h (q := 0) 0 dX6_slot_0 rfl ?_
  refine g_gMc h 3 (by decide) fl_X6_47 dX6_slot_1 ?_
  refine g_bipush h (v := 99) dX6_slot_4 (by decide) ?_
  refine g_icmp_ne h 12 dX6_slot_6 (by decide) (fun c1 => ?_) (fun c1 => ?_)
  · refine g_aload_n h (q := 0) 0 dX6_slot_12 rfl ?_
    refine g_callV h mv_X6_notes 11 0 0 ⟨rfl, rfl⟩ rfl rfl (As := []) (c_X6_notes (kl K) hE (σ := σ) (M := M) hd) ml_X6_67 rfl (by decide) (by decide) rfl (Nat.le_of_ble_eq_true rfl) dX6_slot_13 (fun v σ9 h9 => ?_)
    rw [h9.1, h9.2]; clear h9
    obtain ⟨Ma, hMa⟩ : ∃ X, X = mNt M := ⟨_, rfl⟩
    rw [← hMa]
    refine g_aload_n h (q := 0) 0 dX6_slot_16 rfl ?_
    refine g_callV h mv_X6_goes 11 0 0 ⟨rfl, rfl⟩ rfl rfl (As := []) (c_X6_goes (kl K) hE (σ := σ) (M := Ma) (by rw [hMa, hk.2.1]; exact hM)) ml_X6_114 rfl (by decide) (by decide) rfl (Nat.le_of_ble_eq_true rfl) dX6_slot_17 (fun v σ9 h9 => ?_)
    rw [h9.1, h9.2]; clear h9
    exact g_iret h hR dX6_slot_20 (rM_of (q := (nI (mGo Ma).1, (mGo Ma).2)) (by rw [ySlot, if_neg c1, hMa]))
  · refine g_bipush h (v := (-2)) dX6_slot_9 (by decide) ?_
    exact g_iret h hR dX6_slot_11 (rM_of (q := (-2, M)) (by rw [ySlot, if_pos c1]))
def yUndo (M : MT) (a b : Nat) : Int32 × MT := if M.2.1 2 = 0 then (-2, M) else (nI (M.2.1 2 - 1), mCb (mDn M (M.2.1 2 - 1)) (M.2.1 2 - 1) a b 512)
set_option maxHeartbeats 4000000 in
theorem c_X6_undo (l : Launch) {E : EnvT} (hE : EOK E) {σ : ST} {M : MT} (hd : M.2.1 2 ≤ 10) (a b : Nat) (ha : 0 < M.2.1 2 → M.2.2.1 1 (520 * (M.2.1 2 - 1) + 4) = nI a) (hb : 0 < M.2.1 2 → M.2.2.1 1 (520 * (M.2.1 2 - 1) + 5) = nI b) : Con l E yX6_undo cX6_undo 1 (some .int) 1 23 [.ref (ad E 11 0 0)] (sM σ M) (rM (yUndo M a b) σ) := by
  refine con_intro hE (by decide) (Nat.le_of_ble_eq_true rfl) (fun K hkl h hR => ?_)
  subst hkl
  have h : Cx K E cX6_undo 1 RX6 1 23 := h
  show GG K E (sM σ M) 0 [(0, .ref (ad E 11 0 0))] []
  refine g_aload_n h (q := 0) 0 dX6_undo_0 rfl ?_
  refine g_gMn h 2 (by decide) fl_X6_56 dX6_undo_1 ?_
  refine g_nif_ne h (a := M.2.1 2) 10 dX6_undo_4 (by decide) (by omega) (fun c1 => ?_) (fun c1 => ?_)
  · refine g_aload_n h (q := 0) 0 dX6_undo_10 rfl ?_
    refine g_dup h dX6_undo_11 rfl ?_
    refine g_gMn h 2 (by decide) fl_X6_56 dX6_undo_12 ?_
    refine g_iconst h (v := 1) dX6_undo_15 (by decide) ?_
    refine g_isub h dX6_undo_16 ?_
    refine g_is (nI ((M.2.1 2) - 1)) (pk_sub (a := (M.2.1 2)) (b := 1) (by omega)) ?_
    refine g_pMn h 2 (by decide) (m := (M.2.1 2) - 1) fl_X6_56 dX6_undo_17 (fun M1 hM1 => ?_)
    refine g_aload_n h (q := 0) 0 dX6_undo_20 rfl ?_
    refine g_aload_n h (q := 0) 0 dX6_undo_21 rfl ?_
    refine g_gMn h 2 (by decide) fl_X6_56 dX6_undo_22 ?_
    refine g_is (nI (M.2.1 2 - 1)) (by rw [hM1]; simp [va_up]) ?_
    refine g_callV h mv_X6_comesBack 11 0 0 ⟨rfl, rfl⟩ rfl rfl (As := [.int (nI (M.2.1 2 - 1))]) (c_X6_comesBack (kl K) hE (σ := σ) (M := M1) (M.2.1 2 - 1) a b (by omega) (by rw [hM1]; exact ha c1) (by rw [hM1]; exact hb c1)) ml_X6_118 rfl (by decide) (by decide) rfl (Nat.le_of_ble_eq_true rfl) dX6_undo_25 (fun v σ9 h9 => ?_)
    rw [h9.1, h9.2]; clear h9
    obtain ⟨Mb, hMb⟩ : ∃ X, X = mCb M1 (M.2.1 2 - 1) a b 512 := ⟨_, rfl⟩
    rw [← hMb]
    refine g_aload_n h (q := 0) 0 dX6_undo_28 rfl ?_
    refine g_gMn h 2 (by decide) fl_X6_56 dX6_undo_29 ?_
    refine g_is (nI (M.2.1 2 - 1)) (by rw [hMb, hM1]; simp [mCb, va_up]) ?_
    exact g_iret h hR dX6_undo_32 (rM_of (q := (nI (M.2.1 2 - 1), Mb)) (by rw [yUndo, if_neg (by omega), hMb, hM1]; rfl))
  · refine g_bipush h (v := (-2)) dX6_undo_7 (by decide) ?_
    exact g_iret h hR dX6_undo_9 (rM_of (q := (-2, M)) (by rw [yUndo, if_pos c1]))
def yClear (M : MT) : Int32 × MT := (nI (M.2.1 0), va_up (va_up (va_up (va_up M.1 0 1) 1 8) 2 8) 3 0, va_up (va_up (va_up (va_up M.2.1 0 0) 1 0) 2 0) 4 0, va_up M.2.2.1 2 (upd (upd (M.2.2.1 2) 0 0) 1 0), M.2.2.2)
set_option maxHeartbeats 4000000 in
theorem c_X6_clear (l : Launch) {E : EnvT} (hE : EOK E) {σ : ST} {M : MT}  : Con l E yX6_clear cX6_clear 2 (some .int) 0 0 [.ref (ad E 11 0 0)] (sM σ M) (rM (yClear M) σ) := by
  refine con_intro hE (by decide) (Nat.le_of_ble_eq_true rfl) (fun K hkl h hR => ?_)
  subst hkl
  have h : Cx K E cX6_clear 2 RX6 0 0 := h
  show GG K E (sM σ M) 0 [(0, .ref (ad E 11 0 0))] []
  refine g_aload_n h (q := 0) 0 dX6_clear_0 rfl ?_
  refine g_gMn h 0 (by decide) fl_X6_50 dX6_clear_1 ?_
  refine g_istore_n h (q := 1) [(0, .ref (ad E 11 0 0)), (1, .int (nI (M.2.1 0)))] dX6_clear_4 (by decide) rfl ?_
  refine g_aload_n h (q := 0) 0 dX6_clear_5 rfl ?_
  refine g_iconst h (v := 1) dX6_clear_6 (by decide) ?_
  refine g_pMc h 0 (by decide) fl_X6_7 dX6_clear_7 (fun M1 hM1 => ?_)
  refine g_aload_n h (q := 0) 0 dX6_clear_10 rfl ?_
  refine g_bipush h (v := 8) dX6_clear_11 (by decide) ?_
  refine g_pMc h 1 (by decide) fl_X6_13 dX6_clear_13 (fun M2 hM2 => ?_)
  refine g_aload_n h (q := 0) 0 dX6_clear_16 rfl ?_
  refine g_bipush h (v := 8) dX6_clear_17 (by decide) ?_
  refine g_pMc h 2 (by decide) fl_X6_16 dX6_clear_19 (fun M3 hM3 => ?_)
  refine g_aload_n h (q := 0) 0 dX6_clear_22 rfl ?_
  refine g_iconst h (v := 0) dX6_clear_23 (by decide) ?_
  refine g_pMc h 3 (by decide) fl_X6_47 dX6_clear_24 (fun M4 hM4 => ?_)
  refine g_aload_n h (q := 0) 0 dX6_clear_27 rfl ?_
  refine g_iconst h (v := 0) dX6_clear_28 (by decide) ?_
  refine g_pMn h 0 (by decide) (m := 0) fl_X6_50 dX6_clear_29 (fun M5 hM5 => ?_)
  refine g_aload_n h (q := 0) 0 dX6_clear_32 rfl ?_
  refine g_iconst h (v := 0) dX6_clear_33 (by decide) ?_
  refine g_pMn h 1 (by decide) (m := 0) fl_X6_53 dX6_clear_34 (fun M6 hM6 => ?_)
  refine g_aload_n h (q := 0) 0 dX6_clear_37 rfl ?_
  refine g_iconst h (v := 0) dX6_clear_38 (by decide) ?_
  refine g_pMn h 2 (by decide) (m := 0) fl_X6_56 dX6_clear_39 (fun M7 hM7 => ?_)
  refine g_aload_n h (q := 0) 0 dX6_clear_42 rfl ?_
  refine g_iconst h (v := 0) dX6_clear_43 (by decide) ?_
  refine g_pMn h 4 (by decide) (m := 0) fl_X6_121 dX6_clear_44 (fun M8 hM8 => ?_)
  refine g_aload_n h (q := 0) 0 dX6_clear_47 rfl ?_
  refine g_gMa h 2 (by decide) fl_X6_26 dX6_clear_48 ?_
  refine g_iconst h (v := 0) dX6_clear_51 (by decide) ?_
  refine g_iconst h (v := 0) dX6_clear_52 (by decide) ?_
  refine g_sA h 2 (by decide) (0) (show 0 < 2 by omega) dX6_clear_53 (fun M9 hM9 => ?_)
  refine g_aload_n h (q := 0) 0 dX6_clear_54 rfl ?_
  refine g_gMa h 2 (by decide) fl_X6_26 dX6_clear_55 ?_
  refine g_iconst h (v := 1) dX6_clear_58 (by decide) ?_
  refine g_iconst h (v := 0) dX6_clear_59 (by decide) ?_
  refine g_sA h 2 (by decide) (1) (show 1 < 2 by omega) dX6_clear_60 (fun M10 hM10 => ?_)
  refine g_iload_n h (q := 1) 1 dX6_clear_61 rfl ?_
  exact g_iret h hR dX6_clear_62 (rM_of (q := (nI (M.2.1 0), M10)) (by rw [yClear, hM10, hM9, hM8, hM7, hM6, hM5, hM4, hM3, hM2, hM1]; simp [bx_uu, up_s]))
def yLetter (M : MT) (a b : Int32) : Int32 × MT := if wi a 0 (nI (M.2.1 0) - 1) = true ∧ wi b 0 6 = true then (mOf M a.toNatClampNeg b.toNatClampNeg, M) else (-1, M)
def yLine (M : MT) (a : Int32) : Int32 × MT := if wi a 0 7 = true then (mAtL M a, M) else (-1, M)
def yQueue (M : MT) (a k : Int32) : Int32 × MT := if wi a 0 7 = true ∧ 0 ≤ k then (mQ M a k, M) else (-1, M)
set_option maxHeartbeats 4000000 in
theorem c_X6_letter (l : Launch) {E : EnvT} (hE : EOK E) {σ : ST} {M : MT} (hM : M.2.1 0 ≤ 64) (a b : Int32) : Con l E yX6_letter cX6_letter 3 (some .int) 1 22 [.ref (ad E 11 0 0), .int a, .int b] (sM σ M) (rM (yLetter M a b) σ) := by
  refine con_intro hE (by decide) (Nat.le_of_ble_eq_true rfl) (fun K hkl h hR => ?_)
  subst hkl
  have h : Cx K E cX6_letter 3 RX6 1 22 := h
  show GG K E (sM σ M) 0 [(0, .ref (ad E 11 0 0)), (1, .int a), (2, .int b)] []
  refine g_iload_n h (q := 1) 1 dX6_letter_0 rfl ?_
  refine g_iconst h (v := 0) dX6_letter_1 (by decide) ?_
  refine g_aload_n h (q := 0) 0 dX6_letter_2 rfl ?_
  refine g_gMn h 0 (by decide) fl_X6_50 dX6_letter_3 ?_
  refine g_iconst h (v := 1) dX6_letter_6 (by decide) ?_
  refine g_isub h dX6_letter_7 ?_
  refine g_callS h ms_X6_in (As := [.int a, .int 0, .int ((nI (M.2.1 0)) - 1)]) (c_X6_in (kl K) hE (σ := σ) (M := M) a 0 (nI (M.2.1 0) - 1)) ml_X6_63 rfl (by decide) (by decide) rfl (Nat.le_of_ble_eq_true rfl) dX6_letter_8 (fun v σ9 h9 => ?_)
  rw [h9.1, h9.2]; clear h9
  refine g_if_eq h 33 dX6_letter_11 (by decide) (fun c1 => ?_) (fun c1 => ?_)
  · refine g_iconst h (v := (-1)) dX6_letter_33 (by decide) ?_
    exact g_iret h hR dX6_letter_34 (rM_of (q := ((-1), M)) (by simp [yLetter, bI_0.mp c1]))
  · refine g_iload_n h (q := 2) 2 dX6_letter_14 rfl ?_
    refine g_iconst h (v := 0) dX6_letter_15 (by decide) ?_
    refine g_bipush h (v := 6) dX6_letter_16 (by decide) ?_
    refine g_callS h ms_X6_in (As := [.int b, .int 0, .int 6]) (c_X6_in (kl K) hE (σ := σ) (M := M) b 0 6) ml_X6_63 rfl (by decide) (by decide) rfl (Nat.le_of_ble_eq_true rfl) dX6_letter_18 (fun v σ9 h9 => ?_)
    rw [h9.1, h9.2]; clear h9
    refine g_if_eq h 33 dX6_letter_21 (by decide) (fun c2 => ?_) (fun c2 => ?_)
    · refine g_iconst h (v := (-1)) dX6_letter_33 (by decide) ?_
      exact g_iret h hR dX6_letter_34 (rM_of (q := ((-1), M)) (by simp [yLetter, bI_1.mp c1, bI_0.mp c2]))
    · have hw1 := bI_1.mp c1
      have hw2 := bI_1.mp c2
      obtain ⟨j, hj, hje⟩ := wi_let hM hw1
      obtain ⟨q, hq, hqe⟩ := wi_nat (n := 6) (by decide) hw2
      subst hje; subst hqe
      refine g_aload_n h (q := 0) 0 dX6_letter_24 rfl ?_
      refine g_iload_n h (q := 1) 1 dX6_letter_25 rfl ?_
      refine g_iload_n h (q := 2) 2 dX6_letter_26 rfl ?_
      refine g_callV h mv_X6_of 11 0 0 ⟨rfl, rfl⟩ rfl rfl (As := [.int (nI (j)), .int (nI (q))]) (c_X6_of (kl K) hE (σ := σ) (M := M) j q (by omega) (by omega)) ml_X6_70 rfl (by decide) (by decide) rfl (Nat.le_of_ble_eq_true rfl) dX6_letter_27 (fun v σ9 h9 => ?_)
      rw [h9.1, h9.2]; clear h9
      refine g_goto h 34 dX6_letter_30 (by decide) ?_
      exact g_iret h hR dX6_letter_34 (rM_of (q := (mOf M j q, M)) (by rw [yLetter, if_pos ⟨hw1, hw2⟩, nI_clamp (n := j) (by omega), nI_clamp (n := q) (by omega)]))
set_option maxHeartbeats 4000000 in
theorem c_X6_line (l : Launch) {E : EnvT} (hE : EOK E) {σ : ST} {M : MT} (hM : M.2.1 0 ≤ 64) (a : Int32) : Con l E yX6_line cX6_line 2 (some .int) 2 44 [.ref (ad E 11 0 0), .int a] (sM σ M) (rM (yLine M a) σ) := by
  refine con_intro hE (by decide) (Nat.le_of_ble_eq_true rfl) (fun K hkl h hR => ?_)
  subst hkl
  have h : Cx K E cX6_line 2 RX6 2 44 := h
  show GG K E (sM σ M) 0 [(0, .ref (ad E 11 0 0)), (1, .int a)] []
  refine g_iload_n h (q := 1) 1 dX6_line_0 rfl ?_
  refine g_callS h ms_X6_isLine (As := [.int a]) (c_X6_isLine (kl K) hE (σ := σ) (M := M) a) ml_X6_74 rfl (by decide) (by decide) rfl (Nat.le_of_ble_eq_true rfl) dX6_line_1 (fun v σ9 h9 => ?_)
  rw [h9.1, h9.2]; clear h9
  refine g_if_eq h 15 dX6_line_4 (by decide) (fun c1 => ?_) (fun c1 => ?_)
  · refine g_iconst h (v := (-1)) dX6_line_15 (by decide) ?_
    exact g_iret h hR dX6_line_16 (rM_of (q := ((-1), M)) (by simp [yLine, bI_0.mp c1]))
  · refine g_aload_n h (q := 0) 0 dX6_line_7 rfl ?_
    refine g_iload_n h (q := 1) 1 dX6_line_8 rfl ?_
    refine g_callV h mv_X6_atLine 11 0 0 ⟨rfl, rfl⟩ rfl rfl (As := [.int a]) (c_X6_atLine (kl K) hE (σ := σ) (M := M) hM a) ml_X6_78 rfl (by decide) (by decide) rfl (Nat.le_of_ble_eq_true rfl) dX6_line_9 (fun v σ9 h9 => ?_)
    rw [h9.1, h9.2]; clear h9
    refine g_goto h 16 dX6_line_12 (by decide) ?_
    exact g_iret h hR dX6_line_16 (rM_of (q := (mAtL M a, M)) (by simp [yLine, bI_1.mp c1]))
set_option maxHeartbeats 4000000 in
theorem c_X6_queue (l : Launch) {E : EnvT} (hE : EOK E) {σ : ST} {M : MT} (hM : M.2.1 0 ≤ 64) (a k : Int32) : Con l E yX6_queue cX6_queue 3 (some .int) 2 47 [.ref (ad E 11 0 0), .int a, .int k] (sM σ M) (rM (yQueue M a k) σ) := by
  refine con_intro hE (by decide) (Nat.le_of_ble_eq_true rfl) (fun K hkl h hR => ?_)
  subst hkl
  have h : Cx K E cX6_queue 3 RX6 2 47 := h
  show GG K E (sM σ M) 0 [(0, .ref (ad E 11 0 0)), (1, .int a), (2, .int k)] []
  refine g_iload_n h (q := 1) 1 dX6_queue_0 rfl ?_
  refine g_callS h ms_X6_isLine (As := [.int a]) (c_X6_isLine (kl K) hE (σ := σ) (M := M) a) ml_X6_74 rfl (by decide) (by decide) rfl (Nat.le_of_ble_eq_true rfl) dX6_queue_1 (fun v σ9 h9 => ?_)
  rw [h9.1, h9.2]; clear h9
  refine g_if_eq h 20 dX6_queue_4 (by decide) (fun c1 => ?_) (fun c1 => ?_)
  · refine g_iconst h (v := (-1)) dX6_queue_20 (by decide) ?_
    exact g_iret h hR dX6_queue_21 (rM_of (q := (-1, M)) (by rw [yQueue, if_neg (fun q => by rw [bI_0.mp c1] at q; exact absurd q.1 (by decide))]))
  · refine g_iload_n h (q := 2) 2 dX6_queue_7 rfl ?_
    refine g_if_lt h 20 dX6_queue_8 (by decide) (fun c2 => ?_) (fun c2 => ?_)
    · refine g_iconst h (v := (-1)) dX6_queue_20 (by decide) ?_
      exact g_iret h hR dX6_queue_21 (rM_of (q := (-1, M)) (by rw [yQueue, if_neg (fun q => absurd q.2 (Int32.not_le.mpr c2))]))
    · refine g_aload_n h (q := 0) 0 dX6_queue_11 rfl ?_
      refine g_iload_n h (q := 1) 1 dX6_queue_12 rfl ?_
      refine g_iload_n h (q := 2) 2 dX6_queue_13 rfl ?_
      refine g_callV h mv_X6_queued 11 0 0 ⟨rfl, rfl⟩ rfl rfl (As := [.int a, .int k]) (c_X6_queued (kl K) hE (σ := σ) (M := M) hM a k) ml_X6_111 rfl (by decide) (by decide) rfl (Nat.le_of_ble_eq_true rfl) dX6_queue_14 (fun v σ9 h9 => ?_)
      rw [h9.1, h9.2]; clear h9
      refine g_goto h 21 dX6_queue_17 (by decide) ?_
      exact g_iret h hR dX6_queue_21 (rM_of (q := (mQ M a k, M)) (by simp [yQueue, bI_1.mp c1, i_le c2]))
def ySees (M : MT) (a b : Int32) : Int32 × MT := if wi a 1 40 = true ∧ wi b 0 64 = true then (if M.2.1 4 = 6 then (-3, M) else (nI (M.2.1 4 + 1), M.1, va_up M.2.1 4 (M.2.1 4 + 1), va_up (va_up M.2.2.1 6 (upd (M.2.2.1 6) (M.2.1 4) a)) 7 (upd (M.2.2.1 7) (M.2.1 4) b), M.2.2.2)) else (-1, M)
def yForget (M : MT) : Int32 × MT := (nI (M.2.1 4), M.1, va_up M.2.1 4 0, M.2.2)
set_option maxHeartbeats 4000000 in
theorem c_X6_sees (l : Launch) {E : EnvT} (hE : EOK E) {σ : ST} {M : MT} (hs : M.2.1 4 ≤ 6) (a b : Int32) : Con l E yX6_sees cX6_sees 3 (some .int) 1 22 [.ref (ad E 11 0 0), .int a, .int b] (sM σ M) (rM (ySees M a b) σ) := by
  refine con_intro hE (by decide) (Nat.le_of_ble_eq_true rfl) (fun K hkl h hR => ?_)
  subst hkl
  have h : Cx K E cX6_sees 3 RX6 1 22 := h
  show GG K E (sM σ M) 0 [(0, .ref (ad E 11 0 0)), (1, .int a), (2, .int b)] []
  refine g_iload_n h (q := 1) 1 dX6_sees_0 rfl ?_
  refine g_iconst h (v := 1) dX6_sees_1 (by decide) ?_
  refine g_bipush h (v := 40) dX6_sees_2 (by decide) ?_
  refine g_callS h ms_X6_in (As := [.int a, .int 1, .int 40]) (c_X6_in (kl K) hE (σ := σ) (M := M) a 1 40) ml_X6_63 rfl (by decide) (by decide) rfl (Nat.le_of_ble_eq_true rfl) dX6_sees_4 (fun v σ9 h9 => ?_)
  rw [h9.1, h9.2]; clear h9
  refine g_if_eq h 20 dX6_sees_7 (by decide) (fun c1 => ?_) (fun c1 => ?_)
  · refine g_iconst h (v := (-1)) dX6_sees_20 (by decide) ?_
    exact g_iret h hR dX6_sees_21 (rM_of (q := ((-1), M)) (by simp [ySees, bI_0.mp c1]))
  · refine g_iload_n h (q := 2) 2 dX6_sees_10 rfl ?_
    refine g_iconst h (v := 0) dX6_sees_11 (by decide) ?_
    refine g_bipush h (v := 64) dX6_sees_12 (by decide) ?_
    refine g_callS h ms_X6_in (As := [.int b, .int 0, .int 64]) (c_X6_in (kl K) hE (σ := σ) (M := M) b 0 64) ml_X6_63 rfl (by decide) (by decide) rfl (Nat.le_of_ble_eq_true rfl) dX6_sees_14 (fun v σ9 h9 => ?_)
    rw [h9.1, h9.2]; clear h9
    refine g_if_ne h 22 dX6_sees_17 (by decide) (fun c2 => ?_) (fun c2 => ?_)
    · refine g_aload_n h (q := 0) 0 dX6_sees_22 rfl ?_
      refine g_gMn h 4 (by decide) fl_X6_121 dX6_sees_23 ?_
      refine g_bipush h (v := 6) dX6_sees_26 (by decide) ?_
      refine g_ncmp_ne h (a := M.2.1 4) (b := 6) 34 dX6_sees_28 (by decide) (by omega) (by omega) (fun c3 => ?_) (fun c3 => ?_)
      · refine g_aload_n h (q := 0) 0 dX6_sees_34 rfl ?_
        refine g_gMa h 6 (by decide) fl_X6_41 dX6_sees_35 ?_
        refine g_aload_n h (q := 0) 0 dX6_sees_38 rfl ?_
        refine g_gMn h 4 (by decide) fl_X6_121 dX6_sees_39 ?_
        refine g_is (nI (M.2.1 4)) (rfl) ?_
        refine g_iload_n h (q := 1) 1 dX6_sees_42 rfl ?_
        refine g_sA h 6 (by decide) (M.2.1 4) (show M.2.1 4 < 6 by omega) dX6_sees_43 (fun M1 hM1 => ?_)
        refine g_aload_n h (q := 0) 0 dX6_sees_44 rfl ?_
        refine g_gMa h 7 (by decide) fl_X6_44 dX6_sees_45 ?_
        refine g_aload_n h (q := 0) 0 dX6_sees_48 rfl ?_
        refine g_gMn h 4 (by decide) fl_X6_121 dX6_sees_49 ?_
        refine g_is (nI (M.2.1 4)) (by rw [hM1]) ?_
        refine g_iload_n h (q := 2) 2 dX6_sees_52 rfl ?_
        refine g_sA h 7 (by decide) (M.2.1 4) (show M.2.1 4 < 6 by omega) dX6_sees_53 (fun M2 hM2 => ?_)
        refine g_aload_n h (q := 0) 0 dX6_sees_54 rfl ?_
        refine g_dup h dX6_sees_55 rfl ?_
        refine g_gMn h 4 (by decide) fl_X6_121 dX6_sees_56 ?_
        refine g_is (nI (M.2.1 4)) (by rw [hM2, hM1]) ?_
        refine g_iconst h (v := 1) dX6_sees_59 (by decide) ?_
        refine g_iadd h dX6_sees_60 ?_
        refine g_is (nI ((M.2.1 4) + 1)) (nI_add (M.2.1 4) 1) ?_
        refine g_pMn h 4 (by decide) (m := (M.2.1 4) + 1) fl_X6_121 dX6_sees_61 (fun M3 hM3 => ?_)
        refine g_aload_n h (q := 0) 0 dX6_sees_64 rfl ?_
        refine g_gMn h 4 (by decide) fl_X6_121 dX6_sees_65 ?_
        refine g_is (nI (M.2.1 4 + 1)) (by rw [hM3, hM2, hM1]; simp [va_up]) ?_
        exact g_iret h hR dX6_sees_68 (rM_of (q := (nI (M.2.1 4 + 1), M3)) (by rw [ySees, if_pos ⟨bI_1.mp c1, bI_1.mp c2⟩, if_neg c3, hM3, hM2, hM1]; simp [va_up]))
      · refine g_bipush h (v := (-3)) dX6_sees_31 (by decide) ?_
        exact g_iret h hR dX6_sees_33 (rM_of (q := ((-3), M)) (by simp [ySees, bI_1.mp c1, bI_1.mp c2, c3]))
    · refine g_iconst h (v := (-1)) dX6_sees_20 (by decide) ?_
      exact g_iret h hR dX6_sees_21 (rM_of (q := ((-1), M)) (by simp [ySees, bI_1.mp c1, bI_0.mp c2]))
set_option maxHeartbeats 4000000 in
theorem c_X6_forget (l : Launch) {E : EnvT} (hE : EOK E) {σ : ST} {M : MT}  : Con l E yX6_forget cX6_forget 2 (some .int) 0 0 [.ref (ad E 11 0 0)] (sM σ M) (rM (yForget M) σ) := by
  refine con_intro hE (by decide) (Nat.le_of_ble_eq_true rfl) (fun K hkl h hR => ?_)
  subst hkl
  have h : Cx K E cX6_forget 2 RX6 0 0 := h
  show GG K E (sM σ M) 0 [(0, .ref (ad E 11 0 0))] []
  refine g_aload_n h (q := 0) 0 dX6_forget_0 rfl ?_
  refine g_gMn h 4 (by decide) fl_X6_121 dX6_forget_1 ?_
  refine g_istore_n h (q := 1) [(0, .ref (ad E 11 0 0)), (1, .int (nI (M.2.1 4)))] dX6_forget_4 (by decide) rfl ?_
  refine g_aload_n h (q := 0) 0 dX6_forget_5 rfl ?_
  refine g_iconst h (v := 0) dX6_forget_6 (by decide) ?_
  refine g_pMn h 4 (by decide) (m := 0) fl_X6_121 dX6_forget_7 (fun M1 hM1 => ?_)
  refine g_iload_n h (q := 1) 1 dX6_forget_10 rfl ?_
  exact g_iret h hR dX6_forget_11 (rM_of (q := (nI (M.2.1 4), M1)) (by rw [hM1]; rfl))
def yKeep (M : MT) (a : Int32) : Int32 × MT := if wi a 0 1 = true then (nI (M.2.1 0), M.1, M.2.1, va_up (mWr M (10 + a.toNatClampNeg)).2.2.1 2 (upd (M.2.2.1 2) a.toNatClampNeg 1), M.2.2.2) else (-1, M)
def yBack (M : MT) (a : Int32) (p q : Nat) : Int32 × MT := if wi a 0 1 = true then (if M.2.2.1 2 a.toNatClampNeg = 0 then (-2, M) else (nI p, mDn (mCb M (10 + a.toNatClampNeg) p q 512) 0)) else (-1, M)
set_option maxHeartbeats 4000000 in
theorem c_X6_keep (l : Launch) {E : EnvT} (hE : EOK E) {σ : ST} {M : MT} (a : Int32) : Con l E yX6_keep cX6_keep 2 (some .int) 1 23 [.ref (ad E 11 0 0), .int a] (sM σ M) (rM (yKeep M a) σ) := by
  refine con_intro hE (by decide) (Nat.le_of_ble_eq_true rfl) (fun K hkl h hR => ?_)
  subst hkl
  have h : Cx K E cX6_keep 2 RX6 1 23 := h
  show GG K E (sM σ M) 0 [(0, .ref (ad E 11 0 0)), (1, .int a)] []
  refine g_iload_n h (q := 1) 1 dX6_keep_0 rfl ?_
  refine g_iconst h (v := 0) dX6_keep_1 (by decide) ?_
  refine g_iconst h (v := 1) dX6_keep_2 (by decide) ?_
  refine g_callS h ms_X6_in (As := [.int a, .int 0, .int 1]) (c_X6_in (kl K) hE (σ := σ) (M := M) a 0 1) ml_X6_63 rfl (by decide) (by decide) rfl (Nat.le_of_ble_eq_true rfl) dX6_keep_3 (fun v σ9 h9 => ?_)
  rw [h9.1, h9.2]; clear h9
  refine g_if_ne h 11 dX6_keep_6 (by decide) (fun c1 => ?_) (fun c1 => ?_)
  · have hw1 := bI_1.mp c1
    obtain ⟨j, hj, hje⟩ := wi_nat (n := 1) (by decide) hw1
    subst hje
    have hjc : (nI j).toNatClampNeg = j := nI_clamp (by omega)
    refine g_aload_n h (q := 0) 0 dX6_keep_11 rfl ?_
    refine g_bipush h (v := 10) dX6_keep_12 (by decide) ?_
    refine g_iload_n h (q := 1) 1 dX6_keep_14 rfl ?_
    refine g_iadd h dX6_keep_15 ?_
    refine g_is (nI (10 + j)) (nI_add 10 j) ?_
    refine g_callV h mv_X6_writes 11 0 0 ⟨rfl, rfl⟩ rfl rfl (As := [.int (nI (10 + j))]) (c_X6_writes (kl K) hE (σ := σ) (M := M) (10 + j) (by omega)) ml_X6_59 rfl (by decide) (by decide) rfl (Nat.le_of_ble_eq_true rfl) dX6_keep_16 (fun v σ9 h9 => ?_)
    rw [h9.1, h9.2]; clear h9
    obtain ⟨Ma, hMa⟩ : ∃ X, X = mWr M (10 + j) := ⟨_, rfl⟩
    rw [← hMa]
    refine g_aload_n h (q := 0) 0 dX6_keep_19 rfl ?_
    refine g_gMa h 2 (by decide) fl_X6_26 dX6_keep_20 ?_
    refine g_iload_n h (q := 1) 1 dX6_keep_23 rfl ?_
    refine g_iconst h (v := 1) dX6_keep_24 (by decide) ?_
    refine g_sA h 2 (by decide) (j) (show j < 2 by omega) dX6_keep_25 (fun M1 hM1 => ?_)
    refine g_aload_n h (q := 0) 0 dX6_keep_26 rfl ?_
    refine g_gMn h 0 (by decide) fl_X6_50 dX6_keep_27 ?_
    refine g_is (nI (M.2.1 0)) (by rw [hM1, hMa]; rfl) ?_
    exact g_iret h hR dX6_keep_30 (rM_of (q := (nI (M.2.1 0), M1)) (by rw [yKeep, if_pos hw1, hjc, hM1, hMa]; rfl))
  · refine g_iconst h (v := (-1)) dX6_keep_9 (by decide) ?_
    exact g_iret h hR dX6_keep_10 (rM_of (q := (-1, M)) (by simp [yKeep, bI_0.mp c1]))
set_option maxHeartbeats 4000000 in
theorem c_X6_back (l : Launch) {E : EnvT} (hE : EOK E) {σ : ST} {M : MT} (a : Int32) (p q : Nat) (ha : ∀ j, j < 2 → a = nI j → M.2.2.1 2 j ≠ 0 → M.2.2.1 1 (520 * (10 + j) + 4) = nI p ∧ M.2.2.1 1 (520 * (10 + j) + 5) = nI q) : Con l E yX6_back cX6_back 2 (some .int) 1 23 [.ref (ad E 11 0 0), .int a] (sM σ M) (rM (yBack M a p q) σ) := by
  refine con_intro hE (by decide) (Nat.le_of_ble_eq_true rfl) (fun K hkl h hR => ?_)
  subst hkl
  have h : Cx K E cX6_back 2 RX6 1 23 := h
  show GG K E (sM σ M) 0 [(0, .ref (ad E 11 0 0)), (1, .int a)] []
  refine g_iload_n h (q := 1) 1 dX6_back_0 rfl ?_
  refine g_iconst h (v := 0) dX6_back_1 (by decide) ?_
  refine g_iconst h (v := 1) dX6_back_2 (by decide) ?_
  refine g_callS h ms_X6_in (As := [.int a, .int 0, .int 1]) (c_X6_in (kl K) hE (σ := σ) (M := M) a 0 1) ml_X6_63 rfl (by decide) (by decide) rfl (Nat.le_of_ble_eq_true rfl) dX6_back_3 (fun v σ9 h9 => ?_)
  rw [h9.1, h9.2]; clear h9
  refine g_if_ne h 11 dX6_back_6 (by decide) (fun c1 => ?_) (fun c1 => ?_)
  · have hw1 := bI_1.mp c1
    obtain ⟨j, hj, hje⟩ := wi_nat (n := 1) (by decide) hw1
    subst hje
    have hjc : (nI j).toNatClampNeg = j := nI_clamp (by omega)
    refine g_aload_n h (q := 0) 0 dX6_back_11 rfl ?_
    refine g_gMa h 2 (by decide) fl_X6_26 dX6_back_12 ?_
    refine g_iload_n h (q := 1) 1 dX6_back_15 rfl ?_
    refine g_lM h 2 (by decide) (j) (show j < 2 by omega) dX6_back_16 ?_
    refine g_if_ne h 23 dX6_back_17 (by decide) (fun c2 => ?_) (fun c2 => ?_)
    · refine g_aload_n h (q := 0) 0 dX6_back_23 rfl ?_
      refine g_bipush h (v := 10) dX6_back_24 (by decide) ?_
      refine g_iload_n h (q := 1) 1 dX6_back_26 rfl ?_
      refine g_iadd h dX6_back_27 ?_
      refine g_is (nI (10 + j)) (nI_add 10 j) ?_
      refine g_callV h mv_X6_comesBack 11 0 0 ⟨rfl, rfl⟩ rfl rfl (As := [.int (nI (10 + j))]) (c_X6_comesBack (kl K) hE (σ := σ) (M := M) (10 + j) p q (by omega) (ha j (by omega) rfl c2).1 (ha j (by omega) rfl c2).2) ml_X6_118 rfl (by decide) (by decide) rfl (Nat.le_of_ble_eq_true rfl) dX6_back_28 (fun v σ9 h9 => ?_)
      rw [h9.1, h9.2]; clear h9
      obtain ⟨Ma, hMa⟩ : ∃ X, X = mCb M (10 + j) p q 512 := ⟨_, rfl⟩
      rw [← hMa]
      refine g_aload_n h (q := 0) 0 dX6_back_31 rfl ?_
      refine g_iconst h (v := 0) dX6_back_32 (by decide) ?_
      refine g_pMn h 2 (by decide) (m := 0) fl_X6_56 dX6_back_33 (fun M1 hM1 => ?_)
      refine g_aload_n h (q := 0) 0 dX6_back_36 rfl ?_
      refine g_gMn h 0 (by decide) fl_X6_50 dX6_back_37 ?_
      refine g_is (nI (p)) (by rw [hM1, hMa]; simp [mCb, va_up]) ?_
      exact g_iret h hR dX6_back_40 (rM_of (q := (nI p, M1)) (by rw [yBack, if_pos hw1, hjc, if_neg c2, hM1, hMa]; rfl))
    · refine g_bipush h (v := (-2)) dX6_back_20 (by decide) ?_
      exact g_iret h hR dX6_back_22 (rM_of (q := (-2, M)) (by rw [yBack, if_pos hw1, hjc, if_pos c2]))
  · refine g_iconst h (v := (-1)) dX6_back_9 (by decide) ?_
    exact g_iret h hR dX6_back_10 (rM_of (q := (-1, M)) (by simp [yBack, bI_0.mp c1]))
