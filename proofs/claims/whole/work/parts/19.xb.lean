theorem tab_cases (x : Int32) (n : Nat) (hn : n < 2 ^ 31) : (∃ k, k < n ∧ x = nI k) ∨ (x.toInt < 0 ∨ (n : Int) ≤ x.toInt) := by
  rcases Int.lt_or_le x.toInt 0 with h | h
  · exact Or.inr (Or.inl h)
  · rcases Int.lt_or_le x.toInt n with h2 | h2
    · obtain ⟨k, hk, e⟩ := vp_in_of (vp_in_iff.mpr ⟨h, h2⟩) hn
      exact Or.inl ⟨k, hk, e⟩
    · exact Or.inr (Or.inr h2)
theorem wi_nat {x : Int32} {n : Nat} (hn : n < 2 ^ 30) (h : wi x 0 (nI n) = true) : ∃ j, j ≤ n ∧ x = nI j := by
  simp only [wi, Bool.and_eq_true, decide_eq_true_eq] at h
  have h1 : (0 : Int32).toInt ≤ x.toInt := Int32.le_iff_toInt_le.mp h.1
  have h2 := Int32.le_iff_toInt_le.mp h.2
  rw [nI_toInt (by omega)] at h2
  obtain ⟨j, hj, e⟩ := vp_in_of (vp_in_iff (x := x) (n := n + 1) |>.mpr ⟨h1, by omega⟩) (by omega)
  exact ⟨j, by omega, e⟩
theorem nI_m1 (n : Nat) : nI (n + 1) - 1 = nI n := nI_pred n
theorem wi_let {x : Int32} {n : Nat} (hn : n ≤ 64) (h : wi x 0 (nI n - 1) = true) : ∃ j, j < n ∧ x = nI j := by
  cases n with
  | zero =>
    simp only [wi, Bool.and_eq_true, decide_eq_true_eq] at h
    have h1 := Int32.le_iff_toInt_le.mp (Int32.le_trans h.1 h.2)
    exact absurd h1 (by decide)
  | succ n =>
    rw [nI_m1] at h
    obtain ⟨j, hj, e⟩ := wi_nat (by omega) h
    exact ⟨j, by omega, e⟩
def xLetter (σ : ST) (n what : Int32) : Int32 × ST :=
  if wi n 0 (nI (σ.1 0).2.1 - 1) = true ∧ wi what 0 6 = true then ((σ.1 0).2.2 what.toNatClampNeg n.toNatClampNeg, σ) else (-1, σ)
theorem wi_out {x : Int32} {m : Int32} {n : Nat} (hm : m.toInt + 1 = n) (h : x.toInt < 0 ∨ (n : Int) ≤ x.toInt) : wi x 0 m = false := by
  simp only [wi, Bool.and_eq_false_iff, decide_eq_false_iff_not, Int32.not_le]
  rcases h with h | h
  · exact Or.inl (Int32.lt_iff_toInt_lt.mpr h)
  · exact Or.inr (Int32.lt_iff_toInt_lt.mpr (by omega))
set_option maxHeartbeats 4000000 in
theorem c_X5_letter (l : Launch) {E : EnvT} (hE : EOK E) {σ : ST} (hX : XO σ) (a b : Int32) : Con l E yX5_letter cX5_letter 3 (some .int) 1 22 [.ref (ad E 0 0 0), .int a, .int b] σ (rP (xLetter σ a b)) := by
  refine con_intro hE (by decide) (Nat.le_of_ble_eq_true rfl) (fun K hkl h hR => ?_)
  subst hkl
  have h : Cx K E cX5_letter 3 RX5 1 22 := h
  show GG K E σ 0 [(0, .ref (ad E 0 0 0)), (1, .int a), (2, .int b)] []
  have hL := hX.1.1
  refine g_iload_n h (q := 1) 1 dX5_letter_0 rfl ?_
  refine g_iconst h (v := 0) dX5_letter_1 (by decide) ?_
  refine g_aload_n h (q := 0) 0 dX5_letter_2 rfl ?_
  refine g_get h 0 0 0 ⟨rfl, rfl⟩ rfl rfl uin_X5 0 (by decide) fl_X5_12 rfl dX5_letter_3 ?_
  refine g_get h 1 0 0 (ok_F (by decide)) rfl rfl uin_X0 4 (by decide) fl_X5_81 rfl dX5_letter_6 ?_
  refine g_iconst h (v := 1) dX5_letter_9 (by decide) ?_
  refine g_isub h dX5_letter_10 ?_
  refine g_callS h ms_X5_isWithin (As := [.int a, .int 0, .int ((nI ((σ.1 0).2.1)) - 1)]) (c_X5_isWithin (kl K) hE (σ := σ) a 0 (nI (σ.1 0).2.1 - 1)) ml_X5_52 rfl (by decide) (by decide) rfl (Nat.le_of_ble_eq_true rfl) dX5_letter_11 (fun v σ9 h9 => ?_)
  rw [h9.1, h9.2]; clear h9
  refine g_if_ne h 19 dX5_letter_14 (by decide) (fun c1 => ?_) (fun c1 => ?_)
  · obtain ⟨j, hj, hje⟩ := wi_let hL (bI_1.mp c1)
    have hw1 := bI_1.mp c1
    subst hje
    refine g_iload_n h (q := 2) 2 dX5_letter_19 rfl ?_
    rcases tab_cases b 7 (by decide) with ⟨kw, hkw, hwe⟩ | hout
    · rcases (show kw = 0 ∨ kw = 1 ∨ kw = 2 ∨ kw = 3 ∨ kw = 4 ∨ kw = 5 ∨ kw = 6 by omega) with rfl | rfl | rfl | rfl | rfl | rfl | rfl
      · subst hwe
        refine g_tabIn h 64 dX5_letter_20 (by decide) (by decide) rfl (by decide) ?_
        refine g_aload_n h (q := 0) 0 dX5_letter_64 rfl ?_
        refine g_get h 0 0 0 ⟨rfl, rfl⟩ rfl rfl uin_X5 0 (by decide) fl_X5_12 rfl dX5_letter_65 ?_
        refine g_get h 1 0 0 (ok_F (by decide)) rfl rfl uin_X0 5 (by decide) fl_X5_109 rfl dX5_letter_68 ?_
        refine g_iload_n h (q := 1) 1 dX5_letter_71 rfl ?_
        refine g_aldF h 0 0 (by decide) (by decide) (j) (show j < 64 by omega) dX5_letter_72 ?_
        exact g_iret h hR dX5_letter_73 (rP_of (q := ((σ.1 0).2.2 0 j, σ)) (by rw [xLetter, if_pos ⟨hw1, by decide⟩, nI_clamp (n := j) (by omega)]; rfl))
      · subst hwe
        refine g_tabIn h 74 dX5_letter_20 (by decide) (by decide) rfl (by decide) ?_
        refine g_aload_n h (q := 0) 0 dX5_letter_74 rfl ?_
        refine g_get h 0 0 0 ⟨rfl, rfl⟩ rfl rfl uin_X5 0 (by decide) fl_X5_12 rfl dX5_letter_75 ?_
        refine g_get h 1 0 0 (ok_F (by decide)) rfl rfl uin_X0 6 (by decide) fl_X5_112 rfl dX5_letter_78 ?_
        refine g_iload_n h (q := 1) 1 dX5_letter_81 rfl ?_
        refine g_aldF h 0 1 (by decide) (by decide) (j) (show j < 64 by omega) dX5_letter_82 ?_
        exact g_iret h hR dX5_letter_83 (rP_of (q := ((σ.1 0).2.2 1 j, σ)) (by rw [xLetter, if_pos ⟨hw1, by decide⟩, nI_clamp (n := j) (by omega)]; rfl))
      · subst hwe
        refine g_tabIn h 84 dX5_letter_20 (by decide) (by decide) rfl (by decide) ?_
        refine g_aload_n h (q := 0) 0 dX5_letter_84 rfl ?_
        refine g_get h 0 0 0 ⟨rfl, rfl⟩ rfl rfl uin_X5 0 (by decide) fl_X5_12 rfl dX5_letter_85 ?_
        refine g_get h 1 0 0 (ok_F (by decide)) rfl rfl uin_X0 7 (by decide) fl_X5_115 rfl dX5_letter_88 ?_
        refine g_iload_n h (q := 1) 1 dX5_letter_91 rfl ?_
        refine g_aldF h 0 2 (by decide) (by decide) (j) (show j < 64 by omega) dX5_letter_92 ?_
        exact g_iret h hR dX5_letter_93 (rP_of (q := ((σ.1 0).2.2 2 j, σ)) (by rw [xLetter, if_pos ⟨hw1, by decide⟩, nI_clamp (n := j) (by omega)]; rfl))
      · subst hwe
        refine g_tabIn h 94 dX5_letter_20 (by decide) (by decide) rfl (by decide) ?_
        refine g_aload_n h (q := 0) 0 dX5_letter_94 rfl ?_
        refine g_get h 0 0 0 ⟨rfl, rfl⟩ rfl rfl uin_X5 0 (by decide) fl_X5_12 rfl dX5_letter_95 ?_
        refine g_get h 1 0 0 (ok_F (by decide)) rfl rfl uin_X0 8 (by decide) fl_X5_118 rfl dX5_letter_98 ?_
        refine g_iload_n h (q := 1) 1 dX5_letter_101 rfl ?_
        refine g_aldF h 0 3 (by decide) (by decide) (j) (show j < 64 by omega) dX5_letter_102 ?_
        exact g_iret h hR dX5_letter_103 (rP_of (q := ((σ.1 0).2.2 3 j, σ)) (by rw [xLetter, if_pos ⟨hw1, by decide⟩, nI_clamp (n := j) (by omega)]; rfl))
      · subst hwe
        refine g_tabIn h 104 dX5_letter_20 (by decide) (by decide) rfl (by decide) ?_
        refine g_aload_n h (q := 0) 0 dX5_letter_104 rfl ?_
        refine g_get h 0 0 0 ⟨rfl, rfl⟩ rfl rfl uin_X5 0 (by decide) fl_X5_12 rfl dX5_letter_105 ?_
        refine g_get h 1 0 0 (ok_F (by decide)) rfl rfl uin_X0 9 (by decide) fl_X5_121 rfl dX5_letter_108 ?_
        refine g_iload_n h (q := 1) 1 dX5_letter_111 rfl ?_
        refine g_aldF h 0 4 (by decide) (by decide) (j) (show j < 64 by omega) dX5_letter_112 ?_
        exact g_iret h hR dX5_letter_113 (rP_of (q := ((σ.1 0).2.2 4 j, σ)) (by rw [xLetter, if_pos ⟨hw1, by decide⟩, nI_clamp (n := j) (by omega)]; rfl))
      · subst hwe
        refine g_tabIn h 114 dX5_letter_20 (by decide) (by decide) rfl (by decide) ?_
        refine g_aload_n h (q := 0) 0 dX5_letter_114 rfl ?_
        refine g_get h 0 0 0 ⟨rfl, rfl⟩ rfl rfl uin_X5 0 (by decide) fl_X5_12 rfl dX5_letter_115 ?_
        refine g_get h 1 0 0 (ok_F (by decide)) rfl rfl uin_X0 10 (by decide) fl_X5_124 rfl dX5_letter_118 ?_
        refine g_iload_n h (q := 1) 1 dX5_letter_121 rfl ?_
        refine g_aldF h 0 5 (by decide) (by decide) (j) (show j < 64 by omega) dX5_letter_122 ?_
        exact g_iret h hR dX5_letter_123 (rP_of (q := ((σ.1 0).2.2 5 j, σ)) (by rw [xLetter, if_pos ⟨hw1, by decide⟩, nI_clamp (n := j) (by omega)]; rfl))
      · subst hwe
        refine g_tabIn h 124 dX5_letter_20 (by decide) (by decide) rfl (by decide) ?_
        refine g_aload_n h (q := 0) 0 dX5_letter_124 rfl ?_
        refine g_get h 0 0 0 ⟨rfl, rfl⟩ rfl rfl uin_X5 0 (by decide) fl_X5_12 rfl dX5_letter_125 ?_
        refine g_get h 1 0 0 (ok_F (by decide)) rfl rfl uin_X0 11 (by decide) fl_X5_127 rfl dX5_letter_128 ?_
        refine g_iload_n h (q := 1) 1 dX5_letter_131 rfl ?_
        refine g_aldF h 0 6 (by decide) (by decide) (j) (show j < 64 by omega) dX5_letter_132 ?_
        exact g_iret h hR dX5_letter_133 (rP_of (q := ((σ.1 0).2.2 6 j, σ)) (by rw [xLetter, if_pos ⟨hw1, by decide⟩, nI_clamp (n := j) (by omega)]; rfl))
    · refine g_tabOut h 134 dX5_letter_20 (by omega) (by decide) ?_
      refine g_iconst h (v := (-1)) dX5_letter_134 (by decide) ?_
      exact g_iret h hR dX5_letter_135 (rP_of (q := (-1, σ)) (by rw [xLetter, if_neg (fun q => by rw [wi_out (n := 7) (by decide) hout] at q; exact absurd q.2 (by decide))]))
  · refine g_iconst h (v := (-1)) dX5_letter_17 (by decide) ?_
    exact g_iret h hR dX5_letter_18 (rP_of (q := (-1, σ)) (by rw [xLetter, if_neg (fun q => by rw [bI_0.mp c1] at q; exact absurd q.1 (by decide))]))
def xLine (σ : ST) (a : Int32) : Int32 × ST := if wi a 0 7 = true then (fAt (σ.1 0) a, σ) else (-1, σ)
def xQueue (σ : ST) (a k : Int32) : Int32 × ST := if wi a 0 7 = true ∧ 0 ≤ k then (qFind (σ.1 0) (σ.2.1 0) a k (σ.2.1 0).2 0 0, σ) else (-1, σ)
set_option maxHeartbeats 4000000 in
theorem c_X5_line (l : Launch) {E : EnvT} (hE : EOK E) {σ : ST} (hX : XO σ) (a : Int32) : Con l E yX5_line cX5_line 2 (some .int) 2 42 [.ref (ad E 0 0 0), .int a] σ (rP (xLine σ a)) := by
  refine con_intro hE (by decide) (Nat.le_of_ble_eq_true rfl) (fun K hkl h hR => ?_)
  subst hkl
  have h : Cx K E cX5_line 2 RX5 2 42 := h
  show GG K E σ 0 [(0, .ref (ad E 0 0 0)), (1, .int a)] []
  refine g_iload_n h (q := 1) 1 dX5_line_0 rfl ?_
  refine g_callS h ms_X5_isLine (As := [.int a]) (c_X5_isLine (kl K) hE (σ := σ) a) ml_X5_70 rfl (by decide) (by decide) rfl (Nat.le_of_ble_eq_true rfl) dX5_line_1 (fun v σ9 h9 => ?_)
  rw [h9.1, h9.2]; clear h9
  refine g_if_eq h 18 dX5_line_4 (by decide) (fun c1 => ?_) (fun c1 => ?_)
  · refine g_iconst h (v := (-1)) dX5_line_18 (by decide) ?_
    exact g_iret h hR dX5_line_19 (rP_of (q := ((-1), σ)) (by simp [xLine, bI_0.mp c1]))
  · refine g_aload_n h (q := 0) 0 dX5_line_7 rfl ?_
    refine g_get h 0 0 0 ⟨rfl, rfl⟩ rfl rfl uin_X5 0 (by decide) fl_X5_12 rfl dX5_line_8 ?_
    refine g_iload_n h (q := 1) 1 dX5_line_11 rfl ?_
    refine g_callV h mv_X0_letterAt 1 0 0 (ok_F (by decide)) rfl rfl (As := [.int a]) (c_X0_letterAt (kl K) hE (σ := σ) 0 (by decide) hX.1.1 a) ml_X5_77 rfl (by decide) (by decide) rfl (Nat.le_of_ble_eq_true rfl) dX5_line_12 (fun v σ9 h9 => ?_)
    rw [h9.1, h9.2]; clear h9
    refine g_goto h 19 dX5_line_15 (by decide) ?_
    exact g_iret h hR dX5_line_19 (rP_of (q := (fAt (σ.1 0) a, σ)) (by simp [xLine, bI_1.mp c1]))
set_option maxHeartbeats 4000000 in
theorem c_X5_queue (l : Launch) {E : EnvT} (hE : EOK E) {σ : ST} (hX : XO σ) (a k : Int32) : Con l E yX5_queue cX5_queue 3 (some .int) 2 42 [.ref (ad E 0 0 0), .int a, .int k] σ (rP (xQueue σ a k)) := by
  refine con_intro hE (by decide) (Nat.le_of_ble_eq_true rfl) (fun K hkl h hR => ?_)
  subst hkl
  have h : Cx K E cX5_queue 3 RX5 2 42 := h
  show GG K E σ 0 [(0, .ref (ad E 0 0 0)), (1, .int a), (2, .int k)] []
  refine g_iload_n h (q := 1) 1 dX5_queue_0 rfl ?_
  refine g_callS h ms_X5_isAddress (As := [.int a]) (c_X5_isAddress (kl K) hE (σ := σ) a) ml_X5_74 rfl (by decide) (by decide) rfl (Nat.le_of_ble_eq_true rfl) dX5_queue_1 (fun v σ9 h9 => ?_)
  rw [h9.1, h9.2]; clear h9
  refine g_if_eq h 11 dX5_queue_4 (by decide) (fun c1 => ?_) (fun c1 => ?_)
  · refine g_iconst h (v := (-1)) dX5_queue_11 (by decide) ?_
    exact g_iret h hR dX5_queue_12 (rP_of (q := ((-1), σ)) (by simp [xQueue, bI_0.mp c1]))
  · refine g_iload_n h (q := 2) 2 dX5_queue_7 rfl ?_
    refine g_if_ge h 13 dX5_queue_8 (by decide) (fun c2 => ?_) (fun c2 => ?_)
    · refine g_aload_n h (q := 0) 0 dX5_queue_13 rfl ?_
      refine g_get h 0 0 0 ⟨rfl, rfl⟩ rfl rfl uin_X5 0 (by decide) fl_X5_12 rfl dX5_queue_14 ?_
      refine g_iload_n h (q := 1) 1 dX5_queue_17 rfl ?_
      refine g_iload_n h (q := 2) 2 dX5_queue_18 rfl ?_
      refine g_callV h mv_X0_queuedLetter 1 0 0 (ok_F (by decide)) rfl rfl (As := [.int a, .int k]) (c_X0_queuedLetter (kl K) hE (σ := σ) 0 (by decide) (hX.2.1.mono hX.1.1) a k) ml_X5_130 rfl (by decide) (by decide) rfl (Nat.le_of_ble_eq_true rfl) dX5_queue_19 (fun v σ9 h9 => ?_)
      rw [h9.1, h9.2]; clear h9
      exact g_iret h hR dX5_queue_22 (rP_of (q := (qFind (σ.1 0) (σ.2.1 0) a k (σ.2.1 0).2 0 0, σ)) (by simp [xQueue, bI_1.mp c1, c2]))
    · refine g_iconst h (v := (-1)) dX5_queue_11 (by decide) ?_
      exact g_iret h hR dX5_queue_12 (rP_of (q := ((-1), σ)) (by simp [xQueue, bI_1.mp c1, c2]))
def xTurned (σ : ST) (k : Int32) : Int32 × ST := if 0 ≤ k then (rAt (sortT (σ.1 0) (σ.2.1 14)) k, sR σ 14 (sortT (σ.1 0) (σ.2.1 14))) else (-1, σ)
def xSorted (σ : ST) (k : Int32) : Int32 × ST := if 0 ≤ k then (rAt (sortW (σ.1 0) (σ.2.1 14)) k, sR σ 14 (sortW (σ.1 0) (σ.2.1 14))) else (-1, σ)
set_option maxHeartbeats 4000000 in
theorem c_X5_turned (l : Launch) {E : EnvT} (hE : EOK E) {σ : ST} (hX : XO σ) (k : Int32) : Con l E yX5_turned cX5_turned 2 (some .int) 3 69 [.ref (ad E 0 0 0), .int k] σ (rP (xTurned σ k)) := by
  refine con_intro hE (by decide) (Nat.le_of_ble_eq_true rfl) (fun K hkl h hR => ?_)
  subst hkl
  have h : Cx K E cX5_turned 2 RX5 3 69 := h
  show GG K E σ 0 [(0, .ref (ad E 0 0 0)), (1, .int k)] []
  refine g_iload_n h (q := 1) 1 dX5_turned_0 rfl ?_
  refine g_if_ge h 6 dX5_turned_1 (by decide) (fun c1 => ?_) (fun c1 => ?_)
  · refine g_aload_n h (q := 0) 0 dX5_turned_6 rfl ?_
    refine g_get h 0 0 0 ⟨rfl, rfl⟩ rfl rfl uin_X5 2 (by decide) fl_X5_22 rfl dX5_turned_7 ?_
    refine g_aload_n h (q := 0) 0 dX5_turned_10 rfl ?_
    refine g_get h 0 0 0 ⟨rfl, rfl⟩ rfl rfl uin_X5 0 (by decide) fl_X5_12 rfl dX5_turned_11 ?_
    refine g_callV h mv_X4_sortTurned 5 0 0 ⟨rfl, rfl⟩ rfl rfl (As := [.ref (ad E 1 0 0)]) (c_X4_sortTurned (kl K) hE (σ := σ) 0 (by decide) hX.1.1) ml_X5_134 rfl (by decide) (by decide) rfl (Nat.le_of_ble_eq_true rfl) dX5_turned_14 (fun v σ9 h9 => ?_)
    rw [h9.1, h9.2]; clear h9
    obtain ⟨τ, hτ⟩ : ∃ τ, τ = sR σ 14 (sortT (σ.1 0) (σ.2.1 14)) := ⟨_, rfl⟩
    rw [← hτ]
    have hr14 : τ.2.1 14 = sortT (σ.1 0) (σ.2.1 14) := by rw [hτ, sR_at]
    refine g_iload_n h (q := 1) 1 dX5_turned_17 rfl ?_
    refine g_callV h mv_X2_at 3 14 0 (ok_R (by decide)) rfl rfl (As := [.int k]) (c_X2_at (kl K) hE (σ := τ) 14 (by decide) (by rw [hr14]; exact (sortT_ok hX.1.1).1) k) ml_X5_138 rfl (by decide) (by decide) rfl (Nat.le_of_ble_eq_true rfl) dX5_turned_18 (fun v σ9 h9 => ?_)
    rw [h9.1, h9.2]; clear h9
    rw [hr14]
    exact g_iret h hR dX5_turned_21 (rP_of (q := (rAt (sortT (σ.1 0) (σ.2.1 14)) k, τ)) (by simp [xTurned, c1, hτ]))
  · refine g_iconst h (v := (-1)) dX5_turned_4 (by decide) ?_
    exact g_iret h hR dX5_turned_5 (rP_of (q := ((-1), σ)) (by simp [xTurned, c1]))
set_option maxHeartbeats 4000000 in
theorem c_X5_sorted (l : Launch) {E : EnvT} (hE : EOK E) {σ : ST} (hX : XO σ) (k : Int32) : Con l E yX5_sorted cX5_sorted 2 (some .int) 3 69 [.ref (ad E 0 0 0), .int k] σ (rP (xSorted σ k)) := by
  refine con_intro hE (by decide) (Nat.le_of_ble_eq_true rfl) (fun K hkl h hR => ?_)
  subst hkl
  have h : Cx K E cX5_sorted 2 RX5 3 69 := h
  show GG K E σ 0 [(0, .ref (ad E 0 0 0)), (1, .int k)] []
  refine g_iload_n h (q := 1) 1 dX5_sorted_0 rfl ?_
  refine g_if_ge h 6 dX5_sorted_1 (by decide) (fun c1 => ?_) (fun c1 => ?_)
  · refine g_aload_n h (q := 0) 0 dX5_sorted_6 rfl ?_
    refine g_get h 0 0 0 ⟨rfl, rfl⟩ rfl rfl uin_X5 2 (by decide) fl_X5_22 rfl dX5_sorted_7 ?_
    refine g_aload_n h (q := 0) 0 dX5_sorted_10 rfl ?_
    refine g_get h 0 0 0 ⟨rfl, rfl⟩ rfl rfl uin_X5 0 (by decide) fl_X5_12 rfl dX5_sorted_11 ?_
    refine g_callV h mv_X4_sortWaiting 5 0 0 ⟨rfl, rfl⟩ rfl rfl (As := [.ref (ad E 1 0 0)]) (c_X4_sortWaiting (kl K) hE (σ := σ) 0 (by decide) hX.1.1) ml_X5_143 rfl (by decide) (by decide) rfl (Nat.le_of_ble_eq_true rfl) dX5_sorted_14 (fun v σ9 h9 => ?_)
    rw [h9.1, h9.2]; clear h9
    obtain ⟨τ, hτ⟩ : ∃ τ, τ = sR σ 14 (sortW (σ.1 0) (σ.2.1 14)) := ⟨_, rfl⟩
    rw [← hτ]
    have hr14 : τ.2.1 14 = sortW (σ.1 0) (σ.2.1 14) := by rw [hτ, sR_at]
    refine g_iload_n h (q := 1) 1 dX5_sorted_17 rfl ?_
    refine g_callV h mv_X2_at 3 14 0 (ok_R (by decide)) rfl rfl (As := [.int k]) (c_X2_at (kl K) hE (σ := τ) 14 (by decide) (by rw [hr14]; exact (sortW_ok hX.1.1).1) k) ml_X5_138 rfl (by decide) (by decide) rfl (Nat.le_of_ble_eq_true rfl) dX5_sorted_18 (fun v σ9 h9 => ?_)
    rw [h9.1, h9.2]; clear h9
    rw [hr14]
    exact g_iret h hR dX5_sorted_21 (rP_of (q := (rAt (sortW (σ.1 0) (σ.2.1 14)) k, τ)) (by simp [xSorted, c1, hτ]))
  · refine g_iconst h (v := (-1)) dX5_sorted_4 (by decide) ?_
    exact g_iret h hR dX5_sorted_5 (rP_of (q := ((-1), σ)) (by simp [xSorted, c1]))
def xSees (σ : ST) (a b : Int32) : Int32 × ST := if wi a 1 40 = true ∧ wi b 0 64 = true then (if σ.2.2.1.1 2 < 6 then (nI (σ.2.2.1.1 2 + 1), seeS σ a b) else (-3, σ)) else (-1, σ)
def xForget (σ : ST) : Int32 × ST := (nI (σ.2.2.1.1 2), sX σ (va_up σ.2.2.1.1 2 0, σ.2.2.1.2))
set_option maxHeartbeats 4000000 in
theorem c_X5_sees (l : Launch) {E : EnvT} (hE : EOK E) {σ : ST} (hX : XO σ) (a b : Int32) : Con l E yX5_sees cX5_sees 3 (some .int) 1 22 [.ref (ad E 0 0 0), .int a, .int b] σ (rP (xSees σ a b)) := by
  refine con_intro hE (by decide) (Nat.le_of_ble_eq_true rfl) (fun K hkl h hR => ?_)
  subst hkl
  have h : Cx K E cX5_sees 3 RX5 1 22 := h
  show GG K E σ 0 [(0, .ref (ad E 0 0 0)), (1, .int a), (2, .int b)] []
  have hs6 := hX.2.2.2.2.2.1
  refine g_iload_n h (q := 1) 1 dX5_sees_0 rfl ?_
  refine g_iconst h (v := 1) dX5_sees_1 (by decide) ?_
  refine g_bipush h (v := 40) dX5_sees_2 (by decide) ?_
  refine g_callS h ms_X5_isWithin (As := [.int a, .int 1, .int 40]) (c_X5_isWithin (kl K) hE (σ := σ) a 1 40) ml_X5_52 rfl (by decide) (by decide) rfl (Nat.le_of_ble_eq_true rfl) dX5_sees_4 (fun v σ9 h9 => ?_)
  rw [h9.1, h9.2]; clear h9
  refine g_if_eq h 20 dX5_sees_7 (by decide) (fun c1 => ?_) (fun c1 => ?_)
  · refine g_iconst h (v := (-1)) dX5_sees_20 (by decide) ?_
    exact g_iret h hR dX5_sees_21 (rP_of (q := ((-1), σ)) (by simp [xSees, bI_0.mp c1]))
  · refine g_iload_n h (q := 2) 2 dX5_sees_10 rfl ?_
    refine g_iconst h (v := 0) dX5_sees_11 (by decide) ?_
    refine g_bipush h (v := 64) dX5_sees_12 (by decide) ?_
    refine g_callS h ms_X5_isWithin (As := [.int b, .int 0, .int 64]) (c_X5_isWithin (kl K) hE (σ := σ) b 0 64) ml_X5_52 rfl (by decide) (by decide) rfl (Nat.le_of_ble_eq_true rfl) dX5_sees_14 (fun v σ9 h9 => ?_)
    rw [h9.1, h9.2]; clear h9
    refine g_if_ne h 22 dX5_sees_17 (by decide) (fun c2 => ?_) (fun c2 => ?_)
    · refine g_aload_n h (q := 0) 0 dX5_sees_22 rfl ?_
      refine g_get h 0 0 0 ⟨rfl, rfl⟩ rfl rfl uin_X5 4 (by decide) fl_X5_36 rfl dX5_sees_23 ?_
      refine g_get h 8 0 0 ⟨rfl, rfl⟩ rfl rfl uin_X3 2 (by decide) fl_X5_106 rfl dX5_sees_26 ?_
      refine g_bipush h (v := 6) dX5_sees_29 (by decide) ?_
      refine g_ncmp_lt h (a := σ.2.2.1.1 2) (b := 6) 37 dX5_sees_31 (by decide) (by omega) (by omega) (fun c3 => ?_) (fun c3 => ?_)
      · refine g_aload_n h (q := 0) 0 dX5_sees_37 rfl ?_
        refine g_get h 0 0 0 ⟨rfl, rfl⟩ rfl rfl uin_X5 4 (by decide) fl_X5_36 rfl dX5_sees_38 ?_
        refine g_iload_n h (q := 1) 1 dX5_sees_41 rfl ?_
        refine g_iload_n h (q := 2) 2 dX5_sees_42 rfl ?_
        refine g_callV h mv_X3_add 8 0 0 ⟨rfl, rfl⟩ rfl rfl (As := [.int a, .int b]) (c_X3_add (kl K) hE (σ := σ) hs6 a b) ml_X5_183 rfl (by decide) (by decide) rfl (Nat.le_of_ble_eq_true rfl) dX5_sees_43 (fun v σ9 h9 => ?_)
        rw [h9.1, h9.2]; clear h9
        obtain ⟨τ, hτ⟩ : ∃ τ, τ = seeS σ a b := ⟨_, rfl⟩
        rw [← hτ]
        have hz : τ.2.2.1.1 2 = σ.2.2.1.1 2 + 1 := by rw [hτ, seeS, if_pos c3]; simp [sX, va_up]
        refine g_aload_n h (q := 0) 0 dX5_sees_46 rfl ?_
        refine g_get h 0 0 0 ⟨rfl, rfl⟩ rfl rfl uin_X5 4 (by decide) fl_X5_36 rfl dX5_sees_47 ?_
        refine g_get h 8 0 0 ⟨rfl, rfl⟩ rfl rfl uin_X3 2 (by decide) fl_X5_106 rfl dX5_sees_50 ?_
        refine g_is (nI (σ.2.2.1.1 2 + 1)) (by rw [hz]) ?_
        exact g_iret h hR dX5_sees_53 (rP_of (q := (nI (σ.2.2.1.1 2 + 1), τ)) (by rw [hτ]; simp [xSees, bI_1.mp c1, bI_1.mp c2, c3]))
      · refine g_bipush h (v := (-3)) dX5_sees_34 (by decide) ?_
        exact g_iret h hR dX5_sees_36 (rP_of (q := (-3, σ)) (by simp [xSees, bI_1.mp c1, bI_1.mp c2, Nat.not_lt.mpr c3]))
    · refine g_iconst h (v := (-1)) dX5_sees_20 (by decide) ?_
      exact g_iret h hR dX5_sees_21 (rP_of (q := ((-1), σ)) (by simp [xSees, bI_1.mp c1, bI_0.mp c2]))
set_option maxHeartbeats 4000000 in
theorem c_X5_forget (l : Launch) {E : EnvT} (hE : EOK E) {σ : ST}  : Con l E yX5_forget cX5_forget 2 (some .int) 0 0 [.ref (ad E 0 0 0)] σ (rP (xForget σ)) := by
  refine con_intro hE (by decide) (Nat.le_of_ble_eq_true rfl) (fun K hkl h hR => ?_)
  subst hkl
  have h : Cx K E cX5_forget 2 RX5 0 0 := h
  show GG K E σ 0 [(0, .ref (ad E 0 0 0))] []
  refine g_aload_n h (q := 0) 0 dX5_forget_0 rfl ?_
  refine g_get h 0 0 0 ⟨rfl, rfl⟩ rfl rfl uin_X5 4 (by decide) fl_X5_36 rfl dX5_forget_1 ?_
  refine g_get h 8 0 0 ⟨rfl, rfl⟩ rfl rfl uin_X3 2 (by decide) fl_X5_106 rfl dX5_forget_4 ?_
  refine g_istore_n h (q := 1) [(0, .ref (ad E 0 0 0)), (1, .int (nI (σ.2.2.1.1 2)))] dX5_forget_7 (by decide) rfl ?_
  refine g_aload_n h (q := 0) 0 dX5_forget_8 rfl ?_
  refine g_get h 0 0 0 ⟨rfl, rfl⟩ rfl rfl uin_X5 4 (by decide) fl_X5_36 rfl dX5_forget_9 ?_
  refine g_iconst h (v := 0) dX5_forget_12 (by decide) ?_
  refine g_putXs h (m := 0) fl_X5_106 dX5_forget_13 (fun σ1 hσ1 => ?_)
  refine g_iload_n h (q := 1) 1 dX5_forget_16 rfl ?_
  exact g_iret h hR dX5_forget_17 (rP_of (q := (nI (σ.2.2.1.1 2), σ1)) (by rw [hσ1]; rfl))
def xKeep (σ : ST) (a : Int32) : Int32 × ST := if wi a 0 1 = true then (nI (σ.1 0).2.1, sX (cpS σ (12 + a.toNatClampNeg) 0) (σ.2.2.1.1, va_up σ.2.2.1.2 2 (upd (σ.2.2.1.2 2) a.toNatClampNeg 1))) else (-1, σ)
def xBack (σ : ST) (a : Int32) : Int32 × ST := if wi a 0 1 = true then (if σ.2.2.1.2 2 a.toNatClampNeg = 0 then (-2, σ) else (nI (σ.1 (12 + a.toNatClampNeg)).2.1, sX (cpS σ 0 (12 + a.toNatClampNeg)) (va_up σ.2.2.1.1 1 0, σ.2.2.1.2))) else (-1, σ)
set_option maxHeartbeats 4000000 in
theorem c_X5_keep (l : Launch) {E : EnvT} (hE : EOK E) {σ : ST} (hX : XO σ) (a : Int32) : Con l E yX5_keep cX5_keep 2 (some .int) 3 82 [.ref (ad E 0 0 0), .int a] σ (rP (xKeep σ a)) := by
  refine con_intro hE (by decide) (Nat.le_of_ble_eq_true rfl) (fun K hkl h hR => ?_)
  subst hkl
  have h : Cx K E cX5_keep 2 RX5 3 82 := h
  show GG K E σ 0 [(0, .ref (ad E 0 0 0)), (1, .int a)] []
  refine g_iload_n h (q := 1) 1 dX5_keep_0 rfl ?_
  refine g_iconst h (v := 0) dX5_keep_1 (by decide) ?_
  refine g_iconst h (v := 1) dX5_keep_2 (by decide) ?_
  refine g_callS h ms_X5_isWithin (As := [.int a, .int 0, .int 1]) (c_X5_isWithin (kl K) hE (σ := σ) a 0 1) ml_X5_52 rfl (by decide) (by decide) rfl (Nat.le_of_ble_eq_true rfl) dX5_keep_3 (fun v σ9 h9 => ?_)
  rw [h9.1, h9.2]; clear h9
  refine g_if_ne h 11 dX5_keep_6 (by decide) (fun c1 => ?_) (fun c1 => ?_)
  · have hw1 := bI_1.mp c1
    obtain ⟨j, hj, hje⟩ := wi_nat (n := 1) (by decide) hw1
    subst hje
    have hjc : (nI j).toNatClampNeg = j := nI_clamp (by omega)
    refine g_aload_n h (q := 0) 0 dX5_keep_11 rfl ?_
    refine g_get h 0 0 0 ⟨rfl, rfl⟩ rfl rfl uin_X5 5 (by decide) fl_X5_40 rfl dX5_keep_12 ?_
    refine g_iload_n h (q := 1) 1 dX5_keep_15 rfl ?_
    refine g_aldI h (j) (by omega) dX5_keep_16 ?_
    refine g_aload_n h (q := 0) 0 dX5_keep_17 rfl ?_
    refine g_get h 0 0 0 ⟨rfl, rfl⟩ rfl rfl uin_X5 0 (by decide) fl_X5_12 rfl dX5_keep_18 ?_
    refine g_callV h mv_X0_becomes 1 (12 + j) 0 (ok_F (by omega)) rfl rfl (As := [.ref (ad E 1 0 0)]) (c_X0_becomes (kl K) hE (σ := σ) (12 + j) 0 (by omega) (by decide) (by omega) hX.1.1 hX.2.1.1) ml_X5_153 rfl (by decide) (by decide) rfl (Nat.le_of_ble_eq_true rfl) dX5_keep_21 (fun v σ9 h9 => ?_)
    rw [h9.1, h9.2]; clear h9
    obtain ⟨τ, hτ⟩ : ∃ τ, τ = cpS σ (12 + j) 0 := ⟨_, rfl⟩
    rw [show sR (sF σ (12 + j) (cpF (σ.1 (12 + j)) (σ.1 0))) (12 + j) (cpR (σ.2.1 (12 + j)) (σ.2.1 0)) = τ from hτ.symm]
    have hf0 : τ.1 0 = σ.1 0 := by rw [hτ]; exact sF_ne (by omega)
    refine g_aload_n h (q := 0) 0 dX5_keep_24 rfl ?_
    refine g_get h 0 0 0 ⟨rfl, rfl⟩ rfl rfl uin_X5 6 (by decide) fl_X5_44 rfl dX5_keep_25 ?_
    refine g_iload_n h (q := 1) 1 dX5_keep_28 rfl ?_
    refine g_iconst h (v := 1) dX5_keep_29 (by decide) ?_
    refine g_astZ h (j) (by omega) (by decide) dX5_keep_30 (fun σ1 hσ1 => ?_)
    refine g_aload_n h (q := 0) 0 dX5_keep_31 rfl ?_
    refine g_get h 0 0 0 ⟨rfl, rfl⟩ rfl rfl uin_X5 0 (by decide) fl_X5_12 rfl dX5_keep_32 ?_
    refine g_get h 1 0 0 (ok_F (by decide)) rfl rfl uin_X0 4 (by decide) fl_X5_81 rfl dX5_keep_35 ?_
    refine g_is (nI ((σ.1 0).2.1)) (by rw [hσ1]; show nI (τ.1 0).2.1 = _; rw [hf0]) ?_
    exact g_iret h hR dX5_keep_38 (rP_of (q := (nI (σ.1 0).2.1, σ1)) (by rw [xKeep, if_pos hw1, hjc, hσ1, hτ]; rfl))
  · refine g_iconst h (v := (-1)) dX5_keep_9 (by decide) ?_
    exact g_iret h hR dX5_keep_10 (rP_of (q := (-1, σ)) (by simp [xKeep, bI_0.mp c1]))
set_option maxHeartbeats 4000000 in
theorem c_X5_back (l : Launch) {E : EnvT} (hE : EOK E) {σ : ST} (hX : XO σ) (a : Int32) : Con l E yX5_back cX5_back 2 (some .int) 3 82 [.ref (ad E 0 0 0), .int a] σ (rP (xBack σ a)) := by
  refine con_intro hE (by decide) (Nat.le_of_ble_eq_true rfl) (fun K hkl h hR => ?_)
  subst hkl
  have h : Cx K E cX5_back 2 RX5 3 82 := h
  show GG K E σ 0 [(0, .ref (ad E 0 0 0)), (1, .int a)] []
  refine g_iload_n h (q := 1) 1 dX5_back_0 rfl ?_
  refine g_iconst h (v := 0) dX5_back_1 (by decide) ?_
  refine g_iconst h (v := 1) dX5_back_2 (by decide) ?_
  refine g_callS h ms_X5_isWithin (As := [.int a, .int 0, .int 1]) (c_X5_isWithin (kl K) hE (σ := σ) a 0 1) ml_X5_52 rfl (by decide) (by decide) rfl (Nat.le_of_ble_eq_true rfl) dX5_back_3 (fun v σ9 h9 => ?_)
  rw [h9.1, h9.2]; clear h9
  refine g_if_ne h 11 dX5_back_6 (by decide) (fun c1 => ?_) (fun c1 => ?_)
  · have hw1 := bI_1.mp c1
    obtain ⟨j, hj, hje⟩ := wi_nat (n := 1) (by decide) hw1
    subst hje
    have hjc : (nI j).toNatClampNeg = j := nI_clamp (by omega)
    refine g_aload_n h (q := 0) 0 dX5_back_11 rfl ?_
    refine g_get h 0 0 0 ⟨rfl, rfl⟩ rfl rfl uin_X5 6 (by decide) fl_X5_44 rfl dX5_back_12 ?_
    refine g_iload_n h (q := 1) 1 dX5_back_15 rfl ?_
    refine g_aldZ h (j) (by omega) dX5_back_16 ?_
    refine g_if_ne h 23 dX5_back_17 (by decide) (fun c2 => ?_) (fun c2 => ?_)
    · refine g_aload_n h (q := 0) 0 dX5_back_23 rfl ?_
      refine g_get h 0 0 0 ⟨rfl, rfl⟩ rfl rfl uin_X5 0 (by decide) fl_X5_12 rfl dX5_back_24 ?_
      refine g_aload_n h (q := 0) 0 dX5_back_27 rfl ?_
      refine g_get h 0 0 0 ⟨rfl, rfl⟩ rfl rfl uin_X5 5 (by decide) fl_X5_40 rfl dX5_back_28 ?_
      refine g_iload_n h (q := 1) 1 dX5_back_31 rfl ?_
      refine g_aldI h (j) (by omega) dX5_back_32 ?_
      refine g_callV h mv_X0_becomes 1 0 0 (ok_F (by decide)) rfl rfl (As := [.ref (ad E 1 (12 + j) 0)]) (c_X0_becomes (kl K) hE (σ := σ) 0 (12 + j) (by decide) (by omega) (by omega) (hX.2.2.1 _ (by omega)).1 (hX.2.2.1 _ (by omega)).2) ml_X5_153 rfl (by decide) (by decide) rfl (Nat.le_of_ble_eq_true rfl) dX5_back_33 (fun v σ9 h9 => ?_)
      rw [h9.1, h9.2]; clear h9
      obtain ⟨τ, hτ⟩ : ∃ τ, τ = cpS σ 0 (12 + j) := ⟨_, rfl⟩
      rw [show sR (sF σ 0 (cpF (σ.1 0) (σ.1 (12 + j)))) 0 (cpR (σ.2.1 0) (σ.2.1 (12 + j))) = τ from hτ.symm]
      have hf0 : (τ.1 0).2.1 = (σ.1 (12 + j)).2.1 := by rw [hτ]; show ((sF σ 0 (cpF (σ.1 0) (σ.1 (12 + j)))).1 0).2.1 = _; rw [sF_at]; rfl
      refine g_aload_n h (q := 0) 0 dX5_back_36 rfl ?_
      refine g_get h 0 0 0 ⟨rfl, rfl⟩ rfl rfl uin_X5 3 (by decide) fl_X5_29 rfl dX5_back_37 ?_
      refine g_iconst h (v := 0) dX5_back_40 (by decide) ?_
      refine g_putXp h 1 (by decide) (m := 0) fl_X5_97 dX5_back_41 (fun σ1 hσ1 => ?_)
      refine g_aload_n h (q := 0) 0 dX5_back_44 rfl ?_
      refine g_get h 0 0 0 ⟨rfl, rfl⟩ rfl rfl uin_X5 0 (by decide) fl_X5_12 rfl dX5_back_45 ?_
      refine g_get h 1 0 0 (ok_F (by decide)) rfl rfl uin_X0 4 (by decide) fl_X5_81 rfl dX5_back_48 ?_
      refine g_is (nI ((σ.1 (12 + j)).2.1)) (by rw [hσ1]; show nI (τ.1 0).2.1 = _; rw [hf0]) ?_
      exact g_iret h hR dX5_back_51 (rP_of (q := (nI (σ.1 (12 + j)).2.1, σ1)) (by rw [xBack, if_pos hw1, hjc, if_neg c2, hσ1, hτ]; rfl))
    · refine g_bipush h (v := (-2)) dX5_back_20 (by decide) ?_
      exact g_iret h hR dX5_back_22 (rP_of (q := (-2, σ)) (by rw [xBack, if_pos hw1, hjc, if_pos c2]))
  · refine g_iconst h (v := (-1)) dX5_back_9 (by decide) ?_
    exact g_iret h hR dX5_back_10 (rP_of (q := (-1, σ)) (by simp [xBack, bI_0.mp c1]))
def cntX (σ : ST) (k : Nat) : Int32 := match k with
  | 0 => (σ.1 0).1 0
  | 1 => (σ.1 0).1 1
  | 2 => (σ.1 0).1 2
  | 3 => (σ.1 0).1 3
  | 4 => nI (σ.1 0).2.1
  | 5 => (σ.1 0).2.2 7 0
  | 6 => (σ.1 0).2.2 7 1
  | 7 => (σ.1 0).2.2 7 2
  | 8 => (σ.1 0).2.2 7 3
  | 9 => (σ.1 0).2.2 7 4
  | 10 => nI (σ.2.2.1.1 2)
  | _ => nI (σ.2.2.1.1 1)
def xCount (σ : ST) (a : Int32) : Int32 × ST := if wi a 0 11 = true then (cntX σ a.toNatClampNeg, σ) else (-1, σ)
set_option maxHeartbeats 4000000 in
theorem c_X5_count (l : Launch) {E : EnvT} (hE : EOK E) {σ : ST} (a : Int32) : Con l E yX5_count cX5_count 2 (some .int) 0 0 [.ref (ad E 0 0 0), .int a] σ (rP (xCount σ a)) := by
  refine con_intro hE (by decide) (Nat.le_of_ble_eq_true rfl) (fun K hkl h hR => ?_)
  subst hkl
  have h : Cx K E cX5_count 2 RX5 0 0 := h
  show GG K E σ 0 [(0, .ref (ad E 0 0 0)), (1, .int a)] []
  refine g_iload_n h (q := 1) 1 dX5_count_0 rfl ?_
  rcases tab_cases a 12 (by decide) with ⟨kw, hkw, hwe⟩ | hout
  · rcases (show kw = 0 ∨ kw = 1 ∨ kw = 2 ∨ kw = 3 ∨ kw = 4 ∨ kw = 5 ∨ kw = 6 ∨ kw = 7 ∨ kw = 8 ∨ kw = 9 ∨ kw = 10 ∨ kw = 11 by omega) with rfl | rfl | rfl | rfl | rfl | rfl | rfl | rfl | rfl | rfl | rfl | rfl
    · subst hwe
      refine g_tabIn h 64 dX5_count_1 (by decide) (by decide) rfl (by decide) ?_
      refine g_aload_n h (q := 0) 0 dX5_count_64 rfl ?_
      refine g_get h 0 0 0 ⟨rfl, rfl⟩ rfl rfl uin_X5 0 (by decide) fl_X5_12 rfl dX5_count_65 ?_
      refine g_get h 1 0 0 (ok_F (by decide)) rfl rfl uin_X0 0 (by decide) fl_X5_56 rfl dX5_count_68 ?_
      exact g_iret h hR dX5_count_71 (rP_of (q := (cntX σ 0, σ)) (by rw [xCount, if_pos (by decide)]; rfl))
    · subst hwe
      refine g_tabIn h 72 dX5_count_1 (by decide) (by decide) rfl (by decide) ?_
      refine g_aload_n h (q := 0) 0 dX5_count_72 rfl ?_
      refine g_get h 0 0 0 ⟨rfl, rfl⟩ rfl rfl uin_X5 0 (by decide) fl_X5_12 rfl dX5_count_73 ?_
      refine g_get h 1 0 0 (ok_F (by decide)) rfl rfl uin_X0 1 (by decide) fl_X5_60 rfl dX5_count_76 ?_
      exact g_iret h hR dX5_count_79 (rP_of (q := (cntX σ 1, σ)) (by rw [xCount, if_pos (by decide)]; rfl))
    · subst hwe
      refine g_tabIn h 80 dX5_count_1 (by decide) (by decide) rfl (by decide) ?_
      refine g_aload_n h (q := 0) 0 dX5_count_80 rfl ?_
      refine g_get h 0 0 0 ⟨rfl, rfl⟩ rfl rfl uin_X5 0 (by decide) fl_X5_12 rfl dX5_count_81 ?_
      refine g_get h 1 0 0 (ok_F (by decide)) rfl rfl uin_X0 2 (by decide) fl_X5_63 rfl dX5_count_84 ?_
      exact g_iret h hR dX5_count_87 (rP_of (q := (cntX σ 2, σ)) (by rw [xCount, if_pos (by decide)]; rfl))
    · subst hwe
      refine g_tabIn h 88 dX5_count_1 (by decide) (by decide) rfl (by decide) ?_
      refine g_aload_n h (q := 0) 0 dX5_count_88 rfl ?_
      refine g_get h 0 0 0 ⟨rfl, rfl⟩ rfl rfl uin_X5 0 (by decide) fl_X5_12 rfl dX5_count_89 ?_
      refine g_get h 1 0 0 (ok_F (by decide)) rfl rfl uin_X0 3 (by decide) fl_X5_88 rfl dX5_count_92 ?_
      exact g_iret h hR dX5_count_95 (rP_of (q := (cntX σ 3, σ)) (by rw [xCount, if_pos (by decide)]; rfl))
    · subst hwe
      refine g_tabIn h 96 dX5_count_1 (by decide) (by decide) rfl (by decide) ?_
      refine g_aload_n h (q := 0) 0 dX5_count_96 rfl ?_
      refine g_get h 0 0 0 ⟨rfl, rfl⟩ rfl rfl uin_X5 0 (by decide) fl_X5_12 rfl dX5_count_97 ?_
      refine g_get h 1 0 0 (ok_F (by decide)) rfl rfl uin_X0 4 (by decide) fl_X5_81 rfl dX5_count_100 ?_
      exact g_iret h hR dX5_count_103 (rP_of (q := (cntX σ 4, σ)) (by rw [xCount, if_pos (by decide)]; rfl))
    · subst hwe
      refine g_tabIn h 104 dX5_count_1 (by decide) (by decide) rfl (by decide) ?_
      refine g_aload_n h (q := 0) 0 dX5_count_104 rfl ?_
      refine g_get h 0 0 0 ⟨rfl, rfl⟩ rfl rfl uin_X5 0 (by decide) fl_X5_12 rfl dX5_count_105 ?_
      refine g_get h 1 0 0 (ok_F (by decide)) rfl rfl uin_X0 12 (by decide) fl_X5_91 rfl dX5_count_108 ?_
      refine g_iconst h (v := 0) dX5_count_111 (by decide) ?_
      refine g_aldF h 0 7 (by decide) (by decide) (0) (show 0 < 5 by omega) dX5_count_112 ?_
      exact g_iret h hR dX5_count_113 (rP_of (q := (cntX σ 5, σ)) (by rw [xCount, if_pos (by decide)]; rfl))
    · subst hwe
      refine g_tabIn h 114 dX5_count_1 (by decide) (by decide) rfl (by decide) ?_
      refine g_aload_n h (q := 0) 0 dX5_count_114 rfl ?_
      refine g_get h 0 0 0 ⟨rfl, rfl⟩ rfl rfl uin_X5 0 (by decide) fl_X5_12 rfl dX5_count_115 ?_
      refine g_get h 1 0 0 (ok_F (by decide)) rfl rfl uin_X0 12 (by decide) fl_X5_91 rfl dX5_count_118 ?_
      refine g_iconst h (v := 1) dX5_count_121 (by decide) ?_
      refine g_aldF h 0 7 (by decide) (by decide) (1) (show 1 < 5 by omega) dX5_count_122 ?_
      exact g_iret h hR dX5_count_123 (rP_of (q := (cntX σ 6, σ)) (by rw [xCount, if_pos (by decide)]; rfl))
    · subst hwe
      refine g_tabIn h 124 dX5_count_1 (by decide) (by decide) rfl (by decide) ?_
      refine g_aload_n h (q := 0) 0 dX5_count_124 rfl ?_
      refine g_get h 0 0 0 ⟨rfl, rfl⟩ rfl rfl uin_X5 0 (by decide) fl_X5_12 rfl dX5_count_125 ?_
      refine g_get h 1 0 0 (ok_F (by decide)) rfl rfl uin_X0 12 (by decide) fl_X5_91 rfl dX5_count_128 ?_
      refine g_iconst h (v := 2) dX5_count_131 (by decide) ?_
      refine g_aldF h 0 7 (by decide) (by decide) (2) (show 2 < 5 by omega) dX5_count_132 ?_
      exact g_iret h hR dX5_count_133 (rP_of (q := (cntX σ 7, σ)) (by rw [xCount, if_pos (by decide)]; rfl))
    · subst hwe
      refine g_tabIn h 134 dX5_count_1 (by decide) (by decide) rfl (by decide) ?_
      refine g_aload_n h (q := 0) 0 dX5_count_134 rfl ?_
      refine g_get h 0 0 0 ⟨rfl, rfl⟩ rfl rfl uin_X5 0 (by decide) fl_X5_12 rfl dX5_count_135 ?_
      refine g_get h 1 0 0 (ok_F (by decide)) rfl rfl uin_X0 12 (by decide) fl_X5_91 rfl dX5_count_138 ?_
      refine g_iconst h (v := 3) dX5_count_141 (by decide) ?_
      refine g_aldF h 0 7 (by decide) (by decide) (3) (show 3 < 5 by omega) dX5_count_142 ?_
      exact g_iret h hR dX5_count_143 (rP_of (q := (cntX σ 8, σ)) (by rw [xCount, if_pos (by decide)]; rfl))
    · subst hwe
      refine g_tabIn h 144 dX5_count_1 (by decide) (by decide) rfl (by decide) ?_
      refine g_aload_n h (q := 0) 0 dX5_count_144 rfl ?_
      refine g_get h 0 0 0 ⟨rfl, rfl⟩ rfl rfl uin_X5 0 (by decide) fl_X5_12 rfl dX5_count_145 ?_
      refine g_get h 1 0 0 (ok_F (by decide)) rfl rfl uin_X0 12 (by decide) fl_X5_91 rfl dX5_count_148 ?_
      refine g_iconst h (v := 4) dX5_count_151 (by decide) ?_
      refine g_aldF h 0 7 (by decide) (by decide) (4) (show 4 < 5 by omega) dX5_count_152 ?_
      exact g_iret h hR dX5_count_153 (rP_of (q := (cntX σ 9, σ)) (by rw [xCount, if_pos (by decide)]; rfl))
    · subst hwe
      refine g_tabIn h 154 dX5_count_1 (by decide) (by decide) rfl (by decide) ?_
      refine g_aload_n h (q := 0) 0 dX5_count_154 rfl ?_
      refine g_get h 0 0 0 ⟨rfl, rfl⟩ rfl rfl uin_X5 4 (by decide) fl_X5_36 rfl dX5_count_155 ?_
      refine g_get h 8 0 0 ⟨rfl, rfl⟩ rfl rfl uin_X3 2 (by decide) fl_X5_106 rfl dX5_count_158 ?_
      exact g_iret h hR dX5_count_161 (rP_of (q := (cntX σ 10, σ)) (by rw [xCount, if_pos (by decide)]; rfl))
    · subst hwe
      refine g_tabIn h 162 dX5_count_1 (by decide) (by decide) rfl (by decide) ?_
      refine g_aload_n h (q := 0) 0 dX5_count_162 rfl ?_
      refine g_get h 0 0 0 ⟨rfl, rfl⟩ rfl rfl uin_X5 3 (by decide) fl_X5_29 rfl dX5_count_163 ?_
      refine g_get h 6 0 0 ⟨rfl, rfl⟩ rfl rfl uin_X1 2 (by decide) fl_X5_97 rfl dX5_count_166 ?_
      exact g_iret h hR dX5_count_169 (rP_of (q := (cntX σ 11, σ)) (by rw [xCount, if_pos (by decide)]; rfl))
  · refine g_tabOut h 170 dX5_count_1 (by omega) (by decide) ?_
    refine g_iconst h (v := (-1)) dX5_count_170 (by decide) ?_
    exact g_iret h hR dX5_count_171 (rP_of (q := (-1, σ)) (by rw [xCount, if_neg (fun q => by rw [wi_out (n := 12) (by decide) hout] at q; exact absurd q (by decide))]))
