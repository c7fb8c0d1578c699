/-- what is kept of the class's own numbers between calls -/
def XO (σ : ST) : Prop := PK (σ.1 0) ∧ ROK (σ.1 0).2.1 (σ.2.1 0) ∧ (∀ j, j < 14 → (σ.1 j).2.1 ≤ 64 ∧ (σ.2.1 j).2 ≤ 64) ∧ σ.2.2.1.1 0 < 10 ∧ σ.2.2.1.1 1 ≤ 10 ∧ σ.2.2.1.1 2 ≤ 6 ∧ (∀ t, t < σ.2.2.1.1 2 → ∃ s, s ≤ 40 ∧ σ.2.2.1.2 0 t = nI s)
theorem remS_f {σ : ST} {j : Nat} (h : j ≠ 2 + σ.2.2.1.1 0) : (remS σ).1 j = σ.1 j := by
  show (cpS σ (2 + σ.2.2.1.1 0) 0).1 j = _
  show (sF σ (2 + σ.2.2.1.1 0) _).1 j = _
  exact sF_ne h
theorem remS_q {σ : ST} {j : Nat} (h : j ≠ 2 + σ.2.2.1.1 0) : (remS σ).2.1 j = σ.2.1 j := by
  show (cpS σ (2 + σ.2.2.1.1 0) 0).2.1 j = _
  rw [cpS, sR_ne h]; rfl
def xTells (σ : ST) (a b c : Int32) : Int32 × ST :=
  if wi a 1 3 = true ∧ wi b 0 8 = true ∧ wi c 0 24 = true then
    (if (σ.1 0).1 0 = a ∧ (σ.1 0).1 1 = b ∧ (σ.1 0).1 2 = c then (-2, σ)
     else (1, sF (remS σ) 0 (va_up (va_up (va_up (σ.1 0).1 0 a) 1 b) 2 c, (σ.1 0).2)))
  else (-1, σ)
set_option maxHeartbeats 4000000 in
theorem c_X5_tells (l : Launch) {E : EnvT} (hE : EOK E) {σ : ST} (hX : XO σ) (a b c : Int32) : Con l E yX5_tells cX5_tells 4 (some .int) 4 103 [.ref (ad E 0 0 0), .int a, .int b, .int c] σ (rP (xTells σ a b c)) := by
  refine con_intro hE (by decide) (Nat.le_of_ble_eq_true rfl) (fun K hkl h hR => ?_)
  subst hkl
  have h : Cx K E cX5_tells 4 RX5 4 103 := h
  show GG K E σ 0 [(0, .ref (ad E 0 0 0)), (1, .int a), (2, .int b), (3, .int c)] []
  refine g_iload_n h (q := 1) 1 dX5_tells_0 rfl ?_
  refine g_iconst h (v := 1) dX5_tells_1 (by decide) ?_
  refine g_iconst h (v := 3) dX5_tells_2 (by decide) ?_
  refine g_callS h ms_X5_isWithin (As := [.int a, .int 1, .int 3]) (c_X5_isWithin (kl K) hE (σ := σ) a 1 3) ml_X5_52 rfl (by decide) (by decide) rfl (Nat.le_of_ble_eq_true rfl) dX5_tells_3 (fun v σ9 h9 => ?_)
  rw [h9.1, h9.2]; clear h9
  refine g_if_eq h 29 dX5_tells_6 (by decide) (fun c1 => ?_) (fun c1 => ?_)
  · refine g_iconst h (v := (-1)) dX5_tells_29 (by decide) ?_
    exact g_iret h hR dX5_tells_30 (rP_of (q := ((-1), σ)) (by simp [xTells, bI_0.mp c1]))
  · refine g_iload_n h (q := 2) 2 dX5_tells_9 rfl ?_
    refine g_iconst h (v := 0) dX5_tells_10 (by decide) ?_
    refine g_bipush h (v := 8) dX5_tells_11 (by decide) ?_
    refine g_callS h ms_X5_isWithin (As := [.int b, .int 0, .int 8]) (c_X5_isWithin (kl K) hE (σ := σ) b 0 8) ml_X5_52 rfl (by decide) (by decide) rfl (Nat.le_of_ble_eq_true rfl) dX5_tells_13 (fun v σ9 h9 => ?_)
    rw [h9.1, h9.2]; clear h9
    refine g_if_eq h 29 dX5_tells_16 (by decide) (fun c2 => ?_) (fun c2 => ?_)
    · refine g_iconst h (v := (-1)) dX5_tells_29 (by decide) ?_
      exact g_iret h hR dX5_tells_30 (rP_of (q := ((-1), σ)) (by simp [xTells, bI_1.mp c1, bI_0.mp c2]))
    · refine g_iload_n h (q := 3) 3 dX5_tells_19 rfl ?_
      refine g_iconst h (v := 0) dX5_tells_20 (by decide) ?_
      refine g_bipush h (v := 24) dX5_tells_21 (by decide) ?_
      refine g_callS h ms_X5_isWithin (As := [.int c, .int 0, .int 24]) (c_X5_isWithin (kl K) hE (σ := σ) c 0 24) ml_X5_52 rfl (by decide) (by decide) rfl (Nat.le_of_ble_eq_true rfl) dX5_tells_23 (fun v σ9 h9 => ?_)
      rw [h9.1, h9.2]; clear h9
      refine g_if_ne h 31 dX5_tells_26 (by decide) (fun c3 => ?_) (fun c3 => ?_)
      · refine g_aload_n h (q := 0) 0 dX5_tells_31 rfl ?_
        refine g_get h 0 0 0 ⟨rfl, rfl⟩ rfl rfl uin_X5 0 (by decide) fl_X5_12 rfl dX5_tells_32 ?_
        refine g_get h 1 0 0 (ok_F (by decide)) rfl rfl uin_X0 0 (by decide) fl_X5_56 rfl dX5_tells_35 ?_
        refine g_iload_n h (q := 1) 1 dX5_tells_38 rfl ?_
        refine g_icmp_ne h 67 dX5_tells_39 (by decide) (fun c4 => ?_) (fun c4 => ?_)
        · refine g_aload_n h (q := 0) 0 dX5_tells_67 rfl ?_
          refine g_get h 0 0 0 ⟨rfl, rfl⟩ rfl rfl uin_X5 3 (by decide) fl_X5_29 rfl dX5_tells_68 ?_
          refine g_aload_n h (q := 0) 0 dX5_tells_71 rfl ?_
          refine g_get h 0 0 0 ⟨rfl, rfl⟩ rfl rfl uin_X5 0 (by decide) fl_X5_12 rfl dX5_tells_72 ?_
          refine g_callV h mv_X1_remember 6 0 0 ⟨rfl, rfl⟩ rfl rfl (As := [.ref (ad E 1 0 0)]) (c_X1_remember (kl K) hE (σ := σ) hX.2.2.2.1 hX.2.2.2.2.1 hX.1.1 hX.2.1.1) ml_X5_66 rfl (by decide) (by decide) rfl (Nat.le_of_ble_eq_true rfl) dX5_tells_75 (fun v σ9 h9 => ?_)
          rw [h9.1, h9.2]; clear h9
          have hf0 : (remS σ).1 0 = σ.1 0 := remS_f (by omega)
          have hq0 : (remS σ).2.1 0 = σ.2.1 0 := remS_q (by omega)
          obtain ⟨τ, hτ⟩ : ∃ τ, τ = remS σ := ⟨_, rfl⟩
          rw [← hτ] at hf0 hq0 ⊢
          refine g_aload_n h (q := 0) 0 dX5_tells_78 rfl ?_
          refine g_get h 0 0 0 ⟨rfl, rfl⟩ rfl rfl uin_X5 0 (by decide) fl_X5_12 rfl dX5_tells_79 ?_
          refine g_iload_n h (q := 1) 1 dX5_tells_82 rfl ?_
          refine g_putFc h 0 (by decide) 0 (by decide) fl_X5_56 dX5_tells_83 (fun σ1 hσ1 => ?_)
          refine g_aload_n h (q := 0) 0 dX5_tells_86 rfl ?_
          refine g_get h 0 0 0 ⟨rfl, rfl⟩ rfl rfl uin_X5 0 (by decide) fl_X5_12 rfl dX5_tells_87 ?_
          refine g_iload_n h (q := 2) 2 dX5_tells_90 rfl ?_
          refine g_putFc h 0 (by decide) 1 (by decide) fl_X5_60 dX5_tells_91 (fun σ2 hσ2 => ?_)
          refine g_aload_n h (q := 0) 0 dX5_tells_94 rfl ?_
          refine g_get h 0 0 0 ⟨rfl, rfl⟩ rfl rfl uin_X5 0 (by decide) fl_X5_12 rfl dX5_tells_95 ?_
          refine g_iload_n h (q := 3) 3 dX5_tells_98 rfl ?_
          refine g_putFc h 0 (by decide) 2 (by decide) fl_X5_63 dX5_tells_99 (fun σ3 hσ3 => ?_)
          refine g_iconst h (v := 1) dX5_tells_102 (by decide) ?_
          exact g_iret h hR dX5_tells_103 (rP_of (q := (1, σ3)) (by rw [xTells, if_pos ⟨bI_1.mp c1, bI_1.mp c2, bI_1.mp c3⟩, if_neg (by simp [c4])]; rw [hσ3, hσ2, hσ1, ← hτ]; simp only [sF_sF, sF_at, hf0, sF]; simp [bx_uu, up_s]))
        · refine g_aload_n h (q := 0) 0 dX5_tells_42 rfl ?_
          refine g_get h 0 0 0 ⟨rfl, rfl⟩ rfl rfl uin_X5 0 (by decide) fl_X5_12 rfl dX5_tells_43 ?_
          refine g_get h 1 0 0 (ok_F (by decide)) rfl rfl uin_X0 1 (by decide) fl_X5_60 rfl dX5_tells_46 ?_
          refine g_iload_n h (q := 2) 2 dX5_tells_49 rfl ?_
          refine g_icmp_ne h 67 dX5_tells_50 (by decide) (fun c5 => ?_) (fun c5 => ?_)
          · refine g_aload_n h (q := 0) 0 dX5_tells_67 rfl ?_
            refine g_get h 0 0 0 ⟨rfl, rfl⟩ rfl rfl uin_X5 3 (by decide) fl_X5_29 rfl dX5_tells_68 ?_
            refine g_aload_n h (q := 0) 0 dX5_tells_71 rfl ?_
            refine g_get h 0 0 0 ⟨rfl, rfl⟩ rfl rfl uin_X5 0 (by decide) fl_X5_12 rfl dX5_tells_72 ?_
            refine g_callV h mv_X1_remember 6 0 0 ⟨rfl, rfl⟩ rfl rfl (As := [.ref (ad E 1 0 0)]) (c_X1_remember (kl K) hE (σ := σ) hX.2.2.2.1 hX.2.2.2.2.1 hX.1.1 hX.2.1.1) ml_X5_66 rfl (by decide) (by decide) rfl (Nat.le_of_ble_eq_true rfl) dX5_tells_75 (fun v σ9 h9 => ?_)
            rw [h9.1, h9.2]; clear h9
            have hf0 : (remS σ).1 0 = σ.1 0 := remS_f (by omega)
            have hq0 : (remS σ).2.1 0 = σ.2.1 0 := remS_q (by omega)
            obtain ⟨τ, hτ⟩ : ∃ τ, τ = remS σ := ⟨_, rfl⟩
            rw [← hτ] at hf0 hq0 ⊢
            refine g_aload_n h (q := 0) 0 dX5_tells_78 rfl ?_
            refine g_get h 0 0 0 ⟨rfl, rfl⟩ rfl rfl uin_X5 0 (by decide) fl_X5_12 rfl dX5_tells_79 ?_
            refine g_iload_n h (q := 1) 1 dX5_tells_82 rfl ?_
            refine g_putFc h 0 (by decide) 0 (by decide) fl_X5_56 dX5_tells_83 (fun σ4 hσ4 => ?_)
            refine g_aload_n h (q := 0) 0 dX5_tells_86 rfl ?_
            refine g_get h 0 0 0 ⟨rfl, rfl⟩ rfl rfl uin_X5 0 (by decide) fl_X5_12 rfl dX5_tells_87 ?_
            refine g_iload_n h (q := 2) 2 dX5_tells_90 rfl ?_
            refine g_putFc h 0 (by decide) 1 (by decide) fl_X5_60 dX5_tells_91 (fun σ5 hσ5 => ?_)
            refine g_aload_n h (q := 0) 0 dX5_tells_94 rfl ?_
            refine g_get h 0 0 0 ⟨rfl, rfl⟩ rfl rfl uin_X5 0 (by decide) fl_X5_12 rfl dX5_tells_95 ?_
            refine g_iload_n h (q := 3) 3 dX5_tells_98 rfl ?_
            refine g_putFc h 0 (by decide) 2 (by decide) fl_X5_63 dX5_tells_99 (fun σ6 hσ6 => ?_)
            refine g_iconst h (v := 1) dX5_tells_102 (by decide) ?_
            exact g_iret h hR dX5_tells_103 (rP_of (q := (1, σ6)) (by rw [xTells, if_pos ⟨bI_1.mp c1, bI_1.mp c2, bI_1.mp c3⟩, if_neg (by simp [c4, c5])]; rw [hσ6, hσ5, hσ4, ← hτ]; simp only [sF_sF, sF_at, hf0, sF]; simp [bx_uu, up_s]))
          · refine g_aload_n h (q := 0) 0 dX5_tells_53 rfl ?_
            refine g_get h 0 0 0 ⟨rfl, rfl⟩ rfl rfl uin_X5 0 (by decide) fl_X5_12 rfl dX5_tells_54 ?_
            refine g_get h 1 0 0 (ok_F (by decide)) rfl rfl uin_X0 2 (by decide) fl_X5_63 rfl dX5_tells_57 ?_
            refine g_iload_n h (q := 3) 3 dX5_tells_60 rfl ?_
            refine g_icmp_ne h 67 dX5_tells_61 (by decide) (fun c6 => ?_) (fun c6 => ?_)
            · refine g_aload_n h (q := 0) 0 dX5_tells_67 rfl ?_
              refine g_get h 0 0 0 ⟨rfl, rfl⟩ rfl rfl uin_X5 3 (by decide) fl_X5_29 rfl dX5_tells_68 ?_
              refine g_aload_n h (q := 0) 0 dX5_tells_71 rfl ?_
              refine g_get h 0 0 0 ⟨rfl, rfl⟩ rfl rfl uin_X5 0 (by decide) fl_X5_12 rfl dX5_tells_72 ?_
              refine g_callV h mv_X1_remember 6 0 0 ⟨rfl, rfl⟩ rfl rfl (As := [.ref (ad E 1 0 0)]) (c_X1_remember (kl K) hE (σ := σ) hX.2.2.2.1 hX.2.2.2.2.1 hX.1.1 hX.2.1.1) ml_X5_66 rfl (by decide) (by decide) rfl (Nat.le_of_ble_eq_true rfl) dX5_tells_75 (fun v σ9 h9 => ?_)
              rw [h9.1, h9.2]; clear h9
              have hf0 : (remS σ).1 0 = σ.1 0 := remS_f (by omega)
              have hq0 : (remS σ).2.1 0 = σ.2.1 0 := remS_q (by omega)
              obtain ⟨τ, hτ⟩ : ∃ τ, τ = remS σ := ⟨_, rfl⟩
              rw [← hτ] at hf0 hq0 ⊢
              refine g_aload_n h (q := 0) 0 dX5_tells_78 rfl ?_
              refine g_get h 0 0 0 ⟨rfl, rfl⟩ rfl rfl uin_X5 0 (by decide) fl_X5_12 rfl dX5_tells_79 ?_
              refine g_iload_n h (q := 1) 1 dX5_tells_82 rfl ?_
              refine g_putFc h 0 (by decide) 0 (by decide) fl_X5_56 dX5_tells_83 (fun σ7 hσ7 => ?_)
              refine g_aload_n h (q := 0) 0 dX5_tells_86 rfl ?_
              refine g_get h 0 0 0 ⟨rfl, rfl⟩ rfl rfl uin_X5 0 (by decide) fl_X5_12 rfl dX5_tells_87 ?_
              refine g_iload_n h (q := 2) 2 dX5_tells_90 rfl ?_
              refine g_putFc h 0 (by decide) 1 (by decide) fl_X5_60 dX5_tells_91 (fun σ8 hσ8 => ?_)
              refine g_aload_n h (q := 0) 0 dX5_tells_94 rfl ?_
              refine g_get h 0 0 0 ⟨rfl, rfl⟩ rfl rfl uin_X5 0 (by decide) fl_X5_12 rfl dX5_tells_95 ?_
              refine g_iload_n h (q := 3) 3 dX5_tells_98 rfl ?_
              refine g_putFc h 0 (by decide) 2 (by decide) fl_X5_63 dX5_tells_99 (fun σ9 hσ9 => ?_)
              refine g_iconst h (v := 1) dX5_tells_102 (by decide) ?_
              exact g_iret h hR dX5_tells_103 (rP_of (q := (1, σ9)) (by rw [xTells, if_pos ⟨bI_1.mp c1, bI_1.mp c2, bI_1.mp c3⟩, if_neg (by simp [c4, c5, c6])]; rw [hσ9, hσ8, hσ7, ← hτ]; simp only [sF_sF, sF_at, hf0, sF]; simp [bx_uu, up_s]))
            · refine g_bipush h (v := (-2)) dX5_tells_64 (by decide) ?_
              exact g_iret h hR dX5_tells_66 (rP_of (q := ((-2), σ)) (by simp [xTells, bI_1.mp c1, bI_1.mp c2, bI_1.mp c3, c4, c5, c6]))
      · refine g_iconst h (v := (-1)) dX5_tells_29 (by decide) ?_
        exact g_iret h hR dX5_tells_30 (rP_of (q := ((-1), σ)) (by simp [xTells, bI_1.mp c1, bI_1.mp c2, bI_0.mp c3]))
def xPuts (σ : ST) (a b c : Int32) : Int32 × ST :=
  if wi a 0 7 = true ∧ wi b 0 7 = true ∧ wi c 0 3 = true then
    (if fAt (σ.1 0) a = -9 then (if (σ.1 0).2.1 < 64 then (nI (σ.1 0).2.1, sF (remS σ) 0 (adL (σ.1 0) a b c)) else (-3, σ)) else (-2, σ))
  else (-1, σ)
set_option maxHeartbeats 4000000 in
theorem c_X5_puts (l : Launch) {E : EnvT} (hE : EOK E) {σ : ST} (hX : XO σ) (a b c : Int32) : Con l E yX5_puts cX5_puts 4 (some .int) 4 103 [.ref (ad E 0 0 0), .int a, .int b, .int c] σ (rP (xPuts σ a b c)) := by
  refine con_intro hE (by decide) (Nat.le_of_ble_eq_true rfl) (fun K hkl h hR => ?_)
  subst hkl
  have h : Cx K E cX5_puts 4 RX5 4 103 := h
  show GG K E σ 0 [(0, .ref (ad E 0 0 0)), (1, .int a), (2, .int b), (3, .int c)] []
  have hL := hX.1.1
  refine g_iload_n h (q := 1) 1 dX5_puts_0 rfl ?_
  refine g_callS h ms_X5_isLine (As := [.int a]) (c_X5_isLine (kl K) hE (σ := σ) a) ml_X5_70 rfl (by decide) (by decide) rfl (Nat.le_of_ble_eq_true rfl) dX5_puts_1 (fun v σ9 h9 => ?_)
  rw [h9.1, h9.2]; clear h9
  refine g_if_eq h 23 dX5_puts_4 (by decide) (fun c1 => ?_) (fun c1 => ?_)
  · refine g_iconst h (v := (-1)) dX5_puts_23 (by decide) ?_
    exact g_iret h hR dX5_puts_24 (rP_of (q := ((-1), σ)) (by simp [xPuts, bI_0.mp c1]))
  · refine g_iload_n h (q := 2) 2 dX5_puts_7 rfl ?_
    refine g_callS h ms_X5_isAddress (As := [.int b]) (c_X5_isAddress (kl K) hE (σ := σ) b) ml_X5_74 rfl (by decide) (by decide) rfl (Nat.le_of_ble_eq_true rfl) dX5_puts_8 (fun v σ9 h9 => ?_)
    rw [h9.1, h9.2]; clear h9
    refine g_if_eq h 23 dX5_puts_11 (by decide) (fun c2 => ?_) (fun c2 => ?_)
    · refine g_iconst h (v := (-1)) dX5_puts_23 (by decide) ?_
      exact g_iret h hR dX5_puts_24 (rP_of (q := ((-1), σ)) (by simp [xPuts, bI_1.mp c1, bI_0.mp c2]))
    · refine g_iload_n h (q := 3) 3 dX5_puts_14 rfl ?_
      refine g_iconst h (v := 0) dX5_puts_15 (by decide) ?_
      refine g_iconst h (v := 3) dX5_puts_16 (by decide) ?_
      refine g_callS h ms_X5_isWithin (As := [.int c, .int 0, .int 3]) (c_X5_isWithin (kl K) hE (σ := σ) c 0 3) ml_X5_52 rfl (by decide) (by decide) rfl (Nat.le_of_ble_eq_true rfl) dX5_puts_17 (fun v σ9 h9 => ?_)
      rw [h9.1, h9.2]; clear h9
      refine g_if_ne h 25 dX5_puts_20 (by decide) (fun c3 => ?_) (fun c3 => ?_)
      · refine g_aload_n h (q := 0) 0 dX5_puts_25 rfl ?_
        refine g_get h 0 0 0 ⟨rfl, rfl⟩ rfl rfl uin_X5 0 (by decide) fl_X5_12 rfl dX5_puts_26 ?_
        refine g_iload_n h (q := 1) 1 dX5_puts_29 rfl ?_
        refine g_callV h mv_X0_letterAt 1 0 0 (ok_F (by decide)) rfl rfl (As := [.int a]) (c_X0_letterAt (kl K) hE (σ := σ) 0 (by decide) hX.1.1 a) ml_X5_77 rfl (by decide) (by decide) rfl (Nat.le_of_ble_eq_true rfl) dX5_puts_30 (fun v σ9 h9 => ?_)
        rw [h9.1, h9.2]; clear h9
        refine g_bipush h (v := (-9)) dX5_puts_33 (by decide) ?_
        refine g_icmp_eq h 41 dX5_puts_35 (by decide) (fun c4 => ?_) (fun c4 => ?_)
        · refine g_aload_n h (q := 0) 0 dX5_puts_41 rfl ?_
          refine g_get h 0 0 0 ⟨rfl, rfl⟩ rfl rfl uin_X5 0 (by decide) fl_X5_12 rfl dX5_puts_42 ?_
          refine g_get h 1 0 0 (ok_F (by decide)) rfl rfl uin_X0 4 (by decide) fl_X5_81 rfl dX5_puts_45 ?_
          refine g_bipush h (v := 64) dX5_puts_48 (by decide) ?_
          refine g_ncmp_lt h (a := (σ.1 0).2.1) (b := 64) 56 dX5_puts_50 (by decide) (by omega) (by omega) (fun c5 => ?_) (fun c5 => ?_)
          · refine g_aload_n h (q := 0) 0 dX5_puts_56 rfl ?_
            refine g_get h 0 0 0 ⟨rfl, rfl⟩ rfl rfl uin_X5 3 (by decide) fl_X5_29 rfl dX5_puts_57 ?_
            refine g_aload_n h (q := 0) 0 dX5_puts_60 rfl ?_
            refine g_get h 0 0 0 ⟨rfl, rfl⟩ rfl rfl uin_X5 0 (by decide) fl_X5_12 rfl dX5_puts_61 ?_
            refine g_callV h mv_X1_remember 6 0 0 ⟨rfl, rfl⟩ rfl rfl (As := [.ref (ad E 1 0 0)]) (c_X1_remember (kl K) hE (σ := σ) hX.2.2.2.1 hX.2.2.2.2.1 hX.1.1 hX.2.1.1) ml_X5_66 rfl (by decide) (by decide) rfl (Nat.le_of_ble_eq_true rfl) dX5_puts_64 (fun v σ9 h9 => ?_)
            rw [h9.1, h9.2]; clear h9
            have hf0 : (remS σ).1 0 = σ.1 0 := remS_f (by omega)
            have hq0 : (remS σ).2.1 0 = σ.2.1 0 := remS_q (by omega)
            obtain ⟨τ, hτ⟩ : ∃ τ, τ = remS σ := ⟨_, rfl⟩
            rw [← hτ] at hf0 hq0 ⊢
            refine g_aload_n h (q := 0) 0 dX5_puts_67 rfl ?_
            refine g_get h 0 0 0 ⟨rfl, rfl⟩ rfl rfl uin_X5 0 (by decide) fl_X5_12 rfl dX5_puts_68 ?_
            refine g_iload_n h (q := 1) 1 dX5_puts_71 rfl ?_
            refine g_iload_n h (q := 2) 2 dX5_puts_72 rfl ?_
            refine g_iload_n h (q := 3) 3 dX5_puts_73 rfl ?_
            refine g_callV h mv_X0_addLetter 1 0 0 (ok_F (by decide)) rfl rfl (As := [.int a, .int b, .int c]) (c_X0_addLetter (kl K) hE (σ := τ) 0 (by decide) (by rw [hf0]; omega) a b c) ml_X5_84 rfl (by decide) (by decide) rfl (Nat.le_of_ble_eq_true rfl) dX5_puts_74 (fun v σ9 h9 => ?_)
            rw [h9.1, h9.2]; clear h9
            rw [hf0]
            obtain ⟨τ2, hτ2⟩ : ∃ τ2, τ2 = sF τ 0 (adL (σ.1 0) a b c) := ⟨_, rfl⟩
            rw [← hτ2]
            exact g_iret h hR dX5_puts_77 (rP_of (q := (nI (σ.1 0).2.1, τ2)) (by rw [hτ2, hτ]; simp [xPuts, bI_1.mp c1, bI_1.mp c2, bI_1.mp c3, c4, c5]))
          · refine g_bipush h (v := (-3)) dX5_puts_53 (by decide) ?_
            exact g_iret h hR dX5_puts_55 (rP_of (q := (-3, σ)) (by simp [xPuts, bI_1.mp c1, bI_1.mp c2, bI_1.mp c3, c4, c5, Nat.not_lt.mpr c5]))
        · refine g_bipush h (v := (-2)) dX5_puts_38 (by decide) ?_
          exact g_iret h hR dX5_puts_40 (rP_of (q := ((-2), σ)) (by simp [xPuts, bI_1.mp c1, bI_1.mp c2, bI_1.mp c3, c4]))
      · refine g_iconst h (v := (-1)) dX5_puts_23 (by decide) ?_
        exact g_iret h hR dX5_puts_24 (rP_of (q := ((-1), σ)) (by simp [xPuts, bI_1.mp c1, bI_1.mp c2, bI_0.mp c3]))
def xSlot (σ : ST) : Int32 × ST :=
  if (σ.1 0).1 3 < 99 then (((slS (remS σ) 0).1 0).2.2 7 3 - (σ.1 0).2.2 7 3, slS (remS σ) 0) else (-2, σ)
set_option maxHeartbeats 4000000 in
theorem c_X5_slot (l : Launch) {E : EnvT} (hE : EOK E) {σ : ST} (hX : XO σ) : Con l E yX5_slot cX5_slot 2 (some .int) 4 103 [.ref (ad E 0 0 0)] σ (rP (xSlot σ)) := by
  refine con_intro hE (by decide) (Nat.le_of_ble_eq_true rfl) (fun K hkl h hR => ?_)
  subst hkl
  have h : Cx K E cX5_slot 2 RX5 4 103 := h
  show GG K E σ 0 [(0, .ref (ad E 0 0 0))] []
  refine g_aload_n h (q := 0) 0 dX5_slot_0 rfl ?_
  refine g_get h 0 0 0 ⟨rfl, rfl⟩ rfl rfl uin_X5 0 (by decide) fl_X5_12 rfl dX5_slot_1 ?_
  refine g_get h 1 0 0 (ok_F (by decide)) rfl rfl uin_X0 3 (by decide) fl_X5_88 rfl dX5_slot_4 ?_
  refine g_bipush h (v := 99) dX5_slot_7 (by decide) ?_
  refine g_icmp_lt h 15 dX5_slot_9 (by decide) (fun c1 => ?_) (fun c1 => ?_)
  · refine g_aload_n h (q := 0) 0 dX5_slot_15 rfl ?_
    refine g_get h 0 0 0 ⟨rfl, rfl⟩ rfl rfl uin_X5 3 (by decide) fl_X5_29 rfl dX5_slot_16 ?_
    refine g_aload_n h (q := 0) 0 dX5_slot_19 rfl ?_
    refine g_get h 0 0 0 ⟨rfl, rfl⟩ rfl rfl uin_X5 0 (by decide) fl_X5_12 rfl dX5_slot_20 ?_
    refine g_callV h mv_X1_remember 6 0 0 ⟨rfl, rfl⟩ rfl rfl (As := [.ref (ad E 1 0 0)]) (c_X1_remember (kl K) hE (σ := σ) hX.2.2.2.1 hX.2.2.2.2.1 hX.1.1 hX.2.1.1) ml_X5_66 rfl (by decide) (by decide) rfl (Nat.le_of_ble_eq_true rfl) dX5_slot_23 (fun v σ9 h9 => ?_)
    rw [h9.1, h9.2]; clear h9
    have hf0 : (remS σ).1 0 = σ.1 0 := remS_f (by omega)
    have hq0 : (remS σ).2.1 0 = σ.2.1 0 := remS_q (by omega)
    obtain ⟨τ, hτ⟩ : ∃ τ, τ = remS σ := ⟨_, rfl⟩
    rw [← hτ] at hf0 hq0 ⊢
    refine g_aload_n h (q := 0) 0 dX5_slot_26 rfl ?_
    refine g_get h 0 0 0 ⟨rfl, rfl⟩ rfl rfl uin_X5 0 (by decide) fl_X5_12 rfl dX5_slot_27 ?_
    refine g_get h 1 0 0 (ok_F (by decide)) rfl rfl uin_X0 12 (by decide) fl_X5_91 rfl dX5_slot_30 ?_
    refine g_iconst h (v := 3) dX5_slot_33 (by decide) ?_
    refine g_aldF h 0 7 (by decide) (by decide) (3) (show 3 < 5 by omega) dX5_slot_34 ?_
    refine g_is ((σ.1 0).2.2 7 3) (by rw [hf0]) ?_
    refine g_istore_n h (q := 1) [(0, .ref (ad E 0 0 0)), (1, .int ((σ.1 0).2.2 7 3))] dX5_slot_35 (by decide) rfl ?_
    refine g_aload_n h (q := 0) 0 dX5_slot_36 rfl ?_
    refine g_get h 0 0 0 ⟨rfl, rfl⟩ rfl rfl uin_X5 2 (by decide) fl_X5_22 rfl dX5_slot_37 ?_
    refine g_aload_n h (q := 0) 0 dX5_slot_40 rfl ?_
    refine g_get h 0 0 0 ⟨rfl, rfl⟩ rfl rfl uin_X5 0 (by decide) fl_X5_12 rfl dX5_slot_41 ?_
    refine g_callV h mv_X4_passSlot 5 0 0 ⟨rfl, rfl⟩ rfl rfl (As := [.ref (ad E 1 0 0)]) (c_X4_passSlot (kl K) hE (σ := τ) 0 (by decide) (by rw [hf0]; exact hX.1) (by rw [hf0, hq0]; exact hX.2.1)) ml_X5_94 rfl (by decide) (by decide) rfl (Nat.le_of_ble_eq_true rfl) dX5_slot_44 (fun v σ9 h9 => ?_)
    rw [h9.1, h9.2]; clear h9
    obtain ⟨τ2, hτ2⟩ : ∃ τ2, τ2 = slS τ 0 := ⟨_, rfl⟩
    rw [← hτ2]
    refine g_aload_n h (q := 0) 0 dX5_slot_47 rfl ?_
    refine g_get h 0 0 0 ⟨rfl, rfl⟩ rfl rfl uin_X5 0 (by decide) fl_X5_12 rfl dX5_slot_48 ?_
    refine g_get h 1 0 0 (ok_F (by decide)) rfl rfl uin_X0 12 (by decide) fl_X5_91 rfl dX5_slot_51 ?_
    refine g_iconst h (v := 3) dX5_slot_54 (by decide) ?_
    refine g_aldF h 0 7 (by decide) (by decide) (3) (show 3 < 5 by omega) dX5_slot_55 ?_
    refine g_iload_n h (q := 1) 1 dX5_slot_56 rfl ?_
    refine g_isub h dX5_slot_57 ?_
    exact g_iret h hR dX5_slot_58 (rP_of (q := ((τ2.1 0).2.2 7 3 - (σ.1 0).2.2 7 3, τ2)) (by rw [xSlot, if_pos c1, hτ2, hτ]))
  · refine g_bipush h (v := (-2)) dX5_slot_12 (by decide) ?_
    exact g_iret h hR dX5_slot_14 (rP_of (q := (-2, σ)) (by rw [xSlot, if_neg c1]))
def xUndo (σ : ST) : Int32 × ST := if σ.2.2.1.1 1 = 0 then (-2, σ) else (nI (σ.2.2.1.1 1 - 1), givS σ)
set_option maxHeartbeats 4000000 in
theorem c_X5_undo (l : Launch) {E : EnvT} (hE : EOK E) {σ : ST} (hX : XO σ) : Con l E yX5_undo cX5_undo 1 (some .int) 4 103 [.ref (ad E 0 0 0)] σ (rP (xUndo σ)) := by
  refine con_intro hE (by decide) (Nat.le_of_ble_eq_true rfl) (fun K hkl h hR => ?_)
  subst hkl
  have h : Cx K E cX5_undo 1 RX5 4 103 := h
  show GG K E σ 0 [(0, .ref (ad E 0 0 0))] []
  have hk10 := hX.2.2.2.2.1
  have hpl : prv (σ.2.2.1.1 0) < 10 := by have := hX.2.2.2.1; unfold prv; split <;> omega
  refine g_aload_n h (q := 0) 0 dX5_undo_0 rfl ?_
  refine g_get h 0 0 0 ⟨rfl, rfl⟩ rfl rfl uin_X5 3 (by decide) fl_X5_29 rfl dX5_undo_1 ?_
  refine g_get h 6 0 0 ⟨rfl, rfl⟩ rfl rfl uin_X1 2 (by decide) fl_X5_97 rfl dX5_undo_4 ?_
  refine g_nif_ne h (a := σ.2.2.1.1 1) 13 dX5_undo_7 (by decide) (by omega) (fun c1 => ?_) (fun c1 => ?_)
  · refine g_aload_n h (q := 0) 0 dX5_undo_13 rfl ?_
    refine g_get h 0 0 0 ⟨rfl, rfl⟩ rfl rfl uin_X5 3 (by decide) fl_X5_29 rfl dX5_undo_14 ?_
    refine g_aload_n h (q := 0) 0 dX5_undo_17 rfl ?_
    refine g_get h 0 0 0 ⟨rfl, rfl⟩ rfl rfl uin_X5 0 (by decide) fl_X5_12 rfl dX5_undo_18 ?_
    refine g_callV h mv_X1_giveBack 6 0 0 ⟨rfl, rfl⟩ rfl rfl (As := [.ref (ad E 1 0 0)]) (c_X1_giveBack (kl K) hE (σ := σ) hX.2.2.2.1 (by omega) hX.2.2.2.2.1 (hX.2.2.1 _ (by omega)).1 (hX.2.2.1 _ (by omega)).2) ml_X5_100 rfl (by decide) (by decide) rfl (Nat.le_of_ble_eq_true rfl) dX5_undo_21 (fun v σ9 h9 => ?_)
    rw [h9.1, h9.2]; clear h9
    obtain ⟨τ, hτ⟩ : ∃ τ, τ = givS σ := ⟨_, rfl⟩
    rw [← hτ]
    have hk2 : τ.2.2.1.1 1 = σ.2.2.1.1 1 - 1 := by rw [hτ]; simp [givS, sX, va_up]
    refine g_aload_n h (q := 0) 0 dX5_undo_24 rfl ?_
    refine g_get h 0 0 0 ⟨rfl, rfl⟩ rfl rfl uin_X5 3 (by decide) fl_X5_29 rfl dX5_undo_25 ?_
    refine g_get h 6 0 0 ⟨rfl, rfl⟩ rfl rfl uin_X1 2 (by decide) fl_X5_97 rfl dX5_undo_28 ?_
    refine g_is (nI (σ.2.2.1.1 1 - 1)) (by rw [hk2]) ?_
    exact g_iret h hR dX5_undo_31 (rP_of (q := (nI (σ.2.2.1.1 1 - 1), τ)) (by rw [xUndo, if_neg (by omega), hτ]))
  · refine g_bipush h (v := (-2)) dX5_undo_10 (by decide) ?_
    exact g_iret h hR dX5_undo_12 (rP_of (q := (-2, σ)) (by rw [xUndo, if_pos c1]))
def clrA (f : Nat → Nat → Int32) (n : Nat) : Nat → Nat → Int32 := va_up f 2 (fun m => if m < n then 0 else f 2 m)
theorem clrA_0 (f : Nat → Nat → Int32) : f = clrA f 0 := by
  funext v m
  by_cases h : v = 2
  · subst h; simp [clrA, va_up]
  · simp [clrA, va_up, h]
theorem clrA_s (f : Nat → Nat → Int32) (n : Nat) : va_up (clrA f n) 2 (upd (clrA f n 2) n 0) = clrA f (n + 1) := by
  funext v m
  by_cases h : v = 2
  · subst h
    by_cases e : m = n
    · subst e; simp [clrA, va_up, upd]
    · have e2 : (m < n + 1) = (m < n) := by apply propext; omega
      simp [clrA, va_up, upd, e, e2]
  · simp [clrA, va_up, h]
def clrS (σ : ST) : ST := sX (sR (sF σ 0 (bgF (σ.1 0))) 0 ((σ.2.1 0).1, 0)) (va_up (va_up σ.2.2.1.1 1 0) 2 0, clrA σ.2.2.1.2 2)
def xClear (σ : ST) : Int32 × ST := (nI (σ.1 0).2.1, clrS σ)
set_option maxHeartbeats 4000000 in
theorem c_X5_clear (l : Launch) {E : EnvT} (hE : EOK E) {σ : ST}  : Con l E yX5_clear cX5_clear 3 (some .int) 1 21 [.ref (ad E 0 0 0)] σ (rP (xClear σ)) := by
  refine con_intro hE (by decide) (Nat.le_of_ble_eq_true rfl) (fun K hkl h hR => ?_)
  subst hkl
  have h : Cx K E cX5_clear 3 RX5 1 21 := h
  show GG K E σ 0 [(0, .ref (ad E 0 0 0))] []
  refine g_aload_n h (q := 0) 0 dX5_clear_0 rfl ?_
  refine g_get h 0 0 0 ⟨rfl, rfl⟩ rfl rfl uin_X5 0 (by decide) fl_X5_12 rfl dX5_clear_1 ?_
  refine g_get h 1 0 0 (ok_F (by decide)) rfl rfl uin_X0 4 (by decide) fl_X5_81 rfl dX5_clear_4 ?_
  refine g_istore_n h (q := 1) [(0, .ref (ad E 0 0 0)), (1, .int (nI ((σ.1 0).2.1)))] dX5_clear_7 (by decide) rfl ?_
  refine g_aload_n h (q := 0) 0 dX5_clear_8 rfl ?_
  refine g_get h 0 0 0 ⟨rfl, rfl⟩ rfl rfl uin_X5 0 (by decide) fl_X5_12 rfl dX5_clear_9 ?_
  refine g_callV h mv_X0_begin 1 0 0 (ok_F (by decide)) rfl rfl (As := []) (c_X0_begin (kl K) hE (σ := σ) 0 (by decide)) ml_X5_103 rfl (by decide) (by decide) rfl (Nat.le_of_ble_eq_true rfl) dX5_clear_12 (fun v σ9 h9 => ?_)
  rw [h9.1, h9.2]; clear h9
  obtain ⟨τ, hτ⟩ : ∃ τ, τ = sR (sF σ 0 (bgF (σ.1 0))) 0 ((σ.2.1 0).1, 0) := ⟨_, rfl⟩
  rw [← hτ]
  refine g_aload_n h (q := 0) 0 dX5_clear_15 rfl ?_
  refine g_get h 0 0 0 ⟨rfl, rfl⟩ rfl rfl uin_X5 3 (by decide) fl_X5_29 rfl dX5_clear_16 ?_
  refine g_iconst h (v := 0) dX5_clear_19 (by decide) ?_
  refine g_putXp h 1 (by decide) (m := 0) fl_X5_97 dX5_clear_20 (fun σ1 hσ1 => ?_)
  refine g_aload_n h (q := 0) 0 dX5_clear_23 rfl ?_
  refine g_get h 0 0 0 ⟨rfl, rfl⟩ rfl rfl uin_X5 4 (by decide) fl_X5_36 rfl dX5_clear_24 ?_
  refine g_iconst h (v := 0) dX5_clear_27 (by decide) ?_
  refine g_putXs h (m := 0) fl_X5_106 dX5_clear_28 (fun σ2 hσ2 => ?_)
  refine g_iconst h (v := 0) dX5_clear_31 (by decide) ?_
  refine g_istore_n h (q := 2) [(0, .ref (ad E 0 0 0)), (1, .int (nI ((σ.1 0).2.1))), (2, .int 0)] dX5_clear_32 (by decide) rfl ?_
  refine g_iload_n h (q := 2) 2 dX5_clear_33 rfl ?_
  refine g_iconst h (v := 2) dX5_clear_34 (by decide) ?_
  refine g_ncmp_ge h (a := 0) (b := 2) 51 dX5_clear_35 (by decide) (by decide) (by decide) (fun c => ?_) (fun c => ?_)
  · exfalso; omega
  refine g_aload_n h (q := 0) 0 dX5_clear_38 rfl ?_
  refine g_get h 0 0 0 ⟨rfl, rfl⟩ rfl rfl uin_X5 6 (by decide) fl_X5_44 rfl dX5_clear_39 ?_
  refine g_iload_n h (q := 2) 2 dX5_clear_42 rfl ?_
  refine g_iconst h (v := 0) dX5_clear_43 (by decide) ?_
  refine g_astZ h (0) (by omega) (by decide) dX5_clear_44 (fun σ3 hσ3 => ?_)
  refine g_iinc h (q := 2) (v := nI (0 + 1)) 2 [(0, .ref (ad E 0 0 0)), (1, .int (nI ((σ.1 0).2.1))), (2, .int (nI (0 + 1)))] dX5_clear_45 rfl (nI_inc 0 1) (by decide) rfl ?_
  refine g_goto h 33 dX5_clear_48 (by decide) ?_
  refine g_iload_n h (q := 2) 2 dX5_clear_33 rfl ?_
  refine g_iconst h (v := 2) dX5_clear_34 (by decide) ?_
  refine g_ncmp_ge h (a := 0 + 1) (b := 2) 51 dX5_clear_35 (by decide) (by decide) (by decide) (fun c => ?_) (fun c => ?_)
  · exfalso; omega
  refine g_aload_n h (q := 0) 0 dX5_clear_38 rfl ?_
  refine g_get h 0 0 0 ⟨rfl, rfl⟩ rfl rfl uin_X5 6 (by decide) fl_X5_44 rfl dX5_clear_39 ?_
  refine g_iload_n h (q := 2) 2 dX5_clear_42 rfl ?_
  refine g_iconst h (v := 0) dX5_clear_43 (by decide) ?_
  refine g_astZ h (0 + 1) (by omega) (by decide) dX5_clear_44 (fun σ4 hσ4 => ?_)
  refine g_iinc h (q := 2) (v := nI (0 + 1 + 1)) 2 [(0, .ref (ad E 0 0 0)), (1, .int (nI ((σ.1 0).2.1))), (2, .int (nI (0 + 1 + 1)))] dX5_clear_45 rfl (nI_inc (0 + 1) 1) (by decide) rfl ?_
  refine g_goto h 33 dX5_clear_48 (by decide) ?_
  refine g_iload_n h (q := 2) 2 dX5_clear_33 rfl ?_
  refine g_iconst h (v := 2) dX5_clear_34 (by decide) ?_
  refine g_ncmp_ge h (a := 0 + 1 + 1) (b := 2) 51 dX5_clear_35 (by decide) (by decide) (by decide) (fun c => ?_) (fun c => ?_)
  rotate_left
  · exfalso; omega
  refine g_iload_n h (q := 1) 1 dX5_clear_51 rfl ?_
  exact g_iret h hR dX5_clear_52 (rP_of (q := (nI (σ.1 0).2.1, σ4)) (by rw [xClear, clrS, hσ4, hσ3, hσ2, hσ1, hτ, ← clrA_s, ← clrA_s, ← clrA_0]; rfl))
