def tbL (B : RowT) : Nat → Nat → FabT → FabT
  | 0, _, F => F
  | m + 1, t, F => if nI t < F.1 1 then tbL B m (t + 1) (rdL (mvL F (B.1 t) 1) (B.1 t)) else tbL B m (t + 1) (enL F (B.1 t) 4)
set_option maxHeartbeats 4000000 in
theorem l_X4_turnBackBeaten {K : KX} {E : EnvT} (hE : EOK E) (h : Cx K E cX4_turnBackBeaten 4 RX4 2 45) {σ : ST} {post : Option Value → ST → Prop} (hR : Rx K E none post) (i : Nat) (hi : i < 14) (hB : ROK (σ.1 i).2.1 (σ.2.1 15)) : ∀ m t F τ, τ = sF σ i F → t + m = (σ.2.1 15).2 → PK F → F.2.1 = (σ.1 i).2.1 → post none (sF σ i (tbL (σ.2.1 15) m t F)) → GG K E τ 2 [(0, .ref (ad E 5 0 0)), (1, .ref (ad E 1 i 0)), (2, .int (nI t))] [] := by
  have hB1 := hB.1
  intro m
  induction m with
  | zero =>
    intro t F τ ht hm hF hFl hp
    have eB : τ.2.1 15 = σ.2.1 15 := by rw [ht]; rfl
    refine g_iload_n h (q := 2) 2 dX4_turnBackBeaten_2 rfl ?_
    refine g_aload_n h (q := 0) 0 dX4_turnBackBeaten_3 rfl ?_
    refine g_get h 5 0 0 ⟨rfl, rfl⟩ rfl rfl uin_X4 1 (by decide) fl_X4_18 rfl dX4_turnBackBeaten_4 ?_
    refine g_get h 3 15 0 (ok_R (by decide)) rfl rfl uin_X2 1 (by decide) fl_X4_21 rfl dX4_turnBackBeaten_7 ?_
    refine g_is (nI ((σ.2.1 15).2)) (by rw [eB]) ?_
    refine g_ncmp_ge h (a := t) (b := (σ.2.1 15).2) 63 dX4_turnBackBeaten_10 (by decide) (by omega) (by omega) (fun c1 => ?_) (fun c1 => ?_)
    · exact g_vret h hR dX4_turnBackBeaten_63 (by rw [ht]; exact hp)
    · exfalso; omega
  | succ m ih =>
    intro t F τ ht hm hF hFl hp
    have eB : τ.2.1 15 = σ.2.1 15 := by rw [ht]; rfl
    have eF : τ.1 i = F := by rw [ht, sF_at]
    have hnL := hB.2 t (by omega)
    have hF1 := hF.1
    obtain ⟨n, hn⟩ : ∃ n, n = (σ.2.1 15).1 t := ⟨_, rfl⟩
    rw [← hn] at hnL
    have hn64 : n < 64 := by omega
    refine g_iload_n h (q := 2) 2 dX4_turnBackBeaten_2 rfl ?_
    refine g_aload_n h (q := 0) 0 dX4_turnBackBeaten_3 rfl ?_
    refine g_get h 5 0 0 ⟨rfl, rfl⟩ rfl rfl uin_X4 1 (by decide) fl_X4_18 rfl dX4_turnBackBeaten_4 ?_
    refine g_get h 3 15 0 (ok_R (by decide)) rfl rfl uin_X2 1 (by decide) fl_X4_21 rfl dX4_turnBackBeaten_7 ?_
    refine g_is (nI ((σ.2.1 15).2)) (by rw [eB]) ?_
    refine g_ncmp_ge h (a := t) (b := (σ.2.1 15).2) 63 dX4_turnBackBeaten_10 (by decide) (by omega) (by omega) (fun c1 => ?_) (fun c1 => ?_)
    · exfalso; omega
    · refine g_aload_n h (q := 0) 0 dX4_turnBackBeaten_13 rfl ?_
      refine g_get h 5 0 0 ⟨rfl, rfl⟩ rfl rfl uin_X4 1 (by decide) fl_X4_18 rfl dX4_turnBackBeaten_14 ?_
      refine g_get h 3 15 0 (ok_R (by decide)) rfl rfl uin_X2 0 (by decide) fl_X4_55 rfl dX4_turnBackBeaten_17 ?_
      refine g_iload_n h (q := 2) 2 dX4_turnBackBeaten_20 rfl ?_
      refine g_aldR h 15 (by decide) (t) (by omega) dX4_turnBackBeaten_21 ?_
      refine g_is (nI (n)) (by rw [eB, hn]) ?_
      refine g_istore_n h (q := 3) [(0, .ref (ad E 5 0 0)), (1, .ref (ad E 1 i 0)), (2, .int (nI (t))), (3, .int (nI (n)))] dX4_turnBackBeaten_22 (by decide) rfl ?_
      refine g_iload_n h (q := 2) 2 dX4_turnBackBeaten_23 rfl ?_
      refine g_aload_n h (q := 1) 1 dX4_turnBackBeaten_24 rfl ?_
      refine g_get h 1 i 0 (ok_F hi) rfl rfl uin_X0 1 (by decide) fl_X4_78 rfl dX4_turnBackBeaten_25 ?_
      refine g_is (F.1 1) (by rw [eF]) ?_
      refine g_icmp_ge h 50 dX4_turnBackBeaten_28 (by decide) (fun c2 => ?_) (fun c2 => ?_)
      · refine g_aload_n h (q := 0) 0 dX4_turnBackBeaten_50 rfl ?_
        refine g_aload_n h (q := 1) 1 dX4_turnBackBeaten_51 rfl ?_
        refine g_iload_n h (q := 3) 3 dX4_turnBackBeaten_52 rfl ?_
        refine g_iconst h (v := 4) dX4_turnBackBeaten_53 (by decide) ?_
        refine g_callV h mv_X4_endLetter 5 0 0 ⟨rfl, rfl⟩ rfl rfl (As := [.ref (ad E 1 i 0), .int (nI (n)), .int 4]) (c_X4_endLetter (kl K) hE (σ := τ) i hi n 4 hn64 (by decide) (by rw [eF]; exact hF.2 n (by omega))) ml_X4_84 rfl (by decide) (by decide) rfl (Nat.le_of_ble_eq_true rfl) dX4_turnBackBeaten_54 (fun v σ9 h9 => ?_)
        rw [h9.1, h9.2]; clear h9
        rw [eF]
        generalize ht3 : sF τ i (enL F n 4) = τ3
        refine g_iinc h (q := 2) (v := nI (t + 1)) 2 [(0, .ref (ad E 5 0 0)), (1, .ref (ad E 1 i 0)), (2, .int (nI (t + 1))), (3, .int (nI (n)))] dX4_turnBackBeaten_57 rfl (nI_inc t 1) (by decide) rfl ?_
        refine g_goto h 2 dX4_turnBackBeaten_60 (by decide) ?_
        refine g_sub [(0, .ref (ad E 5 0 0)), (1, .ref (ad E 1 i 0)), (2, .int (nI (t + 1)))] [0, 1, 2] rfl ?_
        exact ih (t + 1) (enL F n 4) τ3 (by rw [← ht3, ht, sF_sF]) (by omega) (enL_pk hF n (by decide)) hFl (by rw [tbL, ← hn, if_neg (i_nlt c2)] at hp; exact hp)
      · refine g_aload_n h (q := 1) 1 dX4_turnBackBeaten_31 rfl ?_
        refine g_iload_n h (q := 3) 3 dX4_turnBackBeaten_32 rfl ?_
        refine g_iconst h (v := 1) dX4_turnBackBeaten_33 (by decide) ?_
        refine g_callV h mv_X0_moveLetter 1 i 0 (ok_F hi) rfl rfl (As := [.int (nI (n)), .int 1]) (c_X0_moveLetter (kl K) hE (σ := τ) i hi n 1 hn64 (by decide) (by rw [eF]; exact hF.2 n (by omega))) ml_X4_74 rfl (by decide) (by decide) rfl (Nat.le_of_ble_eq_true rfl) dX4_turnBackBeaten_34 (fun v σ9 h9 => ?_)
        rw [h9.1, h9.2]; clear h9
        rw [eF]
        generalize ht2 : sF τ i (mvL F n 1) = τ2
        have eF2 : τ2.1 i = mvL F n 1 := by rw [← ht2, sF_at]
        refine g_aload_n h (q := 1) 1 dX4_turnBackBeaten_37 rfl ?_
        refine g_get h 1 i 0 (ok_F hi) rfl rfl uin_X0 11 (by decide) fl_X4_81 rfl dX4_turnBackBeaten_38 ?_
        refine g_iload_n h (q := 3) 3 dX4_turnBackBeaten_41 rfl ?_
        refine g_dup2 h dX4_turnBackBeaten_42 rfl rfl ?_
        refine g_aldF h i 6 hi (by decide) (n) (show n < 64 by omega) dX4_turnBackBeaten_43 ?_
        refine g_iconst h (v := 1) dX4_turnBackBeaten_44 (by decide) ?_
        refine g_iadd h dX4_turnBackBeaten_45 ?_
        refine g_astF h i 6 hi (by decide) (n) (show n < 64 by omega) dX4_turnBackBeaten_46 (fun σ1 hσ1 => ?_)
        refine g_goto h 57 dX4_turnBackBeaten_47 (by decide) ?_
        refine g_iinc h (q := 2) (v := nI (t + 1)) 2 [(0, .ref (ad E 5 0 0)), (1, .ref (ad E 1 i 0)), (2, .int (nI (t + 1))), (3, .int (nI (n)))] dX4_turnBackBeaten_57 rfl (nI_inc t 1) (by decide) rfl ?_
        refine g_goto h 2 dX4_turnBackBeaten_60 (by decide) ?_
        refine g_sub [(0, .ref (ad E 5 0 0)), (1, .ref (ad E 1 i 0)), (2, .int (nI (t + 1)))] [0, 1, 2] rfl ?_
        exact ih (t + 1) (rdL (mvL F n 1) n) σ1 (by rw [hσ1, eF2, ← ht2, ht, sF_sF, sF_sF]; rfl) (by omega) (rdL_pk (mvL_pk hF n (by decide)) n) hFl (by rw [tbL, ← hn, if_pos (i_lt c2)] at hp; exact hp)
set_option maxHeartbeats 4000000 in
theorem c_X4_turnBackBeaten (l : Launch) {E : EnvT} (hE : EOK E) {σ : ST} (i : Nat) (hi : i < 14) (hF : PK (σ.1 i)) (hB : ROK (σ.1 i).2.1 (σ.2.1 15)) : Con l E yX4_turnBackBeaten cX4_turnBackBeaten 4 none 2 45 [.ref (ad E 5 0 0), .ref (ad E 1 i 0)] σ (rV (sF σ i (tbL (σ.2.1 15) (σ.2.1 15).2 0 (σ.1 i)))) := by
  refine con_intro hE (by decide) (Nat.le_of_ble_eq_true rfl) (fun K hkl h hR => ?_)
  subst hkl
  have h : Cx K E cX4_turnBackBeaten 4 RX4 2 45 := h
  show GG K E σ 0 [(0, .ref (ad E 5 0 0)), (1, .ref (ad E 1 i 0))] []
  refine g_iconst h (v := 0) dX4_turnBackBeaten_0 (by decide) ?_
  refine g_istore_n h (q := 2) [(0, .ref (ad E 5 0 0)), (1, .ref (ad E 1 i 0)), (2, .int 0)] dX4_turnBackBeaten_1 (by decide) rfl ?_
  exact l_X4_turnBackBeaten (σ := σ) hE h hR i hi hB _ 0 (σ.1 i) σ (by simp [sF, up_id]) (Nat.zero_add _) hF rfl ⟨rfl, rfl⟩
def foL : Nat → Nat → Int32 → Nat → FabT → (Nat → Nat) → FabT × (Nat → Nat) × Nat
  | 0, _, _, l, F, g => (F, g, l)
  | m + 1, t, sv, l, F, g =>
    if sv &&& ((1 : Int32) <<< (F.2.2 2 (g t) &&& 31)) = 0 then foL m (t + 1) (sv ||| ((1 : Int32) <<< (F.2.2 2 (g t) &&& 31))) l (enL F (g t) 3) g
    else foL m (t + 1) sv (l + 1) F (va_up g l (g t))
def sQ (σ : ST) (i : Nat) (F : FabT) (Q : RowT) : ST := sR (sF σ i F) i Q
theorem sQ_F {σ : ST} {i : Nat} {F F' : FabT} {Q : RowT} : sF (sQ σ i F Q) i F' = sQ σ i F' Q := by simp [sQ, sF, sR, bx_uu]
theorem sQ_Q {σ : ST} {i : Nat} {F : FabT} {Q Q' : RowT} : sR (sQ σ i F Q) i Q' = sQ σ i F Q' := by simp [sQ, sR, bx_uu]
theorem sQ_f {σ : ST} {i : Nat} {F : FabT} {Q : RowT} : (sQ σ i F Q).1 i = F := by simp [sQ, sF, sR, up_s]
theorem sQ_q {σ : ST} {i : Nat} {F : FabT} {Q : RowT} : (sQ σ i F Q).2.1 i = Q := by simp [sQ, sR, up_s]
set_option maxHeartbeats 4000000 in
theorem l_X4_letFirstsOut {K : KX} {E : EnvT} (hE : EOK E) (h : Cx K E cX4_letFirstsOut 8 RX4 2 45) {σ : ST} {post : Option Value → ST → Prop} (hR : Rx K E none post) (i : Nat) (hi : i < 14) (L z : Nat) (hL : L ≤ 64) (hz : z ≤ 64) : ∀ m t sv l F g τ, τ = sQ σ i F (g, z) → t + m = z → l ≤ t → PK F → F.2.1 = L → (∀ q, t ≤ q → q < z → g q < L) → post none (sQ σ i (foL m t sv l F g).1 (foL m t sv l F g).2) → GG K E τ 13 [(0, .ref (ad E 5 0 0)), (1, .ref (ad E 1 i 0)), (2, .ref (ad E 3 i 0)), (3, .int sv), (4, .int (nI l)), (5, .int (nI t))] [] := by
  intro m
  induction m with
  | zero =>
    intro t sv l F g τ ht hm hlt hF hFl hg hp
    have eQ : τ.2.1 i = (g, z) := by rw [ht, sQ_q]
    refine g_iload h (q := 5) 5 dX4_letFirstsOut_13 rfl ?_
    refine g_aload_n h (q := 2) 2 dX4_letFirstsOut_15 rfl ?_
    refine g_get h 3 i 0 (ok_R (by omega)) rfl rfl uin_X2 1 (by decide) fl_X4_21 rfl dX4_letFirstsOut_16 ?_
    refine g_is (nI (z)) (by rw [eQ]) ?_
    refine g_ncmp_ge h (a := t) (b := z) 83 dX4_letFirstsOut_19 (by decide) (by omega) (by omega) (fun c1 => ?_) (fun c1 => ?_)
    · refine g_aload_n h (q := 2) 2 dX4_letFirstsOut_83 rfl ?_
      refine g_iload h (q := 4) 4 dX4_letFirstsOut_84 rfl ?_
      refine g_putRs h i (by omega) (m := l) fl_X4_21 dX4_letFirstsOut_86 (fun σ2 hσ2 => ?_)
      exact g_vret h hR dX4_letFirstsOut_89 (by rw [hσ2, eQ, ht, sQ_Q]; exact hp)
    · exfalso; omega
  | succ m ih =>
    intro t sv l F g τ ht hm hlt hF hFl hg hp
    have eQ : τ.2.1 i = (g, z) := by rw [ht, sQ_q]
    have eF : τ.1 i = F := by rw [ht, sQ_f]
    have hnL := hg t (Nat.le_refl _) (by omega)
    obtain ⟨n, hn⟩ : ∃ n, n = g t := ⟨_, rfl⟩
    rw [← hn] at hnL
    have hn64 : n < 64 := by omega
    refine g_iload h (q := 5) 5 dX4_letFirstsOut_13 rfl ?_
    refine g_aload_n h (q := 2) 2 dX4_letFirstsOut_15 rfl ?_
    refine g_get h 3 i 0 (ok_R (by omega)) rfl rfl uin_X2 1 (by decide) fl_X4_21 rfl dX4_letFirstsOut_16 ?_
    refine g_is (nI (z)) (by rw [eQ]) ?_
    refine g_ncmp_ge h (a := t) (b := z) 83 dX4_letFirstsOut_19 (by decide) (by omega) (by omega) (fun c1 => ?_) (fun c1 => ?_)
    · exfalso; omega
    · refine g_aload_n h (q := 2) 2 dX4_letFirstsOut_22 rfl ?_
      refine g_get h 3 i 0 (ok_R (by omega)) rfl rfl uin_X2 0 (by decide) fl_X4_55 rfl dX4_letFirstsOut_23 ?_
      refine g_iload h (q := 5) 5 dX4_letFirstsOut_26 rfl ?_
      refine g_aldR h i (by omega) (t) (by omega) dX4_letFirstsOut_28 ?_
      refine g_is (nI (n)) (by rw [eQ, hn]) ?_
      refine g_istore h (q := 6) [(0, .ref (ad E 5 0 0)), (1, .ref (ad E 1 i 0)), (2, .ref (ad E 3 i 0)), (3, .int sv), (4, .int (nI (l))), (5, .int (nI (t))), (6, .int (nI (n)))] dX4_letFirstsOut_29 (by decide) rfl ?_
      refine g_iconst h (v := 1) dX4_letFirstsOut_31 (by decide) ?_
      refine g_aload_n h (q := 1) 1 dX4_letFirstsOut_32 rfl ?_
      refine g_get h 1 i 0 (ok_F hi) rfl rfl uin_X0 7 (by decide) fl_X4_58 rfl dX4_letFirstsOut_33 ?_
      refine g_iload h (q := 6) 6 dX4_letFirstsOut_36 rfl ?_
      refine g_aldF h i 2 hi (by decide) (n) (show n < 64 by omega) dX4_letFirstsOut_38 ?_
      refine g_is (F.2.2 2 n) (by rw [eF]) ?_
      refine g_ishl h dX4_letFirstsOut_39 ?_
      refine g_istore h (q := 7) [(0, .ref (ad E 5 0 0)), (1, .ref (ad E 1 i 0)), (2, .ref (ad E 3 i 0)), (3, .int sv), (4, .int (nI (l))), (5, .int (nI (t))), (6, .int (nI (n))), (7, .int (1 <<< ((F.2.2 2 n) &&& 31)))] dX4_letFirstsOut_40 (by decide) rfl ?_
      refine g_iload_n h (q := 3) 3 dX4_letFirstsOut_42 rfl ?_
      refine g_iload h (q := 7) 7 dX4_letFirstsOut_43 rfl ?_
      refine g_iand h dX4_letFirstsOut_45 ?_
      refine g_if_ne h 65 dX4_letFirstsOut_46 (by decide) (fun c2 => ?_) (fun c2 => ?_)
      · refine g_aload_n h (q := 2) 2 dX4_letFirstsOut_65 rfl ?_
        refine g_get h 3 i 0 (ok_R (by omega)) rfl rfl uin_X2 0 (by decide) fl_X4_55 rfl dX4_letFirstsOut_66 ?_
        refine g_iload h (q := 4) 4 dX4_letFirstsOut_69 rfl ?_
        refine g_iload h (q := 6) 6 dX4_letFirstsOut_71 rfl ?_
        refine g_astR h i (by omega) (l) (by omega) (m := n) dX4_letFirstsOut_73 (fun σ1 hσ1 => ?_)
        refine g_iinc h (q := 4) (v := nI (l + 1)) 4 [(0, .ref (ad E 5 0 0)), (1, .ref (ad E 1 i 0)), (2, .ref (ad E 3 i 0)), (3, .int sv), (4, .int (nI (l + 1))), (5, .int (nI (t))), (6, .int (nI (n))), (7, .int (1 <<< ((F.2.2 2 n) &&& 31)))] dX4_letFirstsOut_74 rfl (nI_inc l 1) (by decide) rfl ?_
        refine g_iinc h (q := 5) (v := nI (t + 1)) 5 [(0, .ref (ad E 5 0 0)), (1, .ref (ad E 1 i 0)), (2, .ref (ad E 3 i 0)), (3, .int sv), (4, .int (nI (l + 1))), (5, .int (nI (t + 1))), (6, .int (nI (n))), (7, .int (1 <<< ((F.2.2 2 n) &&& 31)))] dX4_letFirstsOut_77 rfl (nI_inc t 1) (by decide) rfl ?_
        refine g_goto h 13 dX4_letFirstsOut_80 (by decide) ?_
        refine g_sub [(0, .ref (ad E 5 0 0)), (1, .ref (ad E 1 i 0)), (2, .ref (ad E 3 i 0)), (3, .int sv), (4, .int (nI (l + 1))), (5, .int (nI (t + 1)))] [0, 1, 2, 3, 4, 5] rfl ?_
        exact ih (t + 1) sv (l + 1) F (va_up g l n) σ1 (by rw [hσ1, eQ, ht, sQ_Q]) (by omega) (by omega) hF hFl (fun q h1 h2 => by rw [up_n (by omega)]; exact hg q (by omega) h2) (by rw [foL, ← hn, if_neg c2] at hp; exact hp)
      · refine g_iload_n h (q := 3) 3 dX4_letFirstsOut_49 rfl ?_
        refine g_iload h (q := 7) 7 dX4_letFirstsOut_50 rfl ?_
        refine g_ior h dX4_letFirstsOut_52 ?_
        refine g_istore_n h (q := 3) [(0, .ref (ad E 5 0 0)), (1, .ref (ad E 1 i 0)), (2, .ref (ad E 3 i 0)), (3, .int (sv ||| (1 <<< ((F.2.2 2 n) &&& 31)))), (4, .int (nI (l))), (5, .int (nI (t))), (6, .int (nI (n))), (7, .int (1 <<< ((F.2.2 2 n) &&& 31)))] dX4_letFirstsOut_53 (by decide) rfl ?_
        refine g_aload_n h (q := 0) 0 dX4_letFirstsOut_54 rfl ?_
        refine g_aload_n h (q := 1) 1 dX4_letFirstsOut_55 rfl ?_
        refine g_iload h (q := 6) 6 dX4_letFirstsOut_56 rfl ?_
        refine g_iconst h (v := 3) dX4_letFirstsOut_58 (by decide) ?_
        refine g_callV h mv_X4_endLetter 5 0 0 ⟨rfl, rfl⟩ rfl rfl (As := [.ref (ad E 1 i 0), .int (nI (n)), .int 3]) (c_X4_endLetter (kl K) hE (σ := τ) i hi n 3 hn64 (by decide) (by rw [eF]; exact hF.2 n (by omega))) ml_X4_84 rfl (by decide) (by decide) rfl (Nat.le_of_ble_eq_true rfl) dX4_letFirstsOut_59 (fun v σ9 h9 => ?_)
        rw [h9.1, h9.2]; clear h9
        rw [eF]
        generalize ht2 : sF τ i (enL F n 3) = τ2
        refine g_goto h 77 dX4_letFirstsOut_62 (by decide) ?_
        refine g_iinc h (q := 5) (v := nI (t + 1)) 5 [(0, .ref (ad E 5 0 0)), (1, .ref (ad E 1 i 0)), (2, .ref (ad E 3 i 0)), (3, .int (sv ||| (1 <<< ((F.2.2 2 n) &&& 31)))), (4, .int (nI (l))), (5, .int (nI (t + 1))), (6, .int (nI (n))), (7, .int (1 <<< ((F.2.2 2 n) &&& 31)))] dX4_letFirstsOut_77 rfl (nI_inc t 1) (by decide) rfl ?_
        refine g_goto h 13 dX4_letFirstsOut_80 (by decide) ?_
        refine g_sub [(0, .ref (ad E 5 0 0)), (1, .ref (ad E 1 i 0)), (2, .ref (ad E 3 i 0)), (3, .int (sv ||| (1 <<< ((F.2.2 2 n) &&& 31)))), (4, .int (nI (l))), (5, .int (nI (t + 1)))] [0, 1, 2, 3, 4, 5] rfl ?_
        exact ih (t + 1) _ l (enL F n 3) g τ2 (by rw [← ht2, ht, sQ_F]) (by omega) (by omega) (enL_pk hF n (by decide)) hFl (fun q h1 h2 => hg q (by omega) h2) (by rw [foL, ← hn, if_pos c2] at hp; exact hp)
set_option maxHeartbeats 4000000 in
theorem c_X4_letFirstsOut (l : Launch) {E : EnvT} (hE : EOK E) {σ : ST} (i : Nat) (hi : i < 14) (hF : PK (σ.1 i)) (hQ : ROK (σ.1 i).2.1 (σ.2.1 i)) : Con l E yX4_letFirstsOut cX4_letFirstsOut 8 none 2 45 [.ref (ad E 5 0 0), .ref (ad E 1 i 0)] σ (rV (sQ σ i (foL (σ.2.1 i).2 0 0 0 (σ.1 i) (σ.2.1 i).1).1 (foL (σ.2.1 i).2 0 0 0 (σ.1 i) (σ.2.1 i).1).2)) := by
  refine con_intro hE (by decide) (Nat.le_of_ble_eq_true rfl) (fun K hkl h hR => ?_)
  subst hkl
  have h : Cx K E cX4_letFirstsOut 8 RX4 2 45 := h
  show GG K E σ 0 [(0, .ref (ad E 5 0 0)), (1, .ref (ad E 1 i 0))] []
  refine g_aload_n h (q := 1) 1 dX4_letFirstsOut_0 rfl ?_
  refine g_get h 1 i 0 (ok_F hi) rfl rfl uin_X0 13 (by decide) fl_X4_64 rfl dX4_letFirstsOut_1 ?_
  refine g_astore_n h (q := 2) [(0, .ref (ad E 5 0 0)), (1, .ref (ad E 1 i 0)), (2, .ref (ad E 3 i 0))] dX4_letFirstsOut_4 (by decide) rfl ?_
  refine g_iconst h (v := 0) dX4_letFirstsOut_5 (by decide) ?_
  refine g_istore_n h (q := 3) [(0, .ref (ad E 5 0 0)), (1, .ref (ad E 1 i 0)), (2, .ref (ad E 3 i 0)), (3, .int 0)] dX4_letFirstsOut_6 (by decide) rfl ?_
  refine g_iconst h (v := 0) dX4_letFirstsOut_7 (by decide) ?_
  refine g_istore h (q := 4) [(0, .ref (ad E 5 0 0)), (1, .ref (ad E 1 i 0)), (2, .ref (ad E 3 i 0)), (3, .int 0), (4, .int 0)] dX4_letFirstsOut_8 (by decide) rfl ?_
  refine g_iconst h (v := 0) dX4_letFirstsOut_10 (by decide) ?_
  refine g_istore h (q := 5) [(0, .ref (ad E 5 0 0)), (1, .ref (ad E 1 i 0)), (2, .ref (ad E 3 i 0)), (3, .int 0), (4, .int 0), (5, .int 0)] dX4_letFirstsOut_11 (by decide) rfl ?_
  exact l_X4_letFirstsOut (σ := σ) hE h hR i hi (σ.1 i).2.1 (σ.2.1 i).2 hF.1 hQ.1 _ 0 0 0 (σ.1 i) (σ.2.1 i).1 σ (by simp [sQ, sF, sR, up_id]) (Nat.zero_add _) (Nat.le_refl _) hF rfl (fun q _ h2 => hQ.2 q h2) ⟨rfl, rfl⟩
theorem rAdd_ok {b : Nat} {Q : RowT} (h : ROK b Q) {x : Nat} (hx : x < b) : ROK b (rAdd Q x) := by
  unfold rAdd
  by_cases e : Q.2 < 64
  · rw [if_pos e]
    refine ⟨e, fun t ht => ?_⟩
    have ht : t < Q.2 + 1 := ht
    show va_up Q.1 Q.2 x t < b
    by_cases e2 : t = Q.2
    · rw [e2, up_s]; exact hx
    · rw [up_n e2]; exact h.2 t (by omega)
  · rw [if_neg e]; exact h
theorem lwL_ok (W : RowT) (L : Nat) (hW : ROK L W) (hL : L ≤ 64) : ∀ (m t : Nat) (a : Int32) (s : Nat) (F : FabT) (Q B : RowT), t + m = W.2 → PK F → F.2.1 = L → ROK L Q → ROK L B → PK (lwL W m t a s F Q B).1 ∧ (lwL W m t a s F Q B).1.2.1 = L ∧ ROK L (lwL W m t a s F Q B).2.1 ∧ ROK L (lwL W m t a s F Q B).2.2 := by
  intro m
  induction m with
  | zero => intro t a s F Q B _ hF hFl hQ hB; exact ⟨hF, hFl, hQ, hB⟩
  | succ m ih =>
    intro t a s F Q B ht hF hFl hQ hB
    have hn := hW.2 t (by omega)
    by_cases hc : nI (if F.2.2 2 (W.1 t) = a then s + 1 else 0) < F.1 0 ∧ nI Q.2 < F.1 2
    · rw [lwL, if_pos hc]
      exact ih (t + 1) _ _ (mvL F (W.1 t) 2) _ _ (by omega) (mvL_pk hF _ (by decide)) hFl (rAdd_ok hQ hn) hB
    · rw [lwL, if_neg hc]
      exact ih (t + 1) _ _ _ _ _ (by omega) hF hFl hQ (rIns_ok hB hn)
theorem tbL_ok (B : RowT) : ∀ (m t : Nat) (F : FabT), PK F → PK (tbL B m t F) ∧ (tbL B m t F).2.1 = F.2.1 := by
  intro m
  induction m with
  | zero => intro t F hF; exact ⟨hF, rfl⟩
  | succ m ih =>
    intro t F hF
    rw [tbL]
    split
    · exact ih (t + 1) _ (rdL_pk (mvL_pk hF _ (by decide)) _)
    · exact ih (t + 1) _ (enL_pk hF _ (by decide))
/-- a slot of the class: the fabric, its queue, the rows waiting and beaten behind it -/
def slW (F : FabT) (W : RowT) : RowT := sortW F W
def slL (F : FabT) (Q W B : RowT) : FabT × RowT × RowT := lwL (sortW F W) (sortW F W).2 0 (-9) 0 F Q (B.1, 0)
def slT (F : FabT) (Q W B : RowT) : FabT := tbL (slL F Q W B).2.2 (slL F Q W B).2.2.2 0 (slL F Q W B).1
def slO (F : FabT) (Q W B : RowT) : FabT × (Nat → Nat) × Nat := foL (slL F Q W B).2.1.2 0 0 0 (slT F Q W B) (slL F Q W B).2.1.1
def slF (F : FabT) (Q W B : RowT) : FabT := (va_up (slO F Q W B).1.1 3 ((slO F Q W B).1.1 3 + 1), (slO F Q W B).1.2)
def slS (σ : ST) (i : Nat) : ST := sR (sR (sQ σ i (slF (σ.1 i) (σ.2.1 i) (σ.2.1 14) (σ.2.1 15)) (slO (σ.1 i) (σ.2.1 i) (σ.2.1 14) (σ.2.1 15)).2) 14 (slW (σ.1 i) (σ.2.1 14))) 15 (slL (σ.1 i) (σ.2.1 i) (σ.2.1 14) (σ.2.1 15)).2.2
set_option maxHeartbeats 4000000 in
theorem c_X4_passSlot (l : Launch) {E : EnvT} (hE : EOK E) {σ : ST} (i : Nat) (hi : i < 14) (hF : PK (σ.1 i)) (hQ : ROK (σ.1 i).2.1 (σ.2.1 i)) : Con l E yX4_passSlot cX4_passSlot 2 none 3 72 [.ref (ad E 5 0 0), .ref (ad E 1 i 0)] σ (rV (slS σ i)) := by
  refine con_intro hE (by decide) (Nat.le_of_ble_eq_true rfl) (fun K hkl h hR => ?_)
  subst hkl
  have h : Cx K E cX4_passSlot 2 RX4 3 72 := h
  show GG K E σ 0 [(0, .ref (ad E 5 0 0)), (1, .ref (ad E 1 i 0))] []
  have hW := sortW_ok (F := σ.1 i) (w := σ.2.1 14) hF.1
  have hK1 := lwL_ok (sortW (σ.1 i) (σ.2.1 14)) (σ.1 i).2.1 hW hF.1 (sortW (σ.1 i) (σ.2.1 14)).2 0 (-9) 0 (σ.1 i) (σ.2.1 i) ((σ.2.1 15).1, 0) (Nat.zero_add _) hF rfl hQ ⟨Nat.zero_le _, fun t q => absurd q (Nat.not_lt_zero t)⟩
  have hK2 := tbL_ok (slL (σ.1 i) (σ.2.1 i) (σ.2.1 14) (σ.2.1 15)).2.2 (slL (σ.1 i) (σ.2.1 i) (σ.2.1 14) (σ.2.1 15)).2.2.2 0 (slL (σ.1 i) (σ.2.1 i) (σ.2.1 14) (σ.2.1 15)).1 hK1.1
  have h14 : (sR σ 14 (sortW (σ.1 i) (σ.2.1 14))).2.1 14 = sortW (σ.1 i) (σ.2.1 14) := sR_at
  have h15 : (sR σ 14 (sortW (σ.1 i) (σ.2.1 14))).2.1 15 = σ.2.1 15 := sR_ne (by decide)
  have h1i : (sR σ 14 (sortW (σ.1 i) (σ.2.1 14))).2.1 i = σ.2.1 i := sR_ne (by omega)
  have h1f : (sR σ 14 (sortW (σ.1 i) (σ.2.1 14))).1 i = σ.1 i := rfl
  refine g_aload_n h (q := 0) 0 dX4_passSlot_0 rfl ?_
  refine g_aload_n h (q := 1) 1 dX4_passSlot_1 rfl ?_
  refine g_callV h mv_X4_sortWaiting 5 0 0 ⟨rfl, rfl⟩ rfl rfl (As := [.ref (ad E 1 i 0)]) (c_X4_sortWaiting (kl K) hE (σ := σ) i hi hF.1) ml_X4_38 rfl (by decide) (by decide) rfl (Nat.le_of_ble_eq_true rfl) dX4_passSlot_2 (fun v σ9 h9 => ?_)
  rw [h9.1, h9.2]; clear h9
  generalize ht1 : sR σ 14 (sortW (σ.1 i) (σ.2.1 14)) = τ1 at h14 h15 h1i h1f ⊢
  refine g_pop h dX4_passSlot_5 rfl ?_
  refine g_aload_n h (q := 0) 0 dX4_passSlot_6 rfl ?_
  refine g_aload_n h (q := 1) 1 dX4_passSlot_7 rfl ?_
  refine g_callV h mv_X4_letWinnersIn 5 0 0 ⟨rfl, rfl⟩ rfl rfl (As := [.ref (ad E 1 i 0)]) (c_X4_letWinnersIn (kl K) hE (σ := τ1) i hi (by rw [h1f]; exact hF) (by rw [h1f, h14]; exact hW) (by rw [h1i]; exact hQ.1)) ml_X4_42 rfl (by decide) (by decide) rfl (Nat.le_of_ble_eq_true rfl) dX4_passSlot_8 (fun v σ9 h9 => ?_)
  rw [h9.1, h9.2]; clear h9
  rw [h14, h15, h1i, h1f]
  rw [show lwL (sortW (σ.1 i) (σ.2.1 14)) (sortW (σ.1 i) (σ.2.1 14)).2 0 (-9) 0 (σ.1 i) (σ.2.1 i) ((σ.2.1 15).1, 0) = slL (σ.1 i) (σ.2.1 i) (σ.2.1 14) (σ.2.1 15) from rfl]
  obtain ⟨D, hD⟩ : ∃ D, D = slL (σ.1 i) (σ.2.1 i) (σ.2.1 14) (σ.2.1 15) := ⟨_, rfl⟩
  rw [← hD]
  have hK1 : PK D.1 ∧ D.1.2.1 = (σ.1 i).2.1 ∧ ROK (σ.1 i).2.1 D.2.1 ∧ ROK (σ.1 i).2.1 D.2.2 := by rw [hD]; exact hK1
  rw [← hD] at hK2
  generalize ht2 : sW τ1 i D.1 D.2.1 D.2.2 = τ2
  have h2f : τ2.1 i = D.1 := by rw [← ht2, sW_f]
  have h2b : τ2.2.1 15 = D.2.2 := by rw [← ht2, sW_b]
  have h2q : τ2.2.1 i = D.2.1 := by rw [← ht2, sW_q hi]
  refine g_aload_n h (q := 0) 0 dX4_passSlot_11 rfl ?_
  refine g_aload_n h (q := 1) 1 dX4_passSlot_12 rfl ?_
  refine g_callV h mv_X4_turnBackBeaten 5 0 0 ⟨rfl, rfl⟩ rfl rfl (As := [.ref (ad E 1 i 0)]) (c_X4_turnBackBeaten (kl K) hE (σ := τ2) i hi (by rw [h2f]; exact hK1.1) (by rw [h2f, h2b, hK1.2.1]; exact hK1.2.2.2)) ml_X4_46 rfl (by decide) (by decide) rfl (Nat.le_of_ble_eq_true rfl) dX4_passSlot_13 (fun v σ9 h9 => ?_)
  rw [h9.1, h9.2]; clear h9
  rw [h2f, h2b]
  generalize ht3 : sF τ2 i (tbL D.2.2 D.2.2.2 0 D.1) = τ3
  have h3f : τ3.1 i = tbL D.2.2 D.2.2.2 0 D.1 := by rw [← ht3, sF_at]
  have h3q : τ3.2.1 i = D.2.1 := by rw [← ht3, ← h2q]; rfl
  refine g_aload_n h (q := 0) 0 dX4_passSlot_16 rfl ?_
  refine g_aload_n h (q := 1) 1 dX4_passSlot_17 rfl ?_
  refine g_callV h mv_X4_letFirstsOut 5 0 0 ⟨rfl, rfl⟩ rfl rfl (As := [.ref (ad E 1 i 0)]) (c_X4_letFirstsOut (kl K) hE (σ := τ3) i hi (by rw [h3f]; exact hK2.1) (by rw [h3f, h3q, hK2.2, hK1.2.1]; exact hK1.2.2.1)) ml_X4_49 rfl (by decide) (by decide) rfl (Nat.le_of_ble_eq_true rfl) dX4_passSlot_18 (fun v σ9 h9 => ?_)
  rw [h9.1, h9.2]; clear h9
  rw [h3f, h3q]
  obtain ⟨O, hO⟩ : ∃ O, O = foL D.2.1.2 0 0 0 (tbL D.2.2 D.2.2.2 0 D.1) D.2.1.1 := ⟨_, rfl⟩
  rw [← hO]
  generalize ht4 : sQ τ3 i O.1 O.2 = τ4
  have h4f : τ4.1 i = O.1 := by rw [← ht4, sQ_f]
  refine g_aload_n h (q := 1) 1 dX4_passSlot_21 rfl ?_
  refine g_dup h dX4_passSlot_22 rfl ?_
  refine g_get h 1 i 0 (ok_F hi) rfl rfl uin_X0 3 (by decide) fl_X4_52 rfl dX4_passSlot_23 ?_
  refine g_is (O.1.1 3) (by rw [h4f]) ?_
  refine g_iconst h (v := 1) dX4_passSlot_26 (by decide) ?_
  refine g_iadd h dX4_passSlot_27 ?_
  refine g_putFc h i hi 3 (by decide) fl_X4_52 dX4_passSlot_28 (fun σ1 hσ1 => ?_)
  exact g_vret h hR dX4_passSlot_31 (show rV _ _ _ from ⟨rfl, by
    have eO : slO (σ.1 i) (σ.2.1 i) (σ.2.1 14) (σ.2.1 15) = O := by rw [hO, hD]; rfl
    have eF : slF (σ.1 i) (σ.2.1 i) (σ.2.1 14) (σ.2.1 15) = (va_up O.1.1 3 (O.1.1 3 + 1), O.1.2) := by rw [slF, eO]
    rw [slS, eO, eF, ← hD, hσ1, h4f, ← ht4, sQ_F, ← ht3, ← ht2, ← ht1]
    simp only [sQ, sF, sR, sW, slW, bx_uu]
    have e1 : ∀ (R : Nat → RowT) (a b c d : RowT), va_up (va_up (va_up (va_up R 14 a) i b) 15 c) i d = va_up (va_up (va_up R i d) 14 a) 15 c := by
      intro R a b c d
      rw [up_cm (show 15 ≠ i by omega), bx_uu, up_cm (show 14 ≠ i by omega)]
    rw [e1]⟩)
