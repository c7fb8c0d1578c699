theorem findN_cases (p : Nat → Bool) : ∀ (m k : Nat), findN p m k = -9 ∨ ∃ j, k ≤ j ∧ j < k + m ∧ p j = true ∧ findN p m k = nI j := by
  intro m
  induction m with
  | zero => intro k; exact Or.inl rfl
  | succ m ih =>
    intro k
    by_cases h : p k = true
    · exact Or.inr ⟨k, Nat.le_refl _, by omega, h, by simp [findN, h]⟩
    · rcases ih (k + 1) with e | ⟨j, h1, h2, h3, h4⟩
      · exact Or.inl (by simp [findN, h, e])
      · exact Or.inr ⟨j, by omega, by omega, h3, by simp [findN, h, h4]⟩
theorem fAt_nat {F : FabT} {a : Int32} (h : ¬ fAt F a = -9) : ∃ j, j < F.2.1 ∧ fAt F a = nI j := by
  rcases findN_cases (pAt F a) F.2.1 0 with e | ⟨j, _, h2, _, h4⟩
  · exact absurd e h
  · exact ⟨j, by omega, h4⟩
/-- the net: where the letters of the lines are before a stage -/
def enN (F : FabT) (np : Nat → Int32) (n : Nat) : Nat → Int32 := fun t => if t < n then (if fAt F (nI t) = -9 then -9 else nI t) else np t
theorem enN_s (F : FabT) (np : Nat → Int32) (n : Nat) : upd (enN F np n) n (if fAt F (nI n) = -9 then -9 else nI n) = enN F np (n + 1) := by
  funext t
  by_cases e : t = n
  · subst e; simp [enN, upd]
  · have e2 : (t < n + 1) = (t < n) := by apply propext; omega
    simp [enN, upd, e, e2]
def sN (σ : ST) (g : Nat → Int32) : ST := sX σ (σ.2.2.1.1, va_up σ.2.2.1.2 3 g)
theorem sN_sN {σ : ST} {a b : Nat → Int32} : sN (sN σ a) b = sN σ b := by simp [sN, sX, bx_uu]
theorem sN_at {σ : ST} {a : Nat → Int32} : (sN σ a).2.2.1.2 3 = a := by simp [sN, sX, up_s]
theorem sN_id {σ : ST} : sN σ (σ.2.2.1.2 3) = σ := by simp [sN, sX, up_id]
set_option maxHeartbeats 4000000 in
theorem l_X5_enterNet {K : KX} {E : EnvT} (hE : EOK E) (h : Cx K E cX5_enterNet 2 RX5 1 22) {σ : ST} {post : Option Value → ST → Prop} (hR : Rx K E none post) (hL : (σ.1 0).2.1 ≤ 64) : ∀ m t τ, t + m = 8 → τ = sN σ (enN (σ.1 0) (σ.2.2.1.2 3) t) → post none (sN σ (enN (σ.1 0) (σ.2.2.1.2 3) 8)) → GG K E τ 2 [(0, .ref (ad E 0 0 0)), (1, .int (nI t))] [] := by
  intro m
  induction m with
  | zero =>
    intro t τ hm ht hp
    have h8 : t = 8 := by omega
    subst h8
    refine g_iload_n h (q := 1) 1 dX5_enterNet_2 rfl ?_
    refine g_bipush h (v := 8) dX5_enterNet_3 (by decide) ?_
    refine g_ncmp_ge h (a := 8) (b := 8) 39 dX5_enterNet_5 (by decide) (by omega) (by omega) (fun c1 => ?_) (fun c1 => ?_)
    · exact g_vret h hR dX5_enterNet_39 (by rw [ht]; exact hp)
    · exfalso; omega
  | succ m ih =>
    intro t τ hm ht hp
    have ef : τ.1 0 = σ.1 0 := by rw [ht]; rfl
    have en : τ.2.2.1.2 3 = enN (σ.1 0) (σ.2.2.1.2 3) t := by rw [ht, sN_at]
    refine g_iload_n h (q := 1) 1 dX5_enterNet_2 rfl ?_
    refine g_bipush h (v := 8) dX5_enterNet_3 (by decide) ?_
    refine g_ncmp_ge h (a := t) (b := 8) 39 dX5_enterNet_5 (by decide) (by omega) (by omega) (fun c1 => ?_) (fun c1 => ?_)
    · exfalso; omega
    · refine g_aload_n h (q := 0) 0 dX5_enterNet_8 rfl ?_
      refine g_get h 0 0 0 ⟨rfl, rfl⟩ rfl rfl uin_X5 7 (by decide) fl_X5_48 rfl dX5_enterNet_9 ?_
      refine g_iload_n h (q := 1) 1 dX5_enterNet_12 rfl ?_
      refine g_aload_n h (q := 0) 0 dX5_enterNet_13 rfl ?_
      refine g_get h 0 0 0 ⟨rfl, rfl⟩ rfl rfl uin_X5 0 (by decide) fl_X5_12 rfl dX5_enterNet_14 ?_
      refine g_iload_n h (q := 1) 1 dX5_enterNet_17 rfl ?_
      refine g_callV h mv_X0_letterAt 1 0 0 (ok_F (by decide)) rfl rfl (As := [.int (nI (t))]) (c_X0_letterAt (kl K) hE (σ := τ) 0 (by decide) (by rw [ef]; exact hL) (nI t)) ml_X5_77 rfl (by decide) (by decide) rfl (Nat.le_of_ble_eq_true rfl) dX5_enterNet_18 (fun v σ9 h9 => ?_)
      rw [h9.1, h9.2]; clear h9
      rw [ef]
      refine g_bipush h (v := (-9)) dX5_enterNet_21 (by decide) ?_
      refine g_icmp_ne h 31 dX5_enterNet_23 (by decide) (fun c2 => ?_) (fun c2 => ?_)
      · refine g_iload_n h (q := 1) 1 dX5_enterNet_31 rfl ?_
        refine g_astX h 3 (by decide) (by decide) (t) (show t < 8 by omega) dX5_enterNet_32 (fun σ1 hσ1 => ?_)
        refine g_iinc h (q := 1) (v := nI (t + 1)) 1 [(0, .ref (ad E 0 0 0)), (1, .int (nI (t + 1)))] dX5_enterNet_33 rfl (nI_inc t 1) (by decide) rfl ?_
        refine g_goto h 2 dX5_enterNet_36 (by decide) ?_
        exact ih (t + 1) σ1 (by omega) (by rw [hσ1, en, ht]; rw [← enN_s, if_neg c2]; exact sN_sN) hp
      · refine g_bipush h (v := (-9)) dX5_enterNet_26 (by decide) ?_
        refine g_goto h 32 dX5_enterNet_28 (by decide) ?_
        refine g_astX h 3 (by decide) (by decide) (t) (show t < 8 by omega) dX5_enterNet_32 (fun σ2 hσ2 => ?_)
        refine g_iinc h (q := 1) (v := nI (t + 1)) 1 [(0, .ref (ad E 0 0 0)), (1, .int (nI (t + 1)))] dX5_enterNet_33 rfl (nI_inc t 1) (by decide) rfl ?_
        refine g_goto h 2 dX5_enterNet_36 (by decide) ?_
        exact ih (t + 1) σ2 (by omega) (by rw [hσ2, en, ht]; rw [← enN_s, if_pos c2]; exact sN_sN) hp
set_option maxHeartbeats 4000000 in
theorem c_X5_enterNet (l : Launch) {E : EnvT} (hE : EOK E) {σ : ST} (hL : (σ.1 0).2.1 ≤ 64) : Con l E yX5_enterNet cX5_enterNet 2 none 1 22 [.ref (ad E 0 0 0)] σ (rV (sN σ (enN (σ.1 0) (σ.2.2.1.2 3) 8))) := by
  refine con_intro hE (by decide) (Nat.le_of_ble_eq_true rfl) (fun K hkl h hR => ?_)
  subst hkl
  have h : Cx K E cX5_enterNet 2 RX5 1 22 := h
  show GG K E σ 0 [(0, .ref (ad E 0 0 0))] []
  refine g_iconst h (v := 0) dX5_enterNet_0 (by decide) ?_
  refine g_istore_n h (q := 1) [(0, .ref (ad E 0 0 0)), (1, .int 0)] dX5_enterNet_1 (by decide) rfl ?_
  exact l_X5_enterNet (σ := σ) hE h hR hL 8 0 σ rfl (by rw [show enN (σ.1 0) (σ.2.2.1.2 3) 0 = σ.2.2.1.2 3 from by funext q; simp [enN], sN_id]) ⟨rfl, rfl⟩
def plc (F : FabT) (bit : Int32) (np : Nat → Int32) (t : Nat) : Int32 := (np t &&& (bit ^^^ (-1))) ||| (F.2.2 2 (fAt F (nI t)).toNatClampNeg &&& bit)
def psL (F : FabT) (bit : Int32) : Nat → Nat → Int32 → (Nat → Int32) → Nat → Int32
  | 0, _, _, np => np
  | m + 1, t, tk, np =>
    if fAt F (nI t) = -9 ∨ np t = -9 then psL F bit m (t + 1) tk np
    else psL F bit m (t + 1) (tk ||| ((1 : Int32) <<< (plc F bit np t &&& 31))) (upd np t (if tk &&& ((1 : Int32) <<< (plc F bit np t &&& 31)) = 0 then plc F bit np t else -9))
set_option maxHeartbeats 4000000 in
theorem l_X5_passStage {K : KX} {E : EnvT} (hE : EOK E) (h : Cx K E cX5_passStage 8 RX5 1 22) {σ : ST} {post : Option Value → ST → Prop} (hR : Rx K E none post) (hL : (σ.1 0).2.1 ≤ 64) (s : Nat) (bit : Int32) : ∀ m t tk np τ, t + m = 8 → τ = sN σ np → post none (sN σ (psL (σ.1 0) bit m t tk np)) → GG K E τ 11 [(0, .ref (ad E 0 0 0)), (1, .int (nI s)), (2, .int bit), (3, .int tk), (4, .int (nI t))] [] := by
  intro m
  induction m with
  | zero =>
    intro t tk np τ hm ht hp
    refine g_iload h (q := 4) 4 dX5_passStage_11 rfl ?_
    refine g_bipush h (v := 8) dX5_passStage_13 (by decide) ?_
    refine g_ncmp_ge h (a := t) (b := 8) 125 dX5_passStage_15 (by decide) (by omega) (by omega) (fun c1 => ?_) (fun c1 => ?_)
    · exact g_vret h hR dX5_passStage_125 (by rw [ht]; exact hp)
    · exfalso; omega
  | succ m ih =>
    intro t tk np τ hm ht hp
    have ef : τ.1 0 = σ.1 0 := by rw [ht]; rfl
    have en : τ.2.2.1.2 3 = np := by rw [ht, sN_at]
    refine g_iload h (q := 4) 4 dX5_passStage_11 rfl ?_
    refine g_bipush h (v := 8) dX5_passStage_13 (by decide) ?_
    refine g_ncmp_ge h (a := t) (b := 8) 125 dX5_passStage_15 (by decide) (by omega) (by omega) (fun c1 => ?_) (fun c1 => ?_)
    · exfalso; omega
    · refine g_aload_n h (q := 0) 0 dX5_passStage_18 rfl ?_
      refine g_get h 0 0 0 ⟨rfl, rfl⟩ rfl rfl uin_X5 0 (by decide) fl_X5_12 rfl dX5_passStage_19 ?_
      refine g_iload h (q := 4) 4 dX5_passStage_22 rfl ?_
      refine g_callV h mv_X0_letterAt 1 0 0 (ok_F (by decide)) rfl rfl (As := [.int (nI (t))]) (c_X0_letterAt (kl K) hE (σ := τ) 0 (by decide) (by rw [ef]; exact hL) (nI t)) ml_X5_77 rfl (by decide) (by decide) rfl (Nat.le_of_ble_eq_true rfl) dX5_passStage_24 (fun v σ9 h9 => ?_)
      rw [h9.1, h9.2]; clear h9
      rw [ef]
      refine g_istore h (q := 5) [(0, .ref (ad E 0 0 0)), (1, .int (nI (s))), (2, .int bit), (3, .int tk), (4, .int (nI (t))), (5, .int (fAt (σ.1 0) (nI t)))] dX5_passStage_27 (by decide) rfl ?_
      refine g_iload h (q := 5) 5 dX5_passStage_29 rfl ?_
      refine g_bipush h (v := (-9)) dX5_passStage_31 (by decide) ?_
      refine g_icmp_eq h 119 dX5_passStage_33 (by decide) (fun c2 => ?_) (fun c2 => ?_)
      · refine g_iinc h (q := 4) (v := nI (t + 1)) 4 [(0, .ref (ad E 0 0 0)), (1, .int (nI (s))), (2, .int bit), (3, .int tk), (4, .int (nI (t + 1))), (5, .int (fAt (σ.1 0) (nI t)))] dX5_passStage_119 rfl (nI_inc t 1) (by decide) rfl ?_
        refine g_goto h 11 dX5_passStage_122 (by decide) ?_
        refine g_sub [(0, .ref (ad E 0 0 0)), (1, .int (nI (s))), (2, .int bit), (3, .int tk), (4, .int (nI (t + 1)))] [0, 1, 2, 3, 4] rfl ?_
        exact ih (t + 1) tk np τ (by omega) ht (by rw [psL, if_pos (by simp [c2])] at hp; exact hp)
      · refine g_aload_n h (q := 0) 0 dX5_passStage_36 rfl ?_
        refine g_get h 0 0 0 ⟨rfl, rfl⟩ rfl rfl uin_X5 7 (by decide) fl_X5_48 rfl dX5_passStage_37 ?_
        refine g_iload h (q := 4) 4 dX5_passStage_40 rfl ?_
        refine g_aldX h 3 (by decide) (by decide) (t) (show t < 8 by omega) dX5_passStage_42 ?_
        refine g_is (np t) (by rw [en]) ?_
        refine g_bipush h (v := (-9)) dX5_passStage_43 (by decide) ?_
        refine g_icmp_ne h 51 dX5_passStage_45 (by decide) (fun c3 => ?_) (fun c3 => ?_)
        · refine g_aload_n h (q := 0) 0 dX5_passStage_51 rfl ?_
          refine g_get h 0 0 0 ⟨rfl, rfl⟩ rfl rfl uin_X5 7 (by decide) fl_X5_48 rfl dX5_passStage_52 ?_
          refine g_iload h (q := 4) 4 dX5_passStage_55 rfl ?_
          refine g_aldX h 3 (by decide) (by decide) (t) (show t < 8 by omega) dX5_passStage_57 ?_
          refine g_is (np t) (by rw [en]) ?_
          refine g_iload_n h (q := 2) 2 dX5_passStage_58 rfl ?_
          refine g_iconst h (v := (-1)) dX5_passStage_59 (by decide) ?_
          refine g_ixor h dX5_passStage_60 ?_
          refine g_iand h dX5_passStage_61 ?_
          refine g_aload_n h (q := 0) 0 dX5_passStage_62 rfl ?_
          refine g_get h 0 0 0 ⟨rfl, rfl⟩ rfl rfl uin_X5 0 (by decide) fl_X5_12 rfl dX5_passStage_63 ?_
          refine g_get h 1 0 0 (ok_F (by decide)) rfl rfl uin_X0 7 (by decide) fl_X5_115 rfl dX5_passStage_66 ?_
          obtain ⟨j, hj, hje⟩ := fAt_nat c2
          refine g_iload h (q := 5) 5 dX5_passStage_69 rfl ?_
          refine g_is (nI j) hje ?_
          refine g_aldF h 0 2 (by decide) (by decide) (j) (show j < 64 by omega) dX5_passStage_71 ?_
          refine g_is ((σ.1 0).2.2 2 j) (by rw [ef]) ?_
          refine g_iload_n h (q := 2) 2 dX5_passStage_72 rfl ?_
          refine g_iand h dX5_passStage_73 ?_
          refine g_ior h dX5_passStage_74 ?_
          refine g_istore h (q := 6) [(0, .ref (ad E 0 0 0)), (1, .int (nI (s))), (2, .int bit), (3, .int tk), (4, .int (nI (t))), (5, .int (fAt (σ.1 0) (nI t))), (6, .int (((np t) &&& (bit ^^^ ((-1)))) ||| (((σ.1 0).2.2 2 j) &&& bit)))] dX5_passStage_75 (by decide) rfl ?_
          refine g_iload_n h (q := 3) 3 dX5_passStage_77 rfl ?_
          refine g_iconst h (v := 1) dX5_passStage_78 (by decide) ?_
          refine g_iload h (q := 6) 6 dX5_passStage_79 rfl ?_
          refine g_ishl h dX5_passStage_81 ?_
          refine g_iand h dX5_passStage_82 ?_
          refine g_if_eq h 90 dX5_passStage_83 (by decide) (fun c4 => ?_) (fun c4 => ?_)
          · refine g_iconst h (v := 0) dX5_passStage_90 (by decide) ?_
            refine g_istore h (q := 7) [(0, .ref (ad E 0 0 0)), (1, .int (nI (s))), (2, .int bit), (3, .int tk), (4, .int (nI (t))), (5, .int (fAt (σ.1 0) (nI t))), (6, .int (((np t) &&& (bit ^^^ ((-1)))) ||| (((σ.1 0).2.2 2 j) &&& bit))), (7, .int 0)] dX5_passStage_91 (by decide) rfl ?_
            refine g_aload_n h (q := 0) 0 dX5_passStage_93 rfl ?_
            refine g_get h 0 0 0 ⟨rfl, rfl⟩ rfl rfl uin_X5 7 (by decide) fl_X5_48 rfl dX5_passStage_94 ?_
            refine g_iload h (q := 4) 4 dX5_passStage_97 rfl ?_
            refine g_iload h (q := 7) 7 dX5_passStage_99 rfl ?_
            refine g_if_eq h 109 dX5_passStage_101 (by decide) (fun _ => ?_) (fun c => absurd rfl c)
            refine g_iload h (q := 6) 6 dX5_passStage_109 rfl ?_
            refine g_astX h 3 (by decide) (by decide) (t) (show t < 8 by omega) dX5_passStage_111 (fun σ1 hσ1 => ?_)
            refine g_iload_n h (q := 3) 3 dX5_passStage_112 rfl ?_
            refine g_iconst h (v := 1) dX5_passStage_113 (by decide) ?_
            refine g_iload h (q := 6) 6 dX5_passStage_114 rfl ?_
            refine g_ishl h dX5_passStage_116 ?_
            refine g_ior h dX5_passStage_117 ?_
            refine g_istore_n h (q := 3) [(0, .ref (ad E 0 0 0)), (1, .int (nI (s))), (2, .int bit), (3, .int (tk ||| (1 <<< ((((np t) &&& (bit ^^^ ((-1)))) ||| (((σ.1 0).2.2 2 j) &&& bit)) &&& 31)))), (4, .int (nI (t))), (5, .int (fAt (σ.1 0) (nI t))), (6, .int (((np t) &&& (bit ^^^ ((-1)))) ||| (((σ.1 0).2.2 2 j) &&& bit))), (7, .int 0)] dX5_passStage_118 (by decide) rfl ?_
            refine g_iinc h (q := 4) (v := nI (t + 1)) 4 [(0, .ref (ad E 0 0 0)), (1, .int (nI (s))), (2, .int bit), (3, .int (tk ||| (1 <<< ((((np t) &&& (bit ^^^ ((-1)))) ||| (((σ.1 0).2.2 2 j) &&& bit)) &&& 31)))), (4, .int (nI (t + 1))), (5, .int (fAt (σ.1 0) (nI t))), (6, .int (((np t) &&& (bit ^^^ ((-1)))) ||| (((σ.1 0).2.2 2 j) &&& bit))), (7, .int 0)] dX5_passStage_119 rfl (nI_inc t 1) (by decide) rfl ?_
            refine g_goto h 11 dX5_passStage_122 (by decide) ?_
            refine g_sub [(0, .ref (ad E 0 0 0)), (1, .int (nI (s))), (2, .int bit), (3, .int (tk ||| (1 <<< ((((np t) &&& (bit ^^^ ((-1)))) ||| (((σ.1 0).2.2 2 j) &&& bit)) &&& 31)))), (4, .int (nI (t + 1)))] [0, 1, 2, 3, 4] rfl ?_
            have hpl : plc (σ.1 0) bit np t = (np t &&& (bit ^^^ (-1))) ||| ((σ.1 0).2.2 2 j &&& bit) := by rw [plc, hje, nI_clamp (by omega)]
            refine ih (t + 1) _ _ σ1 (by omega) (by rw [hσ1, en, ht]; exact sN_sN) ?_
            rw [psL, if_neg (by rintro (q | q); exact c2 q; exact c3 q), hpl, if_pos c4] at hp
            exact hp
          · refine g_iconst h (v := 1) dX5_passStage_86 (by decide) ?_
            refine g_goto h 91 dX5_passStage_87 (by decide) ?_
            refine g_istore h (q := 7) [(0, .ref (ad E 0 0 0)), (1, .int (nI (s))), (2, .int bit), (3, .int tk), (4, .int (nI (t))), (5, .int (fAt (σ.1 0) (nI t))), (6, .int (((np t) &&& (bit ^^^ ((-1)))) ||| (((σ.1 0).2.2 2 j) &&& bit))), (7, .int 1)] dX5_passStage_91 (by decide) rfl ?_
            refine g_aload_n h (q := 0) 0 dX5_passStage_93 rfl ?_
            refine g_get h 0 0 0 ⟨rfl, rfl⟩ rfl rfl uin_X5 7 (by decide) fl_X5_48 rfl dX5_passStage_94 ?_
            refine g_iload h (q := 4) 4 dX5_passStage_97 rfl ?_
            refine g_iload h (q := 7) 7 dX5_passStage_99 rfl ?_
            refine g_if_eq h 109 dX5_passStage_101 (by decide) (fun c => absurd c (by decide)) (fun _ => ?_)
            refine g_bipush h (v := (-9)) dX5_passStage_104 (by decide) ?_
            refine g_goto h 111 dX5_passStage_106 (by decide) ?_
            refine g_astX h 3 (by decide) (by decide) (t) (show t < 8 by omega) dX5_passStage_111 (fun σ2 hσ2 => ?_)
            refine g_iload_n h (q := 3) 3 dX5_passStage_112 rfl ?_
            refine g_iconst h (v := 1) dX5_passStage_113 (by decide) ?_
            refine g_iload h (q := 6) 6 dX5_passStage_114 rfl ?_
            refine g_ishl h dX5_passStage_116 ?_
            refine g_ior h dX5_passStage_117 ?_
            refine g_istore_n h (q := 3) [(0, .ref (ad E 0 0 0)), (1, .int (nI (s))), (2, .int bit), (3, .int (tk ||| (1 <<< ((((np t) &&& (bit ^^^ ((-1)))) ||| (((σ.1 0).2.2 2 j) &&& bit)) &&& 31)))), (4, .int (nI (t))), (5, .int (fAt (σ.1 0) (nI t))), (6, .int (((np t) &&& (bit ^^^ ((-1)))) ||| (((σ.1 0).2.2 2 j) &&& bit))), (7, .int 1)] dX5_passStage_118 (by decide) rfl ?_
            refine g_iinc h (q := 4) (v := nI (t + 1)) 4 [(0, .ref (ad E 0 0 0)), (1, .int (nI (s))), (2, .int bit), (3, .int (tk ||| (1 <<< ((((np t) &&& (bit ^^^ ((-1)))) ||| (((σ.1 0).2.2 2 j) &&& bit)) &&& 31)))), (4, .int (nI (t + 1))), (5, .int (fAt (σ.1 0) (nI t))), (6, .int (((np t) &&& (bit ^^^ ((-1)))) ||| (((σ.1 0).2.2 2 j) &&& bit))), (7, .int 1)] dX5_passStage_119 rfl (nI_inc t 1) (by decide) rfl ?_
            refine g_goto h 11 dX5_passStage_122 (by decide) ?_
            refine g_sub [(0, .ref (ad E 0 0 0)), (1, .int (nI (s))), (2, .int bit), (3, .int (tk ||| (1 <<< ((((np t) &&& (bit ^^^ ((-1)))) ||| (((σ.1 0).2.2 2 j) &&& bit)) &&& 31)))), (4, .int (nI (t + 1)))] [0, 1, 2, 3, 4] rfl ?_
            have hpl : plc (σ.1 0) bit np t = (np t &&& (bit ^^^ (-1))) ||| ((σ.1 0).2.2 2 j &&& bit) := by rw [plc, hje, nI_clamp (by omega)]
            refine ih (t + 1) _ _ σ2 (by omega) (by rw [hσ2, en, ht]; exact sN_sN) ?_
            rw [psL, if_neg (by rintro (q | q); exact c2 q; exact c3 q), hpl, if_neg c4] at hp
            exact hp
        · refine g_goto h 119 dX5_passStage_48 (by decide) ?_
          refine g_iinc h (q := 4) (v := nI (t + 1)) 4 [(0, .ref (ad E 0 0 0)), (1, .int (nI (s))), (2, .int bit), (3, .int tk), (4, .int (nI (t + 1))), (5, .int (fAt (σ.1 0) (nI t)))] dX5_passStage_119 rfl (nI_inc t 1) (by decide) rfl ?_
          refine g_goto h 11 dX5_passStage_122 (by decide) ?_
          refine g_sub [(0, .ref (ad E 0 0 0)), (1, .int (nI (s))), (2, .int bit), (3, .int tk), (4, .int (nI (t + 1)))] [0, 1, 2, 3, 4] rfl ?_
          exact ih (t + 1) tk np τ (by omega) ht (by rw [psL, if_pos (by simp [c3])] at hp; exact hp)
def bitS (s : Nat) : Int32 := (1 : Int32) <<< (nI (3 - s) &&& 31)
set_option maxHeartbeats 4000000 in
theorem c_X5_passStage (l : Launch) {E : EnvT} (hE : EOK E) {σ : ST} (hL : (σ.1 0).2.1 ≤ 64) (s : Nat) (hs : s ≤ 3) : Con l E yX5_passStage cX5_passStage 8 none 1 22 [.ref (ad E 0 0 0), .int (nI (s))] σ (rV (sN σ (psL (σ.1 0) (bitS s) 8 0 0 (σ.2.2.1.2 3)))) := by
  refine con_intro hE (by decide) (Nat.le_of_ble_eq_true rfl) (fun K hkl h hR => ?_)
  subst hkl
  have h : Cx K E cX5_passStage 8 RX5 1 22 := h
  show GG K E σ 0 [(0, .ref (ad E 0 0 0)), (1, .int (nI (s)))] []
  refine g_iconst h (v := 1) dX5_passStage_0 (by decide) ?_
  refine g_iconst h (v := 3) dX5_passStage_1 (by decide) ?_
  refine g_iload_n h (q := 1) 1 dX5_passStage_2 rfl ?_
  refine g_isub h dX5_passStage_3 ?_
  refine g_is (nI (3 - s)) (pk_sub (a := 3) (b := s) (by omega)) ?_
  refine g_ishl h dX5_passStage_4 ?_
  refine g_istore_n h (q := 2) [(0, .ref (ad E 0 0 0)), (1, .int (nI (s))), (2, .int (1 <<< ((nI (3 - s)) &&& 31)))] dX5_passStage_5 (by decide) rfl ?_
  refine g_iconst h (v := 0) dX5_passStage_6 (by decide) ?_
  refine g_istore_n h (q := 3) [(0, .ref (ad E 0 0 0)), (1, .int (nI (s))), (2, .int (1 <<< ((nI (3 - s)) &&& 31))), (3, .int 0)] dX5_passStage_7 (by decide) rfl ?_
  refine g_iconst h (v := 0) dX5_passStage_8 (by decide) ?_
  refine g_istore h (q := 4) [(0, .ref (ad E 0 0 0)), (1, .int (nI (s))), (2, .int (1 <<< ((nI (3 - s)) &&& 31))), (3, .int 0), (4, .int 0)] dX5_passStage_9 (by decide) rfl ?_
  exact l_X5_passStage (σ := σ) hE h hR hL s (bitS s) 8 0 0 (σ.2.2.1.2 3) σ rfl sN_id.symm ⟨rfl, rfl⟩
def strL (F : FabT) (a : Nat) : Nat → Nat → (Nat → Int32) → Int32 × (Nat → Int32)
  | 0, _, np => (0, np)
  | m + 1, s, np => if psL F (bitS s) 8 0 0 np a = -9 then (nI s, psL F (bitS s) 8 0 0 np) else strL F a m (s + 1) (psL F (bitS s) 8 0 0 np)
def xStraight (σ : ST) (a : Int32) : Int32 × ST :=
  if wi a 0 7 = true then (if fAt (σ.1 0) a = -9 then (-2, σ) else
    ((strL (σ.1 0) a.toNatClampNeg 3 1 (enN (σ.1 0) (σ.2.2.1.2 3) 8)).1, sN σ (strL (σ.1 0) a.toNatClampNeg 3 1 (enN (σ.1 0) (σ.2.2.1.2 3) 8)).2)) else (-1, σ)
set_option maxHeartbeats 4000000 in
theorem l_X5_straight {K : KX} {E : EnvT} (hE : EOK E) (h : Cx K E cX5_straight 3 RX5 2 49) {σ : ST} {post : Option Value → ST → Prop} (hR : Rx K E (some .int) post) (hL : (σ.1 0).2.1 ≤ 64) (a : Nat) (ha : a < 8) : ∀ m s np τ, s + m = 4 → τ = sN σ np → post (some (.int (strL (σ.1 0) a m s np).1)) (sN σ (strL (σ.1 0) a m s np).2) → GG K E τ 31 [(0, .ref (ad E 0 0 0)), (1, .int (nI a)), (2, .int (nI s))] [] := by
  intro m
  induction m with
  | zero =>
    intro s np τ hm ht hp
    refine g_iload_n h (q := 2) 2 dX5_straight_31 rfl ?_
    refine g_iconst h (v := 3) dX5_straight_32 (by decide) ?_
    refine g_ncmp_gt h (a := s) (b := 3) 60 dX5_straight_33 (by decide) (by omega) (by omega) (fun c1 => ?_) (fun c1 => ?_)
    · refine g_iconst h (v := 0) dX5_straight_60 (by decide) ?_
      exact g_iret h hR dX5_straight_61 (by rw [ht]; exact hp)
    · exfalso; omega
  | succ m ih =>
    intro s np τ hm ht hp
    have ef : τ.1 0 = σ.1 0 := by rw [ht]; rfl
    have en : τ.2.2.1.2 3 = np := by rw [ht, sN_at]
    refine g_iload_n h (q := 2) 2 dX5_straight_31 rfl ?_
    refine g_iconst h (v := 3) dX5_straight_32 (by decide) ?_
    refine g_ncmp_gt h (a := s) (b := 3) 60 dX5_straight_33 (by decide) (by omega) (by omega) (fun c1 => ?_) (fun c1 => ?_)
    · exfalso; omega
    · refine g_aload_n h (q := 0) 0 dX5_straight_36 rfl ?_
      refine g_iload_n h (q := 2) 2 dX5_straight_37 rfl ?_
      refine g_callV h mv_X5_passStage 0 0 0 ⟨rfl, rfl⟩ rfl rfl (As := [.int (nI (s))]) (c_X5_passStage (kl K) hE (σ := τ) (by rw [ef]; exact hL) s (by omega)) ml_X5_149 rfl (by decide) (by decide) rfl (Nat.le_of_ble_eq_true rfl) dX5_straight_38 (fun v σ9 h9 => ?_)
      rw [h9.1, h9.2]; clear h9
      rw [ef, en]
      obtain ⟨τ2, hτ2⟩ : ∃ τ2, τ2 = sN τ (psL (σ.1 0) (bitS s) 8 0 0 np) := ⟨_, rfl⟩
      rw [← hτ2]
      have en2 : τ2.2.2.1.2 3 = psL (σ.1 0) (bitS s) 8 0 0 np := by rw [hτ2, sN_at]
      have hτ3 : τ2 = sN σ (psL (σ.1 0) (bitS s) 8 0 0 np) := by rw [hτ2, ht, sN_sN]
      refine g_aload_n h (q := 0) 0 dX5_straight_41 rfl ?_
      refine g_get h 0 0 0 ⟨rfl, rfl⟩ rfl rfl uin_X5 7 (by decide) fl_X5_48 rfl dX5_straight_42 ?_
      refine g_iload_n h (q := 1) 1 dX5_straight_45 rfl ?_
      refine g_aldX h 3 (by decide) (by decide) (a) (show a < 8 by omega) dX5_straight_46 ?_
      refine g_is (psL (σ.1 0) (bitS s) 8 0 0 np a) (by rw [en2]) ?_
      refine g_bipush h (v := (-9)) dX5_straight_47 (by decide) ?_
      refine g_icmp_ne h 54 dX5_straight_49 (by decide) (fun c2 => ?_) (fun c2 => ?_)
      · refine g_iinc h (q := 2) (v := nI (s + 1)) 2 [(0, .ref (ad E 0 0 0)), (1, .int (nI (a))), (2, .int (nI (s + 1)))] dX5_straight_54 rfl (nI_inc s 1) (by decide) rfl ?_
        refine g_goto h 31 dX5_straight_57 (by decide) ?_
        exact ih (s + 1) _ τ2 (by omega) hτ3 (by rw [strL, if_neg c2] at hp; exact hp)
      · refine g_iload_n h (q := 2) 2 dX5_straight_52 rfl ?_
        exact g_iret h hR dX5_straight_53 (by rw [strL, if_pos c2] at hp; rw [hτ3]; exact hp)
set_option maxHeartbeats 4000000 in
theorem c_X5_straight (l : Launch) {E : EnvT} (hE : EOK E) {σ : ST} (hX : XO σ) (a : Int32) : Con l E yX5_straight cX5_straight 3 (some .int) 2 49 [.ref (ad E 0 0 0), .int a] σ (rP (xStraight σ a)) := by
  refine con_intro hE (by decide) (Nat.le_of_ble_eq_true rfl) (fun K hkl h hR => ?_)
  subst hkl
  have h : Cx K E cX5_straight 3 RX5 2 49 := h
  show GG K E σ 0 [(0, .ref (ad E 0 0 0)), (1, .int a)] []
  refine g_iload_n h (q := 1) 1 dX5_straight_0 rfl ?_
  refine g_callS h ms_X5_isLine (As := [.int a]) (c_X5_isLine (kl K) hE (σ := σ) a) ml_X5_70 rfl (by decide) (by decide) rfl (Nat.le_of_ble_eq_true rfl) dX5_straight_1 (fun v σ9 h9 => ?_)
  rw [h9.1, h9.2]; clear h9
  refine g_if_ne h 9 dX5_straight_4 (by decide) (fun c1 => ?_) (fun c1 => ?_)
  · refine g_aload_n h (q := 0) 0 dX5_straight_9 rfl ?_
    refine g_get h 0 0 0 ⟨rfl, rfl⟩ rfl rfl uin_X5 0 (by decide) fl_X5_12 rfl dX5_straight_10 ?_
    refine g_iload_n h (q := 1) 1 dX5_straight_13 rfl ?_
    refine g_callV h mv_X0_letterAt 1 0 0 (ok_F (by decide)) rfl rfl (As := [.int a]) (c_X0_letterAt (kl K) hE (σ := σ) 0 (by decide) hX.1.1 a) ml_X5_77 rfl (by decide) (by decide) rfl (Nat.le_of_ble_eq_true rfl) dX5_straight_14 (fun v σ9 h9 => ?_)
    rw [h9.1, h9.2]; clear h9
    refine g_bipush h (v := (-9)) dX5_straight_17 (by decide) ?_
    refine g_icmp_ne h 25 dX5_straight_19 (by decide) (fun c2 => ?_) (fun c2 => ?_)
    · refine g_aload_n h (q := 0) 0 dX5_straight_25 rfl ?_
      refine g_callV h mv_X5_enterNet 0 0 0 ⟨rfl, rfl⟩ rfl rfl (As := []) (c_X5_enterNet (kl K) hE (σ := σ) hX.1.1) ml_X5_146 rfl (by decide) (by decide) rfl (Nat.le_of_ble_eq_true rfl) dX5_straight_26 (fun v σ9 h9 => ?_)
      rw [h9.1, h9.2]; clear h9
      obtain ⟨τ, hτ⟩ : ∃ τ, τ = sN σ (enN (σ.1 0) (σ.2.2.1.2 3) 8) := ⟨_, rfl⟩
      rw [← hτ]
      refine g_iconst h (v := 1) dX5_straight_29 (by decide) ?_
      refine g_istore_n h (q := 2) [(0, .ref (ad E 0 0 0)), (1, .int a), (2, .int 1)] dX5_straight_30 (by decide) rfl ?_
      obtain ⟨j, hj, hje⟩ := wi_nat (n := 7) (by decide) (bI_1.mp c1)
      have hw1 := bI_1.mp c1
      subst hje
      exact l_X5_straight (σ := σ) hE h hR hX.1.1 j (by omega) 3 1 _ τ rfl hτ (by rw [xStraight, if_pos hw1, if_neg c2, nI_clamp (by omega)]; exact ⟨rfl, rfl⟩)
    · refine g_bipush h (v := (-2)) dX5_straight_22 (by decide) ?_
      exact g_iret h hR dX5_straight_24 (rP_of (q := ((-2), σ)) (by simp [xStraight, bI_1.mp c1, c2]))
  · refine g_iconst h (v := (-1)) dX5_straight_7 (by decide) ?_
    exact g_iret h hR dX5_straight_8 (rP_of (q := ((-1), σ)) (by simp [xStraight, bI_0.mp c1]))
