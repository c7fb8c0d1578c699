theorem mAtL_nat {M : MT} {a : Int32} (h : ¬ mAtL M a = -9) : ∃ j, j < M.2.1 0 ∧ mAtL M a = nI j := by
  rcases findN_cases (mAt M a) (M.2.1 0) 0 with e | ⟨j, _, h2, _, h4⟩
  · exact absurd e h
  · exact ⟨j, by omega, h4⟩
def yuI (ks : Nat → Nat) (d : Nat) : Nat → Nat → MT → Bool × MT
  | 0, _, M => (true, M)
  | m + 1, i, M => if nI (yOw M d (ks i)).1 = M.2.2.1 7 i then yuI ks d m (i + 1) (yOw M d (ks i)).2 else (false, (yOw M d (ks i)).2)
def yuO (ks : Nat → Nat) (M : MT) (l : Nat) : Bool × MT := if mAtL M (nI l) = -9 then (false, M) else yuI ks (mAtL M (nI l)).toNatClampNeg (M.2.1 4) 0 M
def yuL (ks : Nat → Nat) : Nat → Nat → Int32 → MT → Int32 × MT
  | 0, _, a, M => (a, M)
  | m + 1, l, a, M => yuL ks m (l + 1) (a ||| (if (yuO ks M l).1 = true then (1 : Int32) <<< (nI l &&& 31) else 0)) (yuO ks M l).2
def yUnseen (ks : Nat → Nat) (M : MT) : Int32 × MT := yuL ks 8 0 0 M
def UO (ks : Nat → Nat) (M : MT) : Prop := M.2.1 0 ≤ 64 ∧ M.2.1 4 ≤ 6 ∧ ∀ i, i < M.2.1 4 → ks i ≤ 40 ∧ M.2.2.1 6 i = nI (ks i)
theorem UO.ow {ks : Nat → Nat} {M : MT} (h : UO ks M) (d n : Nat) : UO ks (yOw M d n).2 := by
  obtain ⟨a1, a2, a3, a4⟩ := yOw_k M d n
  unfold UO
  rw [a1, a2, a3]
  exact h
theorem yuI_UO (ks : Nat → Nat) (d : Nat) : ∀ m i M, UO ks M → UO ks (yuI ks d m i M).2 := by
  intro m
  induction m with
  | zero => intro i M h; exact h
  | succ m ih =>
    intro i M h
    rw [yuI]
    split
    · exact ih _ _ (h.ow d _)
    · exact h.ow d _
set_option maxHeartbeats 4000000 in
theorem i_X6_unseen {K : KX} {E : EnvT} (hE : EOK E) (h : Cx K E cX6_unseen 6 RX6 6 135) {σ : ST} (ks : Nat → Nat) (a : Int32) (l : Nat) (hl : l < 8) (d : Nat) (hd : d < 64) : ∀ m i M, i + m = M.2.1 4 → UO ks M → (∀ i9, GG K E (sM σ (yuI ks d m i M).2) 81 [(0, .ref (ad E 11 0 0)), (1, .int a), (2, .int (nI l)), (3, .int (nI d)), (4, .int (bI (yuI ks d m i M).1)), (5, .int i9)] []) → GG K E (sM σ M) 32 [(0, .ref (ad E 11 0 0)), (1, .int a), (2, .int (nI l)), (3, .int (nI d)), (4, .int 1), (5, .int (nI i))] [] := by
  intro m
  induction m with
  | zero =>
    intro i M hi hU hp
    have h6 := hU.2.1
    refine g_iload h (q := 5) 5 dX6_unseen_32 rfl ?_
    refine g_aload_n h (q := 0) 0 dX6_unseen_34 rfl ?_
    refine g_gMn h 4 (by decide) fl_X6_121 dX6_unseen_35 ?_
    refine g_ncmp_ge h (a := i) (b := M.2.1 4) 81 dX6_unseen_38 (by decide) (by omega) (by omega) (fun c1 => ?_) (fun c1 => ?_)
    · exact hp _
    · exfalso; omega
  | succ m ih =>
    intro i M hi hU hp
    have h6 := hU.2.1
    have hki := hU.2.2 i (by omega)
    have hkk := yOw_k M d (ks i)
    have hUO := hU.ow d (ks i)
    refine g_iload h (q := 5) 5 dX6_unseen_32 rfl ?_
    refine g_aload_n h (q := 0) 0 dX6_unseen_34 rfl ?_
    refine g_gMn h 4 (by decide) fl_X6_121 dX6_unseen_35 ?_
    refine g_ncmp_ge h (a := i) (b := M.2.1 4) 81 dX6_unseen_38 (by decide) (by omega) (by omega) (fun c1 => ?_) (fun c1 => ?_)
    · exfalso; omega
    · refine g_iload h (q := 4) 4 dX6_unseen_41 rfl ?_
      refine g_if_eq h 81 dX6_unseen_43 (by decide) (fun c2 => ?_) (fun c2 => ?_)
      · exact absurd c2 (by decide)
      · refine g_aload_n h (q := 0) 0 dX6_unseen_46 rfl ?_
        refine g_iload_n h (q := 3) 3 dX6_unseen_47 rfl ?_
        refine g_aload_n h (q := 0) 0 dX6_unseen_48 rfl ?_
        refine g_gMa h 6 (by decide) fl_X6_41 dX6_unseen_49 ?_
        refine g_iload h (q := 5) 5 dX6_unseen_52 rfl ?_
        refine g_lM h 6 (by decide) (i) (show i < 6 by omega) dX6_unseen_54 ?_
        refine g_is (nI (ks i)) (hki.2) ?_
        refine g_callV h mv_X6_outWithout 11 0 0 ⟨rfl, rfl⟩ rfl rfl (As := [.int (nI (d)), .int (nI (ks i))]) (c_X6_outWithout (kl K) hE (σ := σ) (M := M) hU.1 d hd (ks i) hki.1) ml_X6_150 rfl (by decide) (by decide) rfl (Nat.le_of_ble_eq_true rfl) dX6_unseen_55 (fun v σ9 h9 => ?_)
        rw [h9.1, h9.2]; clear h9
        obtain ⟨D, hD⟩ : ∃ D, D = yOw M d (ks i) := ⟨_, rfl⟩
        rw [← hD] at hkk hUO ⊢
        refine g_aload_n h (q := 0) 0 dX6_unseen_58 rfl ?_
        refine g_gMa h 7 (by decide) fl_X6_44 dX6_unseen_59 ?_
        refine g_iload h (q := 5) 5 dX6_unseen_62 rfl ?_
        refine g_lM h 7 (by decide) (i) (show i < 6 by omega) dX6_unseen_64 ?_
        refine g_is (M.2.2.1 7 i) (by rw [hkk.2.2.2]) ?_
        refine g_icmp_ne h 72 dX6_unseen_65 (by decide) (fun c3 => ?_) (fun c3 => ?_)
        · refine g_iconst h (v := 0) dX6_unseen_72 (by decide) ?_
          refine g_istore h (q := 4) [(0, .ref (ad E 11 0 0)), (1, .int a), (2, .int (nI (l))), (3, .int (nI (d))), (4, .int 0), (5, .int (nI (i)))] dX6_unseen_73 (by decide) rfl ?_
          refine g_iinc h (q := 5) (v := nI (i + 1)) 5 [(0, .ref (ad E 11 0 0)), (1, .int a), (2, .int (nI (l))), (3, .int (nI (d))), (4, .int 0), (5, .int (nI (i + 1)))] dX6_unseen_75 rfl (nI_inc i 1) (by decide) rfl ?_
          refine g_goto h 32 dX6_unseen_78 (by decide) ?_
          have e : yuI ks d (m + 1) i M = (false, D.2) := by rw [yuI, ← hD, if_neg c3]
          rw [e] at hp
          have hD6 : D.2.2.1 4 ≤ 6 := hUO.2.1
          refine g_iload h (q := 5) 5 dX6_unseen_32 rfl ?_
          refine g_aload_n h (q := 0) 0 dX6_unseen_34 rfl ?_
          refine g_gMn h 4 (by decide) fl_X6_121 dX6_unseen_35 ?_
          refine g_ncmp_ge h (a := i + 1) (b := D.2.2.1 4) 81 dX6_unseen_38 (by decide) (by omega) (by omega) (fun c1 => ?_) (fun c1 => ?_)
          · exact hp _
          · refine g_iload h (q := 4) 4 dX6_unseen_41 rfl ?_
            refine g_if_eq h 81 dX6_unseen_43 (by decide) (fun c2 => ?_) (fun c2 => ?_)
            · exact hp _
            · exact absurd rfl c2
        · refine g_iconst h (v := 1) dX6_unseen_68 (by decide) ?_
          refine g_goto h 73 dX6_unseen_69 (by decide) ?_
          refine g_istore h (q := 4) [(0, .ref (ad E 11 0 0)), (1, .int a), (2, .int (nI (l))), (3, .int (nI (d))), (4, .int 1), (5, .int (nI (i)))] dX6_unseen_73 (by decide) rfl ?_
          refine g_iinc h (q := 5) (v := nI (i + 1)) 5 [(0, .ref (ad E 11 0 0)), (1, .int a), (2, .int (nI (l))), (3, .int (nI (d))), (4, .int 1), (5, .int (nI (i + 1)))] dX6_unseen_75 rfl (nI_inc i 1) (by decide) rfl ?_
          refine g_goto h 32 dX6_unseen_78 (by decide) ?_
          have e : yuI ks d (m + 1) i M = yuI ks d m (i + 1) D.2 := by rw [yuI, ← hD, if_pos c3]
          rw [e] at hp
          exact ih (i + 1) D.2 (by rw [hkk.2.1]; omega) hUO hp
set_option maxHeartbeats 4000000 in
theorem l_X6_unseen {K : KX} {E : EnvT} (hE : EOK E) (h : Cx K E cX6_unseen 6 RX6 6 135) {σ : ST} {post : Option Value → ST → Prop} (hR : Rx K E (some .int) post) (ks : Nat → Nat) : ∀ m l a M, l + m = 8 → UO ks M → post (some (.int (yuL ks m l a M).1)) (sM σ (yuL ks m l a M).2) → GG K E (sM σ M) 4 [(0, .ref (ad E 11 0 0)), (1, .int a), (2, .int (nI l))] [] := by
  intro m
  induction m with
  | zero =>
    intro l a M hk hU hp
    refine g_iload_n h (q := 2) 2 dX6_unseen_4 rfl ?_
    refine g_bipush h (v := 8) dX6_unseen_5 (by decide) ?_
    refine g_ncmp_ge h (a := l) (b := 8) 102 dX6_unseen_7 (by decide) (by omega) (by omega) (fun c1 => ?_) (fun c1 => ?_)
    · refine g_iload_n h (q := 1) 1 dX6_unseen_102 rfl ?_
      exact g_iret h hR dX6_unseen_103 (hp)
    · exfalso; omega
  | succ m ih =>
    intro l a M hk hU hp
    have h6 := hU.2.1
    refine g_iload_n h (q := 2) 2 dX6_unseen_4 rfl ?_
    refine g_bipush h (v := 8) dX6_unseen_5 (by decide) ?_
    refine g_ncmp_ge h (a := l) (b := 8) 102 dX6_unseen_7 (by decide) (by omega) (by omega) (fun c1 => ?_) (fun c1 => ?_)
    · exfalso; omega
    · refine g_aload_n h (q := 0) 0 dX6_unseen_10 rfl ?_
      refine g_iload_n h (q := 2) 2 dX6_unseen_11 rfl ?_
      refine g_callV h mv_X6_atLine 11 0 0 ⟨rfl, rfl⟩ rfl rfl (As := [.int (nI (l))]) (c_X6_atLine (kl K) hE (σ := σ) (M := M) hU.1 (nI l)) ml_X6_78 rfl (by decide) (by decide) rfl (Nat.le_of_ble_eq_true rfl) dX6_unseen_12 (fun v σ9 h9 => ?_)
      rw [h9.1, h9.2]; clear h9
      refine g_istore_n h (q := 3) [(0, .ref (ad E 11 0 0)), (1, .int a), (2, .int (nI (l))), (3, .int (mAtL M (nI l)))] dX6_unseen_15 (by decide) rfl ?_
      refine g_iload_n h (q := 3) 3 dX6_unseen_16 rfl ?_
      refine g_bipush h (v := (-9)) dX6_unseen_17 (by decide) ?_
      refine g_icmp_eq h 26 dX6_unseen_19 (by decide) (fun c2 => ?_) (fun c2 => ?_)
      · refine g_iconst h (v := 0) dX6_unseen_26 (by decide) ?_
        refine g_istore h (q := 4) [(0, .ref (ad E 11 0 0)), (1, .int a), (2, .int (nI (l))), (3, .int (mAtL M (nI l))), (4, .int 0)] dX6_unseen_27 (by decide) rfl ?_
        refine g_iconst h (v := 0) dX6_unseen_29 (by decide) ?_
        refine g_istore h (q := 5) [(0, .ref (ad E 11 0 0)), (1, .int a), (2, .int (nI (l))), (3, .int (mAtL M (nI l))), (4, .int 0), (5, .int 0)] dX6_unseen_30 (by decide) rfl ?_
        refine g_iload h (q := 5) 5 dX6_unseen_32 rfl ?_
        refine g_aload_n h (q := 0) 0 dX6_unseen_34 rfl ?_
        refine g_gMn h 4 (by decide) fl_X6_121 dX6_unseen_35 ?_
        refine g_ncmp_ge h (a := 0) (b := M.2.1 4) 81 dX6_unseen_38 (by decide) (by omega) (by omega) (fun c3 => ?_) (fun c3 => ?_)
        · refine g_iload_n h (q := 1) 1 dX6_unseen_81 rfl ?_
          refine g_iload h (q := 4) 4 dX6_unseen_82 rfl ?_
          refine g_if_eq h 93 dX6_unseen_84 (by decide) (fun c5 => ?_) (fun c5 => ?_)
          · refine g_iconst h (v := 0) dX6_unseen_93 (by decide) ?_
            refine g_ior h dX6_unseen_94 ?_
            refine g_istore_n h (q := 1) [(0, .ref (ad E 11 0 0)), (1, .int (a ||| 0)), (2, .int (nI (l))), (3, .int (mAtL M (nI l))), (4, .int 0), (5, .int 0)] dX6_unseen_95 (by decide) rfl ?_
            refine g_iinc h (q := 2) (v := nI (l + 1)) 2 [(0, .ref (ad E 11 0 0)), (1, .int (a ||| 0)), (2, .int (nI (l + 1))), (3, .int (mAtL M (nI l))), (4, .int 0), (5, .int 0)] dX6_unseen_96 rfl (nI_inc l 1) (by decide) rfl ?_
            refine g_goto h 4 dX6_unseen_99 (by decide) ?_
            refine g_sub [(0, .ref (ad E 11 0 0)), (1, .int (a ||| 0)), (2, .int (nI (l + 1)))] [0, 1, 2] rfl ?_
            have e : yuL ks (m + 1) l a M = yuL ks m (l + 1) (a ||| 0) M := by rw [yuL, show yuO ks M l = (false, M) by rw [yuO, if_pos c2], if_neg (show ¬ false = true by decide)]
            rw [e] at hp
            exact ih (l + 1) _ M (by omega) hU hp
          · exact absurd rfl c5
        · refine g_iload h (q := 4) 4 dX6_unseen_41 rfl ?_
          refine g_if_eq h 81 dX6_unseen_43 (by decide) (fun c4 => ?_) (fun c4 => ?_)
          · refine g_iload_n h (q := 1) 1 dX6_unseen_81 rfl ?_
            refine g_iload h (q := 4) 4 dX6_unseen_82 rfl ?_
            refine g_if_eq h 93 dX6_unseen_84 (by decide) (fun c5 => ?_) (fun c5 => ?_)
            · refine g_iconst h (v := 0) dX6_unseen_93 (by decide) ?_
              refine g_ior h dX6_unseen_94 ?_
              refine g_istore_n h (q := 1) [(0, .ref (ad E 11 0 0)), (1, .int (a ||| 0)), (2, .int (nI (l))), (3, .int (mAtL M (nI l))), (4, .int 0), (5, .int 0)] dX6_unseen_95 (by decide) rfl ?_
              refine g_iinc h (q := 2) (v := nI (l + 1)) 2 [(0, .ref (ad E 11 0 0)), (1, .int (a ||| 0)), (2, .int (nI (l + 1))), (3, .int (mAtL M (nI l))), (4, .int 0), (5, .int 0)] dX6_unseen_96 rfl (nI_inc l 1) (by decide) rfl ?_
              refine g_goto h 4 dX6_unseen_99 (by decide) ?_
              refine g_sub [(0, .ref (ad E 11 0 0)), (1, .int (a ||| 0)), (2, .int (nI (l + 1)))] [0, 1, 2] rfl ?_
              have e : yuL ks (m + 1) l a M = yuL ks m (l + 1) (a ||| 0) M := by rw [yuL, show yuO ks M l = (false, M) by rw [yuO, if_pos c2], if_neg (show ¬ false = true by decide)]
              rw [e] at hp
              exact ih (l + 1) _ M (by omega) hU hp
            · exact absurd rfl c5
          · exact absurd rfl c4
      · refine g_iconst h (v := 1) dX6_unseen_22 (by decide) ?_
        refine g_goto h 27 dX6_unseen_23 (by decide) ?_
        refine g_istore h (q := 4) [(0, .ref (ad E 11 0 0)), (1, .int a), (2, .int (nI (l))), (3, .int (mAtL M (nI l))), (4, .int 1)] dX6_unseen_27 (by decide) rfl ?_
        refine g_iconst h (v := 0) dX6_unseen_29 (by decide) ?_
        refine g_istore h (q := 5) [(0, .ref (ad E 11 0 0)), (1, .int a), (2, .int (nI (l))), (3, .int (mAtL M (nI l))), (4, .int 1), (5, .int 0)] dX6_unseen_30 (by decide) rfl ?_
        obtain ⟨d, hd, hde⟩ := mAtL_nat c2
        rw [hde]
        have eO : yuO ks M l = yuI ks d (M.2.1 4) 0 M := by rw [yuO, if_neg c2, hde, nI_clamp (by have := hU.1; omega)]
        have hUI := yuI_UO ks d (M.2.1 4) 0 M hU
        refine i_X6_unseen hE h ks a l (by omega) d (by have := hU.1; omega) (M.2.1 4) 0 M (Nat.zero_add _) hU (fun i9 => ?_)
        rw [← eO] at hUI ⊢
        obtain ⟨D, hD⟩ : ∃ D, D = yuO ks M l := ⟨_, rfl⟩
        rw [← hD] at hUI ⊢
        refine g_iload_n h (q := 1) 1 dX6_unseen_81 rfl ?_
        refine g_iload h (q := 4) 4 dX6_unseen_82 rfl ?_
        refine g_if_eq h 93 dX6_unseen_84 (by decide) (fun c5 => ?_) (fun c5 => ?_)
        · refine g_iconst h (v := 0) dX6_unseen_93 (by decide) ?_
          refine g_ior h dX6_unseen_94 ?_
          refine g_istore_n h (q := 1) [(0, .ref (ad E 11 0 0)), (1, .int (a ||| 0)), (2, .int (nI (l))), (3, .int (nI (d))), (4, .int (bI D.1)), (5, .int i9)] dX6_unseen_95 (by decide) rfl ?_
          refine g_iinc h (q := 2) (v := nI (l + 1)) 2 [(0, .ref (ad E 11 0 0)), (1, .int (a ||| 0)), (2, .int (nI (l + 1))), (3, .int (nI (d))), (4, .int (bI D.1)), (5, .int i9)] dX6_unseen_96 rfl (nI_inc l 1) (by decide) rfl ?_
          refine g_goto h 4 dX6_unseen_99 (by decide) ?_
          refine g_sub [(0, .ref (ad E 11 0 0)), (1, .int (a ||| 0)), (2, .int (nI (l + 1)))] [0, 1, 2] rfl ?_
          have e : yuL ks (m + 1) l a M = yuL ks m (l + 1) (a ||| 0) D.2 := by rw [yuL, ← hD, if_neg (by rw [bI_0.mp c5]; decide)]
          rw [e] at hp
          exact ih (l + 1) _ D.2 (by omega) hUI hp
        · refine g_iconst h (v := 1) dX6_unseen_87 (by decide) ?_
          refine g_iload_n h (q := 2) 2 dX6_unseen_88 rfl ?_
          refine g_ishl h dX6_unseen_89 ?_
          refine g_goto h 94 dX6_unseen_90 (by decide) ?_
          refine g_ior h dX6_unseen_94 ?_
          refine g_istore_n h (q := 1) [(0, .ref (ad E 11 0 0)), (1, .int (a ||| (1 <<< ((nI (l)) &&& 31)))), (2, .int (nI (l))), (3, .int (nI (d))), (4, .int (bI D.1)), (5, .int i9)] dX6_unseen_95 (by decide) rfl ?_
          refine g_iinc h (q := 2) (v := nI (l + 1)) 2 [(0, .ref (ad E 11 0 0)), (1, .int (a ||| (1 <<< ((nI (l)) &&& 31)))), (2, .int (nI (l + 1))), (3, .int (nI (d))), (4, .int (bI D.1)), (5, .int i9)] dX6_unseen_96 rfl (nI_inc l 1) (by decide) rfl ?_
          refine g_goto h 4 dX6_unseen_99 (by decide) ?_
          refine g_sub [(0, .ref (ad E 11 0 0)), (1, .int (a ||| (1 <<< ((nI (l)) &&& 31)))), (2, .int (nI (l + 1)))] [0, 1, 2] rfl ?_
          have e : yuL ks (m + 1) l a M = yuL ks m (l + 1) (a ||| (1 <<< ((nI (l)) &&& 31))) D.2 := by rw [yuL, ← hD, if_pos (bI_1.mp c5)]
          rw [e] at hp
          exact ih (l + 1) _ D.2 (by omega) hUI hp
set_option maxHeartbeats 4000000 in
theorem c_X6_unseen (l : Launch) {E : EnvT} (hE : EOK E) {σ : ST} {M : MT} (ks : Nat → Nat) (hU : UO ks M) : Con l E yX6_unseen cX6_unseen 6 (some .int) 6 135 [.ref (ad E 11 0 0)] (sM σ M) (rM (yUnseen ks M) σ) := by
  refine con_intro hE (by decide) (Nat.le_of_ble_eq_true rfl) (fun K hkl h hR => ?_)
  subst hkl
  have h : Cx K E cX6_unseen 6 RX6 6 135 := h
  show GG K E (sM σ M) 0 [(0, .ref (ad E 11 0 0))] []
  refine g_iconst h (v := 0) dX6_unseen_0 (by decide) ?_
  refine g_istore_n h (q := 1) [(0, .ref (ad E 11 0 0)), (1, .int 0)] dX6_unseen_1 (by decide) rfl ?_
  refine g_iconst h (v := 0) dX6_unseen_2 (by decide) ?_
  refine g_istore_n h (q := 2) [(0, .ref (ad E 11 0 0)), (1, .int 0), (2, .int 0)] dX6_unseen_3 (by decide) rfl ?_
  exact l_X6_unseen hE h hR ks 8 0 0 M rfl hU ⟨rfl, rfl⟩
