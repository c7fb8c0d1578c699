theorem lgL_nat {s : Nat → Int32} {z : Nat} (hs : ∀ t, t < z → ∃ q, q ≤ 40 ∧ s t = nI q) : ∀ (m t : Nat) (a : Nat), t + m = z → a ≤ 40 → ∃ S, S ≤ 40 ∧ lgL s m t (nI a) = nI S := by
  intro m
  induction m with
  | zero => intro t a _ ha; exact ⟨a, ha, rfl⟩
  | succ m ih =>
    intro t a ht ha
    obtain ⟨q, hq, e⟩ := hs t (by omega)
    rw [lgL, e]
    by_cases h : nI a < nI q
    · rw [if_pos h]; exact ih (t + 1) q (by omega) hq
    · rw [if_neg h]; exact ih (t + 1) a (by omega) ha
def lgN (σ : ST) : Nat := (lgL (σ.2.2.1.2 0) (σ.2.2.1.1 2) 0 0).toNatClampNeg
theorem lgN_eq {σ : ST} (hX : XO σ) : lgL (σ.2.2.1.2 0) (σ.2.2.1.1 2) 0 0 = nI (lgN σ) ∧ lgN σ ≤ 40 := by
  obtain ⟨S, h1, h2⟩ := lgL_nat hX.2.2.2.2.2.2 (σ.2.2.1.1 2) 0 0 (Nat.zero_add _) (by decide)
  have h2 : lgL (σ.2.2.1.2 0) (σ.2.2.1.1 2) 0 0 = nI S := h2
  rw [lgN, h2, nI_clamp (by omega)]
  exact ⟨rfl, h1⟩
def exL (sl ou : Nat → Int32) (z : Nat) (b3 : Int32) : Nat → Nat → ST → Bool → Bool × ST
  | 0, _, τ, _ => (true, τ)
  | m + 1, k, τ, go =>
    if go = true then (if alL sl ou (nI k) (((slS τ 1).1 1).2.2 7 3 - b3) z 0 = true then exL sl ou z b3 m (k + 1) (slS τ 1) (tryB τ) else (false, slS τ 1))
    else (if alL sl ou (nI k) ((τ.1 1).2.2 7 3 - b3) z 0 = true then exL sl ou z b3 m (k + 1) τ false else (false, τ))
def trD (σ : ST) (d : Nat) : ST := sF (cpS σ 1 0) 1 (mvL (cpF (σ.1 1) (σ.1 0)) d 4)
def xExpl (σ : ST) (d : Nat) : Bool × ST := exL (σ.2.2.1.2 0) (σ.2.2.1.2 1) (σ.2.2.1.1 2) ((σ.1 0).2.2 7 3) (lgN σ) 1 (trD σ d) true
theorem trD_TO {σ : ST} (hX : XO σ) (d : Nat) : TO (trD σ d) := by
  have hc := TO.cp hX
  rw [TO, cpS_f] at hc
  refine ⟨?_, ?_⟩
  · rw [trD, sF_at]; exact mvL_pk hc.1 d (by decide)
  · show ROK ((trD σ d).1 1).2.1 ((cpS σ 1 0).2.1 1)
    rw [trD, sF_at]; exact hc.2
set_option maxHeartbeats 4000000 in
theorem l_X5_explainsAllSeen {K : KX} {E : EnvT} (hE : EOK E) (h : Cx K E cX5_explainsAllSeen 5 RX5 5 114) {σ : ST} {p : Bool × ST} (hR : Rx K E (some .boolean) (rP (bI p.1, p.2))) (d S z : Nat) (hS : S ≤ 40) (hz : z ≤ 6) (b3 : Int32) (sl ou : Nat → Int32) : ∀ m k τ go, k + m = S + 1 → TO τ → (τ.1 0).2.2 7 3 = b3 → τ.2.2.1.1 2 = z → τ.2.2.1.2 0 = sl → τ.2.2.1.2 1 = ou → p = exL sl ou z b3 m k τ go → GG K E τ 33 [(0, .ref (ad E 0 0 0)), (1, .int (nI d)), (2, .int (nI S)), (3, .int (bI go)), (4, .int (nI k))] [] := by
  intro m
  induction m with
  | zero =>
    intro k τ go hm hT hb hz2 hsl hou hp
    refine g_iload h (q := 4) 4 dX5_explainsAllSeen_33 rfl ?_
    refine g_iload_n h (q := 2) 2 dX5_explainsAllSeen_35 rfl ?_
    refine g_ncmp_gt h (a := k) (b := S) 87 dX5_explainsAllSeen_36 (by decide) (by omega) (by omega) (fun c1 => ?_) (fun c1 => ?_)
    · refine g_iconst h (v := 1) dX5_explainsAllSeen_87 (by decide) ?_
      exact g_zret h hR dX5_explainsAllSeen_88 (by decide) (by rw [hp]; exact ⟨rfl, rfl⟩)
    · exfalso; omega
  | succ m ih =>
    intro k τ go hm hT hb hz2 hsl hou hp
    refine g_iload h (q := 4) 4 dX5_explainsAllSeen_33 rfl ?_
    refine g_iload_n h (q := 2) 2 dX5_explainsAllSeen_35 rfl ?_
    refine g_ncmp_gt h (a := k) (b := S) 87 dX5_explainsAllSeen_36 (by decide) (by omega) (by omega) (fun c1 => ?_) (fun c1 => ?_)
    · exfalso; omega
    · refine g_iload_n h (q := 3) 3 dX5_explainsAllSeen_39 rfl ?_
      refine g_if_eq h 48 dX5_explainsAllSeen_40 (by decide) (fun c2 => ?_) (fun c2 => ?_)
      · refine g_aload_n h (q := 0) 0 dX5_explainsAllSeen_48 rfl ?_
        refine g_get h 0 0 0 ⟨rfl, rfl⟩ rfl rfl uin_X5 4 (by decide) fl_X5_36 rfl dX5_explainsAllSeen_49 ?_
        refine g_iload h (q := 4) 4 dX5_explainsAllSeen_52 rfl ?_
        refine g_aload_n h (q := 0) 0 dX5_explainsAllSeen_54 rfl ?_
        refine g_get h 0 0 0 ⟨rfl, rfl⟩ rfl rfl uin_X5 1 (by decide) fl_X5_16 rfl dX5_explainsAllSeen_55 ?_
        refine g_get h 1 1 0 (ok_F (by decide)) rfl rfl uin_X0 12 (by decide) fl_X5_91 rfl dX5_explainsAllSeen_58 ?_
        refine g_iconst h (v := 3) dX5_explainsAllSeen_61 (by decide) ?_
        refine g_aldF h 1 7 (by decide) (by decide) (3) (show 3 < 5 by omega) dX5_explainsAllSeen_62 ?_
        refine g_aload_n h (q := 0) 0 dX5_explainsAllSeen_63 rfl ?_
        refine g_get h 0 0 0 ⟨rfl, rfl⟩ rfl rfl uin_X5 0 (by decide) fl_X5_12 rfl dX5_explainsAllSeen_64 ?_
        refine g_get h 1 0 0 (ok_F (by decide)) rfl rfl uin_X0 12 (by decide) fl_X5_91 rfl dX5_explainsAllSeen_67 ?_
        refine g_iconst h (v := 3) dX5_explainsAllSeen_70 (by decide) ?_
        refine g_aldF h 0 7 (by decide) (by decide) (3) (show 3 < 5 by omega) dX5_explainsAllSeen_71 ?_
        refine g_is (b3) (hb) ?_
        refine g_isub h dX5_explainsAllSeen_72 ?_
        refine g_callV h mv_X3_allows 8 0 0 ⟨rfl, rfl⟩ rfl rfl (As := [.int (nI (k)), .int (((τ.1 1).2.2 7 (3)) - b3)]) (c_X3_allows (kl K) hE (σ := τ) (by rw [hz2]; exact hz) (nI k) (((τ.1 1).2.2 7 (3)) - b3)) ml_X5_196 rfl (by decide) (by decide) rfl (Nat.le_of_ble_eq_true rfl) dX5_explainsAllSeen_73 (fun v σ9 h9 => ?_)
        rw [h9.1, h9.2]; clear h9
        rw [hz2, hsl, hou]
        refine g_if_ne h 81 dX5_explainsAllSeen_76 (by decide) (fun c3 => ?_) (fun c3 => ?_)
        · refine g_iinc h (q := 4) (v := nI (k + 1)) 4 [(0, .ref (ad E 0 0 0)), (1, .int (nI (d))), (2, .int (nI (S))), (3, .int (bI go)), (4, .int (nI (k + 1)))] dX5_explainsAllSeen_81 rfl (nI_inc k 1) (by decide) rfl ?_
          refine g_goto h 33 dX5_explainsAllSeen_84 (by decide) ?_
          have hg : go = false := bI_0.mp c2
          rw [hg]
          exact ih (k + 1) τ false (by omega) hT hb hz2 hsl hou (by rw [hp, exL, if_neg (by rw [hg]; decide), if_pos (bI_1.mp c3)])
        · refine g_iconst h (v := 0) dX5_explainsAllSeen_79 (by decide) ?_
          exact g_zret h hR dX5_explainsAllSeen_80 (by decide) (by rw [hp, exL, if_neg (by rw [bI_0.mp c2]; decide), if_neg (by rw [bI_0.mp c3]; decide)]; exact ⟨rfl, rfl⟩)
      · refine g_aload_n h (q := 0) 0 dX5_explainsAllSeen_43 rfl ?_
        refine g_callV h mv_X5_trySlot 0 0 0 ⟨rfl, rfl⟩ rfl rfl (As := []) (c_X5_trySlot (kl K) hE (σ := τ) hT) ml_X5_160 rfl (by decide) (by decide) rfl (Nat.le_of_ble_eq_true rfl) dX5_explainsAllSeen_44 (fun v σ9 h9 => ?_)
        rw [h9.1, h9.2]; clear h9
        have hT2 := hT.sl
        have hb2 : ((slS τ 1).1 0).2.2 7 3 = b3 := by rw [slS_fn (by decide)]; exact hb
        have hx2 : (slS τ 1).2.2 = τ.2.2 := rfl
        obtain ⟨τ2, hτ2⟩ : ∃ τ2, τ2 = slS τ 1 := ⟨_, rfl⟩
        dsimp only
        rw [← hτ2] at hT2 hb2 hx2 ⊢
        refine g_istore_n h (q := 3) [(0, .ref (ad E 0 0 0)), (1, .int (nI (d))), (2, .int (nI (S))), (3, .int (bI (tryB τ))), (4, .int (nI (k)))] dX5_explainsAllSeen_47 (by decide) rfl ?_
        refine g_aload_n h (q := 0) 0 dX5_explainsAllSeen_48 rfl ?_
        refine g_get h 0 0 0 ⟨rfl, rfl⟩ rfl rfl uin_X5 4 (by decide) fl_X5_36 rfl dX5_explainsAllSeen_49 ?_
        refine g_iload h (q := 4) 4 dX5_explainsAllSeen_52 rfl ?_
        refine g_aload_n h (q := 0) 0 dX5_explainsAllSeen_54 rfl ?_
        refine g_get h 0 0 0 ⟨rfl, rfl⟩ rfl rfl uin_X5 1 (by decide) fl_X5_16 rfl dX5_explainsAllSeen_55 ?_
        refine g_get h 1 1 0 (ok_F (by decide)) rfl rfl uin_X0 12 (by decide) fl_X5_91 rfl dX5_explainsAllSeen_58 ?_
        refine g_iconst h (v := 3) dX5_explainsAllSeen_61 (by decide) ?_
        refine g_aldF h 1 7 (by decide) (by decide) (3) (show 3 < 5 by omega) dX5_explainsAllSeen_62 ?_
        refine g_aload_n h (q := 0) 0 dX5_explainsAllSeen_63 rfl ?_
        refine g_get h 0 0 0 ⟨rfl, rfl⟩ rfl rfl uin_X5 0 (by decide) fl_X5_12 rfl dX5_explainsAllSeen_64 ?_
        refine g_get h 1 0 0 (ok_F (by decide)) rfl rfl uin_X0 12 (by decide) fl_X5_91 rfl dX5_explainsAllSeen_67 ?_
        refine g_iconst h (v := 3) dX5_explainsAllSeen_70 (by decide) ?_
        refine g_aldF h 0 7 (by decide) (by decide) (3) (show 3 < 5 by omega) dX5_explainsAllSeen_71 ?_
        refine g_is (b3) (hb2) ?_
        refine g_isub h dX5_explainsAllSeen_72 ?_
        refine g_callV h mv_X3_allows 8 0 0 ⟨rfl, rfl⟩ rfl rfl (As := [.int (nI (k)), .int (((τ2.1 1).2.2 7 (3)) - b3)]) (c_X3_allows (kl K) hE (σ := τ2) (by rw [hx2, hz2]; exact hz) (nI k) (((τ2.1 1).2.2 7 (3)) - b3)) ml_X5_196 rfl (by decide) (by decide) rfl (Nat.le_of_ble_eq_true rfl) dX5_explainsAllSeen_73 (fun v σ9 h9 => ?_)
        rw [h9.1, h9.2]; clear h9
        rw [hx2, hz2, hsl, hou]
        refine g_if_ne h 81 dX5_explainsAllSeen_76 (by decide) (fun c3 => ?_) (fun c3 => ?_)
        · refine g_iinc h (q := 4) (v := nI (k + 1)) 4 [(0, .ref (ad E 0 0 0)), (1, .int (nI (d))), (2, .int (nI (S))), (3, .int (bI (tryB τ))), (4, .int (nI (k + 1)))] dX5_explainsAllSeen_81 rfl (nI_inc k 1) (by decide) rfl ?_
          refine g_goto h 33 dX5_explainsAllSeen_84 (by decide) ?_
          exact ih (k + 1) τ2 (tryB τ) (by omega) hT2 hb2 (by rw [hx2]; exact hz2) (by rw [hx2]; exact hsl) (by rw [hx2]; exact hou) (by rw [hp, exL, if_pos (bI_1.mp c2), ← hτ2, if_pos (bI_1.mp c3)])
        · refine g_iconst h (v := 0) dX5_explainsAllSeen_79 (by decide) ?_
          exact g_zret h hR dX5_explainsAllSeen_80 (by decide) (by rw [hp, exL, if_pos (bI_1.mp c2), ← hτ2, if_neg (by rw [bI_0.mp c3]; decide)]; exact ⟨rfl, rfl⟩)
set_option maxHeartbeats 4000000 in
theorem c_X5_explainsAllSeen (l : Launch) {E : EnvT} (hE : EOK E) {σ : ST} (hX : XO σ) (d : Nat) (hd : d < (σ.1 0).2.1) : Con l E yX5_explainsAllSeen cX5_explainsAllSeen 5 (some .boolean) 5 114 [.ref (ad E 0 0 0), .int (nI (d))] σ (rP (bI (xExpl σ d).1, (xExpl σ d).2)) := by
  refine con_intro hE (by decide) (Nat.le_of_ble_eq_true rfl) (fun K hkl h hR => ?_)
  subst hkl
  have h : Cx K E cX5_explainsAllSeen 5 RX5 5 114 := h
  show GG K E σ 0 [(0, .ref (ad E 0 0 0)), (1, .int (nI (d)))] []
  have hL := hX.1.1
  obtain ⟨hlg, hlg40⟩ := lgN_eq hX
  refine g_aload_n h (q := 0) 0 dX5_explainsAllSeen_0 rfl ?_
  refine g_get h 0 0 0 ⟨rfl, rfl⟩ rfl rfl uin_X5 1 (by decide) fl_X5_16 rfl dX5_explainsAllSeen_1 ?_
  refine g_aload_n h (q := 0) 0 dX5_explainsAllSeen_4 rfl ?_
  refine g_get h 0 0 0 ⟨rfl, rfl⟩ rfl rfl uin_X5 0 (by decide) fl_X5_12 rfl dX5_explainsAllSeen_5 ?_
  refine g_callV h mv_X0_becomes 1 1 0 (ok_F (by decide)) rfl rfl (As := [.ref (ad E 1 0 0)]) (c_X0_becomes (kl K) hE (σ := σ) 1 0 (by decide) (by decide) (by decide) hX.1.1 hX.2.1.1) ml_X5_153 rfl (by decide) (by decide) rfl (Nat.le_of_ble_eq_true rfl) dX5_explainsAllSeen_8 (fun v σ9 h9 => ?_)
  rw [h9.1, h9.2]; clear h9
  obtain ⟨τ0, hτ0⟩ : ∃ τ0, τ0 = cpS σ 1 0 := ⟨_, rfl⟩
  rw [show sR (sF σ 1 (cpF (σ.1 1) (σ.1 0))) 1 (cpR (σ.2.1 1) (σ.2.1 0)) = τ0 from hτ0.symm]
  refine g_aload_n h (q := 0) 0 dX5_explainsAllSeen_11 rfl ?_
  refine g_get h 0 0 0 ⟨rfl, rfl⟩ rfl rfl uin_X5 1 (by decide) fl_X5_16 rfl dX5_explainsAllSeen_12 ?_
  refine g_iload_n h (q := 1) 1 dX5_explainsAllSeen_15 rfl ?_
  refine g_iconst h (v := 4) dX5_explainsAllSeen_16 (by decide) ?_
  refine g_callV h mv_X0_moveLetter 1 1 0 (ok_F (by decide)) rfl rfl (As := [.int (nI (d)), .int 4]) (c_X0_moveLetter (kl K) hE (σ := τ0) 1 (by decide) d 4 (by omega) (by decide) (by rw [hτ0, cpS_f]; exact (cpF_pk hX.1).2 d hd)) ml_X5_190 rfl (by decide) (by decide) rfl (Nat.le_of_ble_eq_true rfl) dX5_explainsAllSeen_17 (fun v σ9 h9 => ?_)
  rw [h9.1, h9.2]; clear h9
  obtain ⟨τ1, hτ1⟩ : ∃ τ1, τ1 = trD σ d := ⟨_, rfl⟩
  rw [show sF τ0 1 (mvL (τ0.1 1) d 4) = τ1 by rw [hτ1, trD, hτ0, cpS_f]]
  have hx1 : τ1.2.2 = σ.2.2 := by rw [hτ1]; rfl
  refine g_aload_n h (q := 0) 0 dX5_explainsAllSeen_20 rfl ?_
  refine g_get h 0 0 0 ⟨rfl, rfl⟩ rfl rfl uin_X5 4 (by decide) fl_X5_36 rfl dX5_explainsAllSeen_21 ?_
  refine g_callV h mv_X3_longest 8 0 0 ⟨rfl, rfl⟩ rfl rfl (As := []) (c_X3_longest (kl K) hE (σ := τ1) (by rw [hx1]; exact hX.2.2.2.2.2.1)) ml_X5_193 rfl (by decide) (by decide) rfl (Nat.le_of_ble_eq_true rfl) dX5_explainsAllSeen_24 (fun v σ9 h9 => ?_)
  rw [h9.1, h9.2]; clear h9
  rw [hx1]
  refine g_is (nI (lgN σ)) (hlg) ?_
  refine g_istore_n h (q := 2) [(0, .ref (ad E 0 0 0)), (1, .int (nI (d))), (2, .int (nI (lgN σ)))] dX5_explainsAllSeen_27 (by decide) rfl ?_
  refine g_iconst h (v := bI true) dX5_explainsAllSeen_28 (by decide) ?_
  refine g_istore_n h (q := 3) [(0, .ref (ad E 0 0 0)), (1, .int (nI (d))), (2, .int (nI (lgN σ))), (3, .int (bI true))] dX5_explainsAllSeen_29 (by decide) rfl ?_
  refine g_iconst h (v := 1) dX5_explainsAllSeen_30 (by decide) ?_
  refine g_istore h (q := 4) [(0, .ref (ad E 0 0 0)), (1, .int (nI (d))), (2, .int (nI (lgN σ))), (3, .int (bI true)), (4, .int 1)] dX5_explainsAllSeen_31 (by decide) rfl ?_
  exact l_X5_explainsAllSeen (σ := σ) hE h hR d (lgN σ) (σ.2.2.1.1 2) hlg40 hX.2.2.2.2.2.1 ((σ.1 0).2.2 7 3) (σ.2.2.1.2 0) (σ.2.2.1.2 1) (lgN σ) 1 τ1 true (Nat.add_comm _ _) (by rw [hτ1]; exact trD_TO hX d) (by rw [hτ1, trD, sF_ne (by decide), cpS_fn (by decide)]) (by rw [hx1]) (by rw [hx1]) (by rw [hx1]) (by rw [xExpl, hτ1])
theorem exL_same (sl ou : Nat → Int32) (z : Nat) (b3 : Int32) (σ : ST) : ∀ (m k : Nat) (τ : ST) (go : Bool), TO τ → Same σ τ → Same σ (exL sl ou z b3 m k τ go).2 := by
  have step : ∀ τ, TO τ → Same σ τ → Same σ (slS τ 1) := fun τ hT h => ⟨fun j hj => by rw [slS_fn hj]; exact h.1 j hj, fun j hj h14 => by rw [slS_qn hj h14]; exact h.2.1 j hj h14, h.2.2.1, hT.sl.1.1, hT.sl.2.1⟩
  intro m
  induction m with
  | zero => intro k τ go _ h; exact h
  | succ m ih =>
    intro k τ go hT h
    by_cases hg : go = true
    · rw [exL, if_pos hg]
      split
      · exact ih _ _ _ hT.sl (step τ hT h)
      · exact step τ hT h
    · rw [exL, if_neg hg]
      split
      · exact ih _ _ _ hT h
      · exact h
theorem xExpl_same {σ : ST} (hX : XO σ) (d : Nat) : Same σ (xExpl σ d).2 := by
  refine exL_same _ _ _ _ σ _ _ _ _ (trD_TO hX d) ⟨fun j hj => by rw [trD, sF_ne hj, cpS_fn hj], fun j hj h14 => by show (cpS σ 1 0).2.1 j = _; rw [cpS_qn hj], rfl, (trD_TO hX d).1.1, (trD_TO hX d).2.1⟩
def unL : Nat → Nat → Int32 → ST → Int32 × ST
  | 0, _, bits, τ => (bits, τ)
  | m + 1, t, bits, τ =>
    if fAt (τ.1 0) (nI t) = -9 then unL m (t + 1) bits τ
    else if (xExpl τ (fAt (τ.1 0) (nI t)).toNatClampNeg).1 = true then unL m (t + 1) (bits ||| ((1 : Int32) <<< (nI t &&& 31))) (xExpl τ (fAt (τ.1 0) (nI t)).toNatClampNeg).2
    else unL m (t + 1) bits (xExpl τ (fAt (τ.1 0) (nI t)).toNatClampNeg).2
def xUnseen (σ : ST) : Int32 × ST := unL 8 0 0 σ
set_option maxHeartbeats 4000000 in
theorem l_X5_unseen {K : KX} {E : EnvT} (hE : EOK E) (h : Cx K E cX5_unseen 4 RX5 6 138) {σ : ST} {p : Int32 × ST} (hR : Rx K E (some .int) (rP p)) : ∀ m t bits τ, t + m = 8 → XO τ → p = unL m t bits τ → GG K E τ 4 [(0, .ref (ad E 0 0 0)), (1, .int bits), (2, .int (nI t))] [] := by
  intro m
  induction m with
  | zero =>
    intro t bits τ hm hX hp
    refine g_iload_n h (q := 2) 2 dX5_unseen_4 rfl ?_
    refine g_bipush h (v := 8) dX5_unseen_5 (by decide) ?_
    refine g_ncmp_ge h (a := t) (b := 8) 45 dX5_unseen_7 (by decide) (by omega) (by omega) (fun c1 => ?_) (fun c1 => ?_)
    · refine g_iload_n h (q := 1) 1 dX5_unseen_45 rfl ?_
      exact g_iret h hR dX5_unseen_46 (rP_of (q := (bits, τ)) hp)
    · exfalso; omega
  | succ m ih =>
    intro t bits τ hm hX hp
    refine g_iload_n h (q := 2) 2 dX5_unseen_4 rfl ?_
    refine g_bipush h (v := 8) dX5_unseen_5 (by decide) ?_
    refine g_ncmp_ge h (a := t) (b := 8) 45 dX5_unseen_7 (by decide) (by omega) (by omega) (fun c1 => ?_) (fun c1 => ?_)
    · exfalso; omega
    · refine g_aload_n h (q := 0) 0 dX5_unseen_10 rfl ?_
      refine g_get h 0 0 0 ⟨rfl, rfl⟩ rfl rfl uin_X5 0 (by decide) fl_X5_12 rfl dX5_unseen_11 ?_
      refine g_iload_n h (q := 2) 2 dX5_unseen_14 rfl ?_
      refine g_callV h mv_X0_letterAt 1 0 0 (ok_F (by decide)) rfl rfl (As := [.int (nI (t))]) (c_X0_letterAt (kl K) hE (σ := τ) 0 (by decide) hX.1.1 (nI t)) ml_X5_77 rfl (by decide) (by decide) rfl (Nat.le_of_ble_eq_true rfl) dX5_unseen_15 (fun v σ9 h9 => ?_)
      rw [h9.1, h9.2]; clear h9
      refine g_istore_n h (q := 3) [(0, .ref (ad E 0 0 0)), (1, .int bits), (2, .int (nI (t))), (3, .int (fAt (τ.1 0) (nI t)))] dX5_unseen_18 (by decide) rfl ?_
      refine g_iload_n h (q := 3) 3 dX5_unseen_19 rfl ?_
      refine g_bipush h (v := (-9)) dX5_unseen_20 (by decide) ?_
      refine g_icmp_eq h 39 dX5_unseen_22 (by decide) (fun c2 => ?_) (fun c2 => ?_)
      · refine g_iinc h (q := 2) (v := nI (t + 1)) 2 [(0, .ref (ad E 0 0 0)), (1, .int bits), (2, .int (nI (t + 1))), (3, .int (fAt (τ.1 0) (nI t)))] dX5_unseen_39 rfl (nI_inc t 1) (by decide) rfl ?_
        refine g_goto h 4 dX5_unseen_42 (by decide) ?_
        refine g_sub [(0, .ref (ad E 0 0 0)), (1, .int bits), (2, .int (nI (t + 1)))] [0, 1, 2] rfl ?_
        exact ih (t + 1) bits τ (by omega) hX (by rw [hp, unL, if_pos c2])
      · refine g_aload_n h (q := 0) 0 dX5_unseen_25 rfl ?_
        obtain ⟨j, hj, hje⟩ := fAt_nat c2
        refine g_iload_n h (q := 3) 3 dX5_unseen_26 rfl ?_
        refine g_is (nI j) hje ?_
        have hjc : (fAt (τ.1 0) (nI t)).toNatClampNeg = j := by rw [hje, nI_clamp (by have := hX.1.1; omega)]
        refine g_callV h mv_X5_explainsAllSeen 0 0 0 ⟨rfl, rfl⟩ rfl rfl (As := [.int (nI (j))]) (c_X5_explainsAllSeen (kl K) hE (σ := τ) hX j hj) ml_X5_187 rfl (by decide) (by decide) rfl (Nat.le_of_ble_eq_true rfl) dX5_unseen_27 (fun v σ9 h9 => ?_)
        rw [h9.1, h9.2]; clear h9
        obtain ⟨τ2, hτ2⟩ : ∃ τ2, τ2 = (xExpl τ j).2 := ⟨_, rfl⟩
        rw [← hτ2]
        have hX2 : XO τ2 := by rw [hτ2]; exact (xExpl_same hX j).XO hX
        refine g_if_eq h 39 dX5_unseen_30 (by decide) (fun c3 => ?_) (fun c3 => ?_)
        · refine g_iinc h (q := 2) (v := nI (t + 1)) 2 [(0, .ref (ad E 0 0 0)), (1, .int bits), (2, .int (nI (t + 1))), (3, .int (fAt (τ.1 0) (nI t)))] dX5_unseen_39 rfl (nI_inc t 1) (by decide) rfl ?_
          refine g_goto h 4 dX5_unseen_42 (by decide) ?_
          refine g_sub [(0, .ref (ad E 0 0 0)), (1, .int bits), (2, .int (nI (t + 1)))] [0, 1, 2] rfl ?_
          exact ih (t + 1) bits τ2 (by omega) hX2 (by rw [hp, unL, if_neg c2, hjc, if_neg (by rw [bI_0.mp c3]; decide), hτ2])
        · refine g_iload_n h (q := 1) 1 dX5_unseen_33 rfl ?_
          refine g_iconst h (v := 1) dX5_unseen_34 (by decide) ?_
          refine g_iload_n h (q := 2) 2 dX5_unseen_35 rfl ?_
          refine g_ishl h dX5_unseen_36 ?_
          refine g_ior h dX5_unseen_37 ?_
          refine g_istore_n h (q := 1) [(0, .ref (ad E 0 0 0)), (1, .int (bits ||| (1 <<< ((nI (t)) &&& 31)))), (2, .int (nI (t))), (3, .int (fAt (τ.1 0) (nI t)))] dX5_unseen_38 (by decide) rfl ?_
          refine g_iinc h (q := 2) (v := nI (t + 1)) 2 [(0, .ref (ad E 0 0 0)), (1, .int (bits ||| (1 <<< ((nI (t)) &&& 31)))), (2, .int (nI (t + 1))), (3, .int (fAt (τ.1 0) (nI t)))] dX5_unseen_39 rfl (nI_inc t 1) (by decide) rfl ?_
          refine g_goto h 4 dX5_unseen_42 (by decide) ?_
          refine g_sub [(0, .ref (ad E 0 0 0)), (1, .int (bits ||| (1 <<< ((nI (t)) &&& 31)))), (2, .int (nI (t + 1)))] [0, 1, 2] rfl ?_
          exact ih (t + 1) _ τ2 (by omega) hX2 (by rw [hp, unL, if_neg c2, hjc, if_pos (bI_1.mp c3), hτ2])
set_option maxHeartbeats 4000000 in
theorem c_X5_unseen (l : Launch) {E : EnvT} (hE : EOK E) {σ : ST} (hX : XO σ) : Con l E yX5_unseen cX5_unseen 4 (some .int) 6 138 [.ref (ad E 0 0 0)] σ (rP (xUnseen σ)) := by
  refine con_intro hE (by decide) (Nat.le_of_ble_eq_true rfl) (fun K hkl h hR => ?_)
  subst hkl
  have h : Cx K E cX5_unseen 4 RX5 6 138 := h
  show GG K E σ 0 [(0, .ref (ad E 0 0 0))] []
  refine g_iconst h (v := 0) dX5_unseen_0 (by decide) ?_
  refine g_istore_n h (q := 1) [(0, .ref (ad E 0 0 0)), (1, .int 0)] dX5_unseen_1 (by decide) rfl ?_
  refine g_iconst h (v := 0) dX5_unseen_2 (by decide) ?_
  refine g_istore_n h (q := 2) [(0, .ref (ad E 0 0 0)), (1, .int 0), (2, .int 0)] dX5_unseen_3 (by decide) rfl ?_
  exact l_X5_unseen (σ := σ) hE h hR 8 0 0 σ rfl hX rfl
