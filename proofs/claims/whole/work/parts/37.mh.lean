def moL : Nat → Nat → MT → Nat × MT
  | 0, o, M => (o, M)
  | m + 1, o, M => moL m (o + (mGo M).1) (mGo M).2
theorem moL_k : ∀ (m o : Nat) (M : MT), (∀ j, j ≠ 0 → j ≠ 3 → (moL m o M).2.2.2.1 j = M.2.2.1 j) ∧ (moL m o M).2.2.1 0 = M.2.1 0 ∧ (moL m o M).2.2.1 2 = M.2.1 2 ∧ (moL m o M).2.2.1 4 = M.2.1 4 ∧ (∀ w, w ≠ 3 → (moL m o M).2.1 w = M.1 w) := by
  intro m
  induction m with
  | zero => intro o M; exact ⟨fun _ _ _ => rfl, rfl, rfl, rfl, fun _ _ => rfl⟩
  | succ m ih =>
    intro o M
    obtain ⟨a1, a2, a3, a4, a5⟩ := ih (o + (mGo M).1) (mGo M).2
    have k := mGo_keep M
    rw [moL]
    exact ⟨fun j h1 h2 => (a1 j h1 h2).trans (k.2.2.2.2.2 j h1 h2), a2.trans k.2.2.1, a3.trans k.2.2.2.1, a4.trans k.2.2.2.2.1, fun w hw => (a5 w hw).trans (k.1 w hw)⟩
def mNs (M : MT) (b : Int32) : MT := (va_up M.1 0 b, M.2)
def mTr (M : MT) (m : Nat) : Nat × MT := moL m 0 M
def yLb (M : MT) (n : Nat) (b : Int32) : Int32 × MT := (nI (mCt (mTr (mNs (mWr M 12) b) n).2 4) - nI (mCt (mNs (mWr M 12) b) 4), mCb (mTr (mNs (mWr M 12) b) n).2 12 (M.2.1 0) (M.2.1 1) 512)
def yLost (M : MT) (a : Int32) : Int32 × MT := if wi a 0 40 = true then yLb M a.toNatClampNeg (M.1 0) else (-1, M)
def ywL (n : Nat) : Nat → Nat → MT → Int32 × MT
  | 0, _, M => (-9, M)
  | m + 1, b, M => if (yLb M n (nI b)).1 = 0 then (nI b, (yLb M n (nI b)).2) else ywL n m (b + 1) (yLb M n (nI b)).2
def yFewest (M : MT) (a : Int32) : Int32 × MT := if wi a 0 40 = true then ywL a.toNatClampNeg 3 1 M else (-1, M)
def yOw (M : MT) (d n : Nat) : Nat × MT := ((mTr (mSet (mWr M 12) d 0 5) n).1, mCb (mTr (mSet (mWr M 12) d 0 5) n).2 12 (M.2.1 0) (M.2.1 1) 512)
theorem mCb_k (M : MT) (p a b : Nat) : (mCb M p a b 512).2.1 0 = a ∧ (mCb M p a b 512).2.1 4 = M.2.1 4 ∧ (∀ j, j ≠ 0 → (mCb M p a b 512).2.2.1 j = M.2.2.1 j) := ⟨by simp [mCb, va_up], by simp [mCb, va_up], fun j hj => by simp [mCb, va_up, hj]⟩
theorem mWr_12 (M : MT) : (mWr M 12).2.2.1 1 = wrG M 12 512 := mKp_1 _ _
theorem yLb_k (M : MT) (n : Nat) (b : Int32) : (yLb M n b).2.2.1 0 = M.2.1 0 := (mCb_k _ _ _ _).1
theorem yOw_k (M : MT) (d n : Nat) : (yOw M d n).2.2.1 0 = M.2.1 0 ∧ (yOw M d n).2.2.1 4 = M.2.1 4 ∧ (yOw M d n).2.2.2.1 6 = M.2.2.1 6 ∧ (yOw M d n).2.2.2.1 7 = M.2.2.1 7 := by
  obtain ⟨a1, a2, a3, a4, a5⟩ := moL_k n 0 (mSet (mWr M 12) d 0 5)
  obtain ⟨b1, b2, b3⟩ := mCb_k (mTr (mSet (mWr M 12) d 0 5) n).2 12 (M.2.1 0) (M.2.1 1)
  refine ⟨b1, b2.trans a4, (b3 6 (by decide)).trans ((a1 6 (by decide) (by decide)).trans ?_), (b3 7 (by decide)).trans ((a1 7 (by decide) (by decide)).trans ?_)⟩
  · simp [mSet, mWr, mKp, va_up]
  · simp [mSet, mWr, mKp, va_up]
set_option maxHeartbeats 4000000 in
theorem l_X6_lostBy {K : KX} {E : EnvT} (hE : EOK E) (h : Cx K E cX6_lostBy 5 RX6 5 111) {σ : ST} (n : Nat) (hn : n ≤ 40) (b : Int32) (c : Nat) : ∀ m k o M, k + m = n → M.2.1 0 ≤ 64 → (GG K E (sM σ (moL m o M).2) 37 [(0, .ref (ad E 11 0 0)), (1, .int (nI n)), (2, .int b), (3, .int (nI c)), (4, .int (nI n))] []) → GG K E (sM σ M) 20 [(0, .ref (ad E 11 0 0)), (1, .int (nI n)), (2, .int b), (3, .int (nI c)), (4, .int (nI k))] [] := by
  intro m
  induction m with
  | zero =>
    intro k o M hk hM hp
    have hkn : k = n := by omega
    subst hkn
    refine g_iload h (q := 4) 4 dX6_lostBy_20 rfl ?_
    refine g_iload_n h (q := 1) 1 dX6_lostBy_22 rfl ?_
    refine g_ncmp_ge h (a := k) (b := k) 37 dX6_lostBy_23 (by decide) (by omega) (by omega) (fun c1 => ?_) (fun c1 => ?_)
    · exact hp
    · exfalso; omega
  | succ m ih =>
    intro k o M hk hM hp
    refine g_iload h (q := 4) 4 dX6_lostBy_20 rfl ?_
    refine g_iload_n h (q := 1) 1 dX6_lostBy_22 rfl ?_
    refine g_ncmp_ge h (a := k) (b := n) 37 dX6_lostBy_23 (by decide) (by omega) (by omega) (fun c1 => ?_) (fun c1 => ?_)
    · exfalso; omega
    · refine g_aload_n h (q := 0) 0 dX6_lostBy_26 rfl ?_
      refine g_callV h mv_X6_goes 11 0 0 ⟨rfl, rfl⟩ rfl rfl (As := []) (c_X6_goes (kl K) hE (σ := σ) (M := M) hM) ml_X6_114 rfl (by decide) (by decide) rfl (Nat.le_of_ble_eq_true rfl) dX6_lostBy_27 (fun v σ9 h9 => ?_)
      rw [h9.1, h9.2]; clear h9
      refine g_pop h dX6_lostBy_30 rfl ?_
      refine g_iinc h (q := 4) (v := nI (k + 1)) 4 [(0, .ref (ad E 11 0 0)), (1, .int (nI (n))), (2, .int b), (3, .int (nI (c))), (4, .int (nI (k + 1)))] dX6_lostBy_31 rfl (nI_inc k 1) (by decide) rfl ?_
      refine g_goto h 20 dX6_lostBy_34 (by decide) ?_
      exact ih (k + 1) (o + (mGo M).1) _ (by omega) (by rw [(mGo_keep M).2.2.1]; exact hM) hp
set_option maxHeartbeats 4000000 in
theorem c_X6_lostBy (l : Launch) {E : EnvT} (hE : EOK E) {σ : ST} {M : MT} (hM : M.2.1 0 ≤ 64) (n : Nat) (hn : n ≤ 40) (b : Int32) : Con l E yX6_lostBy cX6_lostBy 5 (some .int) 5 111 [.ref (ad E 11 0 0), .int (nI (n)), .int b] (sM σ M) (rM (yLb M n b) σ) := by
  refine con_intro hE (by decide) (Nat.le_of_ble_eq_true rfl) (fun K hkl h hR => ?_)
  subst hkl
  have h : Cx K E cX6_lostBy 5 RX6 5 111 := h
  show GG K E (sM σ M) 0 [(0, .ref (ad E 11 0 0)), (1, .int (nI (n))), (2, .int b)] []
  refine g_aload_n h (q := 0) 0 dX6_lostBy_0 rfl ?_
  refine g_bipush h (v := 12) dX6_lostBy_1 (by decide) ?_
  refine g_callV h mv_X6_writes 11 0 0 ⟨rfl, rfl⟩ rfl rfl (As := [.int 12]) (c_X6_writes (kl K) hE (σ := σ) (M := M) 12 (by decide)) ml_X6_59 rfl (by decide) (by decide) rfl (Nat.le_of_ble_eq_true rfl) dX6_lostBy_3 (fun v σ9 h9 => ?_)
  rw [h9.1, h9.2]; clear h9
  have hk12 := mWr_12 M
  have hM2 : (mWr M 12).2.1 0 ≤ 64 := hM
  obtain ⟨W, hWd⟩ : ∃ W, W = mWr M 12 := ⟨_, rfl⟩
  rw [← hWd] at hk12 hM2 ⊢
  refine g_aload_n h (q := 0) 0 dX6_lostBy_6 rfl ?_
  refine g_iload_n h (q := 2) 2 dX6_lostBy_7 rfl ?_
  refine g_pMc h 0 (by decide) fl_X6_7 dX6_lostBy_8 (fun M1 hM1 => ?_)
  refine g_aload_n h (q := 0) 0 dX6_lostBy_11 rfl ?_
  refine g_iconst h (v := 4) dX6_lostBy_12 (by decide) ?_
  have eD : M1 = mNs W b := by rw [hM1]; rfl
  rw [eD]
  refine g_callV h mv_X6_manyAt 11 0 0 ⟨rfl, rfl⟩ rfl rfl (As := [.int 4]) (c_X6_manyAt (kl K) hE (σ := σ) (M := (mNs W b)) (show (mNs W b).2.1 0 ≤ 64 from hM2) 4) ml_X6_99 rfl (by decide) (by decide) rfl (Nat.le_of_ble_eq_true rfl) dX6_lostBy_13 (fun v σ9 h9 => ?_)
  rw [h9.1, h9.2]; clear h9
  refine g_istore_n h (q := 3) [(0, .ref (ad E 11 0 0)), (1, .int (nI (n))), (2, .int b), (3, .int (nI (mCt (mNs W b) 4)))] dX6_lostBy_16 (by decide) rfl ?_
  refine g_iconst h (v := 0) dX6_lostBy_17 (by decide) ?_
  refine g_istore h (q := 4) [(0, .ref (ad E 11 0 0)), (1, .int (nI (n))), (2, .int b), (3, .int (nI (mCt (mNs W b) 4))), (4, .int 0)] dX6_lostBy_18 (by decide) rfl ?_
  refine l_X6_lostBy hE h n hn b _ n 0 0 (mNs W b) (Nat.zero_add _) hM2 ?_
  have hk := moL_k n 0 (mNs W b)
  rw [show moL n 0 (mNs W b) = mTr (mNs W b) n from rfl] at hk ⊢
  obtain ⟨D, hD⟩ : ∃ D, D = (mTr (mNs W b) n).2 := ⟨_, rfl⟩
  rw [← hD] at hk ⊢
  have hD1 : D.2.2.1 1 = wrG M 12 512 := (hk.1 1 (by decide) (by decide)).trans hk12
  refine g_aload_n h (q := 0) 0 dX6_lostBy_37 rfl ?_
  refine g_iconst h (v := 4) dX6_lostBy_38 (by decide) ?_
  refine g_callV h mv_X6_manyAt 11 0 0 ⟨rfl, rfl⟩ rfl rfl (As := [.int 4]) (c_X6_manyAt (kl K) hE (σ := σ) (M := D) (by rw [hk.2.1]; exact hM2) 4) ml_X6_99 rfl (by decide) (by decide) rfl (Nat.le_of_ble_eq_true rfl) dX6_lostBy_39 (fun v σ9 h9 => ?_)
  rw [h9.1, h9.2]; clear h9
  refine g_iload_n h (q := 3) 3 dX6_lostBy_42 rfl ?_
  refine g_isub h dX6_lostBy_43 ?_
  refine g_istore h (q := 4) [(0, .ref (ad E 11 0 0)), (1, .int (nI (n))), (2, .int b), (3, .int (nI (mCt (mNs W b) 4))), (4, .int ((nI (mCt D 4)) - (nI (mCt (mNs W b) 4))))] dX6_lostBy_44 (by decide) rfl ?_
  refine g_aload_n h (q := 0) 0 dX6_lostBy_46 rfl ?_
  refine g_bipush h (v := 12) dX6_lostBy_47 (by decide) ?_
  refine g_callV h mv_X6_comesBack 11 0 0 ⟨rfl, rfl⟩ rfl rfl (As := [.int 12]) (c_X6_comesBack (kl K) hE (σ := σ) (M := D) 12 (M.2.1 0) (M.2.1 1) (by decide) (by rw [hD1]; exact wrG_4 M 12 512) (by rw [hD1]; exact wrG_5 M 12 512)) ml_X6_118 rfl (by decide) (by decide) rfl (Nat.le_of_ble_eq_true rfl) dX6_lostBy_49 (fun v σ9 h9 => ?_)
  rw [h9.1, h9.2]; clear h9
  refine g_iload h (q := 4) 4 dX6_lostBy_52 rfl ?_
  exact g_iret h hR dX6_lostBy_54 (rM_of (q := (nI (mCt D 4) - nI (mCt (mNs W b) 4), mCb D 12 (M.2.1 0) (M.2.1 1) 512)) (by rw [yLb, ← hWd, ← hD]))
set_option maxHeartbeats 4000000 in
theorem c_X6_lost (l : Launch) {E : EnvT} (hE : EOK E) {σ : ST} {M : MT} (hM : M.2.1 0 ≤ 64) (a : Int32) : Con l E yX6_lost cX6_lost 2 (some .int) 6 135 [.ref (ad E 11 0 0), .int a] (sM σ M) (rM (yLost M a) σ) := by
  refine con_intro hE (by decide) (Nat.le_of_ble_eq_true rfl) (fun K hkl h hR => ?_)
  subst hkl
  have h : Cx K E cX6_lost 2 RX6 6 135 := h
  show GG K E (sM σ M) 0 [(0, .ref (ad E 11 0 0)), (1, .int a)] []
  refine g_iload_n h (q := 1) 1 dX6_lost_0 rfl ?_
  refine g_iconst h (v := 0) dX6_lost_1 (by decide) ?_
  refine g_bipush h (v := 40) dX6_lost_2 (by decide) ?_
  refine g_callS h ms_X6_in (As := [.int a, .int 0, .int 40]) (c_X6_in (kl K) hE (σ := σ) (M := M) a 0 40) ml_X6_63 rfl (by decide) (by decide) rfl (Nat.le_of_ble_eq_true rfl) dX6_lost_4 (fun v σ9 h9 => ?_)
  rw [h9.1, h9.2]; clear h9
  refine g_if_eq h 22 dX6_lost_7 (by decide) (fun c1 => ?_) (fun c1 => ?_)
  · refine g_iconst h (v := (-1)) dX6_lost_22 (by decide) ?_
    exact g_iret h hR dX6_lost_23 (rM_of (q := (-1, M)) (by rw [yLost, if_neg (by rw [bI_0.mp c1]; decide)]))
  · have hw1 := bI_1.mp c1
    obtain ⟨j, hj, hje⟩ := wi_nat (n := 40) (by decide) hw1
    subst hje
    have hjc : (nI j).toNatClampNeg = j := nI_clamp (by omega)
    refine g_aload_n h (q := 0) 0 dX6_lost_10 rfl ?_
    refine g_iload_n h (q := 1) 1 dX6_lost_11 rfl ?_
    refine g_aload_n h (q := 0) 0 dX6_lost_12 rfl ?_
    refine g_gMc h 0 (by decide) fl_X6_7 dX6_lost_13 ?_
    refine g_callV h mv_X6_lostBy 11 0 0 ⟨rfl, rfl⟩ rfl rfl (As := [.int (nI (j)), .int (M.1 0)]) (c_X6_lostBy (kl K) hE (σ := σ) (M := M) hM j hj (M.1 0)) ml_X6_131 rfl (by decide) (by decide) rfl (Nat.le_of_ble_eq_true rfl) dX6_lost_16 (fun v σ9 h9 => ?_)
    rw [h9.1, h9.2]; clear h9
    refine g_goto h 23 dX6_lost_19 (by decide) ?_
    exact g_iret h hR dX6_lost_23 (rM_of (q := yLb M j (M.1 0)) (by rw [yLost, if_pos hw1, hjc]))
set_option maxHeartbeats 4000000 in
theorem l_X6_fewest {K : KX} {E : EnvT} (hE : EOK E) (h : Cx K E cX6_fewest 3 RX6 6 135) {σ : ST} {post : Option Value → ST → Prop} (hR : Rx K E (some .int) post) (n : Nat) (hn : n ≤ 40) : ∀ m b M, b + m = 4 → M.2.1 0 ≤ 64 → post (some (.int (ywL n m b M).1)) (sM σ (ywL n m b M).2) → GG K E (sM σ M) 14 [(0, .ref (ad E 11 0 0)), (1, .int (nI n)), (2, .int (nI b))] [] := by
  intro m
  induction m with
  | zero =>
    intro b M hk hM hp
    refine g_iload_n h (q := 2) 2 dX6_fewest_14 rfl ?_
    refine g_iconst h (v := 3) dX6_fewest_15 (by decide) ?_
    refine g_ncmp_gt h (a := b) (b := 3) 36 dX6_fewest_16 (by decide) (by omega) (by omega) (fun c1 => ?_) (fun c1 => ?_)
    · refine g_bipush h (v := (-9)) dX6_fewest_36 (by decide) ?_
      exact g_iret h hR dX6_fewest_38 (hp)
    · exfalso; omega
  | succ m ih =>
    intro b M hk hM hp
    refine g_iload_n h (q := 2) 2 dX6_fewest_14 rfl ?_
    refine g_iconst h (v := 3) dX6_fewest_15 (by decide) ?_
    refine g_ncmp_gt h (a := b) (b := 3) 36 dX6_fewest_16 (by decide) (by omega) (by omega) (fun c1 => ?_) (fun c1 => ?_)
    · exfalso; omega
    · refine g_aload_n h (q := 0) 0 dX6_fewest_19 rfl ?_
      refine g_iload_n h (q := 1) 1 dX6_fewest_20 rfl ?_
      refine g_iload_n h (q := 2) 2 dX6_fewest_21 rfl ?_
      refine g_callV h mv_X6_lostBy 11 0 0 ⟨rfl, rfl⟩ rfl rfl (As := [.int (nI (n)), .int (nI (b))]) (c_X6_lostBy (kl K) hE (σ := σ) (M := M) hM n hn (nI b)) ml_X6_131 rfl (by decide) (by decide) rfl (Nat.le_of_ble_eq_true rfl) dX6_fewest_22 (fun v σ9 h9 => ?_)
      rw [h9.1, h9.2]; clear h9
      refine g_if_ne h 30 dX6_fewest_25 (by decide) (fun c2 => ?_) (fun c2 => ?_)
      · refine g_iinc h (q := 2) (v := nI (b + 1)) 2 [(0, .ref (ad E 11 0 0)), (1, .int (nI (n))), (2, .int (nI (b + 1)))] dX6_fewest_30 rfl (nI_inc b 1) (by decide) rfl ?_
        refine g_goto h 14 dX6_fewest_33 (by decide) ?_
        rw [ywL, if_neg c2] at hp
        exact ih (b + 1) _ (by omega) (by rw [yLb_k]; exact hM) hp
      · refine g_iload_n h (q := 2) 2 dX6_fewest_28 rfl ?_
        exact g_iret h hR dX6_fewest_29 (by rw [ywL, if_pos c2] at hp; exact hp)
set_option maxHeartbeats 4000000 in
theorem c_X6_fewest (l : Launch) {E : EnvT} (hE : EOK E) {σ : ST} {M : MT} (hM : M.2.1 0 ≤ 64) (a : Int32) : Con l E yX6_fewest cX6_fewest 3 (some .int) 6 135 [.ref (ad E 11 0 0), .int a] (sM σ M) (rM (yFewest M a) σ) := by
  refine con_intro hE (by decide) (Nat.le_of_ble_eq_true rfl) (fun K hkl h hR => ?_)
  subst hkl
  have h : Cx K E cX6_fewest 3 RX6 6 135 := h
  show GG K E (sM σ M) 0 [(0, .ref (ad E 11 0 0)), (1, .int a)] []
  refine g_iload_n h (q := 1) 1 dX6_fewest_0 rfl ?_
  refine g_iconst h (v := 0) dX6_fewest_1 (by decide) ?_
  refine g_bipush h (v := 40) dX6_fewest_2 (by decide) ?_
  refine g_callS h ms_X6_in (As := [.int a, .int 0, .int 40]) (c_X6_in (kl K) hE (σ := σ) (M := M) a 0 40) ml_X6_63 rfl (by decide) (by decide) rfl (Nat.le_of_ble_eq_true rfl) dX6_fewest_4 (fun v σ9 h9 => ?_)
  rw [h9.1, h9.2]; clear h9
  refine g_if_ne h 12 dX6_fewest_7 (by decide) (fun c1 => ?_) (fun c1 => ?_)
  · have hw1 := bI_1.mp c1
    obtain ⟨j, hj, hje⟩ := wi_nat (n := 40) (by decide) hw1
    subst hje
    have hjc : (nI j).toNatClampNeg = j := nI_clamp (by omega)
    refine g_iconst h (v := 1) dX6_fewest_12 (by decide) ?_
    refine g_istore_n h (q := 2) [(0, .ref (ad E 11 0 0)), (1, .int (nI (j))), (2, .int 1)] dX6_fewest_13 (by decide) rfl ?_
    exact l_X6_fewest hE h hR j hj 3 1 M rfl hM (by rw [yFewest, if_pos hw1, hjc]; exact ⟨rfl, rfl⟩)
  · refine g_iconst h (v := (-1)) dX6_fewest_10 (by decide) ?_
    exact g_iret h hR dX6_fewest_11 (rM_of (q := (-1, M)) (by rw [yFewest, if_neg (by rw [bI_0.mp c1]; decide)]))
set_option maxHeartbeats 4000000 in
theorem l_X6_outWithout {K : KX} {E : EnvT} (hE : EOK E) (h : Cx K E cX6_outWithout 5 RX6 5 111) {σ : ST} (n : Nat) (hn : n ≤ 40) (d : Nat) : ∀ m k o M, k + m = n → M.2.1 0 ≤ 64 → (GG K E (sM σ (moL m o M).2) 37 [(0, .ref (ad E 11 0 0)), (1, .int (nI d)), (2, .int (nI n)), (3, .int (nI (moL m o M).1)), (4, .int (nI n))] []) → GG K E (sM σ M) 18 [(0, .ref (ad E 11 0 0)), (1, .int (nI d)), (2, .int (nI n)), (3, .int (nI o)), (4, .int (nI k))] [] := by
  intro m
  induction m with
  | zero =>
    intro k o M hk hM hp
    have hkn : k = n := by omega
    subst hkn
    refine g_iload h (q := 4) 4 dX6_outWithout_18 rfl ?_
    refine g_iload_n h (q := 2) 2 dX6_outWithout_20 rfl ?_
    refine g_ncmp_ge h (a := k) (b := k) 37 dX6_outWithout_21 (by decide) (by omega) (by omega) (fun c1 => ?_) (fun c1 => ?_)
    · exact hp
    · exfalso; omega
  | succ m ih =>
    intro k o M hk hM hp
    refine g_iload h (q := 4) 4 dX6_outWithout_18 rfl ?_
    refine g_iload_n h (q := 2) 2 dX6_outWithout_20 rfl ?_
    refine g_ncmp_ge h (a := k) (b := n) 37 dX6_outWithout_21 (by decide) (by omega) (by omega) (fun c1 => ?_) (fun c1 => ?_)
    · exfalso; omega
    · refine g_iload_n h (q := 3) 3 dX6_outWithout_24 rfl ?_
      refine g_aload_n h (q := 0) 0 dX6_outWithout_25 rfl ?_
      refine g_callV h mv_X6_goes 11 0 0 ⟨rfl, rfl⟩ rfl rfl (As := []) (c_X6_goes (kl K) hE (σ := σ) (M := M) hM) ml_X6_114 rfl (by decide) (by decide) rfl (Nat.le_of_ble_eq_true rfl) dX6_outWithout_26 (fun v σ9 h9 => ?_)
      rw [h9.1, h9.2]; clear h9
      refine g_iadd h dX6_outWithout_29 ?_
      refine g_is (nI (o + ((mGo M).1))) (nI_add o ((mGo M).1)) ?_
      refine g_istore_n h (q := 3) [(0, .ref (ad E 11 0 0)), (1, .int (nI (d))), (2, .int (nI (n))), (3, .int (nI (o + ((mGo M).1)))), (4, .int (nI (k)))] dX6_outWithout_30 (by decide) rfl ?_
      refine g_iinc h (q := 4) (v := nI (k + 1)) 4 [(0, .ref (ad E 11 0 0)), (1, .int (nI (d))), (2, .int (nI (n))), (3, .int (nI (o + ((mGo M).1)))), (4, .int (nI (k + 1)))] dX6_outWithout_31 rfl (nI_inc k 1) (by decide) rfl ?_
      refine g_goto h 18 dX6_outWithout_34 (by decide) ?_
      exact ih (k + 1) (o + (mGo M).1) _ (by omega) (by rw [(mGo_keep M).2.2.1]; exact hM) hp
set_option maxHeartbeats 4000000 in
theorem c_X6_outWithout (l : Launch) {E : EnvT} (hE : EOK E) {σ : ST} {M : MT} (hM : M.2.1 0 ≤ 64) (d : Nat) (hd : d < 64) (n : Nat) (hn : n ≤ 40) : Con l E yX6_outWithout cX6_outWithout 5 (some .int) 5 111 [.ref (ad E 11 0 0), .int (nI (d)), .int (nI (n))] (sM σ M) (rM (nI (yOw M d n).1, (yOw M d n).2) σ) := by
  refine con_intro hE (by decide) (Nat.le_of_ble_eq_true rfl) (fun K hkl h hR => ?_)
  subst hkl
  have h : Cx K E cX6_outWithout 5 RX6 5 111 := h
  show GG K E (sM σ M) 0 [(0, .ref (ad E 11 0 0)), (1, .int (nI (d))), (2, .int (nI (n)))] []
  refine g_aload_n h (q := 0) 0 dX6_outWithout_0 rfl ?_
  refine g_bipush h (v := 12) dX6_outWithout_1 (by decide) ?_
  refine g_callV h mv_X6_writes 11 0 0 ⟨rfl, rfl⟩ rfl rfl (As := [.int 12]) (c_X6_writes (kl K) hE (σ := σ) (M := M) 12 (by decide)) ml_X6_59 rfl (by decide) (by decide) rfl (Nat.le_of_ble_eq_true rfl) dX6_outWithout_3 (fun v σ9 h9 => ?_)
  rw [h9.1, h9.2]; clear h9
  have hk12 := mWr_12 M
  have hM2 : (mWr M 12).2.1 0 ≤ 64 := hM
  obtain ⟨W, hWd⟩ : ∃ W, W = mWr M 12 := ⟨_, rfl⟩
  rw [← hWd] at hk12 hM2 ⊢
  refine g_aload_n h (q := 0) 0 dX6_outWithout_6 rfl ?_
  refine g_iload_n h (q := 1) 1 dX6_outWithout_7 rfl ?_
  refine g_iconst h (v := 0) dX6_outWithout_8 (by decide) ?_
  refine g_iconst h (v := 5) dX6_outWithout_9 (by decide) ?_
  refine g_callV h mv_X6_sets 11 0 0 ⟨rfl, rfl⟩ rfl rfl (As := [.int (nI (d)), .int 0, .int 5]) (c_X6_sets (kl K) hE (σ := σ) (M := W) d 0 hd (by decide) (5)) ml_X6_82 rfl (by decide) (by decide) rfl (Nat.le_of_ble_eq_true rfl) dX6_outWithout_10 (fun v σ9 h9 => ?_)
  rw [h9.1, h9.2]; clear h9
  obtain ⟨S, hS⟩ : ∃ X, X = mSet W d 0 (5) := ⟨_, rfl⟩
  rw [← hS]
  refine g_iconst h (v := 0) dX6_outWithout_13 (by decide) ?_
  refine g_istore_n h (q := 3) [(0, .ref (ad E 11 0 0)), (1, .int (nI (d))), (2, .int (nI (n))), (3, .int 0)] dX6_outWithout_14 (by decide) rfl ?_
  refine g_iconst h (v := 0) dX6_outWithout_15 (by decide) ?_
  refine g_istore h (q := 4) [(0, .ref (ad E 11 0 0)), (1, .int (nI (d))), (2, .int (nI (n))), (3, .int 0), (4, .int 0)] dX6_outWithout_16 (by decide) rfl ?_
  refine l_X6_outWithout hE h n hn d n 0 0 S (Nat.zero_add _) (by rw [hS]; exact hM2) ?_
  have hk := moL_k n 0 S
  rw [show moL n 0 S = mTr S n from rfl] at hk ⊢
  obtain ⟨D, hD⟩ : ∃ D, D = mTr S n := ⟨_, rfl⟩
  rw [← hD] at hk ⊢
  have hD1 : D.2.2.2.1 1 = wrG M 12 512 := (hk.1 1 (by decide) (by decide)).trans (by rw [hS]; exact hk12)
  refine g_aload_n h (q := 0) 0 dX6_outWithout_37 rfl ?_
  refine g_bipush h (v := 12) dX6_outWithout_38 (by decide) ?_
  refine g_callV h mv_X6_comesBack 11 0 0 ⟨rfl, rfl⟩ rfl rfl (As := [.int 12]) (c_X6_comesBack (kl K) hE (σ := σ) (M := D.2) 12 (M.2.1 0) (M.2.1 1) (by decide) (by rw [hD1]; exact wrG_4 M 12 512) (by rw [hD1]; exact wrG_5 M 12 512)) ml_X6_118 rfl (by decide) (by decide) rfl (Nat.le_of_ble_eq_true rfl) dX6_outWithout_40 (fun v σ9 h9 => ?_)
  rw [h9.1, h9.2]; clear h9
  refine g_iload_n h (q := 3) 3 dX6_outWithout_43 rfl ?_
  exact g_iret h hR dX6_outWithout_44 (rM_of (q := (nI D.1, mCb D.2 12 (M.2.1 0) (M.2.1 1) 512)) (by rw [yOw, ← hWd, ← hS, ← hD]))
