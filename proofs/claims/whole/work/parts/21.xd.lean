theorem foL_ok (L z : Nat) : ∀ (m t : Nat) (sv : Int32) (l : Nat) (F : FabT) (g : Nat → Nat), t + m = z → l ≤ t → PK F → (∀ q, q < l → g q < L) → (∀ q, t ≤ q → q < z → g q < L) →
    PK (foL m t sv l F g).1 ∧ (foL m t sv l F g).1.2.1 = F.2.1 ∧ (foL m t sv l F g).2.2 ≤ z ∧ ∀ q, q < (foL m t sv l F g).2.2 → (foL m t sv l F g).2.1 q < L := by
  intro m
  induction m with
  | zero => intro t sv l F g ht hl hF h1 h2; exact ⟨hF, rfl, by show l ≤ z; omega, h1⟩
  | succ m ih =>
    intro t sv l F g ht hl hF h1 h2
    by_cases hc : sv &&& ((1 : Int32) <<< (F.2.2 2 (g t) &&& 31)) = 0
    · rw [foL, if_pos hc]
      exact ih (t + 1) _ l (enL F (g t) 3) g (by omega) (by omega) (enL_pk hF _ (by decide)) h1 (fun q a b => h2 q (by omega) b)
    · rw [foL, if_neg hc]
      refine ih (t + 1) sv (l + 1) F _ (by omega) (by omega) hF (fun q a => ?_) (fun q a b => ?_)
      · by_cases e : q = l
        · rw [e, up_s]; exact h2 t (Nat.le_refl _) (by omega)
        · rw [up_n e]; exact h1 q (by omega)
      · rw [up_n (by omega)]; exact h2 q (by omega) b
theorem slS_f {σ : ST} {i : Nat} : (slS σ i).1 i = slF (σ.1 i) (σ.2.1 i) (σ.2.1 14) (σ.2.1 15) := by
  simp [slS, sQ, sR, sF, up_s]
theorem slS_q {σ : ST} {i : Nat} (hi : i < 14) : (slS σ i).2.1 i = (slO (σ.1 i) (σ.2.1 i) (σ.2.1 14) (σ.2.1 15)).2 := by
  rw [slS, sR_ne (by omega), sR_ne (by omega), sQ_q]
theorem slS_fn {σ : ST} {i j : Nat} (h : j ≠ i) : (slS σ i).1 j = σ.1 j := by
  show (sF σ i _).1 j = _
  exact sF_ne h
theorem slS_qn {σ : ST} {i j : Nat} (h : j ≠ i) (hj : j < 14) : (slS σ i).2.1 j = σ.2.1 j := by
  rw [slS, sR_ne (by omega), sR_ne (by omega), sQ, sR_ne h]; rfl
theorem slS_x {σ : ST} {i : Nat} : (slS σ i).2.2 = σ.2.2 := rfl
theorem slF_ok {F : FabT} {Q W B : RowT} (hF : PK F) (hQ : ROK F.2.1 Q) : PK (slF F Q W B) ∧ (slF F Q W B).2.1 = F.2.1 ∧ ROK F.2.1 (slO F Q W B).2 := by
  have hW := sortW_ok (F := F) (w := W) hF.1
  have hK1 := lwL_ok (sortW F W) F.2.1 hW hF.1 (sortW F W).2 0 (-9) 0 F Q (B.1, 0) (Nat.zero_add _) hF rfl hQ ⟨Nat.zero_le _, fun t q => absurd q (Nat.not_lt_zero t)⟩
  have hK2 := tbL_ok (slL F Q W B).2.2 (slL F Q W B).2.2.2 0 (slL F Q W B).1 hK1.1
  have hK3 := foL_ok F.2.1 (slL F Q W B).2.1.2 (slL F Q W B).2.1.2 0 0 0 (slT F Q W B) (slL F Q W B).2.1.1 (Nat.zero_add _) (Nat.le_refl _) hK2.1 (fun q h => absurd h (Nat.not_lt_zero q)) (fun q _ h => hK1.2.2.1.2 q h)
  have e1 : (slO F Q W B).1.2.1 = F.2.1 := hK3.2.1.trans (hK2.2.trans hK1.2.1)
  exact ⟨hK3.1, e1, Nat.le_trans hK3.2.2.1 hK1.2.2.1.1, hK3.2.2.2⟩
def TO (σ : ST) : Prop := PK (σ.1 1) ∧ ROK (σ.1 1).2.1 (σ.2.1 1)
theorem TO.sl {σ : ST} (h : TO σ) : TO (slS σ 1) := by
  have h2 := slF_ok (W := σ.2.1 14) (B := σ.2.1 15) h.1 h.2
  refine ⟨by rw [slS_f]; exact h2.1, ?_⟩
  rw [slS_f, slS_q (by decide), h2.2.1]
  exact h2.2.2
theorem cpF_pk {A B : FabT} (h : PK B) : PK (cpF A B) := by
  refine ⟨h.1, fun n hn => ?_⟩
  have hn : n < B.2.1 := hn
  have e : (cpF A B).2.2 0 n = B.2.2 0 n := by simp [cpF, hn]
  rw [e]
  exact h.2 n hn
theorem cpR_ok {A B : RowT} {b : Nat} (h : ROK b B) : ROK b (cpR A B) := by
  refine ⟨h.1, fun t ht => ?_⟩
  have ht : t < B.2 := ht
  have e : (cpR A B).1 t = B.1 t := by simp [cpR, ht]
  rw [e]
  exact h.2 t ht
theorem cpS_f {σ : ST} {i j : Nat} : (cpS σ i j).1 i = cpF (σ.1 i) (σ.1 j) := by
  show (sF σ i _).1 i = _
  exact sF_at
theorem cpS_q {σ : ST} {i j : Nat} : (cpS σ i j).2.1 i = cpR (σ.2.1 i) (σ.2.1 j) := sR_at
theorem cpS_fn {σ : ST} {i j k : Nat} (h : k ≠ i) : (cpS σ i j).1 k = σ.1 k := by
  show (sF σ i _).1 k = _
  exact sF_ne h
theorem cpS_qn {σ : ST} {i j k : Nat} (h : k ≠ i) : (cpS σ i j).2.1 k = σ.2.1 k := by rw [cpS, sR_ne h]; rfl
theorem TO.cp {σ : ST} (hX : XO σ) : TO (cpS σ 1 0) := by
  refine ⟨by rw [cpS_f]; exact cpF_pk hX.1, ?_⟩
  rw [cpS_f, cpS_q]
  exact cpR_ok hX.2.1
def tryB (σ : ST) : Bool := decide (fLive ((slS σ 1).1 1) ≠ fLive (σ.1 1))
set_option maxHeartbeats 4000000 in
theorem c_X5_trySlot (l : Launch) {E : EnvT} (hE : EOK E) {σ : ST} (hT : TO σ) : Con l E yX5_trySlot cX5_trySlot 2 (some .boolean) 4 93 [.ref (ad E 0 0 0)] σ (rP (bI (tryB σ), slS σ 1)) := by
  refine con_intro hE (by decide) (Nat.le_of_ble_eq_true rfl) (fun K hkl h hR => ?_)
  subst hkl
  have h : Cx K E cX5_trySlot 2 RX5 4 93 := h
  show GG K E σ 0 [(0, .ref (ad E 0 0 0))] []
  refine g_aload_n h (q := 0) 0 dX5_trySlot_0 rfl ?_
  refine g_get h 0 0 0 ⟨rfl, rfl⟩ rfl rfl uin_X5 1 (by decide) fl_X5_16 rfl dX5_trySlot_1 ?_
  refine g_callV h mv_X0_countLive 1 1 0 (ok_F (by decide)) rfl rfl (As := []) (c_X0_countLive (kl K) hE (σ := σ) 1 (by decide)) ml_X5_156 rfl (by decide) (by decide) rfl (Nat.le_of_ble_eq_true rfl) dX5_trySlot_4 (fun v σ9 h9 => ?_)
  rw [h9.1, h9.2]; clear h9
  refine g_istore_n h (q := 1) [(0, .ref (ad E 0 0 0)), (1, .int (fLive (σ.1 1)))] dX5_trySlot_7 (by decide) rfl ?_
  refine g_aload_n h (q := 0) 0 dX5_trySlot_8 rfl ?_
  refine g_get h 0 0 0 ⟨rfl, rfl⟩ rfl rfl uin_X5 2 (by decide) fl_X5_22 rfl dX5_trySlot_9 ?_
  refine g_aload_n h (q := 0) 0 dX5_trySlot_12 rfl ?_
  refine g_get h 0 0 0 ⟨rfl, rfl⟩ rfl rfl uin_X5 1 (by decide) fl_X5_16 rfl dX5_trySlot_13 ?_
  refine g_callV h mv_X4_passSlot 5 0 0 ⟨rfl, rfl⟩ rfl rfl (As := [.ref (ad E 1 1 0)]) (c_X4_passSlot (kl K) hE (σ := σ) 1 (by decide) hT.1 hT.2) ml_X5_94 rfl (by decide) (by decide) rfl (Nat.le_of_ble_eq_true rfl) dX5_trySlot_16 (fun v σ9 h9 => ?_)
  rw [h9.1, h9.2]; clear h9
  obtain ⟨τ, hτ⟩ : ∃ τ, τ = slS σ 1 := ⟨_, rfl⟩
  rw [← hτ]
  refine g_aload_n h (q := 0) 0 dX5_trySlot_19 rfl ?_
  refine g_get h 0 0 0 ⟨rfl, rfl⟩ rfl rfl uin_X5 1 (by decide) fl_X5_16 rfl dX5_trySlot_20 ?_
  refine g_callV h mv_X0_countLive 1 1 0 (ok_F (by decide)) rfl rfl (As := []) (c_X0_countLive (kl K) hE (σ := τ) 1 (by decide)) ml_X5_156 rfl (by decide) (by decide) rfl (Nat.le_of_ble_eq_true rfl) dX5_trySlot_23 (fun v σ9 h9 => ?_)
  rw [h9.1, h9.2]; clear h9
  refine g_iload_n h (q := 1) 1 dX5_trySlot_26 rfl ?_
  refine g_icmp_eq h 34 dX5_trySlot_27 (by decide) (fun c1 => ?_) (fun c1 => ?_)
  · refine g_iconst h (v := 0) dX5_trySlot_34 (by decide) ?_
    exact g_zret h hR dX5_trySlot_35 (by decide) (rP_of (q := (bI false, τ)) (by rw [show tryB σ = false by rw [tryB, ← hτ]; simp [c1], hτ]))
  · refine g_iconst h (v := 1) dX5_trySlot_30 (by decide) ?_
    refine g_goto h 35 dX5_trySlot_31 (by decide) ?_
    exact g_zret h hR dX5_trySlot_35 (by decide) (rP_of (q := (bI true, τ)) (by rw [show tryB σ = true by rw [tryB, ← hτ]; simp [c1], hτ]))
def drL : Nat → Nat → ST → Int32 × ST
  | 0, _, τ => (-9, τ)
  | m + 1, k, τ => if fLive (τ.1 1) = 0 then (nI k, τ) else if tryB τ = true then drL m (k + 1) (slS τ 1) else (-9, slS τ 1)
def xDrain (σ : ST) : Int32 × ST := drL 100 0 (cpS σ 1 0)
set_option maxHeartbeats 4000000 in
theorem l_X5_drain {K : KX} {E : EnvT} (hE : EOK E) (h : Cx K E cX5_drain 2 RX5 5 114) {σ : ST} {p : Int32 × ST} (hR : Rx K E (some .int) (rP p)) : ∀ m k τ, k + m = 100 → TO τ → p = drL m k τ → GG K E τ 13 [(0, .ref (ad E 0 0 0)), (1, .int (nI k))] [] := by
  intro m
  induction m with
  | zero =>
    intro k τ hm hT hp
    refine g_iload_n h (q := 1) 1 dX5_drain_13 rfl ?_
    refine g_bipush h (v := 99) dX5_drain_14 (by decide) ?_
    refine g_ncmp_gt h (a := k) (b := 99) 47 dX5_drain_16 (by decide) (by omega) (by omega) (fun c1 => ?_) (fun c1 => ?_)
    · refine g_bipush h (v := (-9)) dX5_drain_47 (by decide) ?_
      exact g_iret h hR dX5_drain_49 (rP_of (q := (-9, τ)) hp)
    · exfalso; omega
  | succ m ih =>
    intro k τ hm hT hp
    refine g_iload_n h (q := 1) 1 dX5_drain_13 rfl ?_
    refine g_bipush h (v := 99) dX5_drain_14 (by decide) ?_
    refine g_ncmp_gt h (a := k) (b := 99) 47 dX5_drain_16 (by decide) (by omega) (by omega) (fun c1 => ?_) (fun c1 => ?_)
    · exfalso; omega
    · refine g_aload_n h (q := 0) 0 dX5_drain_19 rfl ?_
      refine g_get h 0 0 0 ⟨rfl, rfl⟩ rfl rfl uin_X5 1 (by decide) fl_X5_16 rfl dX5_drain_20 ?_
      refine g_callV h mv_X0_countLive 1 1 0 (ok_F (by decide)) rfl rfl (As := []) (c_X0_countLive (kl K) hE (σ := τ) 1 (by decide)) ml_X5_156 rfl (by decide) (by decide) rfl (Nat.le_of_ble_eq_true rfl) dX5_drain_23 (fun v σ9 h9 => ?_)
      rw [h9.1, h9.2]; clear h9
      refine g_if_ne h 31 dX5_drain_26 (by decide) (fun c2 => ?_) (fun c2 => ?_)
      · refine g_aload_n h (q := 0) 0 dX5_drain_31 rfl ?_
        refine g_callV h mv_X5_trySlot 0 0 0 ⟨rfl, rfl⟩ rfl rfl (As := []) (c_X5_trySlot (kl K) hE (σ := τ) hT) ml_X5_160 rfl (by decide) (by decide) rfl (Nat.le_of_ble_eq_true rfl) dX5_drain_32 (fun v σ9 h9 => ?_)
        rw [h9.1, h9.2]; clear h9
        obtain ⟨τ2, hτ2⟩ : ∃ τ2, τ2 = slS τ 1 := ⟨_, rfl⟩
        dsimp only
        rw [← hτ2]
        refine g_if_ne h 41 dX5_drain_35 (by decide) (fun c3 => ?_) (fun c3 => ?_)
        · refine g_iinc h (q := 1) (v := nI (k + 1)) 1 [(0, .ref (ad E 0 0 0)), (1, .int (nI (k + 1)))] dX5_drain_41 rfl (nI_inc k 1) (by decide) rfl ?_
          refine g_goto h 13 dX5_drain_44 (by decide) ?_
          exact ih (k + 1) τ2 (by omega) (by rw [hτ2]; exact hT.sl) (by rw [hp, drL, if_neg c2, if_pos (bI_1.mp c3), hτ2])
        · refine g_bipush h (v := (-9)) dX5_drain_38 (by decide) ?_
          exact g_iret h hR dX5_drain_40 (rP_of (q := (-9, τ2)) (by rw [hp, drL, if_neg c2, if_neg (by rw [bI_0.mp c3]; decide), hτ2]))
      · refine g_iload_n h (q := 1) 1 dX5_drain_29 rfl ?_
        exact g_iret h hR dX5_drain_30 (rP_of (q := (nI k, τ)) (by rw [hp, drL, if_pos c2]))
set_option maxHeartbeats 4000000 in
theorem c_X5_drain (l : Launch) {E : EnvT} (hE : EOK E) {σ : ST} (hX : XO σ) : Con l E yX5_drain cX5_drain 2 (some .int) 5 114 [.ref (ad E 0 0 0)] σ (rP (xDrain σ)) := by
  refine con_intro hE (by decide) (Nat.le_of_ble_eq_true rfl) (fun K hkl h hR => ?_)
  subst hkl
  have h : Cx K E cX5_drain 2 RX5 5 114 := h
  show GG K E σ 0 [(0, .ref (ad E 0 0 0))] []
  refine g_aload_n h (q := 0) 0 dX5_drain_0 rfl ?_
  refine g_get h 0 0 0 ⟨rfl, rfl⟩ rfl rfl uin_X5 1 (by decide) fl_X5_16 rfl dX5_drain_1 ?_
  refine g_aload_n h (q := 0) 0 dX5_drain_4 rfl ?_
  refine g_get h 0 0 0 ⟨rfl, rfl⟩ rfl rfl uin_X5 0 (by decide) fl_X5_12 rfl dX5_drain_5 ?_
  refine g_callV h mv_X0_becomes 1 1 0 (ok_F (by decide)) rfl rfl (As := [.ref (ad E 1 0 0)]) (c_X0_becomes (kl K) hE (σ := σ) 1 0 (by decide) (by decide) (by decide) hX.1.1 hX.2.1.1) ml_X5_153 rfl (by decide) (by decide) rfl (Nat.le_of_ble_eq_true rfl) dX5_drain_8 (fun v σ9 h9 => ?_)
  rw [h9.1, h9.2]; clear h9
  obtain ⟨τ0, hτ0⟩ : ∃ τ0, τ0 = cpS σ 1 0 := ⟨_, rfl⟩
  rw [show sR (sF σ 1 (cpF (σ.1 1) (σ.1 0))) 1 (cpR (σ.2.1 1) (σ.2.1 0)) = τ0 from hτ0.symm]
  refine g_iconst h (v := 0) dX5_drain_11 (by decide) ?_
  refine g_istore_n h (q := 1) [(0, .ref (ad E 0 0 0)), (1, .int 0)] dX5_drain_12 (by decide) rfl ?_
  exact l_X5_drain (σ := σ) hE h hR 100 0 τ0 rfl (by rw [hτ0]; exact TO.cp hX) (by rw [xDrain, hτ0])
def dpL : Nat → ST → Bool → ST
  | 0, τ, _ => τ
  | m + 1, τ, go => if go = true then dpL m (slS τ 1) (tryB τ) else τ
def trN (σ : ST) (c : Int32) : ST := sF (cpS σ 1 0) 1 (va_up (cpF (σ.1 1) (σ.1 0)).1 0 c, (cpF (σ.1 1) (σ.1 0)).2)
theorem trN_TO {σ : ST} (hX : XO σ) (c : Int32) : TO (trN σ c) := by
  have hc := TO.cp hX
  rw [TO, cpS_f] at hc
  refine ⟨?_, ?_⟩
  · rw [trN, sF_at]; exact hc.1
  · show ROK ((trN σ c).1 1).2.1 ((cpS σ 1 0).2.1 1)
    rw [trN, sF_at]; exact hc.2
def drp (σ : ST) (n : Nat) (c : Int32) : Int32 × ST := (((dpL n (trN σ c) true).1 1).2.2 7 4 - (σ.1 0).2.2 7 4, dpL n (trN σ c) true)
theorem dpL_f : ∀ (m : Nat) (τ : ST) (go : Bool), (dpL m τ go).1 0 = τ.1 0 := by
  intro m
  induction m with
  | zero => intro τ go; rfl
  | succ m ih =>
    intro τ go
    by_cases h : go = true
    · rw [dpL, if_pos h, ih, slS_fn (by decide)]
    · rw [dpL, if_neg h]
set_option maxHeartbeats 4000000 in
theorem l_X5_dropsIn {K : KX} {E : EnvT} (hE : EOK E) (h : Cx K E cX5_dropsIn 5 RX5 5 114) {σ : ST} {p : Int32 × ST} (hR : Rx K E (some .int) (rP p)) (n : Nat) (hn : n ≤ 40) (c : Int32) (b4 : Int32) : ∀ m k τ go, k + m = n → TO τ → (τ.1 0).2.2 7 4 = b4 → p = (((dpL m τ go).1 1).2.2 7 4 - b4, dpL m τ go) → GG K E τ 24 [(0, .ref (ad E 0 0 0)), (1, .int (nI n)), (2, .int c), (3, .int (bI go)), (4, .int (nI k))] [] := by
  intro m
  induction m with
  | zero =>
    intro k τ go hm hT hb hp
    refine g_iload h (q := 4) 4 dX5_dropsIn_24 rfl ?_
    refine g_iload_n h (q := 1) 1 dX5_dropsIn_26 rfl ?_
    refine g_ncmp_ge h (a := k) (b := n) 45 dX5_dropsIn_27 (by decide) (by omega) (by omega) (fun c1 => ?_) (fun c1 => ?_)
    · refine g_aload_n h (q := 0) 0 dX5_dropsIn_45 rfl ?_
      refine g_get h 0 0 0 ⟨rfl, rfl⟩ rfl rfl uin_X5 1 (by decide) fl_X5_16 rfl dX5_dropsIn_46 ?_
      refine g_get h 1 1 0 (ok_F (by decide)) rfl rfl uin_X0 12 (by decide) fl_X5_91 rfl dX5_dropsIn_49 ?_
      refine g_iconst h (v := 4) dX5_dropsIn_52 (by decide) ?_
      refine g_aldF h 1 7 (by decide) (by decide) (4) (show 4 < 5 by omega) dX5_dropsIn_53 ?_
      refine g_aload_n h (q := 0) 0 dX5_dropsIn_54 rfl ?_
      refine g_get h 0 0 0 ⟨rfl, rfl⟩ rfl rfl uin_X5 0 (by decide) fl_X5_12 rfl dX5_dropsIn_55 ?_
      refine g_get h 1 0 0 (ok_F (by decide)) rfl rfl uin_X0 12 (by decide) fl_X5_91 rfl dX5_dropsIn_58 ?_
      refine g_iconst h (v := 4) dX5_dropsIn_61 (by decide) ?_
      refine g_aldF h 0 7 (by decide) (by decide) (4) (show 4 < 5 by omega) dX5_dropsIn_62 ?_
      refine g_is (b4) (hb) ?_
      refine g_isub h dX5_dropsIn_63 ?_
      exact g_iret h hR dX5_dropsIn_64 (rP_of (q := ((τ.1 1).2.2 7 4 - b4, τ)) (by rw [hp, dpL]))
    · exfalso; omega
  | succ m ih =>
    intro k τ go hm hT hb hp
    refine g_iload h (q := 4) 4 dX5_dropsIn_24 rfl ?_
    refine g_iload_n h (q := 1) 1 dX5_dropsIn_26 rfl ?_
    refine g_ncmp_ge h (a := k) (b := n) 45 dX5_dropsIn_27 (by decide) (by omega) (by omega) (fun c1 => ?_) (fun c1 => ?_)
    · exfalso; omega
    · refine g_iload_n h (q := 3) 3 dX5_dropsIn_30 rfl ?_
      refine g_if_eq h 45 dX5_dropsIn_31 (by decide) (fun c2 => ?_) (fun c2 => ?_)
      · refine g_aload_n h (q := 0) 0 dX5_dropsIn_45 rfl ?_
        refine g_get h 0 0 0 ⟨rfl, rfl⟩ rfl rfl uin_X5 1 (by decide) fl_X5_16 rfl dX5_dropsIn_46 ?_
        refine g_get h 1 1 0 (ok_F (by decide)) rfl rfl uin_X0 12 (by decide) fl_X5_91 rfl dX5_dropsIn_49 ?_
        refine g_iconst h (v := 4) dX5_dropsIn_52 (by decide) ?_
        refine g_aldF h 1 7 (by decide) (by decide) (4) (show 4 < 5 by omega) dX5_dropsIn_53 ?_
        refine g_aload_n h (q := 0) 0 dX5_dropsIn_54 rfl ?_
        refine g_get h 0 0 0 ⟨rfl, rfl⟩ rfl rfl uin_X5 0 (by decide) fl_X5_12 rfl dX5_dropsIn_55 ?_
        refine g_get h 1 0 0 (ok_F (by decide)) rfl rfl uin_X0 12 (by decide) fl_X5_91 rfl dX5_dropsIn_58 ?_
        refine g_iconst h (v := 4) dX5_dropsIn_61 (by decide) ?_
        refine g_aldF h 0 7 (by decide) (by decide) (4) (show 4 < 5 by omega) dX5_dropsIn_62 ?_
        refine g_is (b4) (hb) ?_
        refine g_isub h dX5_dropsIn_63 ?_
        exact g_iret h hR dX5_dropsIn_64 (rP_of (q := ((τ.1 1).2.2 7 4 - b4, τ)) (by rw [hp, dpL, if_neg (by rw [bI_0.mp c2]; decide)]))
      · refine g_aload_n h (q := 0) 0 dX5_dropsIn_34 rfl ?_
        refine g_callV h mv_X5_trySlot 0 0 0 ⟨rfl, rfl⟩ rfl rfl (As := []) (c_X5_trySlot (kl K) hE (σ := τ) hT) ml_X5_160 rfl (by decide) (by decide) rfl (Nat.le_of_ble_eq_true rfl) dX5_dropsIn_35 (fun v σ9 h9 => ?_)
        rw [h9.1, h9.2]; clear h9
        obtain ⟨τ2, hτ2⟩ : ∃ τ2, τ2 = slS τ 1 := ⟨_, rfl⟩
        dsimp only
        rw [← hτ2]
        refine g_istore_n h (q := 3) [(0, .ref (ad E 0 0 0)), (1, .int (nI (n))), (2, .int c), (3, .int (bI (tryB τ))), (4, .int (nI (k)))] dX5_dropsIn_38 (by decide) rfl ?_
        refine g_iinc h (q := 4) (v := nI (k + 1)) 4 [(0, .ref (ad E 0 0 0)), (1, .int (nI (n))), (2, .int c), (3, .int (bI (tryB τ))), (4, .int (nI (k + 1)))] dX5_dropsIn_39 rfl (nI_inc k 1) (by decide) rfl ?_
        refine g_goto h 24 dX5_dropsIn_42 (by decide) ?_
        exact ih (k + 1) τ2 (tryB τ) (by omega) (by rw [hτ2]; exact hT.sl) (by rw [hτ2, slS_fn (by decide)]; exact hb) (by rw [hp, dpL, if_pos (bI_1.mp c2), hτ2])
set_option maxHeartbeats 4000000 in
theorem c_X5_dropsIn (l : Launch) {E : EnvT} (hE : EOK E) {σ : ST} (hX : XO σ) (n : Nat) (hn : n ≤ 40) (c : Int32) : Con l E yX5_dropsIn cX5_dropsIn 5 (some .int) 5 114 [.ref (ad E 0 0 0), .int (nI (n)), .int c] σ (rP (drp σ n c)) := by
  refine con_intro hE (by decide) (Nat.le_of_ble_eq_true rfl) (fun K hkl h hR => ?_)
  subst hkl
  have h : Cx K E cX5_dropsIn 5 RX5 5 114 := h
  show GG K E σ 0 [(0, .ref (ad E 0 0 0)), (1, .int (nI (n))), (2, .int c)] []
  refine g_aload_n h (q := 0) 0 dX5_dropsIn_0 rfl ?_
  refine g_get h 0 0 0 ⟨rfl, rfl⟩ rfl rfl uin_X5 1 (by decide) fl_X5_16 rfl dX5_dropsIn_1 ?_
  refine g_aload_n h (q := 0) 0 dX5_dropsIn_4 rfl ?_
  refine g_get h 0 0 0 ⟨rfl, rfl⟩ rfl rfl uin_X5 0 (by decide) fl_X5_12 rfl dX5_dropsIn_5 ?_
  refine g_callV h mv_X0_becomes 1 1 0 (ok_F (by decide)) rfl rfl (As := [.ref (ad E 1 0 0)]) (c_X0_becomes (kl K) hE (σ := σ) 1 0 (by decide) (by decide) (by decide) hX.1.1 hX.2.1.1) ml_X5_153 rfl (by decide) (by decide) rfl (Nat.le_of_ble_eq_true rfl) dX5_dropsIn_8 (fun v σ9 h9 => ?_)
  rw [h9.1, h9.2]; clear h9
  obtain ⟨τ0, hτ0⟩ : ∃ τ0, τ0 = cpS σ 1 0 := ⟨_, rfl⟩
  rw [show sR (sF σ 1 (cpF (σ.1 1) (σ.1 0))) 1 (cpR (σ.2.1 1) (σ.2.1 0)) = τ0 from hτ0.symm]
  refine g_aload_n h (q := 0) 0 dX5_dropsIn_11 rfl ?_
  refine g_get h 0 0 0 ⟨rfl, rfl⟩ rfl rfl uin_X5 1 (by decide) fl_X5_16 rfl dX5_dropsIn_12 ?_
  refine g_iload_n h (q := 2) 2 dX5_dropsIn_15 rfl ?_
  refine g_putFc h 1 (by decide) 0 (by decide) fl_X5_56 dX5_dropsIn_16 (fun σ1 hσ1 => ?_)
  refine g_iconst h (v := bI true) dX5_dropsIn_19 (by decide) ?_
  refine g_istore_n h (q := 3) [(0, .ref (ad E 0 0 0)), (1, .int (nI (n))), (2, .int c), (3, .int (bI true))] dX5_dropsIn_20 (by decide) rfl ?_
  refine g_iconst h (v := 0) dX5_dropsIn_21 (by decide) ?_
  refine g_istore h (q := 4) [(0, .ref (ad E 0 0 0)), (1, .int (nI (n))), (2, .int c), (3, .int (bI true)), (4, .int 0)] dX5_dropsIn_22 (by decide) rfl ?_
  have ht1 : σ1 = trN σ c := by rw [hσ1, hτ0, trN]; simp only [cpS_f]
  exact l_X5_dropsIn (σ := σ) hE h hR n hn c ((σ.1 0).2.2 7 4) n 0 σ1 true (Nat.zero_add _) (by rw [ht1]; exact trN_TO hX c) (by rw [ht1, trN, sF_ne (by decide), cpS_fn (by decide)]) (by rw [drp, ht1])
def xLost (σ : ST) (a : Int32) : Int32 × ST := if wi a 0 40 = true then drp σ a.toNatClampNeg ((σ.1 0).1 0) else (-1, σ)
def fwL (n : Nat) : Nat → Nat → ST → Int32 × ST
  | 0, _, τ => (-9, τ)
  | m + 1, k, τ => if (drp τ n (nI k)).1 = 0 then (nI k, (drp τ n (nI k)).2) else fwL n m (k + 1) (drp τ n (nI k)).2
def xFewest (σ : ST) (a : Int32) : Int32 × ST := if wi a 0 40 = true then fwL a.toNatClampNeg 3 1 σ else (-1, σ)
theorem dpL_qn : ∀ (m : Nat) (τ : ST) (go : Bool) (j : Nat), j ≠ 1 → j < 14 → (dpL m τ go).2.1 j = τ.2.1 j := by
  intro m
  induction m with
  | zero => intro τ go j h1 h2; rfl
  | succ m ih =>
    intro τ go j h1 h2
    by_cases h : go = true
    · rw [dpL, if_pos h, ih _ _ _ h1 h2, slS_qn h1 h2]
    · rw [dpL, if_neg h]
theorem dpL_fn : ∀ (m : Nat) (τ : ST) (go : Bool) (j : Nat), j ≠ 1 → (dpL m τ go).1 j = τ.1 j := by
  intro m
  induction m with
  | zero => intro τ go j h1; rfl
  | succ m ih =>
    intro τ go j h1
    by_cases h : go = true
    · rw [dpL, if_pos h, ih _ _ _ h1, slS_fn h1]
    · rw [dpL, if_neg h]
theorem dpL_x : ∀ (m : Nat) (τ : ST) (go : Bool), (dpL m τ go).2.2 = τ.2.2 := by
  intro m
  induction m with
  | zero => intro τ go; rfl
  | succ m ih =>
    intro τ go
    by_cases h : go = true
    · rw [dpL, if_pos h, ih]; rfl
    · rw [dpL, if_neg h]
theorem dpL_TO : ∀ (m : Nat) (τ : ST) (go : Bool), TO τ → TO (dpL m τ go) := by
  intro m
  induction m with
  | zero => intro τ go h; exact h
  | succ m ih =>
    intro τ go h
    by_cases hg : go = true
    · rw [dpL, if_pos hg]; exact ih _ _ h.sl
    · rw [dpL, if_neg hg]; exact h
/-- two states that differ in what is tried on alone -/
def Same (σ τ : ST) : Prop := (∀ j, j ≠ 1 → τ.1 j = σ.1 j) ∧ (∀ j, j ≠ 1 → j < 14 → τ.2.1 j = σ.2.1 j) ∧ τ.2.2 = σ.2.2 ∧ (τ.1 1).2.1 ≤ 64 ∧ (τ.2.1 1).2 ≤ 64
theorem Same.XO {σ τ : ST} (h : Same σ τ) (hX : XO σ) : XO τ := by
  obtain ⟨h1, h2, h3, h4, h5⟩ := h
  refine ⟨by rw [h1 0 (by decide)]; exact hX.1, by rw [h1 0 (by decide), h2 0 (by decide) (by decide)]; exact hX.2.1, fun j hj => ?_, by rw [h3]; exact hX.2.2.2.1, by rw [h3]; exact hX.2.2.2.2.1, by rw [h3]; exact hX.2.2.2.2.2.1, by rw [h3]; exact hX.2.2.2.2.2.2⟩
  by_cases e : j = 1
  · rw [e]; exact ⟨h4, h5⟩
  · rw [h1 j e, h2 j e hj]; exact hX.2.2.1 j hj
theorem drp_same {σ : ST} (hX : XO σ) (n : Nat) (c : Int32) : Same σ (drp σ n c).2 := by
  have hT := dpL_TO n (trN σ c) true (trN_TO hX c)
  refine ⟨fun j hj => ?_, fun j hj h14 => ?_, ?_, hT.1.1, hT.2.1⟩
  · show (dpL n (trN σ c) true).1 j = _
    rw [dpL_fn _ _ _ _ hj, trN, sF_ne hj, cpS_fn hj]
  · show (dpL n (trN σ c) true).2.1 j = _
    rw [dpL_qn _ _ _ _ hj h14]
    show (cpS σ 1 0).2.1 j = _
    rw [cpS_qn hj]
  · show (dpL n (trN σ c) true).2.2 = _
    rw [dpL_x]; rfl
set_option maxHeartbeats 4000000 in
theorem c_X5_lost (l : Launch) {E : EnvT} (hE : EOK E) {σ : ST} (hX : XO σ) (a : Int32) : Con l E yX5_lost cX5_lost 2 (some .int) 6 138 [.ref (ad E 0 0 0), .int a] σ (rP (xLost σ a)) := by
  refine con_intro hE (by decide) (Nat.le_of_ble_eq_true rfl) (fun K hkl h hR => ?_)
  subst hkl
  have h : Cx K E cX5_lost 2 RX5 6 138 := h
  show GG K E σ 0 [(0, .ref (ad E 0 0 0)), (1, .int a)] []
  refine g_iload_n h (q := 1) 1 dX5_lost_0 rfl ?_
  refine g_iconst h (v := 0) dX5_lost_1 (by decide) ?_
  refine g_bipush h (v := 40) dX5_lost_2 (by decide) ?_
  refine g_callS h ms_X5_isWithin (As := [.int a, .int 0, .int 40]) (c_X5_isWithin (kl K) hE (σ := σ) a 0 40) ml_X5_52 rfl (by decide) (by decide) rfl (Nat.le_of_ble_eq_true rfl) dX5_lost_4 (fun v σ9 h9 => ?_)
  rw [h9.1, h9.2]; clear h9
  refine g_if_eq h 25 dX5_lost_7 (by decide) (fun c1 => ?_) (fun c1 => ?_)
  · refine g_iconst h (v := (-1)) dX5_lost_25 (by decide) ?_
    exact g_iret h hR dX5_lost_26 (rP_of (q := (-1, σ)) (by simp [xLost, bI_0.mp c1]))
  · have hw1 := bI_1.mp c1
    obtain ⟨j, hj, hje⟩ := wi_nat (n := 40) (by decide) hw1
    subst hje
    have hjc : (nI j).toNatClampNeg = j := nI_clamp (by omega)
    refine g_aload_n h (q := 0) 0 dX5_lost_10 rfl ?_
    refine g_iload_n h (q := 1) 1 dX5_lost_11 rfl ?_
    refine g_aload_n h (q := 0) 0 dX5_lost_12 rfl ?_
    refine g_get h 0 0 0 ⟨rfl, rfl⟩ rfl rfl uin_X5 0 (by decide) fl_X5_12 rfl dX5_lost_13 ?_
    refine g_get h 1 0 0 (ok_F (by decide)) rfl rfl uin_X0 0 (by decide) fl_X5_56 rfl dX5_lost_16 ?_
    refine g_callV h mv_X5_dropsIn 0 0 0 ⟨rfl, rfl⟩ rfl rfl (As := [.int (nI (j)), .int ((σ.1 0).1 0)]) (c_X5_dropsIn (kl K) hE (σ := σ) hX j hj ((σ.1 0).1 0)) ml_X5_164 rfl (by decide) (by decide) rfl (Nat.le_of_ble_eq_true rfl) dX5_lost_19 (fun v σ9 h9 => ?_)
    rw [h9.1, h9.2]; clear h9
    refine g_goto h 26 dX5_lost_22 (by decide) ?_
    exact g_iret h hR dX5_lost_26 (rP_of (q := drp σ j ((σ.1 0).1 0)) (by rw [xLost, if_pos hw1, hjc]))
set_option maxHeartbeats 4000000 in
theorem l_X5_fewest {K : KX} {E : EnvT} (hE : EOK E) (h : Cx K E cX5_fewest 3 RX5 6 138) {σ : ST} {p : Int32 × ST} (hR : Rx K E (some .int) (rP p)) (n : Nat) (hn : n ≤ 40) : ∀ m k τ, k + m = 4 → XO τ → p = fwL n m k τ → GG K E τ 14 [(0, .ref (ad E 0 0 0)), (1, .int (nI n)), (2, .int (nI k))] [] := by
  intro m
  induction m with
  | zero =>
    intro k τ hm hX hp
    refine g_iload_n h (q := 2) 2 dX5_fewest_14 rfl ?_
    refine g_iconst h (v := 3) dX5_fewest_15 (by decide) ?_
    refine g_ncmp_gt h (a := k) (b := 3) 36 dX5_fewest_16 (by decide) (by omega) (by omega) (fun c1 => ?_) (fun c1 => ?_)
    · refine g_bipush h (v := (-9)) dX5_fewest_36 (by decide) ?_
      exact g_iret h hR dX5_fewest_38 (rP_of (q := (-9, τ)) hp)
    · exfalso; omega
  | succ m ih =>
    intro k τ hm hX hp
    refine g_iload_n h (q := 2) 2 dX5_fewest_14 rfl ?_
    refine g_iconst h (v := 3) dX5_fewest_15 (by decide) ?_
    refine g_ncmp_gt h (a := k) (b := 3) 36 dX5_fewest_16 (by decide) (by omega) (by omega) (fun c1 => ?_) (fun c1 => ?_)
    · exfalso; omega
    · refine g_aload_n h (q := 0) 0 dX5_fewest_19 rfl ?_
      refine g_iload_n h (q := 1) 1 dX5_fewest_20 rfl ?_
      refine g_iload_n h (q := 2) 2 dX5_fewest_21 rfl ?_
      refine g_callV h mv_X5_dropsIn 0 0 0 ⟨rfl, rfl⟩ rfl rfl (As := [.int (nI (n)), .int (nI (k))]) (c_X5_dropsIn (kl K) hE (σ := τ) hX n hn (nI k)) ml_X5_164 rfl (by decide) (by decide) rfl (Nat.le_of_ble_eq_true rfl) dX5_fewest_22 (fun v σ9 h9 => ?_)
      rw [h9.1, h9.2]; clear h9
      obtain ⟨τ2, hτ2⟩ : ∃ τ2, τ2 = (drp τ n (nI k)).2 := ⟨_, rfl⟩
      rw [← hτ2]
      refine g_if_ne h 30 dX5_fewest_25 (by decide) (fun c2 => ?_) (fun c2 => ?_)
      · refine g_iinc h (q := 2) (v := nI (k + 1)) 2 [(0, .ref (ad E 0 0 0)), (1, .int (nI (n))), (2, .int (nI (k + 1)))] dX5_fewest_30 rfl (nI_inc k 1) (by decide) rfl ?_
        refine g_goto h 14 dX5_fewest_33 (by decide) ?_
        exact ih (k + 1) τ2 (by omega) (by rw [hτ2]; exact (drp_same hX n (nI k)).XO hX) (by rw [hp, fwL, if_neg c2, hτ2])
      · refine g_iload_n h (q := 2) 2 dX5_fewest_28 rfl ?_
        exact g_iret h hR dX5_fewest_29 (rP_of (q := (nI k, τ2)) (by rw [hp, fwL, if_pos c2, hτ2]))
set_option maxHeartbeats 4000000 in
theorem c_X5_fewest (l : Launch) {E : EnvT} (hE : EOK E) {σ : ST} (hX : XO σ) (a : Int32) : Con l E yX5_fewest cX5_fewest 3 (some .int) 6 138 [.ref (ad E 0 0 0), .int a] σ (rP (xFewest σ a)) := by
  refine con_intro hE (by decide) (Nat.le_of_ble_eq_true rfl) (fun K hkl h hR => ?_)
  subst hkl
  have h : Cx K E cX5_fewest 3 RX5 6 138 := h
  show GG K E σ 0 [(0, .ref (ad E 0 0 0)), (1, .int a)] []
  refine g_iload_n h (q := 1) 1 dX5_fewest_0 rfl ?_
  refine g_iconst h (v := 0) dX5_fewest_1 (by decide) ?_
  refine g_bipush h (v := 40) dX5_fewest_2 (by decide) ?_
  refine g_callS h ms_X5_isWithin (As := [.int a, .int 0, .int 40]) (c_X5_isWithin (kl K) hE (σ := σ) a 0 40) ml_X5_52 rfl (by decide) (by decide) rfl (Nat.le_of_ble_eq_true rfl) dX5_fewest_4 (fun v σ9 h9 => ?_)
  rw [h9.1, h9.2]; clear h9
  refine g_if_ne h 12 dX5_fewest_7 (by decide) (fun c1 => ?_) (fun c1 => ?_)
  · have hw1 := bI_1.mp c1
    obtain ⟨j, hj, hje⟩ := wi_nat (n := 40) (by decide) hw1
    subst hje
    have hjc : (nI j).toNatClampNeg = j := nI_clamp (by omega)
    refine g_iconst h (v := 1) dX5_fewest_12 (by decide) ?_
    refine g_istore_n h (q := 2) [(0, .ref (ad E 0 0 0)), (1, .int (nI (j))), (2, .int 1)] dX5_fewest_13 (by decide) rfl ?_
    exact l_X5_fewest (σ := σ) hE h hR j hj 3 1 σ rfl hX (by rw [xFewest, if_pos hw1, hjc])
  · refine g_iconst h (v := (-1)) dX5_fewest_10 (by decide) ?_
    exact g_iret h hR dX5_fewest_11 (rP_of (q := (-1, σ)) (by simp [xFewest, bI_0.mp c1]))
