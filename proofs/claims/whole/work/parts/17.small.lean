def rP (p : Int32 × ST) : Option Value → ST → Prop := fun v σ' => v = some (.int p.1) ∧ σ' = p.2
theorem rP_of {p q : Int32 × ST} (h : p = q) : rP p (some (.int q.1)) q.2 := by subst h; exact ⟨rfl, rfl⟩
def wi (x lo hi : Int32) : Bool := decide (lo ≤ x) && decide (x ≤ hi)
set_option maxHeartbeats 4000000 in
theorem c_X5_isWithin (l : Launch) {E : EnvT} (hE : EOK E) {σ : ST} (x lo hi : Int32) : Con l E yX5_isWithin cX5_isWithin 3 (some .boolean) 0 0 [.int x, .int lo, .int hi] σ (rI (bI (wi x lo hi)) σ) := by
  refine con_intro hE (by decide) (Nat.le_of_ble_eq_true rfl) (fun K hkl h hR => ?_)
  subst hkl
  have h : Cx K E cX5_isWithin 3 RX5 0 0 := h
  show GG K E σ 0 [(0, .int x), (1, .int lo), (2, .int hi)] []
  refine g_iload_n h (q := 0) 0 dX5_isWithin_0 rfl ?_
  refine g_iload_n h (q := 1) 1 dX5_isWithin_1 rfl ?_
  refine g_icmp_lt h 14 dX5_isWithin_2 (by decide) (fun c1 => ?_) (fun c1 => ?_)
  · refine g_iconst h (v := 0) dX5_isWithin_14 (by decide) ?_
    exact g_zret h hR dX5_isWithin_15 (by decide) (show rI _ _ _ _ from ⟨by rw [show wi x lo hi = false by simp [wi, Int32.not_le.mpr c1]]; rfl, rfl⟩)
  · refine g_iload_n h (q := 0) 0 dX5_isWithin_5 rfl ?_
    refine g_iload_n h (q := 2) 2 dX5_isWithin_6 rfl ?_
    refine g_icmp_gt h 14 dX5_isWithin_7 (by decide) (fun c2 => ?_) (fun c2 => ?_)
    · refine g_iconst h (v := 0) dX5_isWithin_14 (by decide) ?_
      exact g_zret h hR dX5_isWithin_15 (by decide) (show rI _ _ _ _ from ⟨by rw [show wi x lo hi = false by simp [wi, i_le c1, Int32.not_le.mpr c2]]; rfl, rfl⟩)
    · refine g_iconst h (v := 1) dX5_isWithin_10 (by decide) ?_
      refine g_goto h 15 dX5_isWithin_11 (by decide) ?_
      exact g_zret h hR dX5_isWithin_15 (by decide) (show rI _ _ _ _ from ⟨by rw [show wi x lo hi = true by simp [wi, i_le c1, i_le c2]]; rfl, rfl⟩)
set_option maxHeartbeats 4000000 in
theorem c_X5_isLine (l : Launch) {E : EnvT} (hE : EOK E) {σ : ST} (x : Int32) : Con l E yX5_isLine cX5_isLine 1 (some .boolean) 1 22 [.int x] σ (rI (bI (wi x 0 7)) σ) := by
  refine con_intro hE (by decide) (Nat.le_of_ble_eq_true rfl) (fun K hkl h hR => ?_)
  subst hkl
  have h : Cx K E cX5_isLine 1 RX5 1 22 := h
  show GG K E σ 0 [(0, .int x)] []
  refine g_iload_n h (q := 0) 0 dX5_isLine_0 rfl ?_
  refine g_iconst h (v := 0) dX5_isLine_1 (by decide) ?_
  refine g_bipush h (v := 7) dX5_isLine_2 (by decide) ?_
  refine g_callS h ms_X5_isWithin (As := [.int x, .int 0, .int 7]) (c_X5_isWithin (kl K) hE (σ := σ) x 0 7) ml_X5_52 rfl (by decide) (by decide) rfl (Nat.le_of_ble_eq_true rfl) dX5_isLine_4 (fun v σ9 h9 => ?_)
  rw [h9.1, h9.2]; clear h9
  exact g_zret h hR dX5_isLine_7 (bI_nar _) (⟨rfl, rfl⟩)
set_option maxHeartbeats 4000000 in
theorem c_X5_isAddress (l : Launch) {E : EnvT} (hE : EOK E) {σ : ST} (x : Int32) : Con l E yX5_isAddress cX5_isAddress 1 (some .boolean) 1 22 [.int x] σ (rI (bI (wi x 0 7)) σ) := by
  refine con_intro hE (by decide) (Nat.le_of_ble_eq_true rfl) (fun K hkl h hR => ?_)
  subst hkl
  have h : Cx K E cX5_isAddress 1 RX5 1 22 := h
  show GG K E σ 0 [(0, .int x)] []
  refine g_iload_n h (q := 0) 0 dX5_isAddress_0 rfl ?_
  refine g_iconst h (v := 0) dX5_isAddress_1 (by decide) ?_
  refine g_bipush h (v := 7) dX5_isAddress_2 (by decide) ?_
  refine g_callS h ms_X5_isWithin (As := [.int x, .int 0, .int 7]) (c_X5_isWithin (kl K) hE (σ := σ) x 0 7) ml_X5_52 rfl (by decide) (by decide) rfl (Nat.le_of_ble_eq_true rfl) dX5_isAddress_4 (fun v σ9 h9 => ?_)
  rw [h9.1, h9.2]; clear h9
  exact g_zret h hR dX5_isAddress_7 (bI_nar _) (⟨rfl, rfl⟩)
def cpS (σ : ST) (i j : Nat) : ST := sR (sF σ i (cpF (σ.1 i) (σ.1 j))) i (cpR (σ.2.1 i) (σ.2.1 j))
def nxt (n : Nat) : Nat := if n < 9 then n + 1 else 0
def prv (n : Nat) : Nat := if 0 < n then n - 1 else 9
def remS (σ : ST) : ST := sX (cpS σ (2 + σ.2.2.1.1 0) 0) (va_up (va_up σ.2.2.1.1 0 (nxt (σ.2.2.1.1 0))) 1 (min (σ.2.2.1.1 1 + 1) 10), σ.2.2.1.2)
def givS (σ : ST) : ST := sX (cpS σ 0 (2 + prv (σ.2.2.1.1 0))) (va_up (va_up σ.2.2.1.1 0 (prv (σ.2.2.1.1 0))) 1 (σ.2.2.1.1 1 - 1), σ.2.2.1.2)
theorem sX_sX {σ : ST} {a b : XT} : sX (sX σ a) b = sX σ b := rfl
theorem nI_min (a b : Nat) (ha : a < 2 ^ 31) (hb : b < 2 ^ 31) : (if nI b < nI a then nI b else nI a) = nI (min a b) := by
  rcases Nat.lt_or_ge b a with q | q
  · rw [if_pos (nI_lt q ha), Nat.min_eq_right (by omega)]
  · rw [if_neg (nI_nlt q hb), Nat.min_eq_left q]
set_option maxHeartbeats 4000000 in
theorem c_X1_remember (l : Launch) {E : EnvT} (hE : EOK E) {σ : ST} (hn : σ.2.2.1.1 0 < 10) (hk : σ.2.2.1.1 1 ≤ 10) (hF : (σ.1 0).2.1 ≤ 64) (hQ : (σ.2.1 0).2 ≤ 64) : Con l E yX1_remember cX1_remember 2 none 3 82 [.ref (ad E 6 0 0), .ref (ad E 1 0 0)] σ (rV (remS σ)) := by
  refine con_intro hE (by decide) (Nat.le_of_ble_eq_true rfl) (fun K hkl h hR => ?_)
  subst hkl
  have h : Cx K E cX1_remember 2 RX1 3 82 := h
  show GG K E σ 0 [(0, .ref (ad E 6 0 0)), (1, .ref (ad E 1 0 0))] []
  refine g_aload_n h (q := 0) 0 dX1_remember_0 rfl ?_
  refine g_get h 6 0 0 ⟨rfl, rfl⟩ rfl rfl uin_X1 0 (by decide) fl_X1_11 rfl dX1_remember_1 ?_
  refine g_aload_n h (q := 0) 0 dX1_remember_4 rfl ?_
  refine g_get h 6 0 0 ⟨rfl, rfl⟩ rfl rfl uin_X1 1 (by decide) fl_X1_18 rfl dX1_remember_5 ?_
  refine g_aldG h (σ.2.2.1.1 0) (by omega) dX1_remember_8 ?_
  refine g_aload_n h (q := 1) 1 dX1_remember_9 rfl ?_
  refine g_callV h mv_X0_becomes 1 (2 + (σ.2.2.1.1 0)) 0 (ok_F (by omega)) rfl rfl (As := [.ref (ad E 1 0 0)]) (c_X0_becomes (kl K) hE (σ := σ) (2 + σ.2.2.1.1 0) 0 (by omega) (by decide) (by omega) hF hQ) ml_X1_22 rfl (by decide) (by decide) rfl (Nat.le_of_ble_eq_true rfl) dX1_remember_10 (fun v σ9 h9 => ?_)
  rw [h9.1, h9.2]; clear h9
  rw [show sR (sF σ (2 + σ.2.2.1.1 0) (cpF (σ.1 (2 + σ.2.2.1.1 0)) (σ.1 0))) (2 + σ.2.2.1.1 0) (cpR (σ.2.1 (2 + σ.2.2.1.1 0)) (σ.2.1 0)) = cpS σ (2 + σ.2.2.1.1 0) 0 from rfl]
  have hx0 : (cpS σ (2 + σ.2.2.1.1 0) 0).2.2.1 = σ.2.2.1 := rfl
  generalize ht : cpS σ (2 + σ.2.2.1.1 0) 0 = τ at hx0 ⊢
  refine g_aload_n h (q := 0) 0 dX1_remember_13 rfl ?_
  refine g_aload_n h (q := 0) 0 dX1_remember_14 rfl ?_
  refine g_get h 6 0 0 ⟨rfl, rfl⟩ rfl rfl uin_X1 1 (by decide) fl_X1_18 rfl dX1_remember_15 ?_
  refine g_is (nI (σ.2.2.1.1 0)) (by rw [hx0]) ?_
  refine g_bipush h (v := 9) dX1_remember_18 (by decide) ?_
  refine g_ncmp_ge h (a := σ.2.2.1.1 0) (b := 9) 32 dX1_remember_20 (by decide) (by omega) (by omega) (fun c1 => ?_) (fun c1 => ?_)
  · refine g_iconst h (v := 0) dX1_remember_32 (by decide) ?_
    refine g_putXp h 0 (by decide) (m := 0) fl_X1_18 dX1_remember_33 (fun σ1 hσ1 => ?_)
    refine g_aload_n h (q := 0) 0 dX1_remember_36 rfl ?_
    refine g_aload_n h (q := 0) 0 dX1_remember_37 rfl ?_
    refine g_get h 6 0 0 ⟨rfl, rfl⟩ rfl rfl uin_X1 2 (by decide) fl_X1_26 rfl dX1_remember_38 ?_
    refine g_is (nI (σ.2.2.1.1 1)) (by rw [hσ1]; simp [sX, hx0, va_up]) ?_
    refine g_iconst h (v := 1) dX1_remember_41 (by decide) ?_
    refine g_iadd h dX1_remember_42 ?_
    refine g_is (nI ((σ.2.2.1.1 1) + 1)) (nI_add (σ.2.2.1.1 1) 1) ?_
    refine g_bipush h (v := 10) dX1_remember_43 (by decide) ?_
    refine g_mmin h ml_X1_29 (by decide) (by decide) (Nat.le_of_ble_eq_true rfl) dX1_remember_45 ?_
    refine g_is (nI (min (σ.2.2.1.1 1 + 1) 10)) (nI_min (σ.2.2.1.1 1 + 1) 10 (by omega) (by decide)) ?_
    refine g_putXp h 1 (by decide) (m := min (σ.2.2.1.1 1 + 1) 10) fl_X1_26 dX1_remember_48 (fun σ2 hσ2 => ?_)
    exact g_vret h hR dX1_remember_51 (show rV _ _ _ from ⟨rfl, by rw [hσ2, hσ1, sX_sX, remS, ht]; simp only [sX, hx0, nxt]; rw [if_neg (by omega)]⟩)
  · refine g_aload_n h (q := 0) 0 dX1_remember_23 rfl ?_
    refine g_get h 6 0 0 ⟨rfl, rfl⟩ rfl rfl uin_X1 1 (by decide) fl_X1_18 rfl dX1_remember_24 ?_
    refine g_is (nI (σ.2.2.1.1 0)) (by rw [hx0]) ?_
    refine g_iconst h (v := 1) dX1_remember_27 (by decide) ?_
    refine g_iadd h dX1_remember_28 ?_
    refine g_is (nI ((σ.2.2.1.1 0) + 1)) (nI_add (σ.2.2.1.1 0) 1) ?_
    refine g_goto h 33 dX1_remember_29 (by decide) ?_
    refine g_putXp h 0 (by decide) (m := (σ.2.2.1.1 0) + 1) fl_X1_18 dX1_remember_33 (fun σ3 hσ3 => ?_)
    refine g_aload_n h (q := 0) 0 dX1_remember_36 rfl ?_
    refine g_aload_n h (q := 0) 0 dX1_remember_37 rfl ?_
    refine g_get h 6 0 0 ⟨rfl, rfl⟩ rfl rfl uin_X1 2 (by decide) fl_X1_26 rfl dX1_remember_38 ?_
    refine g_is (nI (σ.2.2.1.1 1)) (by rw [hσ3]; simp [sX, hx0, va_up]) ?_
    refine g_iconst h (v := 1) dX1_remember_41 (by decide) ?_
    refine g_iadd h dX1_remember_42 ?_
    refine g_is (nI ((σ.2.2.1.1 1) + 1)) (nI_add (σ.2.2.1.1 1) 1) ?_
    refine g_bipush h (v := 10) dX1_remember_43 (by decide) ?_
    refine g_mmin h ml_X1_29 (by decide) (by decide) (Nat.le_of_ble_eq_true rfl) dX1_remember_45 ?_
    refine g_is (nI (min (σ.2.2.1.1 1 + 1) 10)) (nI_min (σ.2.2.1.1 1 + 1) 10 (by omega) (by decide)) ?_
    refine g_putXp h 1 (by decide) (m := min (σ.2.2.1.1 1 + 1) 10) fl_X1_26 dX1_remember_48 (fun σ4 hσ4 => ?_)
    exact g_vret h hR dX1_remember_51 (show rV _ _ _ from ⟨rfl, by rw [hσ4, hσ3, sX_sX, remS, ht]; simp only [sX, hx0, nxt]; rw [if_pos (by omega)]⟩)
set_option maxHeartbeats 4000000 in
theorem c_X1_giveBack (l : Launch) {E : EnvT} (hE : EOK E) {σ : ST} (hn : σ.2.2.1.1 0 < 10) (hk1 : 1 ≤ σ.2.2.1.1 1) (hk : σ.2.2.1.1 1 ≤ 10) (hF : (σ.1 (2 + prv (σ.2.2.1.1 0))).2.1 ≤ 64) (hQ : (σ.2.1 (2 + prv (σ.2.2.1.1 0))).2 ≤ 64) : Con l E yX1_giveBack cX1_giveBack 2 none 3 82 [.ref (ad E 6 0 0), .ref (ad E 1 0 0)] σ (rV (givS σ)) := by
  refine con_intro hE (by decide) (Nat.le_of_ble_eq_true rfl) (fun K hkl h hR => ?_)
  subst hkl
  have h : Cx K E cX1_giveBack 2 RX1 3 82 := h
  show GG K E σ 0 [(0, .ref (ad E 6 0 0)), (1, .ref (ad E 1 0 0))] []
  have hpl : prv (σ.2.2.1.1 0) < 10 := by unfold prv; split <;> omega
  obtain ⟨pv, hpv⟩ : ∃ pv, pv = prv (σ.2.2.1.1 0) := ⟨_, rfl⟩
  rw [← hpv] at hpl hF hQ
  refine g_aload_n h (q := 0) 0 dX1_giveBack_0 rfl ?_
  refine g_aload_n h (q := 0) 0 dX1_giveBack_1 rfl ?_
  refine g_get h 6 0 0 ⟨rfl, rfl⟩ rfl rfl uin_X1 1 (by decide) fl_X1_18 rfl dX1_giveBack_2 ?_
  refine g_nif_le h (a := σ.2.2.1.1 0) 17 dX1_giveBack_5 (by decide) (by omega) (fun c1 => ?_) (fun c1 => ?_)
  · refine g_bipush h (v := 9) dX1_giveBack_17 (by decide) ?_
    refine g_is (nI pv) (by rw [hpv, prv, if_neg (by omega)]; try rfl) ?_
    refine g_putXp h 0 (by decide) (m := pv) fl_X1_18 dX1_giveBack_19 (fun σ1 hσ1 => ?_)
    refine g_aload_n h (q := 1) 1 dX1_giveBack_22 rfl ?_
    refine g_aload_n h (q := 0) 0 dX1_giveBack_23 rfl ?_
    refine g_get h 6 0 0 ⟨rfl, rfl⟩ rfl rfl uin_X1 0 (by decide) fl_X1_11 rfl dX1_giveBack_24 ?_
    refine g_aload_n h (q := 0) 0 dX1_giveBack_27 rfl ?_
    refine g_get h 6 0 0 ⟨rfl, rfl⟩ rfl rfl uin_X1 1 (by decide) fl_X1_18 rfl dX1_giveBack_28 ?_
    refine g_is (nI (pv)) (by rw [hσ1]; simp [sX, va_up]) ?_
    refine g_aldG h (pv) (by omega) dX1_giveBack_31 ?_
    refine g_callV h mv_X0_becomes 1 0 0 (ok_F (by decide)) rfl rfl (As := [.ref (ad E 1 (2 + pv) 0)]) (c_X0_becomes (kl K) hE (σ := σ1) 0 (2 + pv) (by decide) (by omega) (by omega) (by rw [hσ1]; exact hF) (by rw [hσ1]; exact hQ)) ml_X1_22 rfl (by decide) (by decide) rfl (Nat.le_of_ble_eq_true rfl) dX1_giveBack_32 (fun v σ9 h9 => ?_)
    rw [h9.1, h9.2]; clear h9
    have hx1 : σ1.2.2.1 = (va_up σ.2.2.1.1 0 pv, σ.2.2.1.2) := by rw [hσ1]; rfl
    rw [show sR (sF σ1 0 (cpF (σ1.1 0) (σ1.1 (2 + pv)))) 0 (cpR (σ1.2.1 0) (σ1.2.1 (2 + pv))) = cpS σ1 0 (2 + pv) from rfl]
    have hx0 : (cpS σ1 0 (2 + pv)).2.2.1 = (va_up σ.2.2.1.1 0 pv, σ.2.2.1.2) := hx1
    generalize ht : cpS σ1 0 (2 + pv) = τ at hx0 ⊢
    refine g_aload_n h (q := 0) 0 dX1_giveBack_35 rfl ?_
    refine g_aload_n h (q := 0) 0 dX1_giveBack_36 rfl ?_
    refine g_get h 6 0 0 ⟨rfl, rfl⟩ rfl rfl uin_X1 2 (by decide) fl_X1_26 rfl dX1_giveBack_37 ?_
    refine g_is (nI (σ.2.2.1.1 1)) (by rw [hx0]; simp [va_up]) ?_
    refine g_iconst h (v := 1) dX1_giveBack_40 (by decide) ?_
    refine g_isub h dX1_giveBack_41 ?_
    refine g_is (nI ((σ.2.2.1.1 1) - 1)) (pk_sub (a := (σ.2.2.1.1 1)) (b := 1) (by omega)) ?_
    refine g_iconst h (v := 0) dX1_giveBack_42 (by decide) ?_
    refine g_mmax h ml_X1_35 (by decide) (by decide) (Nat.le_of_ble_eq_true rfl) dX1_giveBack_43 ?_
    refine g_is (nI (σ.2.2.1.1 1 - 1)) (if_neg (by show ¬ nI _ < nI 0; exact nI_nlt (Nat.zero_le _) (by omega))) ?_
    refine g_putXp h 1 (by decide) (m := σ.2.2.1.1 1 - 1) fl_X1_26 dX1_giveBack_46 (fun σ2 hσ2 => ?_)
    exact g_vret h hR dX1_giveBack_49 (show rV _ _ _ from ⟨rfl, by rw [hσ2, givS, ← hpv, hx0, ← ht, hσ1]; rfl⟩)
  · refine g_aload_n h (q := 0) 0 dX1_giveBack_8 rfl ?_
    refine g_get h 6 0 0 ⟨rfl, rfl⟩ rfl rfl uin_X1 1 (by decide) fl_X1_18 rfl dX1_giveBack_9 ?_
    refine g_iconst h (v := 1) dX1_giveBack_12 (by decide) ?_
    refine g_isub h dX1_giveBack_13 ?_
    refine g_is (nI ((σ.2.2.1.1 0) - 1)) (pk_sub (a := (σ.2.2.1.1 0)) (b := 1) (by omega)) ?_
    refine g_goto h 19 dX1_giveBack_14 (by decide) ?_
    refine g_is (nI pv) (by rw [hpv, prv, if_pos (by omega)]; try rfl) ?_
    refine g_putXp h 0 (by decide) (m := pv) fl_X1_18 dX1_giveBack_19 (fun σ3 hσ3 => ?_)
    refine g_aload_n h (q := 1) 1 dX1_giveBack_22 rfl ?_
    refine g_aload_n h (q := 0) 0 dX1_giveBack_23 rfl ?_
    refine g_get h 6 0 0 ⟨rfl, rfl⟩ rfl rfl uin_X1 0 (by decide) fl_X1_11 rfl dX1_giveBack_24 ?_
    refine g_aload_n h (q := 0) 0 dX1_giveBack_27 rfl ?_
    refine g_get h 6 0 0 ⟨rfl, rfl⟩ rfl rfl uin_X1 1 (by decide) fl_X1_18 rfl dX1_giveBack_28 ?_
    refine g_is (nI (pv)) (by rw [hσ3]; simp [sX, va_up]) ?_
    refine g_aldG h (pv) (by omega) dX1_giveBack_31 ?_
    refine g_callV h mv_X0_becomes 1 0 0 (ok_F (by decide)) rfl rfl (As := [.ref (ad E 1 (2 + pv) 0)]) (c_X0_becomes (kl K) hE (σ := σ3) 0 (2 + pv) (by decide) (by omega) (by omega) (by rw [hσ3]; exact hF) (by rw [hσ3]; exact hQ)) ml_X1_22 rfl (by decide) (by decide) rfl (Nat.le_of_ble_eq_true rfl) dX1_giveBack_32 (fun v σ9 h9 => ?_)
    rw [h9.1, h9.2]; clear h9
    have hx1 : σ3.2.2.1 = (va_up σ.2.2.1.1 0 pv, σ.2.2.1.2) := by rw [hσ3]; rfl
    rw [show sR (sF σ3 0 (cpF (σ3.1 0) (σ3.1 (2 + pv)))) 0 (cpR (σ3.2.1 0) (σ3.2.1 (2 + pv))) = cpS σ3 0 (2 + pv) from rfl]
    have hx0 : (cpS σ3 0 (2 + pv)).2.2.1 = (va_up σ.2.2.1.1 0 pv, σ.2.2.1.2) := hx1
    generalize ht : cpS σ3 0 (2 + pv) = τ at hx0 ⊢
    refine g_aload_n h (q := 0) 0 dX1_giveBack_35 rfl ?_
    refine g_aload_n h (q := 0) 0 dX1_giveBack_36 rfl ?_
    refine g_get h 6 0 0 ⟨rfl, rfl⟩ rfl rfl uin_X1 2 (by decide) fl_X1_26 rfl dX1_giveBack_37 ?_
    refine g_is (nI (σ.2.2.1.1 1)) (by rw [hx0]; simp [va_up]) ?_
    refine g_iconst h (v := 1) dX1_giveBack_40 (by decide) ?_
    refine g_isub h dX1_giveBack_41 ?_
    refine g_is (nI ((σ.2.2.1.1 1) - 1)) (pk_sub (a := (σ.2.2.1.1 1)) (b := 1) (by omega)) ?_
    refine g_iconst h (v := 0) dX1_giveBack_42 (by decide) ?_
    refine g_mmax h ml_X1_35 (by decide) (by decide) (Nat.le_of_ble_eq_true rfl) dX1_giveBack_43 ?_
    refine g_is (nI (σ.2.2.1.1 1 - 1)) (if_neg (by show ¬ nI _ < nI 0; exact nI_nlt (Nat.zero_le _) (by omega))) ?_
    refine g_putXp h 1 (by decide) (m := σ.2.2.1.1 1 - 1) fl_X1_26 dX1_giveBack_46 (fun σ4 hσ4 => ?_)
    exact g_vret h hR dX1_giveBack_49 (show rV _ _ _ from ⟨rfl, by rw [hσ4, givS, ← hpv, hx0, ← ht, hσ3]; rfl⟩)
def seeS (σ : ST) (a b : Int32) : ST := if σ.2.2.1.1 2 < 6 then sX σ (va_up σ.2.2.1.1 2 (σ.2.2.1.1 2 + 1), va_up (va_up σ.2.2.1.2 0 (upd (σ.2.2.1.2 0) (σ.2.2.1.1 2) a)) 1 (upd (σ.2.2.1.2 1) (σ.2.2.1.1 2) b)) else σ
def lgL (s : Nat → Int32) : Nat → Nat → Int32 → Int32
  | 0, _, a => a
  | m + 1, t, a => lgL s m (t + 1) (if a < s t then s t else a)
def alL (s o : Nat → Int32) (a b : Int32) : Nat → Nat → Bool
  | 0, _ => true
  | m + 1, t => if s t = a ∧ o t ≠ b then false else alL s o a b m (t + 1)
set_option maxHeartbeats 4000000 in
theorem c_X3_add (l : Launch) {E : EnvT} (hE : EOK E) {σ : ST} (hs : σ.2.2.1.1 2 ≤ 6) (a b : Int32) : Con l E yX3_add cX3_add 3 none 0 0 [.ref (ad E 8 0 0), .int a, .int b] σ (rV (seeS σ a b)) := by
  refine con_intro hE (by decide) (Nat.le_of_ble_eq_true rfl) (fun K hkl h hR => ?_)
  subst hkl
  have h : Cx K E cX3_add 3 RX3 0 0 := h
  show GG K E σ 0 [(0, .ref (ad E 8 0 0)), (1, .int a), (2, .int b)] []
  refine g_aload_n h (q := 0) 0 dX3_add_0 rfl ?_
  refine g_get h 8 0 0 ⟨rfl, rfl⟩ rfl rfl uin_X3 2 (by decide) fl_X3_18 rfl dX3_add_1 ?_
  refine g_bipush h (v := 6) dX3_add_4 (by decide) ?_
  refine g_ncmp_ge h (a := σ.2.2.1.1 2) (b := 6) 39 dX3_add_6 (by decide) (by omega) (by omega) (fun c1 => ?_) (fun c1 => ?_)
  · exact g_vret h hR dX3_add_39 (show rV _ _ _ from ⟨rfl, by rw [seeS, if_neg (by omega)]⟩)
  · refine g_aload_n h (q := 0) 0 dX3_add_9 rfl ?_
    refine g_get h 8 0 0 ⟨rfl, rfl⟩ rfl rfl uin_X3 0 (by decide) fl_X3_9 rfl dX3_add_10 ?_
    refine g_aload_n h (q := 0) 0 dX3_add_13 rfl ?_
    refine g_get h 8 0 0 ⟨rfl, rfl⟩ rfl rfl uin_X3 2 (by decide) fl_X3_18 rfl dX3_add_14 ?_
    refine g_is (nI (σ.2.2.1.1 2)) (rfl) ?_
    refine g_iload_n h (q := 1) 1 dX3_add_17 rfl ?_
    refine g_astX h 0 (by decide) (by decide) (σ.2.2.1.1 2) (show σ.2.2.1.1 2 < 6 by omega) dX3_add_18 (fun σ1 hσ1 => ?_)
    refine g_aload_n h (q := 0) 0 dX3_add_19 rfl ?_
    refine g_get h 8 0 0 ⟨rfl, rfl⟩ rfl rfl uin_X3 1 (by decide) fl_X3_15 rfl dX3_add_20 ?_
    refine g_aload_n h (q := 0) 0 dX3_add_23 rfl ?_
    refine g_get h 8 0 0 ⟨rfl, rfl⟩ rfl rfl uin_X3 2 (by decide) fl_X3_18 rfl dX3_add_24 ?_
    refine g_is (nI (σ.2.2.1.1 2)) (by simp [hσ1, sX]) ?_
    refine g_iload_n h (q := 2) 2 dX3_add_27 rfl ?_
    refine g_astX h 1 (by decide) (by decide) (σ.2.2.1.1 2) (show σ.2.2.1.1 2 < 6 by omega) dX3_add_28 (fun σ2 hσ2 => ?_)
    refine g_aload_n h (q := 0) 0 dX3_add_29 rfl ?_
    refine g_dup h dX3_add_30 rfl ?_
    refine g_get h 8 0 0 ⟨rfl, rfl⟩ rfl rfl uin_X3 2 (by decide) fl_X3_18 rfl dX3_add_31 ?_
    refine g_is (nI (σ.2.2.1.1 2)) (by simp [hσ2, hσ1, sX]) ?_
    refine g_iconst h (v := 1) dX3_add_34 (by decide) ?_
    refine g_iadd h dX3_add_35 ?_
    refine g_is (nI ((σ.2.2.1.1 2) + 1)) (nI_add (σ.2.2.1.1 2) 1) ?_
    refine g_putXs h (m := (σ.2.2.1.1 2) + 1) fl_X3_18 dX3_add_36 (fun σ3 hσ3 => ?_)
    exact g_vret h hR dX3_add_39 (show rV _ _ _ from ⟨rfl, by rw [seeS, if_pos c1]; subst hσ3 hσ2 hσ1; simp [sX, va_up]⟩)
set_option maxHeartbeats 4000000 in
theorem l_X3_longest {K : KX} {E : EnvT} (hE : EOK E) (h : Cx K E cX3_longest 3 RX3 1 21) {σ : ST} {post : Option Value → ST → Prop} (hR : Rx K E (some .int) post) (hs : σ.2.2.1.1 2 ≤ 6) : ∀ m t a, t + m = σ.2.2.1.1 2 → post (some (.int (lgL (σ.2.2.1.2 0) m t a))) σ → GG K E σ 4 [(0, .ref (ad E 8 0 0)), (1, .int a), (2, .int (nI t))] [] := by
  intro m
  induction m with
  | zero =>
    intro t a hm hp
    refine g_iload_n h (q := 2) 2 dX3_longest_4 rfl ?_
    refine g_aload_n h (q := 0) 0 dX3_longest_5 rfl ?_
    refine g_get h 8 0 0 ⟨rfl, rfl⟩ rfl rfl uin_X3 2 (by decide) fl_X3_18 rfl dX3_longest_6 ?_
    refine g_ncmp_ge h (a := t) (b := σ.2.2.1.1 2) 29 dX3_longest_9 (by decide) (by omega) (by omega) (fun c1 => ?_) (fun c1 => ?_)
    · refine g_iload_n h (q := 1) 1 dX3_longest_29 rfl ?_
      exact g_iret h hR dX3_longest_30 (hp)
    · exfalso; omega
  | succ m ih =>
    intro t a hm hp
    refine g_iload_n h (q := 2) 2 dX3_longest_4 rfl ?_
    refine g_aload_n h (q := 0) 0 dX3_longest_5 rfl ?_
    refine g_get h 8 0 0 ⟨rfl, rfl⟩ rfl rfl uin_X3 2 (by decide) fl_X3_18 rfl dX3_longest_6 ?_
    refine g_ncmp_ge h (a := t) (b := σ.2.2.1.1 2) 29 dX3_longest_9 (by decide) (by omega) (by omega) (fun c1 => ?_) (fun c1 => ?_)
    · exfalso; omega
    · refine g_iload_n h (q := 1) 1 dX3_longest_12 rfl ?_
      refine g_aload_n h (q := 0) 0 dX3_longest_13 rfl ?_
      refine g_get h 8 0 0 ⟨rfl, rfl⟩ rfl rfl uin_X3 0 (by decide) fl_X3_9 rfl dX3_longest_14 ?_
      refine g_iload_n h (q := 2) 2 dX3_longest_17 rfl ?_
      refine g_aldX h 0 (by decide) (by decide) (t) (show t < 6 by omega) dX3_longest_18 ?_
      refine g_mmax h ml_X3_22 (by decide) (by decide) (Nat.le_of_ble_eq_true rfl) dX3_longest_19 ?_
      refine g_istore_n h (q := 1) [(0, .ref (ad E 8 0 0)), (1, .int (if a < (σ.2.2.1.2 0 (t)) then (σ.2.2.1.2 0 (t)) else a)), (2, .int (nI (t)))] dX3_longest_22 (by decide) rfl ?_
      refine g_iinc h (q := 2) (v := nI (t + 1)) 2 [(0, .ref (ad E 8 0 0)), (1, .int (if a < (σ.2.2.1.2 0 (t)) then (σ.2.2.1.2 0 (t)) else a)), (2, .int (nI (t + 1)))] dX3_longest_23 rfl (nI_inc t 1) (by decide) rfl ?_
      refine g_goto h 4 dX3_longest_26 (by decide) ?_
      exact ih (t + 1) _ (by omega) (by rw [lgL] at hp; exact hp)
set_option maxHeartbeats 4000000 in
theorem c_X3_longest (l : Launch) {E : EnvT} (hE : EOK E) {σ : ST} (hs : σ.2.2.1.1 2 ≤ 6) : Con l E yX3_longest cX3_longest 3 (some .int) 1 21 [.ref (ad E 8 0 0)] σ (rI (lgL (σ.2.2.1.2 0) (σ.2.2.1.1 2) 0 0) σ) := by
  refine con_intro hE (by decide) (Nat.le_of_ble_eq_true rfl) (fun K hkl h hR => ?_)
  subst hkl
  have h : Cx K E cX3_longest 3 RX3 1 21 := h
  show GG K E σ 0 [(0, .ref (ad E 8 0 0))] []
  refine g_iconst h (v := 0) dX3_longest_0 (by decide) ?_
  refine g_istore_n h (q := 1) [(0, .ref (ad E 8 0 0)), (1, .int 0)] dX3_longest_1 (by decide) rfl ?_
  refine g_iconst h (v := 0) dX3_longest_2 (by decide) ?_
  refine g_istore_n h (q := 2) [(0, .ref (ad E 8 0 0)), (1, .int 0), (2, .int 0)] dX3_longest_3 (by decide) rfl ?_
  exact l_X3_longest hE h hR hs _ 0 0 (Nat.zero_add _) ⟨rfl, rfl⟩
set_option maxHeartbeats 4000000 in
theorem l_X3_allows {K : KX} {E : EnvT} (hE : EOK E) (h : Cx K E cX3_allows 4 RX3 0 0) {σ : ST} {post : Option Value → ST → Prop} (hR : Rx K E (some .boolean) post) (hs : σ.2.2.1.1 2 ≤ 6) (a b : Int32) : ∀ m t, t + m = σ.2.2.1.1 2 → post (some (.int (bI (alL (σ.2.2.1.2 0) (σ.2.2.1.2 1) a b m t)))) σ → GG K E σ 2 [(0, .ref (ad E 8 0 0)), (1, .int a), (2, .int b), (3, .int (nI t))] [] := by
  intro m
  induction m with
  | zero =>
    intro t hm hp
    refine g_iload_n h (q := 3) 3 dX3_allows_2 rfl ?_
    refine g_aload_n h (q := 0) 0 dX3_allows_3 rfl ?_
    refine g_get h 8 0 0 ⟨rfl, rfl⟩ rfl rfl uin_X3 2 (by decide) fl_X3_18 rfl dX3_allows_4 ?_
    refine g_ncmp_ge h (a := t) (b := σ.2.2.1.1 2) 38 dX3_allows_7 (by decide) (by omega) (by omega) (fun c1 => ?_) (fun c1 => ?_)
    · refine g_iconst h (v := 1) dX3_allows_38 (by decide) ?_
      exact g_zret h hR dX3_allows_39 (by decide) (hp)
    · exfalso; omega
  | succ m ih =>
    intro t hm hp
    refine g_iload_n h (q := 3) 3 dX3_allows_2 rfl ?_
    refine g_aload_n h (q := 0) 0 dX3_allows_3 rfl ?_
    refine g_get h 8 0 0 ⟨rfl, rfl⟩ rfl rfl uin_X3 2 (by decide) fl_X3_18 rfl dX3_allows_4 ?_
    refine g_ncmp_ge h (a := t) (b := σ.2.2.1.1 2) 38 dX3_allows_7 (by decide) (by omega) (by omega) (fun c1 => ?_) (fun c1 => ?_)
    · exfalso; omega
    · refine g_aload_n h (q := 0) 0 dX3_allows_10 rfl ?_
      refine g_get h 8 0 0 ⟨rfl, rfl⟩ rfl rfl uin_X3 0 (by decide) fl_X3_9 rfl dX3_allows_11 ?_
      refine g_iload_n h (q := 3) 3 dX3_allows_14 rfl ?_
      refine g_aldX h 0 (by decide) (by decide) (t) (show t < 6 by omega) dX3_allows_15 ?_
      refine g_iload_n h (q := 1) 1 dX3_allows_16 rfl ?_
      refine g_icmp_ne h 32 dX3_allows_17 (by decide) (fun c2 => ?_) (fun c2 => ?_)
      · refine g_iinc h (q := 3) (v := nI (t + 1)) 3 [(0, .ref (ad E 8 0 0)), (1, .int a), (2, .int b), (3, .int (nI (t + 1)))] dX3_allows_32 rfl (nI_inc t 1) (by decide) rfl ?_
        refine g_goto h 2 dX3_allows_35 (by decide) ?_
        exact ih (t + 1) (by omega) (by rw [alL, if_neg (by simp [c2])] at hp; exact hp)
      · refine g_aload_n h (q := 0) 0 dX3_allows_20 rfl ?_
        refine g_get h 8 0 0 ⟨rfl, rfl⟩ rfl rfl uin_X3 1 (by decide) fl_X3_15 rfl dX3_allows_21 ?_
        refine g_iload_n h (q := 3) 3 dX3_allows_24 rfl ?_
        refine g_aldX h 1 (by decide) (by decide) (t) (show t < 6 by omega) dX3_allows_25 ?_
        refine g_iload_n h (q := 2) 2 dX3_allows_26 rfl ?_
        refine g_icmp_eq h 32 dX3_allows_27 (by decide) (fun c3 => ?_) (fun c3 => ?_)
        · refine g_iinc h (q := 3) (v := nI (t + 1)) 3 [(0, .ref (ad E 8 0 0)), (1, .int a), (2, .int b), (3, .int (nI (t + 1)))] dX3_allows_32 rfl (nI_inc t 1) (by decide) rfl ?_
          refine g_goto h 2 dX3_allows_35 (by decide) ?_
          exact ih (t + 1) (by omega) (by rw [alL, if_neg (by simp [c2, c3])] at hp; exact hp)
        · refine g_iconst h (v := 0) dX3_allows_30 (by decide) ?_
          exact g_zret h hR dX3_allows_31 (by decide) (by rw [alL, if_pos ⟨c2, c3⟩] at hp; exact hp)
set_option maxHeartbeats 4000000 in
theorem c_X3_allows (l : Launch) {E : EnvT} (hE : EOK E) {σ : ST} (hs : σ.2.2.1.1 2 ≤ 6) (a b : Int32) : Con l E yX3_allows cX3_allows 4 (some .boolean) 0 0 [.ref (ad E 8 0 0), .int a, .int b] σ (rI (bI (alL (σ.2.2.1.2 0) (σ.2.2.1.2 1) a b (σ.2.2.1.1 2) 0)) σ) := by
  refine con_intro hE (by decide) (Nat.le_of_ble_eq_true rfl) (fun K hkl h hR => ?_)
  subst hkl
  have h : Cx K E cX3_allows 4 RX3 0 0 := h
  show GG K E σ 0 [(0, .ref (ad E 8 0 0)), (1, .int a), (2, .int b)] []
  refine g_iconst h (v := 0) dX3_allows_0 (by decide) ?_
  refine g_istore_n h (q := 3) [(0, .ref (ad E 8 0 0)), (1, .int a), (2, .int b), (3, .int 0)] dX3_allows_1 (by decide) rfl ?_
  exact l_X3_allows hE h hR hs a b _ 0 (Nat.zero_add _) ⟨rfl, rfl⟩
