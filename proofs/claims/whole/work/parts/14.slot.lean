theorem insL_spec (lt : Nat → Bool) : ∀ (k : Nat) (g : Nat → Nat), (insL lt g k).2 ≤ k ∧ (∀ t, t < (insL lt g k).2 → (insL lt g k).1 t = g t) ∧ (∀ t, (insL lt g k).2 < t → t ≤ k → (insL lt g k).1 t = g (t - 1)) ∧ (∀ t, k < t → (insL lt g k).1 t = g t) ∧ (∀ t, (insL lt g k).2 ≤ t → t < k → lt (g t) = true) ∧ (0 < (insL lt g k).2 → lt (g ((insL lt g k).2 - 1)) = false) := by
  intro k
  induction k with
  | zero =>
    intro g
    have e : insL lt g 0 = (g, 0) := by simp [insL]
    rw [e]
    refine ⟨Nat.le_refl _, fun t h => rfl, fun t h1 h2 => by dsimp only at h1; omega, fun t h => rfl, fun t h1 h2 => by omega, fun h => by dsimp only at h; omega⟩
  | succ k ih =>
    intro g
    by_cases h : lt (g k) = true
    · obtain ⟨h1, h2, h3, h4, h5, h6⟩ := ih (va_up g (k + 1) (g k))
      have e : insL lt g (k + 1) = insL lt (va_up g (k + 1) (g k)) k := by simp [insL, h]
      rw [e]
      refine ⟨by omega, fun t ht => by rw [h2 t ht, up_n (by omega)], fun t ht1 ht2 => ?_, fun t ht => by rw [h4 t (by omega), up_n (by omega)], fun t ht1 ht2 => ?_, fun hp => ?_⟩
      · by_cases e2 : t = k + 1
        · subst e2; rw [h4 (k + 1) (by omega), up_s]; rfl
        · rw [h3 t ht1 (by omega), up_n (by omega)]
      · by_cases e2 : t = k
        · subst e2; exact h
        · have := h5 t ht1 (by omega); rwa [up_n (by omega)] at this
      · have := h6 hp; rwa [up_n (by omega)] at this
    · have e : insL lt g (k + 1) = (g, k + 1) := by simp [insL, h]
      rw [e]
      refine ⟨Nat.le_refl _, fun t ht => rfl, fun t ht1 ht2 => by dsimp only at ht1; omega, fun t ht => rfl, fun t ht1 ht2 => by dsimp only at ht1; omega, fun hp => ?_⟩
      simpa using h
theorem rIns_ok {lt : Nat → Bool} {w : RowT} {x b : Nat} (h : ROK b w) (hx : x < b) : ROK b (rIns lt w x) := by
  unfold rIns
  by_cases h64 : w.2 < 64
  · rw [if_pos h64]
    obtain ⟨h1, h2, h3, h4, h5, h6⟩ := insL_spec lt w.2 w.1
    refine ⟨by show w.2 + 1 ≤ 64; omega, fun t ht => ?_⟩
    have ht : t < w.2 + 1 := ht
    show va_up (insL lt w.1 w.2).1 (insL lt w.1 w.2).2 x t < b
    by_cases e : t = (insL lt w.1 w.2).2
    · rw [e, up_s]; exact hx
    · rw [up_n e]
      rcases Nat.lt_or_ge t (insL lt w.1 w.2).2 with q | q
      · rw [h2 t q]; exact h.2 t (by omega)
      · rw [h3 t (by omega) (by omega)]; exact h.2 (t - 1) (by omega)
  · rw [if_neg h64]; exact h
theorem ROK.mono {a b : Nat} {w : RowT} (h : ROK a w) (hab : a ≤ b) : ROK b w := ⟨h.1, fun t ht => Nat.lt_of_lt_of_le (h.2 t ht) hab⟩
def srtL (F : FabT) (sel : Nat → Bool) (by1 : Bool) : Nat → Nat → RowT → RowT
  | 0, _, w => w
  | m + 1, k, w => srtL F sel by1 m (k + 1) (if sel k then rIns (fun y => gB F k y by1) w k else w)
def selW (F : FabT) (k : Nat) : Bool := decide (F.2.2 0 k = 0) || decide (F.2.2 0 k = 1)
def selT (F : FabT) (k : Nat) : Bool := decide (F.2.2 0 k = 1)
def sortW (F : FabT) (w : RowT) : RowT := srtL F (selW F) true F.2.1 0 (w.1, 0)
def sortT (F : FabT) (w : RowT) : RowT := srtL F (selT F) false F.2.1 0 (w.1, 0)
theorem srtL_ok {F : FabT} {sel : Nat → Bool} {by1 : Bool} : ∀ (m k : Nat) (w : RowT), ROK k w → k + m ≤ 64 → ROK (k + m) (srtL F sel by1 m k w) := by
  intro m
  induction m with
  | zero => intro k w h _; exact h
  | succ m ih =>
    intro k w h hk
    have : k + (m + 1) = (k + 1) + m := by omega
    rw [this]
    refine ih (k + 1) _ ?_ (by omega)
    by_cases e : sel k = true
    · rw [if_pos e]; exact rIns_ok (h.mono (by omega)) (by omega)
    · rw [if_neg e]; exact h.mono (by omega)
theorem sortW_ok {F : FabT} {w : RowT} (hF : F.2.1 ≤ 64) : ROK F.2.1 (sortW F w) := by
  have := srtL_ok (F := F) (sel := selW F) (by1 := true) F.2.1 0 (w.1, 0) ⟨Nat.zero_le _, fun t h => absurd h (Nat.not_lt_zero t)⟩ (by omega)
  rwa [Nat.zero_add] at this
theorem sortT_ok {F : FabT} {w : RowT} (hF : F.2.1 ≤ 64) : ROK F.2.1 (sortT F w) := by
  have := srtL_ok (F := F) (sel := selT F) (by1 := false) F.2.1 0 (w.1, 0) ⟨Nat.zero_le _, fun t h => absurd h (Nat.not_lt_zero t)⟩ (by omega)
  rwa [Nat.zero_add] at this
set_option maxHeartbeats 4000000 in
theorem l_X4_sortWaiting {K : KX} {E : EnvT} (hE : EOK E) (h : Cx K E cX4_sortWaiting 3 RX4 2 47) {σ : ST} {post : Option Value → ST → Prop} (hR : Rx K E (some (.object "LetterFabric$Row")) post) (i : Nat) (hi : i < 14) (hF : (σ.1 i).2.1 ≤ 64) : ∀ m k w τ, τ = sR σ 14 w → k + m = (σ.1 i).2.1 → ROK k w → post (some (.ref (ad E 3 14 0))) (sR σ 14 (srtL (σ.1 i) (selW (σ.1 i)) true m k w)) → GG K E τ 10 [(0, .ref (ad E 5 0 0)), (1, .ref (ad E 1 i 0)), (2, .int (nI k))] [] := by
  intro m
  induction m with
  | zero =>
    intro k w τ ht hk hw hp
    have ef : τ.1 i = σ.1 i := by rw [ht]; rfl
    refine g_iload_n h (q := 2) 2 dX4_sortWaiting_10 rfl ?_
    refine g_aload_n h (q := 1) 1 dX4_sortWaiting_11 rfl ?_
    refine g_get h 1 i 0 (ok_F hi) rfl rfl uin_X0 4 (by decide) fl_X4_25 rfl dX4_sortWaiting_12 ?_
    refine g_is (nI ((σ.1 i).2.1)) (by rw [ef]) ?_
    refine g_ncmp_ge h (a := k) (b := (σ.1 i).2.1) 53 dX4_sortWaiting_15 (by decide) (by omega) (by omega) (fun c1 => ?_) (fun c1 => ?_)
    · refine g_aload_n h (q := 0) 0 dX4_sortWaiting_53 rfl ?_
      refine g_get h 5 0 0 ⟨rfl, rfl⟩ rfl rfl uin_X4 0 (by decide) fl_X4_12 rfl dX4_sortWaiting_54 ?_
      exact g_aret h hR dX4_sortWaiting_57 (by rw [ht]; exact hp)
    · exfalso; omega
  | succ m ih =>
    intro k w τ ht hk hw hp
    have ef : τ.1 i = σ.1 i := by rw [ht]; rfl
    have er : τ.2.1 14 = w := by rw [ht]; rfl
    refine g_iload_n h (q := 2) 2 dX4_sortWaiting_10 rfl ?_
    refine g_aload_n h (q := 1) 1 dX4_sortWaiting_11 rfl ?_
    refine g_get h 1 i 0 (ok_F hi) rfl rfl uin_X0 4 (by decide) fl_X4_25 rfl dX4_sortWaiting_12 ?_
    refine g_is (nI ((σ.1 i).2.1)) (by rw [ef]) ?_
    refine g_ncmp_ge h (a := k) (b := (σ.1 i).2.1) 53 dX4_sortWaiting_15 (by decide) (by omega) (by omega) (fun c1 => ?_) (fun c1 => ?_)
    · exfalso; omega
    · refine g_aload_n h (q := 1) 1 dX4_sortWaiting_18 rfl ?_
      refine g_get h 1 i 0 (ok_F hi) rfl rfl uin_X0 5 (by decide) fl_X4_30 rfl dX4_sortWaiting_19 ?_
      refine g_iload_n h (q := 2) 2 dX4_sortWaiting_22 rfl ?_
      refine g_aldF h i 0 hi (by decide) (k) (show k < 64 by omega) dX4_sortWaiting_23 ?_
      refine g_is ((σ.1 i).2.2 0 k) (by rw [ef]) ?_
      refine g_if_eq h 37 dX4_sortWaiting_24 (by decide) (fun c2 => ?_) (fun c2 => ?_)
      · refine g_aload_n h (q := 0) 0 dX4_sortWaiting_37 rfl ?_
        refine g_get h 5 0 0 ⟨rfl, rfl⟩ rfl rfl uin_X4 0 (by decide) fl_X4_12 rfl dX4_sortWaiting_38 ?_
        refine g_iload_n h (q := 2) 2 dX4_sortWaiting_41 rfl ?_
        refine g_aload_n h (q := 1) 1 dX4_sortWaiting_42 rfl ?_
        refine g_iconst h (v := bI true) dX4_sortWaiting_43 (by decide) ?_
        refine g_callV h mv_X2_addInOrder 3 14 0 (ok_R (by decide)) rfl rfl (As := [.int (nI (k)), .ref (ad E 1 i 0), .int (bI true)]) (c_X2_addInOrder (kl K) hE (σ := τ) 14 i (by decide) hi k (by omega) true (by rw [er]; exact hw.mono (by omega))) ml_X4_34 rfl (by decide) (by decide) rfl (Nat.le_of_ble_eq_true rfl) dX4_sortWaiting_44 (fun v σ9 h9 => ?_)
        rw [h9.1, h9.2]; clear h9
        rw [er, ef]
        generalize ht2 : sR τ 14 (rIns (fun y => gB (σ.1 i) k y true) w k) = τ2
        refine g_iinc h (q := 2) (v := nI (k + 1)) 2 [(0, .ref (ad E 5 0 0)), (1, .ref (ad E 1 i 0)), (2, .int (nI (k + 1)))] dX4_sortWaiting_47 rfl (nI_inc k 1) (by decide) rfl ?_
        refine g_goto h 10 dX4_sortWaiting_50 (by decide) ?_
        have hs : selW (σ.1 i) k = true := by simp [selW, *]
        exact ih (k + 1) (rIns (fun y => gB (σ.1 i) k y true) w k) τ2 (by rw [← ht2, ht, sR_sR]) (by omega) (rIns_ok (hw.mono (by omega)) (by omega)) (by simpa [srtL, hs] using hp)
      · refine g_aload_n h (q := 1) 1 dX4_sortWaiting_27 rfl ?_
        refine g_get h 1 i 0 (ok_F hi) rfl rfl uin_X0 5 (by decide) fl_X4_30 rfl dX4_sortWaiting_28 ?_
        refine g_iload_n h (q := 2) 2 dX4_sortWaiting_31 rfl ?_
        refine g_aldF h i 0 hi (by decide) (k) (show k < 64 by omega) dX4_sortWaiting_32 ?_
        refine g_is ((σ.1 i).2.2 0 k) (by rw [ef]) ?_
        refine g_iconst h (v := 1) dX4_sortWaiting_33 (by decide) ?_
        refine g_icmp_ne h 47 dX4_sortWaiting_34 (by decide) (fun c3 => ?_) (fun c3 => ?_)
        · refine g_iinc h (q := 2) (v := nI (k + 1)) 2 [(0, .ref (ad E 5 0 0)), (1, .ref (ad E 1 i 0)), (2, .int (nI (k + 1)))] dX4_sortWaiting_47 rfl (nI_inc k 1) (by decide) rfl ?_
          refine g_goto h 10 dX4_sortWaiting_50 (by decide) ?_
          have hs : selW (σ.1 i) k = false := by simp [selW, *]
          exact ih (k + 1) w τ ht (by omega) (hw.mono (by omega)) (by simpa [srtL, hs] using hp)
        · refine g_aload_n h (q := 0) 0 dX4_sortWaiting_37 rfl ?_
          refine g_get h 5 0 0 ⟨rfl, rfl⟩ rfl rfl uin_X4 0 (by decide) fl_X4_12 rfl dX4_sortWaiting_38 ?_
          refine g_iload_n h (q := 2) 2 dX4_sortWaiting_41 rfl ?_
          refine g_aload_n h (q := 1) 1 dX4_sortWaiting_42 rfl ?_
          refine g_iconst h (v := bI true) dX4_sortWaiting_43 (by decide) ?_
          refine g_callV h mv_X2_addInOrder 3 14 0 (ok_R (by decide)) rfl rfl (As := [.int (nI (k)), .ref (ad E 1 i 0), .int (bI true)]) (c_X2_addInOrder (kl K) hE (σ := τ) 14 i (by decide) hi k (by omega) true (by rw [er]; exact hw.mono (by omega))) ml_X4_34 rfl (by decide) (by decide) rfl (Nat.le_of_ble_eq_true rfl) dX4_sortWaiting_44 (fun v σ9 h9 => ?_)
          rw [h9.1, h9.2]; clear h9
          rw [er, ef]
          generalize ht2 : sR τ 14 (rIns (fun y => gB (σ.1 i) k y true) w k) = τ2
          refine g_iinc h (q := 2) (v := nI (k + 1)) 2 [(0, .ref (ad E 5 0 0)), (1, .ref (ad E 1 i 0)), (2, .int (nI (k + 1)))] dX4_sortWaiting_47 rfl (nI_inc k 1) (by decide) rfl ?_
          refine g_goto h 10 dX4_sortWaiting_50 (by decide) ?_
          have hs : selW (σ.1 i) k = true := by simp [selW, *]
          exact ih (k + 1) (rIns (fun y => gB (σ.1 i) k y true) w k) τ2 (by rw [← ht2, ht, sR_sR]) (by omega) (rIns_ok (hw.mono (by omega)) (by omega)) (by simpa [srtL, hs] using hp)
set_option maxHeartbeats 4000000 in
theorem c_X4_sortWaiting (l : Launch) {E : EnvT} (hE : EOK E) {σ : ST} (i : Nat) (hi : i < 14) (hF : (σ.1 i).2.1 ≤ 64) : Con l E yX4_sortWaiting cX4_sortWaiting 3 (some (.object "LetterFabric$Row")) 2 47 [.ref (ad E 5 0 0), .ref (ad E 1 i 0)] σ (rA (ad E 3 14 0) (sR σ 14 (sortW (σ.1 i) (σ.2.1 14)))) := by
  refine con_intro hE (by decide) (Nat.le_of_ble_eq_true rfl) (fun K hkl h hR => ?_)
  subst hkl
  have h : Cx K E cX4_sortWaiting 3 RX4 2 47 := h
  show GG K E σ 0 [(0, .ref (ad E 5 0 0)), (1, .ref (ad E 1 i 0))] []
  refine g_aload_n h (q := 0) 0 dX4_sortWaiting_0 rfl ?_
  refine g_get h 5 0 0 ⟨rfl, rfl⟩ rfl rfl uin_X4 0 (by decide) fl_X4_12 rfl dX4_sortWaiting_1 ?_
  refine g_iconst h (v := 0) dX4_sortWaiting_4 (by decide) ?_
  refine g_putRs h 14 (by decide) (m := 0) fl_X4_21 dX4_sortWaiting_5 (fun σ1 hσ1 => ?_)
  refine g_iconst h (v := 0) dX4_sortWaiting_8 (by decide) ?_
  refine g_istore_n h (q := 2) [(0, .ref (ad E 5 0 0)), (1, .ref (ad E 1 i 0)), (2, .int 0)] dX4_sortWaiting_9 (by decide) rfl ?_
  exact l_X4_sortWaiting (σ := σ) hE h hR i hi hF _ 0 ((σ.2.1 14).1, 0) σ1 hσ1 (Nat.zero_add _) ⟨Nat.zero_le _, fun t q => absurd q (Nat.not_lt_zero t)⟩ ⟨rfl, rfl⟩
set_option maxHeartbeats 4000000 in
theorem l_X4_sortTurned {K : KX} {E : EnvT} (hE : EOK E) (h : Cx K E cX4_sortTurned 3 RX4 2 47) {σ : ST} {post : Option Value → ST → Prop} (hR : Rx K E (some (.object "LetterFabric$Row")) post) (i : Nat) (hi : i < 14) (hF : (σ.1 i).2.1 ≤ 64) : ∀ m k w τ, τ = sR σ 14 w → k + m = (σ.1 i).2.1 → ROK k w → post (some (.ref (ad E 3 14 0))) (sR σ 14 (srtL (σ.1 i) (selT (σ.1 i)) false m k w)) → GG K E τ 10 [(0, .ref (ad E 5 0 0)), (1, .ref (ad E 1 i 0)), (2, .int (nI k))] [] := by
  intro m
  induction m with
  | zero =>
    intro k w τ ht hk hw hp
    have ef : τ.1 i = σ.1 i := by rw [ht]; rfl
    refine g_iload_n h (q := 2) 2 dX4_sortTurned_10 rfl ?_
    refine g_aload_n h (q := 1) 1 dX4_sortTurned_11 rfl ?_
    refine g_get h 1 i 0 (ok_F hi) rfl rfl uin_X0 4 (by decide) fl_X4_25 rfl dX4_sortTurned_12 ?_
    refine g_is (nI ((σ.1 i).2.1)) (by rw [ef]) ?_
    refine g_ncmp_ge h (a := k) (b := (σ.1 i).2.1) 44 dX4_sortTurned_15 (by decide) (by omega) (by omega) (fun c1 => ?_) (fun c1 => ?_)
    · refine g_aload_n h (q := 0) 0 dX4_sortTurned_44 rfl ?_
      refine g_get h 5 0 0 ⟨rfl, rfl⟩ rfl rfl uin_X4 0 (by decide) fl_X4_12 rfl dX4_sortTurned_45 ?_
      exact g_aret h hR dX4_sortTurned_48 (by rw [ht]; exact hp)
    · exfalso; omega
  | succ m ih =>
    intro k w τ ht hk hw hp
    have ef : τ.1 i = σ.1 i := by rw [ht]; rfl
    have er : τ.2.1 14 = w := by rw [ht]; rfl
    refine g_iload_n h (q := 2) 2 dX4_sortTurned_10 rfl ?_
    refine g_aload_n h (q := 1) 1 dX4_sortTurned_11 rfl ?_
    refine g_get h 1 i 0 (ok_F hi) rfl rfl uin_X0 4 (by decide) fl_X4_25 rfl dX4_sortTurned_12 ?_
    refine g_is (nI ((σ.1 i).2.1)) (by rw [ef]) ?_
    refine g_ncmp_ge h (a := k) (b := (σ.1 i).2.1) 44 dX4_sortTurned_15 (by decide) (by omega) (by omega) (fun c1 => ?_) (fun c1 => ?_)
    · exfalso; omega
    · refine g_aload_n h (q := 1) 1 dX4_sortTurned_18 rfl ?_
      refine g_get h 1 i 0 (ok_F hi) rfl rfl uin_X0 5 (by decide) fl_X4_30 rfl dX4_sortTurned_19 ?_
      refine g_iload_n h (q := 2) 2 dX4_sortTurned_22 rfl ?_
      refine g_aldF h i 0 hi (by decide) (k) (show k < 64 by omega) dX4_sortTurned_23 ?_
      refine g_is ((σ.1 i).2.2 0 k) (by rw [ef]) ?_
      refine g_iconst h (v := 1) dX4_sortTurned_24 (by decide) ?_
      refine g_icmp_ne h 38 dX4_sortTurned_25 (by decide) (fun c2 => ?_) (fun c2 => ?_)
      · refine g_iinc h (q := 2) (v := nI (k + 1)) 2 [(0, .ref (ad E 5 0 0)), (1, .ref (ad E 1 i 0)), (2, .int (nI (k + 1)))] dX4_sortTurned_38 rfl (nI_inc k 1) (by decide) rfl ?_
        refine g_goto h 10 dX4_sortTurned_41 (by decide) ?_
        have hs : selT (σ.1 i) k = false := by simp [selT, *]
        exact ih (k + 1) w τ ht (by omega) (hw.mono (by omega)) (by simpa [srtL, hs] using hp)
      · refine g_aload_n h (q := 0) 0 dX4_sortTurned_28 rfl ?_
        refine g_get h 5 0 0 ⟨rfl, rfl⟩ rfl rfl uin_X4 0 (by decide) fl_X4_12 rfl dX4_sortTurned_29 ?_
        refine g_iload_n h (q := 2) 2 dX4_sortTurned_32 rfl ?_
        refine g_aload_n h (q := 1) 1 dX4_sortTurned_33 rfl ?_
        refine g_iconst h (v := bI false) dX4_sortTurned_34 (by decide) ?_
        refine g_callV h mv_X2_addInOrder 3 14 0 (ok_R (by decide)) rfl rfl (As := [.int (nI (k)), .ref (ad E 1 i 0), .int (bI false)]) (c_X2_addInOrder (kl K) hE (σ := τ) 14 i (by decide) hi k (by omega) false (by rw [er]; exact hw.mono (by omega))) ml_X4_34 rfl (by decide) (by decide) rfl (Nat.le_of_ble_eq_true rfl) dX4_sortTurned_35 (fun v σ9 h9 => ?_)
        rw [h9.1, h9.2]; clear h9
        rw [er, ef]
        generalize ht2 : sR τ 14 (rIns (fun y => gB (σ.1 i) k y false) w k) = τ2
        refine g_iinc h (q := 2) (v := nI (k + 1)) 2 [(0, .ref (ad E 5 0 0)), (1, .ref (ad E 1 i 0)), (2, .int (nI (k + 1)))] dX4_sortTurned_38 rfl (nI_inc k 1) (by decide) rfl ?_
        refine g_goto h 10 dX4_sortTurned_41 (by decide) ?_
        have hs : selT (σ.1 i) k = true := by simp [selT, *]
        exact ih (k + 1) (rIns (fun y => gB (σ.1 i) k y false) w k) τ2 (by rw [← ht2, ht, sR_sR]) (by omega) (rIns_ok (hw.mono (by omega)) (by omega)) (by simpa [srtL, hs] using hp)
set_option maxHeartbeats 4000000 in
theorem c_X4_sortTurned (l : Launch) {E : EnvT} (hE : EOK E) {σ : ST} (i : Nat) (hi : i < 14) (hF : (σ.1 i).2.1 ≤ 64) : Con l E yX4_sortTurned cX4_sortTurned 3 (some (.object "LetterFabric$Row")) 2 47 [.ref (ad E 5 0 0), .ref (ad E 1 i 0)] σ (rA (ad E 3 14 0) (sR σ 14 (sortT (σ.1 i) (σ.2.1 14)))) := by
  refine con_intro hE (by decide) (Nat.le_of_ble_eq_true rfl) (fun K hkl h hR => ?_)
  subst hkl
  have h : Cx K E cX4_sortTurned 3 RX4 2 47 := h
  show GG K E σ 0 [(0, .ref (ad E 5 0 0)), (1, .ref (ad E 1 i 0))] []
  refine g_aload_n h (q := 0) 0 dX4_sortTurned_0 rfl ?_
  refine g_get h 5 0 0 ⟨rfl, rfl⟩ rfl rfl uin_X4 0 (by decide) fl_X4_12 rfl dX4_sortTurned_1 ?_
  refine g_iconst h (v := 0) dX4_sortTurned_4 (by decide) ?_
  refine g_putRs h 14 (by decide) (m := 0) fl_X4_21 dX4_sortTurned_5 (fun σ1 hσ1 => ?_)
  refine g_iconst h (v := 0) dX4_sortTurned_8 (by decide) ?_
  refine g_istore_n h (q := 2) [(0, .ref (ad E 5 0 0)), (1, .ref (ad E 1 i 0)), (2, .int 0)] dX4_sortTurned_9 (by decide) rfl ?_
  exact l_X4_sortTurned (σ := σ) hE h hR i hi hF _ 0 ((σ.2.1 14).1, 0) σ1 hσ1 (Nat.zero_add _) ⟨Nat.zero_le _, fun t q => absurd q (Nat.not_lt_zero t)⟩ ⟨rfl, rfl⟩
