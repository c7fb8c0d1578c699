def bgA (A : Nat → Nat → Int32) (n : Nat) : Nat → Nat → Int32 := va_up A 7 (fun m => if m < n then 0 else A 7 m)
theorem bgA_s (A : Nat → Nat → Int32) (n : Nat) : va_up (bgA A n) 7 (upd (bgA A n 7) n 0) = bgA A (n + 1) := by
  funext v m
  by_cases h : v = 7
  · subst h
    by_cases e : m = n
    · subst e; simp [bgA, va_up, upd]
    · have e2 : (m < n + 1) = (m < n) := by apply propext; omega
      simp [bgA, va_up, upd, e, e2]
  · simp [bgA, va_up, h]
theorem bgA_0 (A : Nat → Nat → Int32) : A = bgA A 0 := by
  funext v m
  by_cases h : v = 7
  · subst h; simp [bgA, va_up]
  · simp [bgA, va_up, h]
def bgC (c : Nat → Int32) : Nat → Int32 := va_up (va_up (va_up (va_up c 0 1) 1 8) 2 8) 3 0
def bgF (F : FabT) : FabT := (bgC F.1, 0, bgA F.2.2 5)
set_option maxHeartbeats 4000000 in
theorem l_X0_begin {K : KX} {E : EnvT} (hE : EOK E) (h : Cx K E cX0_begin 2 RX0 0 0) {σ : ST} {post : Option Value → ST → Prop} (hR : Rx K E none post) (i : Nat) (hi : i < 14) : ∀ m k τ, k + m = 5 → τ = sR (sF σ i (bgC (σ.1 i).1, 0, bgA (σ.1 i).2.2 k)) i ((σ.2.1 i).1, 0) → post none (sR (sF σ i (bgF (σ.1 i))) i ((σ.2.1 i).1, 0)) → GG K E τ 37 [(0, .ref (ad E 1 i 0)), (1, .int (nI k))] [] := by
  intro m
  induction m with
  | zero =>
    intro k τ hk ht hp
    have hk5 : k = 5 := by omega
    subst hk5
    refine g_iload_n h (q := 1) 1 dX0_begin_37 rfl ?_
    refine g_iconst h (v := 5) dX0_begin_38 (by decide) ?_
    refine g_ncmp_ge h (a := 5) (b := 5) 55 dX0_begin_39 (by decide) (by omega) (by omega) (fun c1 => ?_) (fun c1 => ?_)
    · exact g_vret h hR dX0_begin_55 (by rw [ht]; exact hp)
    · exfalso; omega
  | succ m ih =>
    intro k τ hk ht hp
    refine g_iload_n h (q := 1) 1 dX0_begin_37 rfl ?_
    refine g_iconst h (v := 5) dX0_begin_38 (by decide) ?_
    refine g_ncmp_ge h (a := k) (b := 5) 55 dX0_begin_39 (by decide) (by omega) (by omega) (fun c1 => ?_) (fun c1 => ?_)
    · exfalso; omega
    · refine g_aload_n h (q := 0) 0 dX0_begin_42 rfl ?_
      refine g_get h 1 i 0 (ok_F hi) rfl rfl uin_X0 12 (by decide) fl_X0_43 rfl dX0_begin_43 ?_
      refine g_iload_n h (q := 1) 1 dX0_begin_46 rfl ?_
      refine g_iconst h (v := 0) dX0_begin_47 (by decide) ?_
      refine g_astF h i 7 hi (by decide) (k) (show k < 5 by omega) dX0_begin_48 (fun σ2 hσ2 => ?_)
      refine g_iinc h (q := 1) (v := nI (k + 1)) 1 [(0, .ref (ad E 1 i 0)), (1, .int (nI (k + 1)))] dX0_begin_49 rfl (nI_inc k 1) (by decide) rfl ?_
      refine g_goto h 37 dX0_begin_52 (by decide) ?_
      exact ih (k + 1) σ2 (by omega) (by rw [hσ2, ht]; simp only [sF, sR, up_s, bx_uu]; rw [← bgA_s]) hp
set_option maxHeartbeats 4000000 in
theorem c_X0_begin (l : Launch) {E : EnvT} (hE : EOK E) {σ : ST} (i : Nat) (hi : i < 14) : Con l E yX0_begin cX0_begin 2 none 0 0 [.ref (ad E 1 i 0)] σ (rV (sR (sF σ i (bgF (σ.1 i))) i ((σ.2.1 i).1, 0))) := by
  refine con_intro hE (by decide) (Nat.le_of_ble_eq_true rfl) (fun K hkl h hR => ?_)
  subst hkl
  have h : Cx K E cX0_begin 2 RX0 0 0 := h
  show GG K E σ 0 [(0, .ref (ad E 1 i 0))] []
  refine g_aload_n h (q := 0) 0 dX0_begin_0 rfl ?_
  refine g_iconst h (v := 1) dX0_begin_1 (by decide) ?_
  refine g_putFc h i hi 0 (by decide) fl_X0_9 dX0_begin_2 (fun σ1 hσ1 => ?_)
  refine g_aload_n h (q := 0) 0 dX0_begin_5 rfl ?_
  refine g_bipush h (v := 8) dX0_begin_6 (by decide) ?_
  refine g_putFc h i hi 1 (by decide) fl_X0_15 dX0_begin_8 (fun σ2 hσ2 => ?_)
  refine g_aload_n h (q := 0) 0 dX0_begin_11 rfl ?_
  refine g_bipush h (v := 8) dX0_begin_12 (by decide) ?_
  refine g_putFc h i hi 2 (by decide) fl_X0_18 dX0_begin_14 (fun σ3 hσ3 => ?_)
  refine g_aload_n h (q := 0) 0 dX0_begin_17 rfl ?_
  refine g_iconst h (v := 0) dX0_begin_18 (by decide) ?_
  refine g_putFc h i hi 3 (by decide) fl_X0_53 dX0_begin_19 (fun σ4 hσ4 => ?_)
  refine g_aload_n h (q := 0) 0 dX0_begin_22 rfl ?_
  refine g_iconst h (v := 0) dX0_begin_23 (by decide) ?_
  refine g_putFl h i hi (m := 0) fl_X0_56 dX0_begin_24 (fun σ5 hσ5 => ?_)
  refine g_aload_n h (q := 0) 0 dX0_begin_27 rfl ?_
  refine g_get h 1 i 0 (ok_F hi) rfl rfl uin_X0 13 (by decide) fl_X0_49 rfl dX0_begin_28 ?_
  refine g_iconst h (v := 0) dX0_begin_31 (by decide) ?_
  refine g_putRs h i (by omega) (m := 0) fl_X0_59 dX0_begin_32 (fun σ6 hσ6 => ?_)
  refine g_iconst h (v := 0) dX0_begin_35 (by decide) ?_
  refine g_istore_n h (q := 1) [(0, .ref (ad E 1 i 0)), (1, .int 0)] dX0_begin_36 (by decide) rfl ?_
  exact l_X0_begin hE h hR i hi 5 0 σ6 rfl (by subst hσ6 hσ5 hσ4 hσ3 hσ2 hσ1; rw [← bgA_0]; simp only [sF, sR, up_s, bx_uu, bgC]) ⟨rfl, rfl⟩
def insL (lt : Nat → Bool) : (Nat → Nat) → Nat → (Nat → Nat) × Nat
  | g, 0 => (g, 0)
  | g, k + 1 => if lt (g k) then insL lt (va_up g (k + 1) (g k)) k else (g, k + 1)
def rIns (lt : Nat → Bool) (w : RowT) (x : Nat) : RowT := if w.2 < 64 then (va_up (insL lt w.1 w.2).1 (insL lt w.1 w.2).2 x, w.2 + 1) else w
set_option maxHeartbeats 4000000 in
theorem l_X2_addInOrder {K : KX} {E : EnvT} (hE : EOK E) (h : Cx K E cX2_addInOrder 5 RX2 1 23) {σ : ST} {post : Option Value → ST → Prop} (hR : Rx K E none post) (r i : Nat) (hr : r < 16) (hi : i < 14) (x : Nat) (hx : x < 64) (by1 : Bool) (sz : Nat) (hsz : sz < 64) : ∀ k g τ, τ = sR σ r (g, sz) → k ≤ sz → (∀ t, t < k → g t < 64) → post none (sR σ r (va_up (insL (fun y => gB (σ.1 i) x y by1) g k).1 (insL (fun y => gB (σ.1 i) x y by1) g k).2 x, sz + 1)) → GG K E τ 16 [(0, .ref (ad E 3 r 0)), (1, .int (nI x)), (2, .ref (ad E 1 i 0)), (3, .int (bI by1)), (4, .int (nI k))] [] := by
  intro k
  induction k with
  | zero =>
    intro g τ ht hk hg hp
    refine g_iload h (q := 4) 4 dX2_addInOrder_16 rfl ?_
    refine g_nif_le h (a := 0) 61 dX2_addInOrder_18 (by decide) (by omega) (fun c1 => ?_) (fun c1 => ?_)
    · refine g_aload_n h (q := 0) 0 dX2_addInOrder_61 rfl ?_
      refine g_get h 3 r 0 (ok_R hr) rfl rfl uin_X2 0 (by decide) fl_X2_9 rfl dX2_addInOrder_62 ?_
      refine g_iload h (q := 4) 4 dX2_addInOrder_65 rfl ?_
      refine g_iload_n h (q := 1) 1 dX2_addInOrder_67 rfl ?_
      refine g_astR h r hr (0) (by omega) (m := x) dX2_addInOrder_68 (fun σ2 hσ2 => ?_)
      refine g_aload_n h (q := 0) 0 dX2_addInOrder_69 rfl ?_
      refine g_dup h dX2_addInOrder_70 rfl ?_
      refine g_get h 3 r 0 (ok_R hr) rfl rfl uin_X2 1 (by decide) fl_X2_15 rfl dX2_addInOrder_71 ?_
      refine g_is (nI (sz)) (by simp [hσ2, ht, sR, up_s]) ?_
      refine g_iconst h (v := 1) dX2_addInOrder_74 (by decide) ?_
      refine g_iadd h dX2_addInOrder_75 ?_
      refine g_is (nI (sz + 1)) (nI_add sz 1) ?_
      refine g_putRs h r hr (m := sz + 1) fl_X2_15 dX2_addInOrder_76 (fun σ3 hσ3 => ?_)
      exact g_vret h hR dX2_addInOrder_79 (by simpa [hσ3, hσ2, ht, sR, up_s, bx_uu, insL] using hp)
    · exfalso; omega
  | succ k ih =>
    intro g τ ht hk hg hp
    refine g_iload h (q := 4) 4 dX2_addInOrder_16 rfl ?_
    refine g_nif_le h (a := k + 1) 61 dX2_addInOrder_18 (by decide) (by omega) (fun c1 => ?_) (fun c1 => ?_)
    · exfalso; omega
    · refine g_aload_n h (q := 2) 2 dX2_addInOrder_21 rfl ?_
      refine g_iload_n h (q := 1) 1 dX2_addInOrder_22 rfl ?_
      refine g_aload_n h (q := 0) 0 dX2_addInOrder_23 rfl ?_
      refine g_get h 3 r 0 (ok_R hr) rfl rfl uin_X2 0 (by decide) fl_X2_9 rfl dX2_addInOrder_24 ?_
      refine g_iload h (q := 4) 4 dX2_addInOrder_27 rfl ?_
      refine g_iconst h (v := 1) dX2_addInOrder_29 (by decide) ?_
      refine g_isub h dX2_addInOrder_30 ?_
      refine g_is (nI ((k + 1) - 1)) (pk_sub (a := (k + 1)) (b := 1) (by omega)) ?_
      refine g_aldR h r hr ((k + 1) - 1) (by omega) dX2_addInOrder_31 ?_
      refine g_is (nI (g k)) (by simp [ht, sR, up_s]) ?_
      refine g_iload_n h (q := 3) 3 dX2_addInOrder_32 rfl ?_
      refine g_callV h mv_X0_goesBefore 1 i 0 (ok_F hi) rfl rfl (As := [.int (nI (x)), .int (nI (g k)), .int (bI by1)]) (c_X0_goesBefore (kl K) hE (σ := τ) i hi x (g k) hx (hg k (by omega)) by1) ml_X2_25 rfl (by decide) (by decide) rfl (Nat.le_of_ble_eq_true rfl) dX2_addInOrder_33 (fun v σ9 h9 => ?_)
      rw [h9.1, h9.2]; clear h9
      have ef : τ.1 i = σ.1 i := by rw [ht]; rfl
      rw [ef]
      refine g_if_eq h 61 dX2_addInOrder_36 (by decide) (fun c2 => ?_) (fun c2 => ?_)
      · refine g_aload_n h (q := 0) 0 dX2_addInOrder_61 rfl ?_
        refine g_get h 3 r 0 (ok_R hr) rfl rfl uin_X2 0 (by decide) fl_X2_9 rfl dX2_addInOrder_62 ?_
        refine g_iload h (q := 4) 4 dX2_addInOrder_65 rfl ?_
        refine g_iload_n h (q := 1) 1 dX2_addInOrder_67 rfl ?_
        refine g_astR h r hr (k + 1) (by omega) (m := x) dX2_addInOrder_68 (fun σ3 hσ3 => ?_)
        refine g_aload_n h (q := 0) 0 dX2_addInOrder_69 rfl ?_
        refine g_dup h dX2_addInOrder_70 rfl ?_
        refine g_get h 3 r 0 (ok_R hr) rfl rfl uin_X2 1 (by decide) fl_X2_15 rfl dX2_addInOrder_71 ?_
        refine g_is (nI (sz)) (by simp [hσ3, ht, sR, up_s]) ?_
        refine g_iconst h (v := 1) dX2_addInOrder_74 (by decide) ?_
        refine g_iadd h dX2_addInOrder_75 ?_
        refine g_is (nI (sz + 1)) (nI_add sz 1) ?_
        refine g_putRs h r hr (m := sz + 1) fl_X2_15 dX2_addInOrder_76 (fun σ4 hσ4 => ?_)
        exact g_vret h hR dX2_addInOrder_79 (by simpa [hσ4, hσ3, ht, sR, up_s, bx_uu, insL, bI_0.mp c2] using hp)
      · refine g_aload_n h (q := 0) 0 dX2_addInOrder_39 rfl ?_
        refine g_get h 3 r 0 (ok_R hr) rfl rfl uin_X2 0 (by decide) fl_X2_9 rfl dX2_addInOrder_40 ?_
        refine g_iload h (q := 4) 4 dX2_addInOrder_43 rfl ?_
        refine g_aload_n h (q := 0) 0 dX2_addInOrder_45 rfl ?_
        refine g_get h 3 r 0 (ok_R hr) rfl rfl uin_X2 0 (by decide) fl_X2_9 rfl dX2_addInOrder_46 ?_
        refine g_iload h (q := 4) 4 dX2_addInOrder_49 rfl ?_
        refine g_iconst h (v := 1) dX2_addInOrder_51 (by decide) ?_
        refine g_isub h dX2_addInOrder_52 ?_
        refine g_is (nI ((k + 1) - 1)) (pk_sub (a := (k + 1)) (b := 1) (by omega)) ?_
        refine g_aldR h r hr ((k + 1) - 1) (by omega) dX2_addInOrder_53 ?_
        refine g_is (nI (g k)) (by simp [ht, sR, up_s]) ?_
        refine g_astR h r hr (k + 1) (by omega) (m := g k) dX2_addInOrder_54 (fun σ5 hσ5 => ?_)
        refine g_iinc h (q := 4) (v := nI (k)) 4 [(0, .ref (ad E 3 r 0)), (1, .int (nI (x))), (2, .ref (ad E 1 i 0)), (3, .int (bI by1)), (4, .int (nI (k)))] dX2_addInOrder_55 rfl (nI_dec (k + 1) 1 (by omega)) (by decide) rfl ?_
        refine g_goto h 16 dX2_addInOrder_58 (by decide) ?_
        exact ih (va_up g (k + 1) (g k)) σ5 (by rw [hσ5, ht]; simp only [sR, up_s, bx_uu]) (by omega) (fun t q => by rw [up_n (by omega)]; exact hg t (by omega)) (by simpa [insL, bI_1.mp c2] using hp)
set_option maxHeartbeats 4000000 in
theorem c_X2_addInOrder (l : Launch) {E : EnvT} (hE : EOK E) {σ : ST} (r i : Nat) (hr : r < 16) (hi : i < 14) (x : Nat) (hx : x < 64) (by1 : Bool) (hw : ROK 64 (σ.2.1 r)) : Con l E yX2_addInOrder cX2_addInOrder 5 none 1 23 [.ref (ad E 3 r 0), .int (nI (x)), .ref (ad E 1 i 0), .int (bI by1)] σ (rV (sR σ r (rIns (fun y => gB (σ.1 i) x y by1) (σ.2.1 r) x))) := by
  refine con_intro hE (by decide) (Nat.le_of_ble_eq_true rfl) (fun K hkl h hR => ?_)
  subst hkl
  have h : Cx K E cX2_addInOrder 5 RX2 1 23 := h
  show GG K E σ 0 [(0, .ref (ad E 3 r 0)), (1, .int (nI (x))), (2, .ref (ad E 1 i 0)), (3, .int (bI by1))] []
  have hw1 := hw.1
  refine g_aload_n h (q := 0) 0 dX2_addInOrder_0 rfl ?_
  refine g_get h 3 r 0 (ok_R hr) rfl rfl uin_X2 1 (by decide) fl_X2_15 rfl dX2_addInOrder_1 ?_
  refine g_bipush h (v := 64) dX2_addInOrder_4 (by decide) ?_
  refine g_ncmp_lt h (a := (σ.2.1 r).2) (b := 64) 10 dX2_addInOrder_6 (by decide) (by omega) (by omega) (fun c1 => ?_) (fun c1 => ?_)
  · refine g_aload_n h (q := 0) 0 dX2_addInOrder_10 rfl ?_
    refine g_get h 3 r 0 (ok_R hr) rfl rfl uin_X2 1 (by decide) fl_X2_15 rfl dX2_addInOrder_11 ?_
    refine g_istore h (q := 4) [(0, .ref (ad E 3 r 0)), (1, .int (nI (x))), (2, .ref (ad E 1 i 0)), (3, .int (bI by1)), (4, .int (nI ((σ.2.1 r).2)))] dX2_addInOrder_14 (by decide) rfl ?_
    exact l_X2_addInOrder (σ := σ) hE h hR r i hr hi x hx by1 (σ.2.1 r).2 c1 _ (σ.2.1 r).1 σ (by simp [sR, up_id]) (Nat.le_refl _) hw.2 ⟨rfl, by rw [rIns, if_pos c1]⟩
  · exact g_vret h hR dX2_addInOrder_9 (show rV _ _ _ from ⟨rfl, by rw [rIns, if_neg (by omega)]; simp [sR, up_id]⟩)
