/-- the row kept behind writes(p), k of its own letters' numbers written -/
def wrG (M : MT) (p k : Nat) : Nat → Int32 := fun t =>
  if t = 520 * p then M.1 0 else if t = 520 * p + 1 then M.1 1 else if t = 520 * p + 2 then M.1 2 else if t = 520 * p + 3 then M.1 3 else if t = 520 * p + 4 then nI (M.2.1 0) else if t = 520 * p + 5 then nI (M.2.1 1)
  else if 520 * p + 8 ≤ t ∧ t < 520 * p + 8 + k then M.2.2.1 0 (t - (520 * p + 8)) else M.2.2.1 1 t
theorem wrG_s (M : MT) (p k : Nat) : upd (wrG M p k) (520 * p + 8 + k) (M.2.2.1 0 k) = wrG M p (k + 1) := by
  funext t
  by_cases e : t = 520 * p + 8 + k
  · subst e
    have h1 : upd (wrG M p k) (520 * p + 8 + k) (M.2.2.1 0 k) (520 * p + 8 + k) = M.2.2.1 0 k := by simp [upd]
    rw [h1, wrG, if_neg (by omega), if_neg (by omega), if_neg (by omega), if_neg (by omega), if_neg (by omega), if_neg (by omega), if_pos ⟨by omega, by omega⟩, show 520 * p + 8 + k - (520 * p + 8) = k by omega]
  · have h1 : upd (wrG M p k) (520 * p + 8 + k) (M.2.2.1 0 k) t = wrG M p k t := by simp [upd, e]
    have e2 : (520 * p + 8 ≤ t ∧ t < 520 * p + 8 + (k + 1)) = (520 * p + 8 ≤ t ∧ t < 520 * p + 8 + k) := by apply propext; omega
    simp only [h1, wrG, e2]
theorem wrG_0 (M : MT) (p : Nat) : upd (upd (upd (upd (upd (upd (M.2.2.1 1) (520 * p) (M.1 0)) (520 * p + 1) (M.1 1)) (520 * p + 2) (M.1 2)) (520 * p + 3) (M.1 3)) (520 * p + 4) (nI (M.2.1 0))) (520 * p + 5) (nI (M.2.1 1)) = wrG M p 0 := by
  funext t
  simp only [upd, wrG]
  by_cases h0 : t = 520 * p
  · subst h0; simp
  · by_cases h1 : t = 520 * p + 1
    · subst h1; simp
    · by_cases h2 : t = 520 * p + 2
      · subst h2; simp
      · by_cases h3 : t = 520 * p + 3
        · subst h3; simp
        · by_cases h4 : t = 520 * p + 4
          · subst h4; simp
          · by_cases h5 : t = 520 * p + 5
            · subst h5; simp
            · rw [if_neg h5, if_neg h4, if_neg h3, if_neg h2, if_neg h1, if_neg h0, if_neg h0, if_neg h1, if_neg h2, if_neg h3, if_neg h4, if_neg h5, if_neg (by omega)]
/-- the row kept is g -/
def mKp (M : MT) (g : Nat → Int32) : MT := (M.1, M.2.1, va_up M.2.2.1 1 g, M.2.2.2)
theorem mKp_mKp (M : MT) (g f : Nat → Int32) : mKp (mKp M g) f = mKp M f := by simp [mKp, bx_uu]
theorem mKp_1 (M : MT) (g : Nat → Int32) : (mKp M g).2.2.1 1 = g := by simp [mKp, up_s]
theorem mKp_0 (M : MT) (g : Nat → Int32) : (mKp M g).2.2.1 0 = M.2.2.1 0 := by simp [mKp, va_up]
def mWr (M : MT) (p : Nat) : MT := mKp M (wrG M p 512)
set_option maxHeartbeats 4000000 in
theorem l_X6_writes {K : KX} {E : EnvT} (hE : EOK E) (h : Cx K E cX6_writes 4 RX6 0 0) {σ : ST} {post : Option Value → ST → Prop} (hR : Rx K E none post) (M : MT) (p : Nat) (hp13 : p < 13) : ∀ m k, k + m = 512 → post none (sM σ (mWr M p)) → GG K E (sM σ (mKp M (wrG M p k))) 78 [(0, .ref (ad E 11 0 0)), (1, .int (nI p)), (2, .int (nI (520 * p))), (3, .int (nI k))] [] := by
  intro m
  induction m with
  | zero =>
    intro k hk hp
    have h5 : k = 512 := by omega
    subst h5
    refine g_iload_n h (q := 3) 3 dX6_writes_78 rfl ?_
    refine g_sipush h (v := 512) dX6_writes_79 (by decide) ?_
    refine g_ncmp_ge h (a := 512) (b := 512) 108 dX6_writes_82 (by decide) (by omega) (by omega) (fun c1 => ?_) (fun c1 => ?_)
    · exact g_vret h hR dX6_writes_108 (hp)
    · exfalso; omega
  | succ m ih =>
    intro k hk hp
    refine g_iload_n h (q := 3) 3 dX6_writes_78 rfl ?_
    refine g_sipush h (v := 512) dX6_writes_79 (by decide) ?_
    refine g_ncmp_ge h (a := k) (b := 512) 108 dX6_writes_82 (by decide) (by omega) (by omega) (fun c1 => ?_) (fun c1 => ?_)
    · exfalso; omega
    · refine g_aload_n h (q := 0) 0 dX6_writes_85 rfl ?_
      refine g_gMa h 1 (by decide) fl_X6_23 dX6_writes_86 ?_
      refine g_iload_n h (q := 2) 2 dX6_writes_89 rfl ?_
      refine g_bipush h (v := 8) dX6_writes_90 (by decide) ?_
      refine g_iadd h dX6_writes_92 ?_
      refine g_is (nI ((520 * p) + 8)) (nI_add (520 * p) 8) ?_
      refine g_iload_n h (q := 3) 3 dX6_writes_93 rfl ?_
      refine g_iadd h dX6_writes_94 ?_
      refine g_is (nI (((520 * p) + 8) + k)) (nI_add ((520 * p) + 8) k) ?_
      refine g_aload_n h (q := 0) 0 dX6_writes_95 rfl ?_
      refine g_gMa h 0 (by decide) fl_X6_19 dX6_writes_96 ?_
      refine g_iload_n h (q := 3) 3 dX6_writes_99 rfl ?_
      refine g_lM h 0 (by decide) (k) (show k < 512 by omega) dX6_writes_100 ?_
      refine g_is (M.2.2.1 0 k) (by rw [mKp_0]) ?_
      refine g_sA h 1 (by decide) (((520 * p) + 8) + k) (show ((520 * p) + 8) + k < 6760 by omega) dX6_writes_101 (fun M2 hM2 => ?_)
      refine g_iinc h (q := 3) (v := nI (k + 1)) 3 [(0, .ref (ad E 11 0 0)), (1, .int (nI (p))), (2, .int (nI (520 * p))), (3, .int (nI (k + 1)))] dX6_writes_102 rfl (nI_inc k 1) (by decide) rfl ?_
      refine g_goto h 78 dX6_writes_105 (by decide) ?_
      rw [show M2 = mKp M (wrG M p (k + 1)) by rw [hM2, ← wrG_s]; simp [mKp, bx_uu, up_s]]
      exact ih (k + 1) (by omega) hp
set_option maxHeartbeats 4000000 in
theorem c_X6_writes (l : Launch) {E : EnvT} (hE : EOK E) {σ : ST} {M : MT} (p : Nat) (hp13 : p < 13) : Con l E yX6_writes cX6_writes 4 none 0 0 [.ref (ad E 11 0 0), .int (nI (p))] (sM σ M) (rV (sM σ (mWr M p))) := by
  refine con_intro hE (by decide) (Nat.le_of_ble_eq_true rfl) (fun K hkl h hR => ?_)
  subst hkl
  have h : Cx K E cX6_writes 4 RX6 0 0 := h
  show GG K E (sM σ M) 0 [(0, .ref (ad E 11 0 0)), (1, .int (nI (p)))] []
  refine g_sipush h (v := 520) dX6_writes_0 (by decide) ?_
  refine g_iload_n h (q := 1) 1 dX6_writes_3 rfl ?_
  refine g_imul h dX6_writes_4 ?_
  refine g_is (nI (520 * p)) (pk_mul 520 p) ?_
  refine g_istore_n h (q := 2) [(0, .ref (ad E 11 0 0)), (1, .int (nI (p))), (2, .int (nI (520 * p)))] dX6_writes_5 (by decide) rfl ?_
  refine g_aload_n h (q := 0) 0 dX6_writes_6 rfl ?_
  refine g_gMa h 1 (by decide) fl_X6_23 dX6_writes_7 ?_
  refine g_iload_n h (q := 2) 2 dX6_writes_10 rfl ?_
  refine g_aload_n h (q := 0) 0 dX6_writes_11 rfl ?_
  refine g_gMc h 0 (by decide) fl_X6_7 dX6_writes_12 ?_
  refine g_is (M.1 0) (rfl) ?_
  refine g_sA h 1 (by decide) (520 * p) (show 520 * p < 6760 by omega) dX6_writes_15 (fun M1 hM1 => ?_)
  have hM1 : M1 = mKp M (upd (M.2.2.1 1) (520 * p) (M.1 0)) := hM1
  refine g_aload_n h (q := 0) 0 dX6_writes_16 rfl ?_
  refine g_gMa h 1 (by decide) fl_X6_23 dX6_writes_17 ?_
  refine g_iload_n h (q := 2) 2 dX6_writes_20 rfl ?_
  refine g_iconst h (v := 1) dX6_writes_21 (by decide) ?_
  refine g_iadd h dX6_writes_22 ?_
  refine g_is (nI ((520 * p) + 1)) (nI_add (520 * p) 1) ?_
  refine g_aload_n h (q := 0) 0 dX6_writes_23 rfl ?_
  refine g_gMc h 1 (by decide) fl_X6_13 dX6_writes_24 ?_
  refine g_is (M.1 1) (by rw [hM1]; rfl) ?_
  refine g_sA h 1 (by decide) ((520 * p) + 1) (show (520 * p) + 1 < 6760 by omega) dX6_writes_27 (fun M2 hM2 => ?_)
  have hM2 : M2 = mKp M (upd (upd (M.2.2.1 1) (520 * p) (M.1 0)) (520 * p + 1) (M.1 1)) := by rw [hM2, hM1]; simp [mKp, bx_uu, up_s]
  refine g_aload_n h (q := 0) 0 dX6_writes_28 rfl ?_
  refine g_gMa h 1 (by decide) fl_X6_23 dX6_writes_29 ?_
  refine g_iload_n h (q := 2) 2 dX6_writes_32 rfl ?_
  refine g_iconst h (v := 2) dX6_writes_33 (by decide) ?_
  refine g_iadd h dX6_writes_34 ?_
  refine g_is (nI ((520 * p) + 2)) (nI_add (520 * p) 2) ?_
  refine g_aload_n h (q := 0) 0 dX6_writes_35 rfl ?_
  refine g_gMc h 2 (by decide) fl_X6_16 dX6_writes_36 ?_
  refine g_is (M.1 2) (by rw [hM2]; rfl) ?_
  refine g_sA h 1 (by decide) ((520 * p) + 2) (show (520 * p) + 2 < 6760 by omega) dX6_writes_39 (fun M3 hM3 => ?_)
  have hM3 : M3 = mKp M (upd (upd (upd (M.2.2.1 1) (520 * p) (M.1 0)) (520 * p + 1) (M.1 1)) (520 * p + 2) (M.1 2)) := by rw [hM3, hM2]; simp [mKp, bx_uu, up_s]
  refine g_aload_n h (q := 0) 0 dX6_writes_40 rfl ?_
  refine g_gMa h 1 (by decide) fl_X6_23 dX6_writes_41 ?_
  refine g_iload_n h (q := 2) 2 dX6_writes_44 rfl ?_
  refine g_iconst h (v := 3) dX6_writes_45 (by decide) ?_
  refine g_iadd h dX6_writes_46 ?_
  refine g_is (nI ((520 * p) + 3)) (nI_add (520 * p) 3) ?_
  refine g_aload_n h (q := 0) 0 dX6_writes_47 rfl ?_
  refine g_gMc h 3 (by decide) fl_X6_47 dX6_writes_48 ?_
  refine g_is (M.1 3) (by rw [hM3]; rfl) ?_
  refine g_sA h 1 (by decide) ((520 * p) + 3) (show (520 * p) + 3 < 6760 by omega) dX6_writes_51 (fun M4 hM4 => ?_)
  have hM4 : M4 = mKp M (upd (upd (upd (upd (M.2.2.1 1) (520 * p) (M.1 0)) (520 * p + 1) (M.1 1)) (520 * p + 2) (M.1 2)) (520 * p + 3) (M.1 3)) := by rw [hM4, hM3]; simp [mKp, bx_uu, up_s]
  refine g_aload_n h (q := 0) 0 dX6_writes_52 rfl ?_
  refine g_gMa h 1 (by decide) fl_X6_23 dX6_writes_53 ?_
  refine g_iload_n h (q := 2) 2 dX6_writes_56 rfl ?_
  refine g_iconst h (v := 4) dX6_writes_57 (by decide) ?_
  refine g_iadd h dX6_writes_58 ?_
  refine g_is (nI ((520 * p) + 4)) (nI_add (520 * p) 4) ?_
  refine g_aload_n h (q := 0) 0 dX6_writes_59 rfl ?_
  refine g_gMn h 0 (by decide) fl_X6_50 dX6_writes_60 ?_
  refine g_is (nI (M.2.1 0)) (by rw [hM4]; rfl) ?_
  refine g_sA h 1 (by decide) ((520 * p) + 4) (show (520 * p) + 4 < 6760 by omega) dX6_writes_63 (fun M5 hM5 => ?_)
  have hM5 : M5 = mKp M (upd (upd (upd (upd (upd (M.2.2.1 1) (520 * p) (M.1 0)) (520 * p + 1) (M.1 1)) (520 * p + 2) (M.1 2)) (520 * p + 3) (M.1 3)) (520 * p + 4) (nI (M.2.1 0))) := by rw [hM5, hM4]; simp [mKp, bx_uu, up_s]
  refine g_aload_n h (q := 0) 0 dX6_writes_64 rfl ?_
  refine g_gMa h 1 (by decide) fl_X6_23 dX6_writes_65 ?_
  refine g_iload_n h (q := 2) 2 dX6_writes_68 rfl ?_
  refine g_iconst h (v := 5) dX6_writes_69 (by decide) ?_
  refine g_iadd h dX6_writes_70 ?_
  refine g_is (nI ((520 * p) + 5)) (nI_add (520 * p) 5) ?_
  refine g_aload_n h (q := 0) 0 dX6_writes_71 rfl ?_
  refine g_gMn h 1 (by decide) fl_X6_53 dX6_writes_72 ?_
  refine g_is (nI (M.2.1 1)) (by rw [hM5]; rfl) ?_
  refine g_sA h 1 (by decide) ((520 * p) + 5) (show (520 * p) + 5 < 6760 by omega) dX6_writes_75 (fun M6 hM6 => ?_)
  have hM6 : M6 = mKp M (upd (upd (upd (upd (upd (upd (M.2.2.1 1) (520 * p) (M.1 0)) (520 * p + 1) (M.1 1)) (520 * p + 2) (M.1 2)) (520 * p + 3) (M.1 3)) (520 * p + 4) (nI (M.2.1 0))) (520 * p + 5) (nI (M.2.1 1))) := by rw [hM6, hM5]; simp [mKp, bx_uu, up_s]
  refine g_iconst h (v := 0) dX6_writes_76 (by decide) ?_
  refine g_istore_n h (q := 3) [(0, .ref (ad E 11 0 0)), (1, .int (nI (p))), (2, .int (nI (520 * p))), (3, .int 0)] dX6_writes_77 (by decide) rfl ?_
  rw [hM6, wrG_0]
  exact l_X6_writes hE h hR M p hp13 512 0 rfl ⟨rfl, rfl⟩
def cbI (M : MT) (p k : Nat) : Nat → Int32 := fun t => if t < k then M.2.2.1 1 (520 * p + 8 + t) else M.2.2.1 0 t
theorem cbI_s (M : MT) (p k : Nat) : upd (cbI M p k) k (M.2.2.1 1 (520 * p + 8 + k)) = cbI M p (k + 1) := by
  funext t
  by_cases e : t = k
  · subst e; simp [cbI, upd]
  · have e2 : (t < k + 1) = (t < k) := by apply propext; omega
    simp [cbI, upd, e, e2]
def cbC (M : MT) (p : Nat) : Nat → Int32 := va_up (va_up (va_up (va_up M.1 0 (M.2.2.1 1 (520 * p))) 1 (M.2.2.1 1 (520 * p + 1))) 2 (M.2.2.1 1 (520 * p + 2))) 3 (M.2.2.1 1 (520 * p + 3))
def mCb (M : MT) (p a b k : Nat) : MT := (cbC M p, va_up (va_up M.2.1 0 a) 1 b, va_up M.2.2.1 0 (cbI M p k), M.2.2.2)
set_option maxHeartbeats 4000000 in
theorem l_X6_comesBack {K : KX} {E : EnvT} (hE : EOK E) (h : Cx K E cX6_comesBack 4 RX6 0 0) {σ : ST} {post : Option Value → ST → Prop} (hR : Rx K E none post) (M : MT) (p a b : Nat) (hp13 : p < 13) : ∀ m k, k + m = 512 → post none (sM σ (mCb M p a b 512)) → GG K E (sM σ (mCb M p a b k)) 78 [(0, .ref (ad E 11 0 0)), (1, .int (nI p)), (2, .int (nI (520 * p))), (3, .int (nI k))] [] := by
  intro m
  induction m with
  | zero =>
    intro k hk hp
    have h5 : k = 512 := by omega
    subst h5
    refine g_iload_n h (q := 3) 3 dX6_comesBack_78 rfl ?_
    refine g_sipush h (v := 512) dX6_comesBack_79 (by decide) ?_
    refine g_ncmp_ge h (a := 512) (b := 512) 108 dX6_comesBack_82 (by decide) (by omega) (by omega) (fun c1 => ?_) (fun c1 => ?_)
    · exact g_vret h hR dX6_comesBack_108 (hp)
    · exfalso; omega
  | succ m ih =>
    intro k hk hp
    refine g_iload_n h (q := 3) 3 dX6_comesBack_78 rfl ?_
    refine g_sipush h (v := 512) dX6_comesBack_79 (by decide) ?_
    refine g_ncmp_ge h (a := k) (b := 512) 108 dX6_comesBack_82 (by decide) (by omega) (by omega) (fun c1 => ?_) (fun c1 => ?_)
    · exfalso; omega
    · refine g_aload_n h (q := 0) 0 dX6_comesBack_85 rfl ?_
      refine g_gMa h 0 (by decide) fl_X6_19 dX6_comesBack_86 ?_
      refine g_iload_n h (q := 3) 3 dX6_comesBack_89 rfl ?_
      refine g_aload_n h (q := 0) 0 dX6_comesBack_90 rfl ?_
      refine g_gMa h 1 (by decide) fl_X6_23 dX6_comesBack_91 ?_
      refine g_iload_n h (q := 2) 2 dX6_comesBack_94 rfl ?_
      refine g_bipush h (v := 8) dX6_comesBack_95 (by decide) ?_
      refine g_iadd h dX6_comesBack_97 ?_
      refine g_is (nI ((520 * p) + 8)) (nI_add (520 * p) 8) ?_
      refine g_iload_n h (q := 3) 3 dX6_comesBack_98 rfl ?_
      refine g_iadd h dX6_comesBack_99 ?_
      refine g_is (nI (((520 * p) + 8) + k)) (nI_add ((520 * p) + 8) k) ?_
      refine g_lM h 1 (by decide) (((520 * p) + 8) + k) (show ((520 * p) + 8) + k < 6760 by omega) dX6_comesBack_100 ?_
      refine g_is (M.2.2.1 1 (520 * p + 8 + k)) (by simp [mCb, va_up]) ?_
      refine g_sA h 0 (by decide) (k) (show k < 512 by omega) dX6_comesBack_101 (fun M2 hM2 => ?_)
      refine g_iinc h (q := 3) (v := nI (k + 1)) 3 [(0, .ref (ad E 11 0 0)), (1, .int (nI (p))), (2, .int (nI (520 * p))), (3, .int (nI (k + 1)))] dX6_comesBack_102 rfl (nI_inc k 1) (by decide) rfl ?_
      refine g_goto h 78 dX6_comesBack_105 (by decide) ?_
      rw [show M2 = mCb M p a b (k + 1) by rw [hM2, mCb, mCb, ← cbI_s]; simp [bx_uu, up_s]]
      exact ih (k + 1) (by omega) hp
set_option maxHeartbeats 4000000 in
theorem c_X6_comesBack (l : Launch) {E : EnvT} (hE : EOK E) {σ : ST} {M : MT} (p a b : Nat) (hp13 : p < 13) (ha : M.2.2.1 1 (520 * p + 4) = nI a) (hb : M.2.2.1 1 (520 * p + 5) = nI b) : Con l E yX6_comesBack cX6_comesBack 4 none 0 0 [.ref (ad E 11 0 0), .int (nI (p))] (sM σ M) (rV (sM σ (mCb M p a b 512))) := by
  refine con_intro hE (by decide) (Nat.le_of_ble_eq_true rfl) (fun K hkl h hR => ?_)
  subst hkl
  have h : Cx K E cX6_comesBack 4 RX6 0 0 := h
  show GG K E (sM σ M) 0 [(0, .ref (ad E 11 0 0)), (1, .int (nI (p)))] []
  refine g_sipush h (v := 520) dX6_comesBack_0 (by decide) ?_
  refine g_iload_n h (q := 1) 1 dX6_comesBack_3 rfl ?_
  refine g_imul h dX6_comesBack_4 ?_
  refine g_is (nI (520 * p)) (pk_mul 520 p) ?_
  refine g_istore_n h (q := 2) [(0, .ref (ad E 11 0 0)), (1, .int (nI (p))), (2, .int (nI (520 * p)))] dX6_comesBack_5 (by decide) rfl ?_
  refine g_aload_n h (q := 0) 0 dX6_comesBack_6 rfl ?_
  refine g_aload_n h (q := 0) 0 dX6_comesBack_7 rfl ?_
  refine g_gMa h 1 (by decide) fl_X6_23 dX6_comesBack_8 ?_
  refine g_iload_n h (q := 2) 2 dX6_comesBack_11 rfl ?_
  refine g_lM h 1 (by decide) (520 * p) (show 520 * p < 6760 by omega) dX6_comesBack_12 ?_
  refine g_is (M.2.2.1 1 (520 * p)) (rfl) ?_
  refine g_pMc h 0 (by decide) fl_X6_7 dX6_comesBack_13 (fun M1 hM1 => ?_)
  have hM1 : M1 = (va_up (M.1) 0 (M.2.2.1 1 (520 * p)), M.2.1, M.2.2) := hM1
  refine g_aload_n h (q := 0) 0 dX6_comesBack_16 rfl ?_
  refine g_aload_n h (q := 0) 0 dX6_comesBack_17 rfl ?_
  refine g_gMa h 1 (by decide) fl_X6_23 dX6_comesBack_18 ?_
  refine g_iload_n h (q := 2) 2 dX6_comesBack_21 rfl ?_
  refine g_iconst h (v := 1) dX6_comesBack_22 (by decide) ?_
  refine g_iadd h dX6_comesBack_23 ?_
  refine g_is (nI ((520 * p) + 1)) (nI_add (520 * p) 1) ?_
  refine g_lM h 1 (by decide) ((520 * p) + 1) (show (520 * p) + 1 < 6760 by omega) dX6_comesBack_24 ?_
  refine g_is (M.2.2.1 1 (520 * p + 1)) (by rw [hM1]) ?_
  refine g_pMc h 1 (by decide) fl_X6_13 dX6_comesBack_25 (fun M2 hM2 => ?_)
  have hM2 : M2 = (va_up (va_up (M.1) 0 (M.2.2.1 1 (520 * p))) 1 (M.2.2.1 1 (520 * p + 1)), M.2.1, M.2.2) := by rw [hM2, hM1]
  refine g_aload_n h (q := 0) 0 dX6_comesBack_28 rfl ?_
  refine g_aload_n h (q := 0) 0 dX6_comesBack_29 rfl ?_
  refine g_gMa h 1 (by decide) fl_X6_23 dX6_comesBack_30 ?_
  refine g_iload_n h (q := 2) 2 dX6_comesBack_33 rfl ?_
  refine g_iconst h (v := 2) dX6_comesBack_34 (by decide) ?_
  refine g_iadd h dX6_comesBack_35 ?_
  refine g_is (nI ((520 * p) + 2)) (nI_add (520 * p) 2) ?_
  refine g_lM h 1 (by decide) ((520 * p) + 2) (show (520 * p) + 2 < 6760 by omega) dX6_comesBack_36 ?_
  refine g_is (M.2.2.1 1 (520 * p + 2)) (by rw [hM2]) ?_
  refine g_pMc h 2 (by decide) fl_X6_16 dX6_comesBack_37 (fun M3 hM3 => ?_)
  have hM3 : M3 = (va_up (va_up (va_up (M.1) 0 (M.2.2.1 1 (520 * p))) 1 (M.2.2.1 1 (520 * p + 1))) 2 (M.2.2.1 1 (520 * p + 2)), M.2.1, M.2.2) := by rw [hM3, hM2]
  refine g_aload_n h (q := 0) 0 dX6_comesBack_40 rfl ?_
  refine g_aload_n h (q := 0) 0 dX6_comesBack_41 rfl ?_
  refine g_gMa h 1 (by decide) fl_X6_23 dX6_comesBack_42 ?_
  refine g_iload_n h (q := 2) 2 dX6_comesBack_45 rfl ?_
  refine g_iconst h (v := 3) dX6_comesBack_46 (by decide) ?_
  refine g_iadd h dX6_comesBack_47 ?_
  refine g_is (nI ((520 * p) + 3)) (nI_add (520 * p) 3) ?_
  refine g_lM h 1 (by decide) ((520 * p) + 3) (show (520 * p) + 3 < 6760 by omega) dX6_comesBack_48 ?_
  refine g_is (M.2.2.1 1 (520 * p + 3)) (by rw [hM3]) ?_
  refine g_pMc h 3 (by decide) fl_X6_47 dX6_comesBack_49 (fun M4 hM4 => ?_)
  have hM4 : M4 = (va_up (va_up (va_up (va_up (M.1) 0 (M.2.2.1 1 (520 * p))) 1 (M.2.2.1 1 (520 * p + 1))) 2 (M.2.2.1 1 (520 * p + 2))) 3 (M.2.2.1 1 (520 * p + 3)), M.2.1, M.2.2) := by rw [hM4, hM3]
  refine g_aload_n h (q := 0) 0 dX6_comesBack_52 rfl ?_
  refine g_aload_n h (q := 0) 0 dX6_comesBack_53 rfl ?_
  refine g_gMa h 1 (by decide) fl_X6_23 dX6_comesBack_54 ?_
  refine g_iload_n h (q := 2) 2 dX6_comesBack_57 rfl ?_
  refine g_iconst h (v := 4) dX6_comesBack_58 (by decide) ?_
  refine g_iadd h dX6_comesBack_59 ?_
  refine g_is (nI ((520 * p) + 4)) (nI_add (520 * p) 4) ?_
  refine g_lM h 1 (by decide) ((520 * p) + 4) (show (520 * p) + 4 < 6760 by omega) dX6_comesBack_60 ?_
  refine g_is (nI (a)) (by rw [hM4]; exact ha) ?_
  refine g_pMn h 0 (by decide) (m := a) fl_X6_50 dX6_comesBack_61 (fun M5 hM5 => ?_)
  have hM5 : M5 = (va_up (va_up (va_up (va_up (M.1) 0 (M.2.2.1 1 (520 * p))) 1 (M.2.2.1 1 (520 * p + 1))) 2 (M.2.2.1 1 (520 * p + 2))) 3 (M.2.2.1 1 (520 * p + 3)), va_up (M.2.1) 0 a, M.2.2) := by rw [hM5, hM4]
  refine g_aload_n h (q := 0) 0 dX6_comesBack_64 rfl ?_
  refine g_aload_n h (q := 0) 0 dX6_comesBack_65 rfl ?_
  refine g_gMa h 1 (by decide) fl_X6_23 dX6_comesBack_66 ?_
  refine g_iload_n h (q := 2) 2 dX6_comesBack_69 rfl ?_
  refine g_iconst h (v := 5) dX6_comesBack_70 (by decide) ?_
  refine g_iadd h dX6_comesBack_71 ?_
  refine g_is (nI ((520 * p) + 5)) (nI_add (520 * p) 5) ?_
  refine g_lM h 1 (by decide) ((520 * p) + 5) (show (520 * p) + 5 < 6760 by omega) dX6_comesBack_72 ?_
  refine g_is (nI (b)) (by rw [hM5]; exact hb) ?_
  refine g_pMn h 1 (by decide) (m := b) fl_X6_53 dX6_comesBack_73 (fun M6 hM6 => ?_)
  have hM6 : M6 = (va_up (va_up (va_up (va_up (M.1) 0 (M.2.2.1 1 (520 * p))) 1 (M.2.2.1 1 (520 * p + 1))) 2 (M.2.2.1 1 (520 * p + 2))) 3 (M.2.2.1 1 (520 * p + 3)), va_up (va_up (M.2.1) 0 a) 1 b, M.2.2) := by rw [hM6, hM5]
  refine g_iconst h (v := 0) dX6_comesBack_76 (by decide) ?_
  refine g_istore_n h (q := 3) [(0, .ref (ad E 11 0 0)), (1, .int (nI (p))), (2, .int (nI (520 * p))), (3, .int 0)] dX6_comesBack_77 (by decide) rfl ?_
  rw [show M6 = mCb M p a b 0 by rw [hM6, mCb, show cbI M p 0 = M.2.2.1 0 by funext t; simp [cbI], up_id]; rfl]
  exact l_X6_comesBack hE h hR M p a b hp13 512 0 rfl ⟨rfl, rfl⟩
def shG (M : MT) (k : Nat) : Nat → Int32 := fun t => if t < k then M.2.2.1 1 (t + 520) else M.2.2.1 1 t
theorem shG_s (M : MT) (k : Nat) : upd (shG M k) k (M.2.2.1 1 (k + 520)) = shG M (k + 1) := by
  funext t
  by_cases e : t = k
  · subst e; simp [shG, upd]
  · have e2 : (t < k + 1) = (t < k) := by apply propext; omega
    simp [shG, upd, e, e2]
def mDn (M : MT) (d : Nat) : MT := (M.1, va_up M.2.1 2 d, M.2.2)
def mSh (M : MT) : MT := if M.2.1 2 = 10 then mDn (mKp M (shG M 4680)) 9 else M
def mNt (M : MT) : MT := mDn (mWr (mSh M) ((mSh M).2.1 2)) ((mSh M).2.1 2 + 1)
theorem mSh_d {M : MT} (h : M.2.1 2 ≤ 10) : (mSh M).2.1 2 ≤ 9 := by
  unfold mSh
  by_cases e : M.2.1 2 = 10
  · rw [if_pos e]; simp [mDn, va_up]
  · rw [if_neg e]; omega
set_option maxHeartbeats 4000000 in
theorem l_X6_notes {K : KX} {E : EnvT} (hE : EOK E) (h : Cx K E cX6_notes 2 RX6 1 23) {σ : ST} (M : MT) (hp : GG K E (sM σ (mKp M (shG M 4680))) 40 [(0, .ref (ad E 11 0 0))] []) : ∀ m k, k + m = 4680 → GG K E (sM σ (mKp M (shG M k))) 11 [(0, .ref (ad E 11 0 0)), (1, .int (nI k))] [] := by
  intro m
  induction m with
  | zero =>
    intro k hk
    have h5 : k = 4680 := by omega
    subst h5
    refine g_iload_n h (q := 1) 1 dX6_notes_11 rfl ?_
    refine g_sipush h (v := 4680) dX6_notes_12 (by decide) ?_
    refine g_ncmp_ge h (a := 4680) (b := 4680) 40 dX6_notes_15 (by decide) (by omega) (by omega) (fun c1 => ?_) (fun c1 => ?_)
    · refine g_sub [(0, .ref (ad E 11 0 0))] [0] rfl ?_
      exact hp
    · exfalso; omega
  | succ m ih =>
    intro k hk
    refine g_iload_n h (q := 1) 1 dX6_notes_11 rfl ?_
    refine g_sipush h (v := 4680) dX6_notes_12 (by decide) ?_
    refine g_ncmp_ge h (a := k) (b := 4680) 40 dX6_notes_15 (by decide) (by omega) (by omega) (fun c1 => ?_) (fun c1 => ?_)
    · exfalso; omega
    · refine g_aload_n h (q := 0) 0 dX6_notes_18 rfl ?_
      refine g_gMa h 1 (by decide) fl_X6_23 dX6_notes_19 ?_
      refine g_iload_n h (q := 1) 1 dX6_notes_22 rfl ?_
      refine g_aload_n h (q := 0) 0 dX6_notes_23 rfl ?_
      refine g_gMa h 1 (by decide) fl_X6_23 dX6_notes_24 ?_
      refine g_iload_n h (q := 1) 1 dX6_notes_27 rfl ?_
      refine g_sipush h (v := 520) dX6_notes_28 (by decide) ?_
      refine g_iadd h dX6_notes_31 ?_
      refine g_is (nI (k + 520)) (nI_add k 520) ?_
      refine g_lM h 1 (by decide) (k + 520) (show k + 520 < 6760 by omega) dX6_notes_32 ?_
      refine g_is (M.2.2.1 1 (k + 520)) (by rw [mKp_1, shG, if_neg (by omega)]) ?_
      refine g_sA h 1 (by decide) (k) (show k < 6760 by omega) dX6_notes_33 (fun M2 hM2 => ?_)
      refine g_iinc h (q := 1) (v := nI (k + 1)) 1 [(0, .ref (ad E 11 0 0)), (1, .int (nI (k + 1)))] dX6_notes_34 rfl (nI_inc k 1) (by decide) rfl ?_
      refine g_goto h 11 dX6_notes_37 (by decide) ?_
      rw [show M2 = mKp M (shG M (k + 1)) by rw [hM2, ← shG_s]; simp [mKp, bx_uu, up_s]]
      exact ih (k + 1) (by omega)
set_option maxHeartbeats 4000000 in
theorem c_X6_notes (l : Launch) {E : EnvT} (hE : EOK E) {σ : ST} {M : MT} (hd : M.2.1 2 ≤ 10) : Con l E yX6_notes cX6_notes 2 none 1 23 [.ref (ad E 11 0 0)] (sM σ M) (rV (sM σ (mNt M))) := by
  refine con_intro hE (by decide) (Nat.le_of_ble_eq_true rfl) (fun K hkl h hR => ?_)
  subst hkl
  have h : Cx K E cX6_notes 2 RX6 1 23 := h
  show GG K E (sM σ M) 0 [(0, .ref (ad E 11 0 0))] []
  have hd9 := mSh_d hd
  have tail : GG K E (sM σ (mSh M)) 50 [(0, .ref (ad E 11 0 0))] [] := by
    refine g_aload_n h (q := 0) 0 dX6_notes_50 rfl ?_
    refine g_aload_n h (q := 0) 0 dX6_notes_51 rfl ?_
    refine g_gMn h 2 (by decide) fl_X6_56 dX6_notes_52 ?_
    refine g_callV h mv_X6_writes 11 0 0 ⟨rfl, rfl⟩ rfl rfl (As := [.int (nI ((mSh M).2.1 2))]) (c_X6_writes (kl K) hE (σ := σ) (M := (mSh M)) ((mSh M).2.1 2) (by omega)) ml_X6_59 rfl (by decide) (by decide) rfl (Nat.le_of_ble_eq_true rfl) dX6_notes_55 (fun v σ9 h9 => ?_)
    rw [h9.1, h9.2]; clear h9
    obtain ⟨Ma, hMa⟩ : ∃ X, X = mWr (mSh M) ((mSh M).2.1 2) := ⟨_, rfl⟩
    rw [← hMa]
    refine g_aload_n h (q := 0) 0 dX6_notes_58 rfl ?_
    refine g_dup h dX6_notes_59 rfl ?_
    refine g_gMn h 2 (by decide) fl_X6_56 dX6_notes_60 ?_
    refine g_is (nI ((mSh M).2.1 2)) (by rw [hMa]; rfl) ?_
    refine g_iconst h (v := 1) dX6_notes_63 (by decide) ?_
    refine g_iadd h dX6_notes_64 ?_
    refine g_is (nI (((mSh M).2.1 2) + 1)) (nI_add ((mSh M).2.1 2) 1) ?_
    refine g_pMn h 2 (by decide) (m := ((mSh M).2.1 2) + 1) fl_X6_56 dX6_notes_65 (fun M1 hM1 => ?_)
    exact g_vret h hR dX6_notes_68 (show rV _ _ _ from ⟨rfl, by rw [hM1, hMa]; rfl⟩)
  refine g_aload_n h (q := 0) 0 dX6_notes_0 rfl ?_
  refine g_gMn h 2 (by decide) fl_X6_56 dX6_notes_1 ?_
  refine g_bipush h (v := 10) dX6_notes_4 (by decide) ?_
  refine g_ncmp_ne h (a := M.2.1 2) (b := 10) 50 dX6_notes_6 (by decide) (by omega) (by omega) (fun c1 => ?_) (fun c1 => ?_)
  · rw [show mSh M = M by rw [mSh, if_neg c1]] at tail
    exact tail
  · refine g_iconst h (v := 0) dX6_notes_9 (by decide) ?_
    refine g_istore_n h (q := 1) [(0, .ref (ad E 11 0 0)), (1, .int 0)] dX6_notes_10 (by decide) rfl ?_
    have e0 : M = mKp M (shG M 0) := by rw [show shG M 0 = M.2.2.1 1 by funext t; simp [shG]]; simp [mKp, up_id]
    rw [show GG K E (sM σ M) = GG K E (sM σ (mKp M (shG M 0))) from congrArg (fun X => GG K E (sM σ X)) e0]
    refine l_X6_notes hE h M ?_ 4680 0 rfl
    refine g_aload_n h (q := 0) 0 dX6_notes_40 rfl ?_
    refine g_dup h dX6_notes_41 rfl ?_
    refine g_gMn h 2 (by decide) fl_X6_56 dX6_notes_42 ?_
    refine g_is (nI (10)) (by rw [← c1]; rfl) ?_
    refine g_iconst h (v := 1) dX6_notes_45 (by decide) ?_
    refine g_isub h dX6_notes_46 ?_
    refine g_is (nI (10 - 1)) (pk_sub (a := 10) (b := 1) (by omega)) ?_
    refine g_pMn h 2 (by decide) (m := 10 - 1) fl_X6_56 dX6_notes_47 (fun M1 hM1 => ?_)
    rw [show M1 = mSh M by rw [hM1, mSh, if_pos c1]; rfl]
    exact tail
