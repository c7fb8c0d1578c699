theorem ud_ne {f : Nat → Int32} {l k : Nat} {v : Int32} (h : k ≠ l) : upd f l v k = f k := by simp [upd, h]
theorem ud_s (f : Nat → Int32) (l : Nat) (v : Int32) : upd f l v l = v := by simp [upd]
theorem ud_id (f : Nat → Int32) (l : Nat) : upd f l (f l) = f := by funext q; by_cases e : q = l <;> simp [upd, e]
theorem ud_ud (f : Nat → Int32) (l : Nat) (v w : Int32) : upd (upd f l v) l w = upd f l w := by funext q; by_cases e : q = l <;> simp [upd, e]
def mPB (M : MT) (p b : Nat → Int32) : MT := (M.1, M.2.1, va_up (va_up M.2.2.1 4 p) 5 b, M.2.2.2)
theorem mPB_p (M : MT) (p b : Nat → Int32) (l : Nat) (v : Int32) : ((mPB M p b).1, (mPB M p b).2.1, va_up (mPB M p b).2.2.1 4 (upd ((mPB M p b).2.2.1 4) l v), (mPB M p b).2.2.2) = mPB M (upd p l v) b := by
  have e : (mPB M p b).2.2.1 4 = p := by simp [mPB, va_up]
  rw [e]; show (M.1, M.2.1, va_up (va_up (va_up M.2.2.1 4 p) 5 b) 4 (upd p l v), M.2.2.2) = _
  rw [up_cm (by decide), bx_uu]; rfl
theorem mPB_b (M : MT) (p b : Nat → Int32) (l : Nat) (v : Int32) : ((mPB M p b).1, (mPB M p b).2.1, va_up (mPB M p b).2.2.1 5 (upd ((mPB M p b).2.2.1 5) l v), (mPB M p b).2.2.2) = mPB M p (upd b l v) := by
  have e : (mPB M p b).2.2.1 5 = b := by simp [mPB, va_up]
  rw [e]; show (M.1, M.2.1, va_up (va_up (va_up M.2.2.1 4 p) 5 b) 5 (upd b l v), M.2.2.2) = _
  rw [bx_uu]; rfl
theorem mPB_4 (M : MT) (p b : Nat → Int32) : (mPB M p b).2.2.1 4 = p := by simp [mPB, va_up]
theorem mPB_5 (M : MT) (p b : Nat → Int32) : (mPB M p b).2.2.1 5 = b := by simp [mPB, va_up]
theorem mPB_id (M : MT) : mPB M (M.2.2.1 4) (M.2.2.1 5) = M := by unfold mPB; rw [up_id, up_id]
theorem mPB_at (M : MT) (p b : Nat → Int32) (a : Int32) : mAtL (mPB M p b) a = mAtL M a := rfl
theorem mPB_of (M : MT) (p b : Nat → Int32) (n w : Nat) : mOf (mPB M p b) n w = mOf M n w := rfl
def sp0 (M : MT) (t : Nat) : Nat → Int32 := fun q => if q < t then nI q else M.2.2.1 4 q
def sb0 (M : MT) (t : Nat) : Nat → Int32 := fun q => if q < t then (if mAtL M (nI q) = -9 then 5 else 0) else M.2.2.1 5 q
theorem sp0_s (M : MT) (t : Nat) : upd (sp0 M t) t (nI t) = sp0 M (t + 1) := by
  funext q
  by_cases e : q = t
  · subst e; simp [sp0, upd]
  · have e2 : (q < t + 1) = (q < t) := by apply propext; omega
    simp [sp0, upd, e, e2]
theorem sb0_s (M : MT) (t : Nat) : upd (sb0 M t) t (if mAtL M (nI t) = -9 then 5 else 0) = sb0 M (t + 1) := by
  funext q
  by_cases e : q = t
  · subst e; simp [sb0, upd]
  · have e2 : (q < t + 1) = (q < t) := by apply propext; omega
    simp [sb0, upd, e, e2]
def mPl (M : MT) (bit : Int32) (p : Nat → Int32) (l : Nat) : Int32 := (p l &&& (bit ^^^ (-1))) ||| (mOf M (mAtL M (nI l)).toNatClampNeg 2 &&& bit)
def kkL (p b : Nat → Int32) (s l : Nat) : Nat → Nat → Int32 → Int32
  | 0, _, x => x
  | m + 1, k, x => kkL p b s l m (k + 1) (if b k = 0 ∧ p k = p l then nI s else x)
def snL (M : MT) (bit : Int32) (s : Nat) : Nat → Nat → (Nat → Int32) → (Nat → Int32) → (Nat → Int32) × (Nat → Int32)
  | 0, _, p, b => (p, b)
  | m + 1, l, p, b => if b l = 0 then snL M bit s m (l + 1) (upd p l (mPl M bit p l)) (upd b l (kkL (upd p l (mPl M bit p l)) b s l l 0 (b l))) else snL M bit s m (l + 1) p b
def sgL (M : MT) : Nat → Nat → (Nat → Int32) → (Nat → Int32) → (Nat → Int32) × (Nat → Int32)
  | 0, _, p, b => (p, b)
  | m + 1, s, p, b => sgL M m (s + 1) (snL M ((8 : Int32) >>> (nI s &&& 31)) s 8 0 p b).1 (snL M ((8 : Int32) >>> (nI s &&& 31)) s 8 0 p b).2
def msS (M : MT) : (Nat → Int32) × (Nat → Int32) := sgL M 3 1 (sp0 M 8) (sb0 M 8)
def BO (M : MT) (b : Nat → Int32) : Prop := ∀ l, l < 8 → b l = 0 → ¬ mAtL M (nI l) = -9
theorem BO.up9 {M : MT} {b : Nat → Int32} (h : BO M b) {l : Nat} (hl : ¬ mAtL M (nI l) = -9) (v : Int32) : BO M (upd b l v) := by
  intro q hq h0
  by_cases e : q = l
  · rw [e]; exact hl
  · rw [show upd b l v q = b q by simp [upd, e]] at h0; exact h q hq h0
theorem snL_BO (M : MT) (bit : Int32) (s : Nat) : ∀ m l p b, l + m = 8 → BO M b → BO M (snL M bit s m l p b).2 := by
  intro m
  induction m with
  | zero => intro l p b _ h; exact h
  | succ m ih =>
    intro l p b hl h
    rw [snL]
    split
    · rename_i h0; exact ih _ _ _ (by omega) (h.up9 (h l (by omega) h0) _)
    · exact ih _ _ _ (by omega) h
def yStraight (M : MT) (a : Int32) : Int32 × MT := if wi a 0 7 = true then (if mAtL M a = -9 then (-2, M) else ((msS M).2 a.toNatClampNeg, mPB M (msS M).1 (msS M).2)) else (-1, M)
set_option maxHeartbeats 4000000 in
theorem a_X6_setStraight {K : KX} {E : EnvT} (hE : EOK E) (h : Cx K E cX6_setStraight 5 RX6 2 44) {σ : ST} (M : MT) (hM : M.2.1 0 ≤ 64) : ∀ m t D, t + m = 8 → D = mPB M (sp0 M t) (sb0 M t) → (GG K E (sM σ (mPB M (sp0 M 8) (sb0 M 8))) 42 [(0, .ref (ad E 11 0 0)), (1, .int 8)] []) → GG K E (sM σ D) 2 [(0, .ref (ad E 11 0 0)), (1, .int (nI t))] [] := by
  intro m
  induction m with
  | zero =>
    intro t D ht hD hp
    have h8 : t = 8 := by omega
    subst h8
    refine g_iload_n h (q := 1) 1 dX6_setStraight_2 rfl ?_
    refine g_bipush h (v := 8) dX6_setStraight_3 (by decide) ?_
    refine g_ncmp_ge h (a := 8) (b := 8) 42 dX6_setStraight_5 (by decide) (by omega) (by omega) (fun c1 => ?_) (fun c1 => ?_)
    · rw [hD]; exact hp
    · exfalso; omega
  | succ m ih =>
    intro t D ht hD hp
    refine g_iload_n h (q := 1) 1 dX6_setStraight_2 rfl ?_
    refine g_bipush h (v := 8) dX6_setStraight_3 (by decide) ?_
    refine g_ncmp_ge h (a := t) (b := 8) 42 dX6_setStraight_5 (by decide) (by omega) (by omega) (fun c1 => ?_) (fun c1 => ?_)
    · exfalso; omega
    · refine g_aload_n h (q := 0) 0 dX6_setStraight_8 rfl ?_
      refine g_gMa h 4 (by decide) fl_X6_35 dX6_setStraight_9 ?_
      refine g_iload_n h (q := 1) 1 dX6_setStraight_12 rfl ?_
      refine g_iload_n h (q := 1) 1 dX6_setStraight_13 rfl ?_
      refine g_sA h 4 (by decide) (t) (show t < 8 by omega) dX6_setStraight_14 (fun M1 hM1 => ?_)
      refine g_aload_n h (q := 0) 0 dX6_setStraight_15 rfl ?_
      refine g_gMa h 5 (by decide) fl_X6_38 dX6_setStraight_16 ?_
      refine g_iload_n h (q := 1) 1 dX6_setStraight_19 rfl ?_
      refine g_aload_n h (q := 0) 0 dX6_setStraight_20 rfl ?_
      refine g_iload_n h (q := 1) 1 dX6_setStraight_21 rfl ?_
      have e1 : M1 = mPB M (sp0 M (t + 1)) (sb0 M t) := by rw [hM1, hD, mPB_p, sp0_s]
      refine g_callV h mv_X6_atLine 11 0 0 ⟨rfl, rfl⟩ rfl rfl (As := [.int (nI (t))]) (c_X6_atLine (kl K) hE (σ := σ) (M := M1) (by rw [e1]; exact hM) (nI t)) ml_X6_78 rfl (by decide) (by decide) rfl (Nat.le_of_ble_eq_true rfl) dX6_setStraight_22 (fun v σ9 h9 => ?_)
      rw [h9.1, h9.2]; clear h9
      rw [show mAtL M1 (nI t) = mAtL M (nI t) by rw [e1]; rfl]
      refine g_bipush h (v := (-9)) dX6_setStraight_25 (by decide) ?_
      refine g_icmp_ne h 34 dX6_setStraight_27 (by decide) (fun c2 => ?_) (fun c2 => ?_)
      · refine g_iconst h (v := 0) dX6_setStraight_34 (by decide) ?_
        refine g_sA h 5 (by decide) (t) (show t < 8 by omega) dX6_setStraight_35 (fun M2 hM2 => ?_)
        refine g_iinc h (q := 1) (v := nI (t + 1)) 1 [(0, .ref (ad E 11 0 0)), (1, .int (nI (t + 1)))] dX6_setStraight_36 rfl (nI_inc t 1) (by decide) rfl ?_
        refine g_goto h 2 dX6_setStraight_39 (by decide) ?_
        exact ih (t + 1) M2 (by omega) (by rw [hM2, e1, mPB_b, ← sb0_s, if_neg c2]) hp
      · refine g_iconst h (v := 5) dX6_setStraight_30 (by decide) ?_
        refine g_goto h 35 dX6_setStraight_31 (by decide) ?_
        refine g_sA h 5 (by decide) (t) (show t < 8 by omega) dX6_setStraight_35 (fun M3 hM3 => ?_)
        refine g_iinc h (q := 1) (v := nI (t + 1)) 1 [(0, .ref (ad E 11 0 0)), (1, .int (nI (t + 1)))] dX6_setStraight_36 rfl (nI_inc t 1) (by decide) rfl ?_
        refine g_goto h 2 dX6_setStraight_39 (by decide) ?_
        exact ih (t + 1) M3 (by omega) (by rw [hM3, e1, mPB_b, ← sb0_s, if_pos c2]) hp
set_option maxHeartbeats 4000000 in
theorem k_X6_setStraight {K : KX} {E : EnvT} (hE : EOK E) (h : Cx K E cX6_setStraight 5 RX6 2 44) {σ : ST} (M : MT) (s : Nat) (bit : Int32) (l : Nat) (hl : l < 8) (p b : Nat → Int32) : ∀ m k x D, k + m = l → D = mPB M p (upd b l x) → (∀ k9, GG K E (sM σ (mPB M p (upd b l (kkL p b s l m k x)))) 157 [(0, .ref (ad E 11 0 0)), (1, .int (nI s)), (2, .int bit), (3, .int (nI l)), (4, .int k9)] []) → GG K E (sM σ D) 103 [(0, .ref (ad E 11 0 0)), (1, .int (nI s)), (2, .int bit), (3, .int (nI l)), (4, .int (nI k))] [] := by
  intro m
  induction m with
  | zero =>
    intro k x D hk hD hp
    refine g_iload h (q := 4) 4 dX6_setStraight_103 rfl ?_
    refine g_iload_n h (q := 3) 3 dX6_setStraight_105 rfl ?_
    refine g_ncmp_ge h (a := k) (b := l) 157 dX6_setStraight_106 (by decide) (by omega) (by omega) (fun c1 => ?_) (fun c1 => ?_)
    · rw [hD]; exact hp _
    · exfalso; omega
  | succ m ih =>
    intro k x D hk hD hp
    have hD4 : D.2.2.1 4 = p := by rw [hD, mPB_4]
    have hD5 : D.2.2.1 5 = upd b l x := by rw [hD, mPB_5]
    have hkl : upd b l x k = b k := ud_ne (by omega)
    have hll : upd b l x l = x := ud_s _ _ _
    refine g_iload h (q := 4) 4 dX6_setStraight_103 rfl ?_
    refine g_iload_n h (q := 3) 3 dX6_setStraight_105 rfl ?_
    refine g_ncmp_ge h (a := k) (b := l) 157 dX6_setStraight_106 (by decide) (by omega) (by omega) (fun c1 => ?_) (fun c1 => ?_)
    · exfalso; omega
    · refine g_aload_n h (q := 0) 0 dX6_setStraight_109 rfl ?_
      refine g_gMa h 5 (by decide) fl_X6_38 dX6_setStraight_110 ?_
      refine g_iload_n h (q := 3) 3 dX6_setStraight_113 rfl ?_
      refine g_aload_n h (q := 0) 0 dX6_setStraight_114 rfl ?_
      refine g_gMa h 5 (by decide) fl_X6_38 dX6_setStraight_115 ?_
      refine g_iload h (q := 4) 4 dX6_setStraight_118 rfl ?_
      refine g_lM h 5 (by decide) (k) (show k < 8 by omega) dX6_setStraight_120 ?_
      refine g_is (b k) (by rw [hD5, hkl]) ?_
      refine g_if_ne h 144 dX6_setStraight_121 (by decide) (fun c2 => ?_) (fun c2 => ?_)
      · refine g_aload_n h (q := 0) 0 dX6_setStraight_144 rfl ?_
        refine g_gMa h 5 (by decide) fl_X6_38 dX6_setStraight_145 ?_
        refine g_iload_n h (q := 3) 3 dX6_setStraight_148 rfl ?_
        refine g_lM h 5 (by decide) (l) (show l < 8 by omega) dX6_setStraight_149 ?_
        refine g_is (x) (by rw [hD5, hll]) ?_
        refine g_sA h 5 (by decide) (l) (show l < 8 by omega) dX6_setStraight_150 (fun M1 hM1 => ?_)
        refine g_iinc h (q := 4) (v := nI (k + 1)) 4 [(0, .ref (ad E 11 0 0)), (1, .int (nI (s))), (2, .int bit), (3, .int (nI (l))), (4, .int (nI (k + 1)))] dX6_setStraight_151 rfl (nI_inc k 1) (by decide) rfl ?_
        refine g_goto h 103 dX6_setStraight_154 (by decide) ?_
        exact ih (k + 1) (x) M1 (by omega) (by rw [hM1, hD, mPB_b, ud_ud]) (by rw [kkL, if_neg (fun q => c2 q.1)] at hp; exact hp)
      · refine g_aload_n h (q := 0) 0 dX6_setStraight_124 rfl ?_
        refine g_gMa h 4 (by decide) fl_X6_35 dX6_setStraight_125 ?_
        refine g_iload h (q := 4) 4 dX6_setStraight_128 rfl ?_
        refine g_lM h 4 (by decide) (k) (show k < 8 by omega) dX6_setStraight_130 ?_
        refine g_is (p k) (by rw [hD4]) ?_
        refine g_aload_n h (q := 0) 0 dX6_setStraight_131 rfl ?_
        refine g_gMa h 4 (by decide) fl_X6_35 dX6_setStraight_132 ?_
        refine g_iload_n h (q := 3) 3 dX6_setStraight_135 rfl ?_
        refine g_lM h 4 (by decide) (l) (show l < 8 by omega) dX6_setStraight_136 ?_
        refine g_is (p l) (by rw [hD4]) ?_
        refine g_icmp_ne h 144 dX6_setStraight_137 (by decide) (fun c3 => ?_) (fun c3 => ?_)
        · refine g_aload_n h (q := 0) 0 dX6_setStraight_144 rfl ?_
          refine g_gMa h 5 (by decide) fl_X6_38 dX6_setStraight_145 ?_
          refine g_iload_n h (q := 3) 3 dX6_setStraight_148 rfl ?_
          refine g_lM h 5 (by decide) (l) (show l < 8 by omega) dX6_setStraight_149 ?_
          refine g_is (x) (by rw [hD5, hll]) ?_
          refine g_sA h 5 (by decide) (l) (show l < 8 by omega) dX6_setStraight_150 (fun M2 hM2 => ?_)
          refine g_iinc h (q := 4) (v := nI (k + 1)) 4 [(0, .ref (ad E 11 0 0)), (1, .int (nI (s))), (2, .int bit), (3, .int (nI (l))), (4, .int (nI (k + 1)))] dX6_setStraight_151 rfl (nI_inc k 1) (by decide) rfl ?_
          refine g_goto h 103 dX6_setStraight_154 (by decide) ?_
          exact ih (k + 1) (x) M2 (by omega) (by rw [hM2, hD, mPB_b, ud_ud]) (by rw [kkL, if_neg (fun q => c3 q.2)] at hp; exact hp)
        · refine g_iload_n h (q := 1) 1 dX6_setStraight_140 rfl ?_
          refine g_goto h 150 dX6_setStraight_141 (by decide) ?_
          refine g_sA h 5 (by decide) (l) (show l < 8 by omega) dX6_setStraight_150 (fun M3 hM3 => ?_)
          refine g_iinc h (q := 4) (v := nI (k + 1)) 4 [(0, .ref (ad E 11 0 0)), (1, .int (nI (s))), (2, .int bit), (3, .int (nI (l))), (4, .int (nI (k + 1)))] dX6_setStraight_151 rfl (nI_inc k 1) (by decide) rfl ?_
          refine g_goto h 103 dX6_setStraight_154 (by decide) ?_
          exact ih (k + 1) (nI s) M3 (by omega) (by rw [hM3, hD, mPB_b, ud_ud]) (by rw [kkL, if_pos ⟨c2, c3⟩] at hp; exact hp)
set_option maxHeartbeats 4000000 in
theorem m_X6_setStraight {K : KX} {E : EnvT} (hE : EOK E) (h : Cx K E cX6_setStraight 5 RX6 2 44) {σ : ST} (M : MT) (hM : M.2.1 0 ≤ 64) (s : Nat) (bit : Int32) : ∀ m l p b D, l + m = 8 → D = mPB M p b → BO M b → (GG K E (sM σ (mPB M (snL M bit s m l p b).1 (snL M bit s m l p b).2)) 163 [(0, .ref (ad E 11 0 0)), (1, .int (nI s))] []) → GG K E (sM σ D) 56 [(0, .ref (ad E 11 0 0)), (1, .int (nI s)), (2, .int bit), (3, .int (nI l))] [] := by
  intro m
  induction m with
  | zero =>
    intro l p b D hl hD hB hp
    refine g_iload_n h (q := 3) 3 dX6_setStraight_56 rfl ?_
    refine g_bipush h (v := 8) dX6_setStraight_57 (by decide) ?_
    refine g_ncmp_ge h (a := l) (b := 8) 163 dX6_setStraight_59 (by decide) (by omega) (by omega) (fun c1 => ?_) (fun c1 => ?_)
    · refine g_sub [(0, .ref (ad E 11 0 0)), (1, .int (nI s))] [0, 1] rfl ?_
      rw [hD]; exact hp
    · exfalso; omega
  | succ m ih =>
    intro l p b D hl hD hB hp
    have hD4 : D.2.2.1 4 = p := by rw [hD, mPB_4]
    have hD5 : D.2.2.1 5 = b := by rw [hD, mPB_5]
    have hDM : D.2.1 0 ≤ 64 := by rw [hD]; exact hM
    refine g_iload_n h (q := 3) 3 dX6_setStraight_56 rfl ?_
    refine g_bipush h (v := 8) dX6_setStraight_57 (by decide) ?_
    refine g_ncmp_ge h (a := l) (b := 8) 163 dX6_setStraight_59 (by decide) (by omega) (by omega) (fun c1 => ?_) (fun c1 => ?_)
    · exfalso; omega
    · refine g_aload_n h (q := 0) 0 dX6_setStraight_62 rfl ?_
      refine g_gMa h 5 (by decide) fl_X6_38 dX6_setStraight_63 ?_
      refine g_iload_n h (q := 3) 3 dX6_setStraight_66 rfl ?_
      refine g_lM h 5 (by decide) (l) (show l < 8 by omega) dX6_setStraight_67 ?_
      refine g_is (b l) (by rw [hD5]) ?_
      refine g_if_ne h 157 dX6_setStraight_68 (by decide) (fun c2 => ?_) (fun c2 => ?_)
      · refine g_iinc h (q := 3) (v := nI (l + 1)) 3 [(0, .ref (ad E 11 0 0)), (1, .int (nI (s))), (2, .int bit), (3, .int (nI (l + 1)))] dX6_setStraight_157 rfl (nI_inc l 1) (by decide) rfl ?_
        refine g_goto h 56 dX6_setStraight_160 (by decide) ?_
        exact ih (l + 1) p b D (by omega) hD hB (by rw [snL, if_neg c2] at hp; exact hp)
      · refine g_aload_n h (q := 0) 0 dX6_setStraight_71 rfl ?_
        refine g_gMa h 4 (by decide) fl_X6_35 dX6_setStraight_72 ?_
        refine g_iload_n h (q := 3) 3 dX6_setStraight_75 rfl ?_
        refine g_aload_n h (q := 0) 0 dX6_setStraight_76 rfl ?_
        refine g_gMa h 4 (by decide) fl_X6_35 dX6_setStraight_77 ?_
        refine g_iload_n h (q := 3) 3 dX6_setStraight_80 rfl ?_
        refine g_lM h 4 (by decide) (l) (show l < 8 by omega) dX6_setStraight_81 ?_
        refine g_is (p l) (by rw [hD4]) ?_
        refine g_iload_n h (q := 2) 2 dX6_setStraight_82 rfl ?_
        refine g_iconst h (v := (-1)) dX6_setStraight_83 (by decide) ?_
        refine g_ixor h dX6_setStraight_84 ?_
        refine g_iand h dX6_setStraight_85 ?_
        refine g_aload_n h (q := 0) 0 dX6_setStraight_86 rfl ?_
        refine g_aload_n h (q := 0) 0 dX6_setStraight_87 rfl ?_
        refine g_iload_n h (q := 3) 3 dX6_setStraight_88 rfl ?_
        obtain ⟨j, hj, hje⟩ := mAtL_nat (hB l (by omega) c2)
        have hjc : (mAtL M (nI l)).toNatClampNeg = j := by rw [hje, nI_clamp (by omega)]
        refine g_callV h mv_X6_atLine 11 0 0 ⟨rfl, rfl⟩ rfl rfl (As := [.int (nI (l))]) (c_X6_atLine (kl K) hE (σ := σ) (M := D) hDM (nI l)) ml_X6_78 rfl (by decide) (by decide) rfl (Nat.le_of_ble_eq_true rfl) dX6_setStraight_89 (fun v σ9 h9 => ?_)
        rw [h9.1, h9.2]; clear h9
        rw [show mAtL D (nI l) = nI j by rw [hD]; exact hje]
        refine g_iconst h (v := 2) dX6_setStraight_92 (by decide) ?_
        refine g_callV h mv_X6_of 11 0 0 ⟨rfl, rfl⟩ rfl rfl (As := [.int (nI (j)), .int 2]) (c_X6_of (kl K) hE (σ := σ) (M := D) j 2 (by omega) (by decide)) ml_X6_70 rfl (by decide) (by decide) rfl (Nat.le_of_ble_eq_true rfl) dX6_setStraight_93 (fun v σ9 h9 => ?_)
        rw [h9.1, h9.2]; clear h9
        rw [show mOf D j 2 = mOf M j 2 by rw [hD]; rfl]
        refine g_iload_n h (q := 2) 2 dX6_setStraight_96 rfl ?_
        refine g_iand h dX6_setStraight_97 ?_
        refine g_ior h dX6_setStraight_98 ?_
        refine g_sA h 4 (by decide) (l) (show l < 8 by omega) dX6_setStraight_99 (fun M1 hM1 => ?_)
        refine g_iconst h (v := 0) dX6_setStraight_100 (by decide) ?_
        refine g_istore h (q := 4) [(0, .ref (ad E 11 0 0)), (1, .int (nI (s))), (2, .int bit), (3, .int (nI (l))), (4, .int 0)] dX6_setStraight_101 (by decide) rfl ?_
        have e1 : M1 = mPB M (upd p l (mPl M bit p l)) (upd b l (b l)) := by rw [hM1, hD, mPB_p, ud_id, mPl, hjc]
        refine k_X6_setStraight hE h M s bit l (by omega) (upd p l (mPl M bit p l)) b l 0 (b l) M1 (Nat.zero_add _) e1 (fun k9 => ?_)
        obtain ⟨F, hF⟩ : ∃ F, F = mPB M (upd p l (mPl M bit p l)) (upd b l (kkL (upd p l (mPl M bit p l)) b s l l 0 (b l))) := ⟨_, rfl⟩
        rw [← hF]
        refine g_iinc h (q := 3) (v := nI (l + 1)) 3 [(0, .ref (ad E 11 0 0)), (1, .int (nI (s))), (2, .int bit), (3, .int (nI (l + 1))), (4, .int k9)] dX6_setStraight_157 rfl (nI_inc l 1) (by decide) rfl ?_
        refine g_goto h 56 dX6_setStraight_160 (by decide) ?_
        refine g_sub [(0, .ref (ad E 11 0 0)), (1, .int (nI (s))), (2, .int bit), (3, .int (nI (l + 1)))] [0, 1, 2, 3] rfl ?_
        exact ih (l + 1) _ _ F (by omega) hF (hB.up9 (hB l (by omega) c2) _) (by rw [snL, if_pos c2] at hp; exact hp)
set_option maxHeartbeats 4000000 in
theorem s_X6_setStraight {K : KX} {E : EnvT} (hE : EOK E) (h : Cx K E cX6_setStraight 5 RX6 2 44) {σ : ST} {post : Option Value → ST → Prop} (hR : Rx K E none post) (M : MT) (hM : M.2.1 0 ≤ 64) : ∀ m s p b, s + m = 4 → BO M b → post none (sM σ (mPB M (sgL M m s p b).1 (sgL M m s p b).2)) → GG K E (sM σ (mPB M p b)) 44 [(0, .ref (ad E 11 0 0)), (1, .int (nI s))] [] := by
  intro m
  induction m with
  | zero =>
    intro s p b hs hB hp
    refine g_iload_n h (q := 1) 1 dX6_setStraight_44 rfl ?_
    refine g_iconst h (v := 3) dX6_setStraight_45 (by decide) ?_
    refine g_ncmp_gt h (a := s) (b := 3) 169 dX6_setStraight_46 (by decide) (by omega) (by omega) (fun c1 => ?_) (fun c1 => ?_)
    · exact g_vret h hR dX6_setStraight_169 (hp)
    · exfalso; omega
  | succ m ih =>
    intro s p b hs hB hp
    refine g_iload_n h (q := 1) 1 dX6_setStraight_44 rfl ?_
    refine g_iconst h (v := 3) dX6_setStraight_45 (by decide) ?_
    refine g_ncmp_gt h (a := s) (b := 3) 169 dX6_setStraight_46 (by decide) (by omega) (by omega) (fun c1 => ?_) (fun c1 => ?_)
    · exfalso; omega
    · refine g_bipush h (v := 8) dX6_setStraight_49 (by decide) ?_
      refine g_iload_n h (q := 1) 1 dX6_setStraight_51 rfl ?_
      refine g_ishr h dX6_setStraight_52 ?_
      refine g_istore_n h (q := 2) [(0, .ref (ad E 11 0 0)), (1, .int (nI (s))), (2, .int (8 >>> ((nI (s)) &&& 31)))] dX6_setStraight_53 (by decide) rfl ?_
      refine g_iconst h (v := 0) dX6_setStraight_54 (by decide) ?_
      refine g_istore_n h (q := 3) [(0, .ref (ad E 11 0 0)), (1, .int (nI (s))), (2, .int (8 >>> ((nI (s)) &&& 31))), (3, .int 0)] dX6_setStraight_55 (by decide) rfl ?_
      refine m_X6_setStraight hE h M hM s _ 8 0 p b (mPB M p b) rfl rfl hB ?_
      have hB2 := snL_BO M ((8 : Int32) >>> (nI s &&& 31)) s 8 0 p b rfl hB
      rw [sgL] at hp
      obtain ⟨F, hF⟩ : ∃ F, F = snL M ((8 : Int32) >>> (nI s &&& 31)) s 8 0 p b := ⟨_, rfl⟩
      rw [← hF] at hB2 hp ⊢
      refine g_iinc h (q := 1) (v := nI (s + 1)) 1 [(0, .ref (ad E 11 0 0)), (1, .int (nI (s + 1)))] dX6_setStraight_163 rfl (nI_inc s 1) (by decide) rfl ?_
      refine g_goto h 44 dX6_setStraight_166 (by decide) ?_
      exact ih (s + 1) _ _ (by omega) hB2 hp
set_option maxHeartbeats 4000000 in
theorem c_X6_setStraight (l : Launch) {E : EnvT} (hE : EOK E) {σ : ST} {M : MT} (hM : M.2.1 0 ≤ 64) : Con l E yX6_setStraight cX6_setStraight 5 none 2 44 [.ref (ad E 11 0 0)] (sM σ M) (rV (sM σ (mPB M (msS M).1 (msS M).2))) := by
  refine con_intro hE (by decide) (Nat.le_of_ble_eq_true rfl) (fun K hkl h hR => ?_)
  subst hkl
  have h : Cx K E cX6_setStraight 5 RX6 2 44 := h
  show GG K E (sM σ M) 0 [(0, .ref (ad E 11 0 0))] []
  refine g_iconst h (v := 0) dX6_setStraight_0 (by decide) ?_
  refine g_istore_n h (q := 1) [(0, .ref (ad E 11 0 0)), (1, .int 0)] dX6_setStraight_1 (by decide) rfl ?_
  refine a_X6_setStraight hE h M hM 8 0 M rfl (by rw [show sp0 M 0 = M.2.2.1 4 from by funext q; simp [sp0], show sb0 M 0 = M.2.2.1 5 from by funext q; simp [sb0], mPB_id]) ?_
  refine g_iconst h (v := 1) dX6_setStraight_42 (by decide) ?_
  refine g_istore_n h (q := 1) [(0, .ref (ad E 11 0 0)), (1, .int 1)] dX6_setStraight_43 (by decide) rfl ?_
  exact s_X6_setStraight hE h hR M hM 3 1 _ _ rfl (fun l hl h0 e => by rw [sb0, if_pos hl, if_pos e] at h0; exact absurd h0 (by decide)) ⟨rfl, rfl⟩
set_option maxHeartbeats 4000000 in
theorem c_X6_straight (l : Launch) {E : EnvT} (hE : EOK E) {σ : ST} {M : MT} (hM : M.2.1 0 ≤ 64) (a : Int32) : Con l E yX6_straight cX6_straight 2 (some .int) 3 68 [.ref (ad E 11 0 0), .int a] (sM σ M) (rM (yStraight M a) σ) := by
  refine con_intro hE (by decide) (Nat.le_of_ble_eq_true rfl) (fun K hkl h hR => ?_)
  subst hkl
  have h : Cx K E cX6_straight 2 RX6 3 68 := h
  show GG K E (sM σ M) 0 [(0, .ref (ad E 11 0 0)), (1, .int a)] []
  refine g_iload_n h (q := 1) 1 dX6_straight_0 rfl ?_
  refine g_callS h ms_X6_isLine (As := [.int a]) (c_X6_isLine (kl K) hE (σ := σ) (M := M) a) ml_X6_74 rfl (by decide) (by decide) rfl (Nat.le_of_ble_eq_true rfl) dX6_straight_1 (fun v σ9 h9 => ?_)
  rw [h9.1, h9.2]; clear h9
  refine g_if_ne h 9 dX6_straight_4 (by decide) (fun c1 => ?_) (fun c1 => ?_)
  · refine g_aload_n h (q := 0) 0 dX6_straight_9 rfl ?_
    refine g_iload_n h (q := 1) 1 dX6_straight_10 rfl ?_
    refine g_callV h mv_X6_atLine 11 0 0 ⟨rfl, rfl⟩ rfl rfl (As := [.int a]) (c_X6_atLine (kl K) hE (σ := σ) (M := M) hM a) ml_X6_78 rfl (by decide) (by decide) rfl (Nat.le_of_ble_eq_true rfl) dX6_straight_11 (fun v σ9 h9 => ?_)
    rw [h9.1, h9.2]; clear h9
    refine g_bipush h (v := (-9)) dX6_straight_14 (by decide) ?_
    refine g_icmp_ne h 22 dX6_straight_16 (by decide) (fun c2 => ?_) (fun c2 => ?_)
    · have hw1 := bI_1.mp c1
      obtain ⟨j, hj, hje⟩ := wi_nat (n := 7) (by decide) hw1
      subst hje
      have hjc : (nI j).toNatClampNeg = j := nI_clamp (by omega)
      refine g_aload_n h (q := 0) 0 dX6_straight_22 rfl ?_
      refine g_callV h mv_X6_setStraight 11 0 0 ⟨rfl, rfl⟩ rfl rfl (As := []) (c_X6_setStraight (kl K) hE (σ := σ) (M := M) hM) ml_X6_124 rfl (by decide) (by decide) rfl (Nat.le_of_ble_eq_true rfl) dX6_straight_23 (fun v σ9 h9 => ?_)
      rw [h9.1, h9.2]; clear h9
      refine g_aload_n h (q := 0) 0 dX6_straight_26 rfl ?_
      refine g_gMa h 5 (by decide) fl_X6_38 dX6_straight_27 ?_
      refine g_iload_n h (q := 1) 1 dX6_straight_30 rfl ?_
      refine g_lM h 5 (by decide) (j) (show j < 8 by omega) dX6_straight_31 ?_
      refine g_is ((msS M).2 j) (by rw [mPB_5]) ?_
      exact g_iret h hR dX6_straight_32 (rM_of (q := ((msS M).2 j, mPB M (msS M).1 (msS M).2)) (by rw [yStraight, if_pos hw1, if_neg c2, hjc]))
    · refine g_bipush h (v := (-2)) dX6_straight_19 (by decide) ?_
      exact g_iret h hR dX6_straight_21 (rM_of (q := (-2, M)) (by rw [yStraight, if_pos (bI_1.mp c1), if_pos c2]))
  · refine g_iconst h (v := (-1)) dX6_straight_7 (by decide) ?_
    exact g_iret h hR dX6_straight_8 (rM_of (q := (-1, M)) (by rw [yStraight, if_neg (by rw [bI_0.mp c1]; decide)]))
