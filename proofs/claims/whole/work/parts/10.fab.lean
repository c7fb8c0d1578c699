/-- the first n from k on, m of them, of which p holds; -9 -/
def findN (p : Nat → Bool) : Nat → Nat → Int32
  | 0, _ => -9
  | m + 1, k => if p k then nI k else findN p m (k + 1)
def pAt (F : FabT) (line : Int32) (k : Nat) : Bool := decide (F.2.2 0 k = 0) && decide (F.2.2 1 k = line)
def fAt (F : FabT) (line : Int32) : Int32 := findN (pAt F line) F.2.1 0
set_option maxHeartbeats 4000000 in
theorem l_X0_letterAt {K : KX} {E : EnvT} (hE : EOK E) (h : Cx K E cX0_letterAt 3 RX0 0 0) {σ : ST} {post : Option Value → ST → Prop} (hR : Rx K E (some .int) post) (i : Nat) (hi : i < 14) (hF : (σ.1 i).2.1 ≤ 64) (line : Int32) : ∀ m k, k + m = (σ.1 i).2.1 → post (some (.int (findN (pAt (σ.1 i) line) m k))) σ → GG K E σ 2 [(0, .ref (ad E 1 i 0)), (1, .int line), (2, .int (nI k))] [] := by
  intro m
  induction m with
  | zero =>
    intro k hk hp
    refine g_iload_n h (q := 2) 2 dX0_letterAt_2 rfl ?_
    refine g_aload_n h (q := 0) 0 dX0_letterAt_3 rfl ?_
    refine g_get h 1 i 0 (ok_F hi) rfl rfl uin_X0 4 (by decide) fl_X0_56 rfl dX0_letterAt_4 ?_
    refine g_ncmp_ge h (a := k) (b := (σ.1 i).2.1) 37 dX0_letterAt_7 (by decide) (by omega) (by omega) (fun c1 => ?_) (fun c1 => ?_)
    · refine g_bipush h (v := (-9)) dX0_letterAt_37 (by decide) ?_
      exact g_iret h hR dX0_letterAt_39 (hp)
    · exfalso; omega
  | succ m ih =>
    intro k hk hp
    refine g_iload_n h (q := 2) 2 dX0_letterAt_2 rfl ?_
    refine g_aload_n h (q := 0) 0 dX0_letterAt_3 rfl ?_
    refine g_get h 1 i 0 (ok_F hi) rfl rfl uin_X0 4 (by decide) fl_X0_56 rfl dX0_letterAt_4 ?_
    refine g_ncmp_ge h (a := k) (b := (σ.1 i).2.1) 37 dX0_letterAt_7 (by decide) (by omega) (by omega) (fun c1 => ?_) (fun c1 => ?_)
    · exfalso; omega
    · refine g_aload_n h (q := 0) 0 dX0_letterAt_10 rfl ?_
      refine g_get h 1 i 0 (ok_F hi) rfl rfl uin_X0 5 (by decide) fl_X0_21 rfl dX0_letterAt_11 ?_
      refine g_iload_n h (q := 2) 2 dX0_letterAt_14 rfl ?_
      refine g_aldF h i 0 hi (by decide) (k) (show k < 64 by omega) dX0_letterAt_15 ?_
      refine g_if_ne h 31 dX0_letterAt_16 (by decide) (fun c2 => ?_) (fun c2 => ?_)
      · refine g_iinc h (q := 2) (v := nI (k + 1)) 2 [(0, .ref (ad E 1 i 0)), (1, .int line), (2, .int (nI (k + 1)))] dX0_letterAt_31 rfl (nI_inc k 1) (by decide) rfl ?_
        refine g_goto h 2 dX0_letterAt_34 (by decide) ?_
        exact ih (k + 1) (by omega) (by have e : pAt (σ.1 i) line k = false := (by simp [pAt, *]); simpa [findN, e] using hp)
      · refine g_aload_n h (q := 0) 0 dX0_letterAt_19 rfl ?_
        refine g_get h 1 i 0 (ok_F hi) rfl rfl uin_X0 6 (by decide) fl_X0_25 rfl dX0_letterAt_20 ?_
        refine g_iload_n h (q := 2) 2 dX0_letterAt_23 rfl ?_
        refine g_aldF h i 1 hi (by decide) (k) (show k < 64 by omega) dX0_letterAt_24 ?_
        refine g_iload_n h (q := 1) 1 dX0_letterAt_25 rfl ?_
        refine g_icmp_ne h 31 dX0_letterAt_26 (by decide) (fun c3 => ?_) (fun c3 => ?_)
        · refine g_iinc h (q := 2) (v := nI (k + 1)) 2 [(0, .ref (ad E 1 i 0)), (1, .int line), (2, .int (nI (k + 1)))] dX0_letterAt_31 rfl (nI_inc k 1) (by decide) rfl ?_
          refine g_goto h 2 dX0_letterAt_34 (by decide) ?_
          exact ih (k + 1) (by omega) (by have e : pAt (σ.1 i) line k = false := (by simp [pAt, *]); simpa [findN, e] using hp)
        · refine g_iload_n h (q := 2) 2 dX0_letterAt_29 rfl ?_
          exact g_iret h hR dX0_letterAt_30 (by
      have e : pAt (σ.1 i) line k = true := by simp [pAt, *]
      simpa [findN, e] using hp)
set_option maxHeartbeats 4000000 in
theorem c_X0_letterAt (l : Launch) {E : EnvT} (hE : EOK E) {σ : ST} (i : Nat) (hi : i < 14) (hF : (σ.1 i).2.1 ≤ 64) (line : Int32) : Con l E yX0_letterAt cX0_letterAt 3 (some .int) 0 0 [.ref (ad E 1 i 0), .int line] σ (rI (fAt (σ.1 i) line) σ) := by
  refine con_intro hE (by decide) (Nat.le_of_ble_eq_true rfl) (fun K hkl h hR => ?_)
  subst hkl
  have h : Cx K E cX0_letterAt 3 RX0 0 0 := h
  show GG K E σ 0 [(0, .ref (ad E 1 i 0)), (1, .int line)] []
  refine g_iconst h (v := 0) dX0_letterAt_0 (by decide) ?_
  refine g_istore_n h (q := 2) [(0, .ref (ad E 1 i 0)), (1, .int line), (2, .int 0)] dX0_letterAt_1 (by decide) rfl ?_
  exact l_X0_letterAt hE h hR i hi hF line _ 0 (Nat.zero_add _) ⟨rfl, rfl⟩
def fLive (F : FabT) : Int32 := F.2.2 7 0 + F.2.2 7 1 + F.2.2 7 2
set_option maxHeartbeats 4000000 in
theorem c_X0_countLive (l : Launch) {E : EnvT} (hE : EOK E) {σ : ST} (i : Nat) (hi : i < 14) : Con l E yX0_countLive cX0_countLive 1 (some .int) 0 0 [.ref (ad E 1 i 0)] σ (rI (fLive (σ.1 i)) σ) := by
  refine con_intro hE (by decide) (Nat.le_of_ble_eq_true rfl) (fun K hkl h hR => ?_)
  subst hkl
  have h : Cx K E cX0_countLive 1 RX0 0 0 := h
  show GG K E σ 0 [(0, .ref (ad E 1 i 0))] []
  refine g_aload_n h (q := 0) 0 dX0_countLive_0 rfl ?_
  refine g_get h 1 i 0 (ok_F hi) rfl rfl uin_X0 12 (by decide) fl_X0_43 rfl dX0_countLive_1 ?_
  refine g_iconst h (v := 0) dX0_countLive_4 (by decide) ?_
  refine g_aldF h i 7 hi (by decide) (0) (show 0 < 5 by omega) dX0_countLive_5 ?_
  refine g_aload_n h (q := 0) 0 dX0_countLive_6 rfl ?_
  refine g_get h 1 i 0 (ok_F hi) rfl rfl uin_X0 12 (by decide) fl_X0_43 rfl dX0_countLive_7 ?_
  refine g_iconst h (v := 1) dX0_countLive_10 (by decide) ?_
  refine g_aldF h i 7 hi (by decide) (1) (show 1 < 5 by omega) dX0_countLive_11 ?_
  refine g_iadd h dX0_countLive_12 ?_
  refine g_aload_n h (q := 0) 0 dX0_countLive_13 rfl ?_
  refine g_get h 1 i 0 (ok_F hi) rfl rfl uin_X0 12 (by decide) fl_X0_43 rfl dX0_countLive_14 ?_
  refine g_iconst h (v := 2) dX0_countLive_17 (by decide) ?_
  refine g_aldF h i 7 hi (by decide) (2) (show 2 < 5 by omega) dX0_countLive_18 ?_
  refine g_iadd h dX0_countLive_19 ?_
  exact g_iret h hR dX0_countLive_20 (⟨rfl, rfl⟩)
def gB (F : FabT) (a b : Nat) (by1 : Bool) : Bool := if by1 = true ∧ F.2.2 2 a ≠ F.2.2 2 b then decide (F.2.2 2 a < F.2.2 2 b) else if F.2.2 3 a ≠ F.2.2 3 b then decide (F.2.2 3 b < F.2.2 3 a) else decide (a < b)
theorem bI_0 {b : Bool} : bI b = 0 ↔ b = false := by cases b <;> decide
theorem bI_1 {b : Bool} : ¬ bI b = 0 ↔ b = true := by cases b <;> decide
theorem i_nlt {x y : Int32} (h : y ≤ x) : ¬ x < y := Int32.not_lt.mpr h
theorem i_lt {x y : Int32} (h : ¬ y ≤ x) : x < y := Int32.not_le.mp h
theorem i_le {x y : Int32} (h : ¬ y < x) : x ≤ y := Int32.not_lt.mp h
set_option maxHeartbeats 4000000 in
theorem c_X0_goesBefore (l : Launch) {E : EnvT} (hE : EOK E) {σ : ST} (i : Nat) (hi : i < 14) (a b : Nat) (ha : a < 64) (hb : b < 64) (by1 : Bool) : Con l E yX0_goesBefore cX0_goesBefore 4 (some .boolean) 0 0 [.ref (ad E 1 i 0), .int (nI (a)), .int (nI (b)), .int (bI by1)] σ (rI (bI (gB (σ.1 i) a b by1)) σ) := by
  refine con_intro hE (by decide) (Nat.le_of_ble_eq_true rfl) (fun K hkl h hR => ?_)
  subst hkl
  have h : Cx K E cX0_goesBefore 4 RX0 0 0 := h
  show GG K E σ 0 [(0, .ref (ad E 1 i 0)), (1, .int (nI (a))), (2, .int (nI (b))), (3, .int (bI by1))] []
  refine g_iload_n h (q := 3) 3 dX0_goesBefore_0 rfl ?_
  refine g_if_eq h 40 dX0_goesBefore_1 (by decide) (fun c1 => ?_) (fun c1 => ?_)
  · refine g_aload_n h (q := 0) 0 dX0_goesBefore_40 rfl ?_
    refine g_get h 1 i 0 (ok_F hi) rfl rfl uin_X0 8 (by decide) fl_X0_31 rfl dX0_goesBefore_41 ?_
    refine g_iload_n h (q := 1) 1 dX0_goesBefore_44 rfl ?_
    refine g_aldF h i 3 hi (by decide) (a) (show a < 64 by omega) dX0_goesBefore_45 ?_
    refine g_aload_n h (q := 0) 0 dX0_goesBefore_46 rfl ?_
    refine g_get h 1 i 0 (ok_F hi) rfl rfl uin_X0 8 (by decide) fl_X0_31 rfl dX0_goesBefore_47 ?_
    refine g_iload_n h (q := 2) 2 dX0_goesBefore_50 rfl ?_
    refine g_aldF h i 3 hi (by decide) (b) (show b < 64 by omega) dX0_goesBefore_51 ?_
    refine g_icmp_eq h 76 dX0_goesBefore_52 (by decide) (fun c2 => ?_) (fun c2 => ?_)
    · refine g_iload_n h (q := 1) 1 dX0_goesBefore_76 rfl ?_
      refine g_iload_n h (q := 2) 2 dX0_goesBefore_77 rfl ?_
      refine g_ncmp_ge h (a := a) (b := b) 85 dX0_goesBefore_78 (by decide) (by omega) (by omega) (fun c3 => ?_) (fun c3 => ?_)
      · refine g_iconst h (v := 0) dX0_goesBefore_85 (by decide) ?_
        exact g_zret h hR dX0_goesBefore_86 (by decide) (show rI _ _ _ _ from ⟨by
    have e : gB (σ.1 i) a b by1 = false := by
      simp only [bI_0, bI_1] at *
      simp [gB, i_nlt, i_lt, Nat.not_lt, *]
    rw [e]; rfl, rfl⟩)
      · refine g_iconst h (v := 1) dX0_goesBefore_81 (by decide) ?_
        refine g_goto h 86 dX0_goesBefore_82 (by decide) ?_
        exact g_zret h hR dX0_goesBefore_86 (by decide) (show rI _ _ _ _ from ⟨by
    have e : gB (σ.1 i) a b by1 = true := by
      simp only [bI_0, bI_1] at *
      simp [gB, i_nlt, i_lt, Nat.not_lt, *]
    rw [e]; rfl, rfl⟩)
    · refine g_aload_n h (q := 0) 0 dX0_goesBefore_55 rfl ?_
      refine g_get h 1 i 0 (ok_F hi) rfl rfl uin_X0 8 (by decide) fl_X0_31 rfl dX0_goesBefore_56 ?_
      refine g_iload_n h (q := 1) 1 dX0_goesBefore_59 rfl ?_
      refine g_aldF h i 3 hi (by decide) (a) (show a < 64 by omega) dX0_goesBefore_60 ?_
      refine g_aload_n h (q := 0) 0 dX0_goesBefore_61 rfl ?_
      refine g_get h 1 i 0 (ok_F hi) rfl rfl uin_X0 8 (by decide) fl_X0_31 rfl dX0_goesBefore_62 ?_
      refine g_iload_n h (q := 2) 2 dX0_goesBefore_65 rfl ?_
      refine g_aldF h i 3 hi (by decide) (b) (show b < 64 by omega) dX0_goesBefore_66 ?_
      refine g_icmp_le h 74 dX0_goesBefore_67 (by decide) (fun c4 => ?_) (fun c4 => ?_)
      · refine g_iconst h (v := 0) dX0_goesBefore_74 (by decide) ?_
        exact g_zret h hR dX0_goesBefore_75 (by decide) (show rI _ _ _ _ from ⟨by
    have e : gB (σ.1 i) a b by1 = false := by
      simp only [bI_0, bI_1] at *
      simp [gB, i_nlt, i_lt, Nat.not_lt, *]
    rw [e]; rfl, rfl⟩)
      · refine g_iconst h (v := 1) dX0_goesBefore_70 (by decide) ?_
        refine g_goto h 75 dX0_goesBefore_71 (by decide) ?_
        exact g_zret h hR dX0_goesBefore_75 (by decide) (show rI _ _ _ _ from ⟨by
    have e : gB (σ.1 i) a b by1 = true := by
      simp only [bI_0, bI_1] at *
      simp [gB, i_nlt, i_lt, Nat.not_lt, *]
    rw [e]; rfl, rfl⟩)
  · refine g_aload_n h (q := 0) 0 dX0_goesBefore_4 rfl ?_
    refine g_get h 1 i 0 (ok_F hi) rfl rfl uin_X0 7 (by decide) fl_X0_28 rfl dX0_goesBefore_5 ?_
    refine g_iload_n h (q := 1) 1 dX0_goesBefore_8 rfl ?_
    refine g_aldF h i 2 hi (by decide) (a) (show a < 64 by omega) dX0_goesBefore_9 ?_
    refine g_aload_n h (q := 0) 0 dX0_goesBefore_10 rfl ?_
    refine g_get h 1 i 0 (ok_F hi) rfl rfl uin_X0 7 (by decide) fl_X0_28 rfl dX0_goesBefore_11 ?_
    refine g_iload_n h (q := 2) 2 dX0_goesBefore_14 rfl ?_
    refine g_aldF h i 2 hi (by decide) (b) (show b < 64 by omega) dX0_goesBefore_15 ?_
    refine g_icmp_eq h 40 dX0_goesBefore_16 (by decide) (fun c5 => ?_) (fun c5 => ?_)
    · refine g_aload_n h (q := 0) 0 dX0_goesBefore_40 rfl ?_
      refine g_get h 1 i 0 (ok_F hi) rfl rfl uin_X0 8 (by decide) fl_X0_31 rfl dX0_goesBefore_41 ?_
      refine g_iload_n h (q := 1) 1 dX0_goesBefore_44 rfl ?_
      refine g_aldF h i 3 hi (by decide) (a) (show a < 64 by omega) dX0_goesBefore_45 ?_
      refine g_aload_n h (q := 0) 0 dX0_goesBefore_46 rfl ?_
      refine g_get h 1 i 0 (ok_F hi) rfl rfl uin_X0 8 (by decide) fl_X0_31 rfl dX0_goesBefore_47 ?_
      refine g_iload_n h (q := 2) 2 dX0_goesBefore_50 rfl ?_
      refine g_aldF h i 3 hi (by decide) (b) (show b < 64 by omega) dX0_goesBefore_51 ?_
      refine g_icmp_eq h 76 dX0_goesBefore_52 (by decide) (fun c6 => ?_) (fun c6 => ?_)
      · refine g_iload_n h (q := 1) 1 dX0_goesBefore_76 rfl ?_
        refine g_iload_n h (q := 2) 2 dX0_goesBefore_77 rfl ?_
        refine g_ncmp_ge h (a := a) (b := b) 85 dX0_goesBefore_78 (by decide) (by omega) (by omega) (fun c7 => ?_) (fun c7 => ?_)
        · refine g_iconst h (v := 0) dX0_goesBefore_85 (by decide) ?_
          exact g_zret h hR dX0_goesBefore_86 (by decide) (show rI _ _ _ _ from ⟨by
    have e : gB (σ.1 i) a b by1 = false := by
      simp only [bI_0, bI_1] at *
      simp [gB, i_nlt, i_lt, Nat.not_lt, *]
    rw [e]; rfl, rfl⟩)
        · refine g_iconst h (v := 1) dX0_goesBefore_81 (by decide) ?_
          refine g_goto h 86 dX0_goesBefore_82 (by decide) ?_
          exact g_zret h hR dX0_goesBefore_86 (by decide) (show rI _ _ _ _ from ⟨by
    have e : gB (σ.1 i) a b by1 = true := by
      simp only [bI_0, bI_1] at *
      simp [gB, i_nlt, i_lt, Nat.not_lt, *]
    rw [e]; rfl, rfl⟩)
      · refine g_aload_n h (q := 0) 0 dX0_goesBefore_55 rfl ?_
        refine g_get h 1 i 0 (ok_F hi) rfl rfl uin_X0 8 (by decide) fl_X0_31 rfl dX0_goesBefore_56 ?_
        refine g_iload_n h (q := 1) 1 dX0_goesBefore_59 rfl ?_
        refine g_aldF h i 3 hi (by decide) (a) (show a < 64 by omega) dX0_goesBefore_60 ?_
        refine g_aload_n h (q := 0) 0 dX0_goesBefore_61 rfl ?_
        refine g_get h 1 i 0 (ok_F hi) rfl rfl uin_X0 8 (by decide) fl_X0_31 rfl dX0_goesBefore_62 ?_
        refine g_iload_n h (q := 2) 2 dX0_goesBefore_65 rfl ?_
        refine g_aldF h i 3 hi (by decide) (b) (show b < 64 by omega) dX0_goesBefore_66 ?_
        refine g_icmp_le h 74 dX0_goesBefore_67 (by decide) (fun c8 => ?_) (fun c8 => ?_)
        · refine g_iconst h (v := 0) dX0_goesBefore_74 (by decide) ?_
          exact g_zret h hR dX0_goesBefore_75 (by decide) (show rI _ _ _ _ from ⟨by
    have e : gB (σ.1 i) a b by1 = false := by
      simp only [bI_0, bI_1] at *
      simp [gB, i_nlt, i_lt, Nat.not_lt, *]
    rw [e]; rfl, rfl⟩)
        · refine g_iconst h (v := 1) dX0_goesBefore_70 (by decide) ?_
          refine g_goto h 75 dX0_goesBefore_71 (by decide) ?_
          exact g_zret h hR dX0_goesBefore_75 (by decide) (show rI _ _ _ _ from ⟨by
    have e : gB (σ.1 i) a b by1 = true := by
      simp only [bI_0, bI_1] at *
      simp [gB, i_nlt, i_lt, Nat.not_lt, *]
    rw [e]; rfl, rfl⟩)
    · refine g_aload_n h (q := 0) 0 dX0_goesBefore_19 rfl ?_
      refine g_get h 1 i 0 (ok_F hi) rfl rfl uin_X0 7 (by decide) fl_X0_28 rfl dX0_goesBefore_20 ?_
      refine g_iload_n h (q := 1) 1 dX0_goesBefore_23 rfl ?_
      refine g_aldF h i 2 hi (by decide) (a) (show a < 64 by omega) dX0_goesBefore_24 ?_
      refine g_aload_n h (q := 0) 0 dX0_goesBefore_25 rfl ?_
      refine g_get h 1 i 0 (ok_F hi) rfl rfl uin_X0 7 (by decide) fl_X0_28 rfl dX0_goesBefore_26 ?_
      refine g_iload_n h (q := 2) 2 dX0_goesBefore_29 rfl ?_
      refine g_aldF h i 2 hi (by decide) (b) (show b < 64 by omega) dX0_goesBefore_30 ?_
      refine g_icmp_ge h 38 dX0_goesBefore_31 (by decide) (fun c9 => ?_) (fun c9 => ?_)
      · refine g_iconst h (v := 0) dX0_goesBefore_38 (by decide) ?_
        exact g_zret h hR dX0_goesBefore_39 (by decide) (show rI _ _ _ _ from ⟨by
    have e : gB (σ.1 i) a b by1 = false := by
      simp only [bI_0, bI_1] at *
      simp [gB, i_nlt, i_lt, Nat.not_lt, *]
    rw [e]; rfl, rfl⟩)
      · refine g_iconst h (v := 1) dX0_goesBefore_34 (by decide) ?_
        refine g_goto h 39 dX0_goesBefore_35 (by decide) ?_
        exact g_zret h hR dX0_goesBefore_39 (by decide) (show rI _ _ _ _ from ⟨by
    have e : gB (σ.1 i) a b by1 = true := by
      simp only [bI_0, bI_1] at *
      simp [gB, i_nlt, i_lt, Nat.not_lt, *]
    rw [e]; rfl, rfl⟩)
