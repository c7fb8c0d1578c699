def mvL (F : FabT) (n q : Nat) : FabT :=
  (F.1, F.2.1, va_up (va_up (va_up F.2.2 7 (upd (F.2.2 7) (F.2.2 0 n).toNatClampNeg (F.2.2 7 (F.2.2 0 n).toNatClampNeg - 1))) 0 (upd (F.2.2 0) n (nI q))) 7
    (upd (upd (F.2.2 7) (F.2.2 0 n).toNatClampNeg (F.2.2 7 (F.2.2 0 n).toNatClampNeg - 1)) q (upd (F.2.2 7) (F.2.2 0 n).toNatClampNeg (F.2.2 7 (F.2.2 0 n).toNatClampNeg - 1) q + 1)))
set_option maxHeartbeats 4000000 in
theorem c_X0_moveLetter (l : Launch) {E : EnvT} (hE : EOK E) {σ : ST} (i : Nat) (hi : i < 14) (n q : Nat) (hn : n < 64) (hq : q < 5) (hp : ∃ p, p < 5 ∧ (σ.1 i).2.2 0 n = nI p) : Con l E yX0_moveLetter cX0_moveLetter 3 none 0 0 [.ref (ad E 1 i 0), .int (nI (n)), .int (nI (q))] σ (rV (sF σ i (mvL (σ.1 i) n q))) := by
  refine con_intro hE (by decide) (Nat.le_of_ble_eq_true rfl) (fun K hkl h hR => ?_)
  subst hkl
  have h : Cx K E cX0_moveLetter 3 RX0 0 0 := h
  show GG K E σ 0 [(0, .ref (ad E 1 i 0)), (1, .int (nI (n))), (2, .int (nI (q)))] []
  obtain ⟨p, hp5, hp⟩ := hp
  refine g_aload_n h (q := 0) 0 dX0_moveLetter_0 rfl ?_
  refine g_get h 1 i 0 (ok_F hi) rfl rfl uin_X0 12 (by decide) fl_X0_43 rfl dX0_moveLetter_1 ?_
  refine g_aload_n h (q := 0) 0 dX0_moveLetter_4 rfl ?_
  refine g_get h 1 i 0 (ok_F hi) rfl rfl uin_X0 5 (by decide) fl_X0_21 rfl dX0_moveLetter_5 ?_
  refine g_iload_n h (q := 1) 1 dX0_moveLetter_8 rfl ?_
  refine g_aldF h i 0 hi (by decide) (n) (show n < 64 by omega) dX0_moveLetter_9 ?_
  refine g_is (nI (p)) (hp) ?_
  refine g_dup2 h dX0_moveLetter_10 rfl rfl ?_
  refine g_aldF h i 7 hi (by decide) (p) (show p < 5 by omega) dX0_moveLetter_11 ?_
  refine g_iconst h (v := 1) dX0_moveLetter_12 (by decide) ?_
  refine g_isub h dX0_moveLetter_13 ?_
  refine g_astF h i 7 hi (by decide) (p) (show p < 5 by omega) dX0_moveLetter_14 (fun σ1 hσ1 => ?_)
  refine g_aload_n h (q := 0) 0 dX0_moveLetter_15 rfl ?_
  refine g_get h 1 i 0 (ok_F hi) rfl rfl uin_X0 5 (by decide) fl_X0_21 rfl dX0_moveLetter_16 ?_
  refine g_iload_n h (q := 1) 1 dX0_moveLetter_19 rfl ?_
  refine g_iload_n h (q := 2) 2 dX0_moveLetter_20 rfl ?_
  refine g_astF h i 0 hi (by decide) (n) (show n < 64 by omega) dX0_moveLetter_21 (fun σ2 hσ2 => ?_)
  refine g_aload_n h (q := 0) 0 dX0_moveLetter_22 rfl ?_
  refine g_get h 1 i 0 (ok_F hi) rfl rfl uin_X0 12 (by decide) fl_X0_43 rfl dX0_moveLetter_23 ?_
  refine g_iload_n h (q := 2) 2 dX0_moveLetter_26 rfl ?_
  refine g_dup2 h dX0_moveLetter_27 rfl rfl ?_
  refine g_aldF h i 7 hi (by decide) (q) (show q < 5 by omega) dX0_moveLetter_28 ?_
  refine g_iconst h (v := 1) dX0_moveLetter_29 (by decide) ?_
  refine g_iadd h dX0_moveLetter_30 ?_
  refine g_astF h i 7 hi (by decide) (q) (show q < 5 by omega) dX0_moveLetter_31 (fun σ3 hσ3 => ?_)
  exact g_vret h hR dX0_moveLetter_32 (show rV _ _ _ from ⟨rfl, by
    subst hσ3 hσ2 hσ1
    have hc : (nI p).toNatClampNeg = p := nI_clamp (by omega)
    simp [sF, up_s, bx_uu, mvL, hp, hc, va_up]⟩)
def adL (F : FabT) (line addr prio : Int32) : FabT :=
  (F.1, F.2.1 + 1, va_up (va_up (va_up (va_up (va_up (va_up (va_up (va_up F.2.2 0 (upd (F.2.2 0) F.2.1 0)) 7 (upd (F.2.2 7) 0 (F.2.2 7 0 + 1))) 1 (upd (F.2.2 1) F.2.1 line)) 2 (upd (F.2.2 2) F.2.1 addr)) 3 (upd (F.2.2 3) F.2.1 prio)) 4 (upd (F.2.2 4) F.2.1 (F.1 3))) 5 (upd (F.2.2 5) F.2.1 (-9))) 6 (upd (F.2.2 6) F.2.1 0))
set_option maxHeartbeats 4000000 in
theorem c_X0_addLetter (l : Launch) {E : EnvT} (hE : EOK E) {σ : ST} (i : Nat) (hi : i < 14) (hF : (σ.1 i).2.1 < 64) (line addr prio : Int32) : Con l E yX0_addLetter cX0_addLetter 5 (some .int) 0 0 [.ref (ad E 1 i 0), .int line, .int addr, .int prio] σ (rI (nI (σ.1 i).2.1) (sF σ i (adL (σ.1 i) line addr prio))) := by
  refine con_intro hE (by decide) (Nat.le_of_ble_eq_true rfl) (fun K hkl h hR => ?_)
  subst hkl
  have h : Cx K E cX0_addLetter 5 RX0 0 0 := h
  show GG K E σ 0 [(0, .ref (ad E 1 i 0)), (1, .int line), (2, .int addr), (3, .int prio)] []
  refine g_aload_n h (q := 0) 0 dX0_addLetter_0 rfl ?_
  refine g_get h 1 i 0 (ok_F hi) rfl rfl uin_X0 4 (by decide) fl_X0_56 rfl dX0_addLetter_1 ?_
  refine g_bipush h (v := 64) dX0_addLetter_4 (by decide) ?_
  refine g_ncmp_lt h (a := (σ.1 i).2.1) (b := 64) 12 dX0_addLetter_6 (by decide) (by omega) (by omega) (fun c1 => ?_) (fun c1 => ?_)
  · refine g_aload_n h (q := 0) 0 dX0_addLetter_12 rfl ?_
    refine g_get h 1 i 0 (ok_F hi) rfl rfl uin_X0 4 (by decide) fl_X0_56 rfl dX0_addLetter_13 ?_
    refine g_istore h (q := 4) [(0, .ref (ad E 1 i 0)), (1, .int line), (2, .int addr), (3, .int prio), (4, .int (nI ((σ.1 i).2.1)))] dX0_addLetter_16 (by decide) rfl ?_
    refine g_aload_n h (q := 0) 0 dX0_addLetter_18 rfl ?_
    refine g_dup h dX0_addLetter_19 rfl ?_
    refine g_get h 1 i 0 (ok_F hi) rfl rfl uin_X0 4 (by decide) fl_X0_56 rfl dX0_addLetter_20 ?_
    refine g_iconst h (v := 1) dX0_addLetter_23 (by decide) ?_
    refine g_iadd h dX0_addLetter_24 ?_
    refine g_is (nI (((σ.1 i).2.1) + 1)) (nI_add ((σ.1 i).2.1) 1) ?_
    refine g_putFl h i hi (m := ((σ.1 i).2.1) + 1) fl_X0_56 dX0_addLetter_25 (fun σ2 hσ2 => ?_)
    refine g_aload_n h (q := 0) 0 dX0_addLetter_28 rfl ?_
    refine g_get h 1 i 0 (ok_F hi) rfl rfl uin_X0 5 (by decide) fl_X0_21 rfl dX0_addLetter_29 ?_
    refine g_iload h (q := 4) 4 dX0_addLetter_32 rfl ?_
    refine g_iconst h (v := 0) dX0_addLetter_34 (by decide) ?_
    refine g_astF h i 0 hi (by decide) ((σ.1 i).2.1) (show (σ.1 i).2.1 < 64 by omega) dX0_addLetter_35 (fun σ3 hσ3 => ?_)
    refine g_aload_n h (q := 0) 0 dX0_addLetter_36 rfl ?_
    refine g_get h 1 i 0 (ok_F hi) rfl rfl uin_X0 12 (by decide) fl_X0_43 rfl dX0_addLetter_37 ?_
    refine g_iconst h (v := 0) dX0_addLetter_40 (by decide) ?_
    refine g_dup2 h dX0_addLetter_41 rfl rfl ?_
    refine g_aldF h i 7 hi (by decide) (0) (show 0 < 5 by omega) dX0_addLetter_42 ?_
    refine g_iconst h (v := 1) dX0_addLetter_43 (by decide) ?_
    refine g_iadd h dX0_addLetter_44 ?_
    refine g_astF h i 7 hi (by decide) (0) (show 0 < 5 by omega) dX0_addLetter_45 (fun σ4 hσ4 => ?_)
    refine g_aload_n h (q := 0) 0 dX0_addLetter_46 rfl ?_
    refine g_get h 1 i 0 (ok_F hi) rfl rfl uin_X0 6 (by decide) fl_X0_25 rfl dX0_addLetter_47 ?_
    refine g_iload h (q := 4) 4 dX0_addLetter_50 rfl ?_
    refine g_iload_n h (q := 1) 1 dX0_addLetter_52 rfl ?_
    refine g_astF h i 1 hi (by decide) ((σ.1 i).2.1) (show (σ.1 i).2.1 < 64 by omega) dX0_addLetter_53 (fun σ5 hσ5 => ?_)
    refine g_aload_n h (q := 0) 0 dX0_addLetter_54 rfl ?_
    refine g_get h 1 i 0 (ok_F hi) rfl rfl uin_X0 7 (by decide) fl_X0_28 rfl dX0_addLetter_55 ?_
    refine g_iload h (q := 4) 4 dX0_addLetter_58 rfl ?_
    refine g_iload_n h (q := 2) 2 dX0_addLetter_60 rfl ?_
    refine g_astF h i 2 hi (by decide) ((σ.1 i).2.1) (show (σ.1 i).2.1 < 64 by omega) dX0_addLetter_61 (fun σ6 hσ6 => ?_)
    refine g_aload_n h (q := 0) 0 dX0_addLetter_62 rfl ?_
    refine g_get h 1 i 0 (ok_F hi) rfl rfl uin_X0 8 (by decide) fl_X0_31 rfl dX0_addLetter_63 ?_
    refine g_iload h (q := 4) 4 dX0_addLetter_66 rfl ?_
    refine g_iload_n h (q := 3) 3 dX0_addLetter_68 rfl ?_
    refine g_astF h i 3 hi (by decide) ((σ.1 i).2.1) (show (σ.1 i).2.1 < 64 by omega) dX0_addLetter_69 (fun σ7 hσ7 => ?_)
    refine g_aload_n h (q := 0) 0 dX0_addLetter_70 rfl ?_
    refine g_get h 1 i 0 (ok_F hi) rfl rfl uin_X0 9 (by decide) fl_X0_34 rfl dX0_addLetter_71 ?_
    refine g_iload h (q := 4) 4 dX0_addLetter_74 rfl ?_
    refine g_aload_n h (q := 0) 0 dX0_addLetter_76 rfl ?_
    refine g_get h 1 i 0 (ok_F hi) rfl rfl uin_X0 3 (by decide) fl_X0_53 rfl dX0_addLetter_77 ?_
    refine g_astF h i 4 hi (by decide) ((σ.1 i).2.1) (show (σ.1 i).2.1 < 64 by omega) dX0_addLetter_80 (fun σ8 hσ8 => ?_)
    refine g_aload_n h (q := 0) 0 dX0_addLetter_81 rfl ?_
    refine g_get h 1 i 0 (ok_F hi) rfl rfl uin_X0 10 (by decide) fl_X0_37 rfl dX0_addLetter_82 ?_
    refine g_iload h (q := 4) 4 dX0_addLetter_85 rfl ?_
    refine g_bipush h (v := (-9)) dX0_addLetter_87 (by decide) ?_
    refine g_astF h i 5 hi (by decide) ((σ.1 i).2.1) (show (σ.1 i).2.1 < 64 by omega) dX0_addLetter_89 (fun σ9 hσ9 => ?_)
    refine g_aload_n h (q := 0) 0 dX0_addLetter_90 rfl ?_
    refine g_get h 1 i 0 (ok_F hi) rfl rfl uin_X0 11 (by decide) fl_X0_40 rfl dX0_addLetter_91 ?_
    refine g_iload h (q := 4) 4 dX0_addLetter_94 rfl ?_
    refine g_iconst h (v := 0) dX0_addLetter_96 (by decide) ?_
    refine g_astF h i 6 hi (by decide) ((σ.1 i).2.1) (show (σ.1 i).2.1 < 64 by omega) dX0_addLetter_97 (fun σ10 hσ10 => ?_)
    refine g_iload h (q := 4) 4 dX0_addLetter_98 rfl ?_
    exact g_iret h hR dX0_addLetter_100 (show rI _ _ _ _ from ⟨rfl, by
    subst hσ10 hσ9 hσ8 hσ7 hσ6 hσ5 hσ4 hσ3 hσ2
    simp [sF, up_s, bx_uu, adL, va_up]⟩)
  · exfalso; omega
def qFind (F : FabT) (w : RowT) (addr k : Int32) : Nat → Nat → Nat → Int32
  | 0, _, _ => -9
  | m + 1, t, b => if F.2.2 2 (w.1 t) = addr then (if nI b = k then nI (w.1 t) else qFind F w addr k m (t + 1) (b + 1)) else qFind F w addr k m (t + 1) b
def ROK (b : Nat) (w : RowT) : Prop := w.2 ≤ 64 ∧ ∀ t, t < w.2 → w.1 t < b
set_option maxHeartbeats 4000000 in
theorem l_X0_queuedLetter {K : KX} {E : EnvT} (hE : EOK E) (h : Cx K E cX0_queuedLetter 6 RX0 0 0) {σ : ST} {post : Option Value → ST → Prop} (hR : Rx K E (some .int) post) (i : Nat) (hi : i < 14) (hQ : ROK 64 (σ.2.1 i)) (addr kk : Int32) : ∀ m t b, t + m = (σ.2.1 i).2 → b ≤ t → post (some (.int (qFind (σ.1 i) (σ.2.1 i) addr kk m t b))) σ → GG K E σ 5 [(0, .ref (ad E 1 i 0)), (1, .int addr), (2, .int kk), (3, .int (nI b)), (4, .int (nI t))] [] := by
  have hQ1 := hQ.1
  intro m
  induction m with
  | zero =>
    intro t b hk hbt hp
    refine g_iload h (q := 4) 4 dX0_queuedLetter_5 rfl ?_
    refine g_aload_n h (q := 0) 0 dX0_queuedLetter_7 rfl ?_
    refine g_get h 1 i 0 (ok_F hi) rfl rfl uin_X0 13 (by decide) fl_X0_49 rfl dX0_queuedLetter_8 ?_
    refine g_get h 3 i 0 (ok_R (by omega)) rfl rfl uin_X2 1 (by decide) fl_X0_59 rfl dX0_queuedLetter_11 ?_
    refine g_ncmp_ge h (a := t) (b := (σ.2.1 i).2) 60 dX0_queuedLetter_14 (by decide) (by omega) (by omega) (fun c1 => ?_) (fun c1 => ?_)
    · refine g_bipush h (v := (-9)) dX0_queuedLetter_60 (by decide) ?_
      exact g_iret h hR dX0_queuedLetter_62 (hp)
    · exfalso; omega
  | succ m ih =>
    intro t b hk hbt hp
    have hb1 := hQ.2 t (by omega)
    refine g_iload h (q := 4) 4 dX0_queuedLetter_5 rfl ?_
    refine g_aload_n h (q := 0) 0 dX0_queuedLetter_7 rfl ?_
    refine g_get h 1 i 0 (ok_F hi) rfl rfl uin_X0 13 (by decide) fl_X0_49 rfl dX0_queuedLetter_8 ?_
    refine g_get h 3 i 0 (ok_R (by omega)) rfl rfl uin_X2 1 (by decide) fl_X0_59 rfl dX0_queuedLetter_11 ?_
    refine g_ncmp_ge h (a := t) (b := (σ.2.1 i).2) 60 dX0_queuedLetter_14 (by decide) (by omega) (by omega) (fun c1 => ?_) (fun c1 => ?_)
    · exfalso; omega
    · refine g_aload_n h (q := 0) 0 dX0_queuedLetter_17 rfl ?_
      refine g_get h 1 i 0 (ok_F hi) rfl rfl uin_X0 13 (by decide) fl_X0_49 rfl dX0_queuedLetter_18 ?_
      refine g_get h 3 i 0 (ok_R (by omega)) rfl rfl uin_X2 0 (by decide) fl_X0_72 rfl dX0_queuedLetter_21 ?_
      refine g_iload h (q := 4) 4 dX0_queuedLetter_24 rfl ?_
      refine g_aldR h i (by omega) (t) (by omega) dX0_queuedLetter_26 ?_
      refine g_istore h (q := 5) [(0, .ref (ad E 1 i 0)), (1, .int addr), (2, .int kk), (3, .int (nI (b))), (4, .int (nI (t))), (5, .int (nI ((σ.2.1 i).1 (t))))] dX0_queuedLetter_27 (by decide) rfl ?_
      refine g_aload_n h (q := 0) 0 dX0_queuedLetter_29 rfl ?_
      refine g_get h 1 i 0 (ok_F hi) rfl rfl uin_X0 7 (by decide) fl_X0_28 rfl dX0_queuedLetter_30 ?_
      refine g_iload h (q := 5) 5 dX0_queuedLetter_33 rfl ?_
      refine g_aldF h i 2 hi (by decide) ((σ.2.1 i).1 (t)) (show (σ.2.1 i).1 (t) < 64 by omega) dX0_queuedLetter_35 ?_
      refine g_iload_n h (q := 1) 1 dX0_queuedLetter_36 rfl ?_
      refine g_icmp_eq h 43 dX0_queuedLetter_37 (by decide) (fun c2 => ?_) (fun c2 => ?_)
      · refine g_iload_n h (q := 3) 3 dX0_queuedLetter_43 rfl ?_
        refine g_iload_n h (q := 2) 2 dX0_queuedLetter_44 rfl ?_
        refine g_icmp_ne h 51 dX0_queuedLetter_45 (by decide) (fun c3 => ?_) (fun c3 => ?_)
        · refine g_iinc h (q := 3) (v := nI (b + 1)) 3 [(0, .ref (ad E 1 i 0)), (1, .int addr), (2, .int kk), (3, .int (nI (b + 1))), (4, .int (nI (t))), (5, .int (nI ((σ.2.1 i).1 (t))))] dX0_queuedLetter_51 rfl (nI_inc b 1) (by decide) rfl ?_
          refine g_iinc h (q := 4) (v := nI (t + 1)) 4 [(0, .ref (ad E 1 i 0)), (1, .int addr), (2, .int kk), (3, .int (nI (b + 1))), (4, .int (nI (t + 1))), (5, .int (nI ((σ.2.1 i).1 (t))))] dX0_queuedLetter_54 rfl (nI_inc t 1) (by decide) rfl ?_
          refine g_goto h 5 dX0_queuedLetter_57 (by decide) ?_
          refine g_sub [(0, .ref (ad E 1 i 0)), (1, .int addr), (2, .int kk), (3, .int (nI (b + 1))), (4, .int (nI (t + 1)))] [0, 1, 2, 3, 4] rfl ?_
          exact ih (t + 1) (b + 1) (by omega) (by omega) (by simpa [qFind, *] using hp)
        · refine g_iload h (q := 5) 5 dX0_queuedLetter_48 rfl ?_
          exact g_iret h hR dX0_queuedLetter_50 (by simpa [qFind, *] using hp)
      · refine g_goto h 54 dX0_queuedLetter_40 (by decide) ?_
        refine g_iinc h (q := 4) (v := nI (t + 1)) 4 [(0, .ref (ad E 1 i 0)), (1, .int addr), (2, .int kk), (3, .int (nI (b))), (4, .int (nI (t + 1))), (5, .int (nI ((σ.2.1 i).1 (t))))] dX0_queuedLetter_54 rfl (nI_inc t 1) (by decide) rfl ?_
        refine g_goto h 5 dX0_queuedLetter_57 (by decide) ?_
        refine g_sub [(0, .ref (ad E 1 i 0)), (1, .int addr), (2, .int kk), (3, .int (nI (b))), (4, .int (nI (t + 1)))] [0, 1, 2, 3, 4] rfl ?_
        exact ih (t + 1) (b) (by omega) (by omega) (by simpa [qFind, *] using hp)
set_option maxHeartbeats 4000000 in
theorem c_X0_queuedLetter (l : Launch) {E : EnvT} (hE : EOK E) {σ : ST} (i : Nat) (hi : i < 14) (hQ : ROK 64 (σ.2.1 i)) (addr kk : Int32) : Con l E yX0_queuedLetter cX0_queuedLetter 6 (some .int) 0 0 [.ref (ad E 1 i 0), .int addr, .int kk] σ (rI (qFind (σ.1 i) (σ.2.1 i) addr kk (σ.2.1 i).2 0 0) σ) := by
  refine con_intro hE (by decide) (Nat.le_of_ble_eq_true rfl) (fun K hkl h hR => ?_)
  subst hkl
  have h : Cx K E cX0_queuedLetter 6 RX0 0 0 := h
  show GG K E σ 0 [(0, .ref (ad E 1 i 0)), (1, .int addr), (2, .int kk)] []
  refine g_iconst h (v := 0) dX0_queuedLetter_0 (by decide) ?_
  refine g_istore_n h (q := 3) [(0, .ref (ad E 1 i 0)), (1, .int addr), (2, .int kk), (3, .int 0)] dX0_queuedLetter_1 (by decide) rfl ?_
  refine g_iconst h (v := 0) dX0_queuedLetter_2 (by decide) ?_
  refine g_istore h (q := 4) [(0, .ref (ad E 1 i 0)), (1, .int addr), (2, .int kk), (3, .int 0), (4, .int 0)] dX0_queuedLetter_3 (by decide) rfl ?_
  exact l_X0_queuedLetter hE h hR i hi hQ addr kk _ 0 0 (Nat.zero_add _) (Nat.le_refl _) ⟨rfl, rfl⟩
def rAt (w : RowT) (k : Int32) : Int32 := if 0 ≤ k ∧ k < nI w.2 then nI (w.1 k.toNatClampNeg) else -9
set_option maxHeartbeats 4000000 in
theorem c_X2_at (l : Launch) {E : EnvT} (hE : EOK E) {σ : ST} (r : Nat) (hr : r < 16) (hQ : (σ.2.1 r).2 ≤ 64) (k : Int32) : Con l E yX2_at cX2_at 2 (some .int) 0 0 [.ref (ad E 3 r 0), .int k] σ (rI (rAt (σ.2.1 r) k) σ) := by
  refine con_intro hE (by decide) (Nat.le_of_ble_eq_true rfl) (fun K hkl h hR => ?_)
  subst hkl
  have h : Cx K E cX2_at 2 RX2 0 0 := h
  show GG K E σ 0 [(0, .ref (ad E 3 r 0)), (1, .int k)] []
  refine g_iload_n h (q := 1) 1 dX2_at_0 rfl ?_
  refine g_if_lt h 21 dX2_at_1 (by decide) (fun c1 => ?_) (fun c1 => ?_)
  · refine g_bipush h (v := (-9)) dX2_at_21 (by decide) ?_
    exact g_iret h hR dX2_at_23 (show rI _ _ _ _ from ⟨by rw [rAt, if_neg (fun q => by first | exact absurd q.1 (Int32.not_le.mpr c1) | exact absurd q.2 (Int32.not_lt.mpr c2))], rfl⟩)
  · refine g_iload_n h (q := 1) 1 dX2_at_4 rfl ?_
    refine g_aload_n h (q := 0) 0 dX2_at_5 rfl ?_
    refine g_get h 3 r 0 (ok_R hr) rfl rfl uin_X2 1 (by decide) fl_X2_15 rfl dX2_at_6 ?_
    refine g_icmp_ge h 21 dX2_at_9 (by decide) (fun c2 => ?_) (fun c2 => ?_)
    · refine g_bipush h (v := (-9)) dX2_at_21 (by decide) ?_
      exact g_iret h hR dX2_at_23 (show rI _ _ _ _ from ⟨by rw [rAt, if_neg (fun q => by first | exact absurd q.1 (Int32.not_le.mpr c1) | exact absurd q.2 (Int32.not_lt.mpr c2))], rfl⟩)
    · obtain ⟨j, hj, hkj⟩ : ∃ j : Nat, j < (σ.2.1 r).2 ∧ k = nI j := vp_in_of (vp_in_iff.mpr ⟨by have := Int32.le_iff_toInt_le.mp (i_le c1); simpa using this, by have := Int32.lt_iff_toInt_lt.mp (i_lt c2); rwa [nI_toInt (by omega)] at this⟩) (by omega)
      subst hkj
      refine g_aload_n h (q := 0) 0 dX2_at_12 rfl ?_
      refine g_get h 3 r 0 (ok_R hr) rfl rfl uin_X2 0 (by decide) fl_X2_9 rfl dX2_at_13 ?_
      refine g_iload_n h (q := 1) 1 dX2_at_16 rfl ?_
      refine g_aldR h r hr (j) (by omega) dX2_at_17 ?_
      refine g_goto h 23 dX2_at_18 (by decide) ?_
      exact g_iret h hR dX2_at_23 (show rI _ _ _ _ from ⟨by rw [rAt, if_pos ⟨nI_pos' (by omega), nI_lt hj (by omega)⟩, nI_clamp (by omega)], rfl⟩)
def rAdd (w : RowT) (x : Nat) : RowT := if w.2 < 64 then (va_up w.1 w.2 x, w.2 + 1) else w
set_option maxHeartbeats 4000000 in
theorem c_X2_add (l : Launch) {E : EnvT} (hE : EOK E) {σ : ST} (r : Nat) (hr : r < 16) (hw : (σ.2.1 r).2 ≤ 64) (x : Nat) : Con l E yX2_add cX2_add 2 none 0 0 [.ref (ad E 3 r 0), .int (nI (x))] σ (rV (sR σ r (rAdd (σ.2.1 r) x))) := by
  refine con_intro hE (by decide) (Nat.le_of_ble_eq_true rfl) (fun K hkl h hR => ?_)
  subst hkl
  have h : Cx K E cX2_add 2 RX2 0 0 := h
  show GG K E σ 0 [(0, .ref (ad E 3 r 0)), (1, .int (nI (x)))] []
  refine g_aload_n h (q := 0) 0 dX2_add_0 rfl ?_
  refine g_get h 3 r 0 (ok_R hr) rfl rfl uin_X2 1 (by decide) fl_X2_15 rfl dX2_add_1 ?_
  refine g_bipush h (v := 64) dX2_add_4 (by decide) ?_
  refine g_ncmp_ge h (a := (σ.2.1 r).2) (b := 64) 29 dX2_add_6 (by decide) (by omega) (by omega) (fun c1 => ?_) (fun c1 => ?_)
  · exact g_vret h hR dX2_add_29 (show rV _ _ _ from ⟨rfl, by rw [rAdd, if_neg (by omega)]; simp [sR, up_id]⟩)
  · refine g_aload_n h (q := 0) 0 dX2_add_9 rfl ?_
    refine g_get h 3 r 0 (ok_R hr) rfl rfl uin_X2 0 (by decide) fl_X2_9 rfl dX2_add_10 ?_
    refine g_aload_n h (q := 0) 0 dX2_add_13 rfl ?_
    refine g_get h 3 r 0 (ok_R hr) rfl rfl uin_X2 1 (by decide) fl_X2_15 rfl dX2_add_14 ?_
    refine g_iload_n h (q := 1) 1 dX2_add_17 rfl ?_
    refine g_astR h r hr ((σ.2.1 r).2) (by omega) (m := x) dX2_add_18 (fun σ2 hσ2 => ?_)
    refine g_aload_n h (q := 0) 0 dX2_add_19 rfl ?_
    refine g_dup h dX2_add_20 rfl ?_
    refine g_get h 3 r 0 (ok_R hr) rfl rfl uin_X2 1 (by decide) fl_X2_15 rfl dX2_add_21 ?_
    refine g_is (nI ((σ.2.1 r).2)) (by subst hσ2; simp [sR, up_s]) ?_
    refine g_iconst h (v := 1) dX2_add_24 (by decide) ?_
    refine g_iadd h dX2_add_25 ?_
    refine g_is (nI (((σ.2.1 r).2) + 1)) (nI_add ((σ.2.1 r).2) 1) ?_
    refine g_putRs h r hr (m := ((σ.2.1 r).2) + 1) fl_X2_15 dX2_add_26 (fun σ3 hσ3 => ?_)
    exact g_vret h hR dX2_add_29 (show rV _ _ _ from ⟨rfl, by subst hσ3 hσ2; rw [rAdd, if_pos (by omega)]; simp [sR, up_s, bx_uu]⟩)
