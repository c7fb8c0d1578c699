def PK (F : FabT) : Prop := F.2.1 ≤ 64 ∧ ∀ n, n < F.2.1 → ∃ p, p < 5 ∧ F.2.2 0 n = nI p
theorem mvL_0 (F : FabT) (n q m : Nat) : (mvL F n q).2.2 0 m = if m = n then nI q else F.2.2 0 m := by simp [mvL, va_up, upd]
theorem mvL_w (F : FabT) (n q : Nat) {w : Nat} (h0 : w ≠ 0) (h7 : w ≠ 7) : (mvL F n q).2.2 w = F.2.2 w := by simp [mvL, va_up, h0, h7]
theorem mvL_pk {F : FabT} (h : PK F) (n : Nat) {q : Nat} (hq : q < 5) : PK (mvL F n q) := by
  refine ⟨h.1, fun m hm => ?_⟩
  rw [mvL_0]
  by_cases e : m = n
  · rw [if_pos e]; exact ⟨q, hq, rfl⟩
  · rw [if_neg e]; exact h.2 m hm
def enL (F : FabT) (n q : Nat) : FabT := ((mvL F n q).1, (mvL F n q).2.1, va_up (mvL F n q).2.2 5 (upd ((mvL F n q).2.2 5) n ((mvL F n q).1 3)))
def rdL (F : FabT) (n : Nat) : FabT := (F.1, F.2.1, va_up F.2.2 6 (upd (F.2.2 6) n (F.2.2 6 n + 1)))
theorem enL_w (F : FabT) (n q : Nat) {w : Nat} (h5 : w ≠ 5) : (enL F n q).2.2 w = (mvL F n q).2.2 w := by simp [enL, va_up, h5]
theorem rdL_w (F : FabT) (n : Nat) {w : Nat} (h6 : w ≠ 6) : (rdL F n).2.2 w = F.2.2 w := by simp [rdL, va_up, h6]
theorem enL_pk {F : FabT} (h : PK F) (n : Nat) {q : Nat} (hq : q < 5) : PK (enL F n q) := by
  have h2 := mvL_pk h n hq
  exact ⟨h2.1, fun m hm => by rw [enL_w F n q (by decide)]; exact h2.2 m hm⟩
theorem rdL_pk {F : FabT} (h : PK F) (n : Nat) : PK (rdL F n) := ⟨h.1, fun m hm => by rw [rdL_w F n (by decide)]; exact h.2 m hm⟩
def sW (σ : ST) (i : Nat) (F : FabT) (Q B : RowT) : ST := sR (sR (sF σ i F) i Q) 15 B
theorem up_cm {α : Type} {g : Nat → α} {i j : Nat} {a b : α} (h : i ≠ j) : va_up (va_up g i a) j b = va_up (va_up g j b) i a := by
  funext k
  by_cases h1 : k = i
  · subst h1; simp [va_up, h]
  · by_cases h2 : k = j
    · subst h2; simp [va_up, h1]
    · simp [va_up, h1, h2]
theorem sW_F {σ : ST} {i : Nat} {F F' : FabT} {Q B : RowT} : sF (sW σ i F Q B) i F' = sW σ i F' Q B := by simp [sW, sF, sR, bx_uu]
theorem sW_Q {σ : ST} {i : Nat} {F : FabT} {Q Q' B : RowT} (hi : i < 14) : sR (sW σ i F Q B) i Q' = sW σ i F Q' B := by
  simp only [sW, sF, sR]
  rw [up_cm (show i ≠ 15 by omega), up_cm (show 15 ≠ i by omega), up_cm (show i ≠ 15 by omega), bx_uu, up_cm (show i ≠ 15 by omega)]
theorem sW_B {σ : ST} {i : Nat} {F : FabT} {Q B B' : RowT} : sR (sW σ i F Q B) 15 B' = sW σ i F Q B' := by simp [sW, sR, bx_uu]
theorem sW_f {σ : ST} {i : Nat} {F : FabT} {Q B : RowT} : (sW σ i F Q B).1 i = F := by simp [sW, sF, sR, up_s]
theorem sW_q {σ : ST} {i : Nat} {F : FabT} {Q B : RowT} (hi : i < 14) : (sW σ i F Q B).2.1 i = Q := by
  simp only [sW, sR]
  rw [up_n (show i ≠ 15 by omega), up_s]
theorem sW_b {σ : ST} {i : Nat} {F : FabT} {Q B : RowT} : (sW σ i F Q B).2.1 15 = B := by simp [sW, sR, up_s]
theorem sW_w {σ : ST} {i : Nat} {F : FabT} {Q B : RowT} (hi : i < 14) : (sW σ i F Q B).2.1 14 = σ.2.1 14 := by
  simp only [sW, sR]
  rw [up_n (show 14 ≠ 15 by decide), up_n (show 14 ≠ i by omega)]; rfl
theorem rAdd_le {Q : RowT} (h : Q.2 ≤ 64) (x : Nat) : (rAdd Q x).2 ≤ 64 := by
  unfold rAdd
  by_cases e : Q.2 < 64
  · rw [if_pos e]; exact e
  · rw [if_neg e]; exact h
set_option maxHeartbeats 4000000 in
theorem c_X4_endLetter (l : Launch) {E : EnvT} (hE : EOK E) {σ : ST} (i : Nat) (hi : i < 14) (n q : Nat) (hn : n < 64) (hq : q < 5) (hp : ∃ p, p < 5 ∧ (σ.1 i).2.2 0 n = nI p) : Con l E yX4_endLetter cX4_endLetter 4 none 1 22 [.ref (ad E 5 0 0), .ref (ad E 1 i 0), .int (nI (n)), .int (nI (q))] σ (rV (sF σ i (enL (σ.1 i) n q))) := by
  refine con_intro hE (by decide) (Nat.le_of_ble_eq_true rfl) (fun K hkl h hR => ?_)
  subst hkl
  have h : Cx K E cX4_endLetter 4 RX4 1 22 := h
  show GG K E σ 0 [(0, .ref (ad E 5 0 0)), (1, .ref (ad E 1 i 0)), (2, .int (nI (n))), (3, .int (nI (q)))] []
  refine g_aload_n h (q := 1) 1 dX4_endLetter_0 rfl ?_
  refine g_iload_n h (q := 2) 2 dX4_endLetter_1 rfl ?_
  refine g_iload_n h (q := 3) 3 dX4_endLetter_2 rfl ?_
  refine g_callV h mv_X0_moveLetter 1 i 0 (ok_F hi) rfl rfl (As := [.int (nI (n)), .int (nI (q))]) (c_X0_moveLetter (kl K) hE (σ := σ) i hi n q hn hq hp) ml_X4_74 rfl (by decide) (by decide) rfl (Nat.le_of_ble_eq_true rfl) dX4_endLetter_3 (fun v σ9 h9 => ?_)
  rw [h9.1, h9.2]; clear h9
  generalize ht : sF σ i (mvL (σ.1 i) n q) = τ
  refine g_aload_n h (q := 1) 1 dX4_endLetter_6 rfl ?_
  refine g_get h 1 i 0 (ok_F hi) rfl rfl uin_X0 10 (by decide) fl_X4_88 rfl dX4_endLetter_7 ?_
  refine g_iload_n h (q := 2) 2 dX4_endLetter_10 rfl ?_
  refine g_aload_n h (q := 1) 1 dX4_endLetter_11 rfl ?_
  refine g_get h 1 i 0 (ok_F hi) rfl rfl uin_X0 3 (by decide) fl_X4_52 rfl dX4_endLetter_12 ?_
  refine g_astF h i 5 hi (by decide) (n) (show n < 64 by omega) dX4_endLetter_15 (fun σ1 hσ1 => ?_)
  exact g_vret h hR dX4_endLetter_16 (show rV _ _ _ from ⟨rfl, by rw [hσ1, ← ht, sF_sF, sF_at]; rfl⟩)
def lwL (W : RowT) : Nat → Nat → Int32 → Nat → FabT → RowT → RowT → FabT × RowT × RowT
  | 0, _, _, _, F, Q, B => (F, Q, B)
  | m + 1, t, a, s, F, Q, B =>
    if nI (if F.2.2 2 (W.1 t) = a then s + 1 else 0) < F.1 0 ∧ nI Q.2 < F.1 2
    then lwL W m (t + 1) (F.2.2 2 (W.1 t)) (if F.2.2 2 (W.1 t) = a then s + 1 else 0) (mvL F (W.1 t) 2) (rAdd Q (W.1 t)) B
    else lwL W m (t + 1) (F.2.2 2 (W.1 t)) (if F.2.2 2 (W.1 t) = a then s + 1 else 0) F Q (rIns (fun y => gB F (W.1 t) y false) B (W.1 t))
set_option maxHeartbeats 4000000 in
theorem l_X4_letWinnersIn {K : KX} {E : EnvT} (hE : EOK E) (h : Cx K E cX4_letWinnersIn 6 RX4 2 47) {σ : ST} {post : Option Value → ST → Prop} (hR : Rx K E none post) (i : Nat) (hi : i < 14) (hL : (σ.1 i).2.1 ≤ 64) (hW : ROK (σ.1 i).2.1 (σ.2.1 14)) : ∀ m t a s F Q B τ, τ = sW σ i F Q B → t + m = (σ.2.1 14).2 → s ≤ t → PK F → F.2.1 = (σ.1 i).2.1 → Q.2 ≤ 64 → ROK 64 B → post none (sW σ i (lwL (σ.2.1 14) m t a s F Q B).1 (lwL (σ.2.1 14) m t a s F Q B).2.1 (lwL (σ.2.1 14) m t a s F Q B).2.2) → GG K E τ 16 [(0, .ref (ad E 5 0 0)), (1, .ref (ad E 1 i 0)), (2, .int a), (3, .int (nI s)), (4, .int (nI t))] [] := by
  have hW1 := hW.1
  intro m
  induction m with
  | zero =>
    intro t a s F Q B τ ht hm hs hF hFl hQ hB hp
    have eW : τ.2.1 14 = σ.2.1 14 := by rw [ht, sW_w hi]
    refine g_iload h (q := 4) 4 dX4_letWinnersIn_16 rfl ?_
    refine g_aload_n h (q := 0) 0 dX4_letWinnersIn_18 rfl ?_
    refine g_get h 5 0 0 ⟨rfl, rfl⟩ rfl rfl uin_X4 0 (by decide) fl_X4_12 rfl dX4_letWinnersIn_19 ?_
    refine g_get h 3 14 0 (ok_R (by decide)) rfl rfl uin_X2 1 (by decide) fl_X4_21 rfl dX4_letWinnersIn_22 ?_
    refine g_is (nI ((σ.2.1 14).2)) (by rw [eW]) ?_
    refine g_ncmp_ge h (a := t) (b := (σ.2.1 14).2) 125 dX4_letWinnersIn_25 (by decide) (by omega) (by omega) (fun c1 => ?_) (fun c1 => ?_)
    · exact g_vret h hR dX4_letWinnersIn_125 (by rw [ht]; exact hp)
    · exfalso; omega
  | succ m ih =>
    intro t a s F Q B τ ht hm hs hF hFl hQ hB hp
    have eW : τ.2.1 14 = σ.2.1 14 := by rw [ht, sW_w hi]
    have eF : τ.1 i = F := by rw [ht, sW_f]
    have eQ : τ.2.1 i = Q := by rw [ht, sW_q hi]
    have eB : τ.2.1 15 = B := by rw [ht, sW_b]
    have hnL := hW.2 t (by omega)
    obtain ⟨n, hn⟩ : ∃ n, n = (σ.2.1 14).1 t := ⟨_, rfl⟩
    rw [← hn] at hnL
    have hn64 : n < 64 := by omega
    refine g_iload h (q := 4) 4 dX4_letWinnersIn_16 rfl ?_
    refine g_aload_n h (q := 0) 0 dX4_letWinnersIn_18 rfl ?_
    refine g_get h 5 0 0 ⟨rfl, rfl⟩ rfl rfl uin_X4 0 (by decide) fl_X4_12 rfl dX4_letWinnersIn_19 ?_
    refine g_get h 3 14 0 (ok_R (by decide)) rfl rfl uin_X2 1 (by decide) fl_X4_21 rfl dX4_letWinnersIn_22 ?_
    refine g_is (nI ((σ.2.1 14).2)) (by rw [eW]) ?_
    refine g_ncmp_ge h (a := t) (b := (σ.2.1 14).2) 125 dX4_letWinnersIn_25 (by decide) (by omega) (by omega) (fun c1 => ?_) (fun c1 => ?_)
    · exfalso; omega
    · refine g_aload_n h (q := 0) 0 dX4_letWinnersIn_28 rfl ?_
      refine g_get h 5 0 0 ⟨rfl, rfl⟩ rfl rfl uin_X4 0 (by decide) fl_X4_12 rfl dX4_letWinnersIn_29 ?_
      refine g_get h 3 14 0 (ok_R (by decide)) rfl rfl uin_X2 0 (by decide) fl_X4_55 rfl dX4_letWinnersIn_32 ?_
      refine g_iload h (q := 4) 4 dX4_letWinnersIn_35 rfl ?_
      refine g_aldR h 14 (by decide) (t) (by omega) dX4_letWinnersIn_37 ?_
      refine g_is (nI (n)) (by rw [eW, hn]) ?_
      refine g_istore h (q := 5) [(0, .ref (ad E 5 0 0)), (1, .ref (ad E 1 i 0)), (2, .int a), (3, .int (nI (s))), (4, .int (nI (t))), (5, .int (nI (n)))] dX4_letWinnersIn_38 (by decide) rfl ?_
      refine g_aload_n h (q := 1) 1 dX4_letWinnersIn_40 rfl ?_
      refine g_get h 1 i 0 (ok_F hi) rfl rfl uin_X0 7 (by decide) fl_X4_58 rfl dX4_letWinnersIn_41 ?_
      refine g_iload h (q := 5) 5 dX4_letWinnersIn_44 rfl ?_
      refine g_aldF h i 2 hi (by decide) (n) (show n < 64 by omega) dX4_letWinnersIn_46 ?_
      refine g_is (F.2.2 2 n) (by rw [eF]) ?_
      refine g_iload_n h (q := 2) 2 dX4_letWinnersIn_47 rfl ?_
      refine g_icmp_ne h 57 dX4_letWinnersIn_48 (by decide) (fun c2 => ?_) (fun c2 => ?_)
      · refine g_iconst h (v := 0) dX4_letWinnersIn_57 (by decide) ?_
        refine g_istore_n h (q := 3) [(0, .ref (ad E 5 0 0)), (1, .ref (ad E 1 i 0)), (2, .int a), (3, .int 0), (4, .int (nI (t))), (5, .int (nI (n)))] dX4_letWinnersIn_58 (by decide) rfl ?_
        refine g_aload_n h (q := 1) 1 dX4_letWinnersIn_59 rfl ?_
        refine g_get h 1 i 0 (ok_F hi) rfl rfl uin_X0 7 (by decide) fl_X4_58 rfl dX4_letWinnersIn_60 ?_
        refine g_iload h (q := 5) 5 dX4_letWinnersIn_63 rfl ?_
        refine g_aldF h i 2 hi (by decide) (n) (show n < 64 by omega) dX4_letWinnersIn_65 ?_
        refine g_is (F.2.2 2 n) (by rw [eF]) ?_
        refine g_istore_n h (q := 2) [(0, .ref (ad E 5 0 0)), (1, .ref (ad E 1 i 0)), (2, .int (F.2.2 2 n)), (3, .int 0), (4, .int (nI (t))), (5, .int (nI (n)))] dX4_letWinnersIn_66 (by decide) rfl ?_
        refine g_iload_n h (q := 3) 3 dX4_letWinnersIn_67 rfl ?_
        refine g_aload_n h (q := 1) 1 dX4_letWinnersIn_68 rfl ?_
        refine g_get h 1 i 0 (ok_F hi) rfl rfl uin_X0 0 (by decide) fl_X4_61 rfl dX4_letWinnersIn_69 ?_
        refine g_is (F.1 0) (by rw [eF]) ?_
        refine g_icmp_ge h 108 dX4_letWinnersIn_72 (by decide) (fun c3 => ?_) (fun c3 => ?_)
        · refine g_aload_n h (q := 0) 0 dX4_letWinnersIn_108 rfl ?_
          refine g_get h 5 0 0 ⟨rfl, rfl⟩ rfl rfl uin_X4 1 (by decide) fl_X4_18 rfl dX4_letWinnersIn_109 ?_
          refine g_iload h (q := 5) 5 dX4_letWinnersIn_112 rfl ?_
          refine g_aload_n h (q := 1) 1 dX4_letWinnersIn_114 rfl ?_
          refine g_iconst h (v := bI false) dX4_letWinnersIn_115 (by decide) ?_
          refine g_callV h mv_X2_addInOrder 3 15 0 (ok_R (by decide)) rfl rfl (As := [.int (nI (n)), .ref (ad E 1 i 0), .int (bI false)]) (c_X2_addInOrder (kl K) hE (σ := τ) 15 i (by decide) hi n hn64 false (by rw [eB]; exact hB)) ml_X4_34 rfl (by decide) (by decide) rfl (Nat.le_of_ble_eq_true rfl) dX4_letWinnersIn_116 (fun v σ9 h9 => ?_)
          rw [h9.1, h9.2]; clear h9
          rw [eB, eF]
          generalize ht4 : sR τ 15 (rIns (fun y => gB F n y false) B n) = τ4
          refine g_iinc h (q := 4) (v := nI (t + 1)) 4 [(0, .ref (ad E 5 0 0)), (1, .ref (ad E 1 i 0)), (2, .int (F.2.2 2 n)), (3, .int 0), (4, .int (nI (t + 1))), (5, .int (nI (n)))] dX4_letWinnersIn_119 rfl (nI_inc t 1) (by decide) rfl ?_
          refine g_goto h 16 dX4_letWinnersIn_122 (by decide) ?_
          refine g_sub [(0, .ref (ad E 5 0 0)), (1, .ref (ad E 1 i 0)), (2, .int (F.2.2 2 n)), (3, .int (nI (0))), (4, .int (nI (t + 1)))] [0, 1, 2, 3, 4] rfl ?_
          refine ih (t + 1) (F.2.2 2 n) (0) F Q (rIns (fun y => gB F n y false) B n) τ4 (by rw [← ht4, ht, sW_B]) (by omega) (by omega) hF hFl hQ (rIns_ok hB hn64) ?_
          have e : lwL (σ.2.1 14) (m + 1) t a s F Q B = lwL (σ.2.1 14) m (t + 1) (F.2.2 2 n) (0) F Q (rIns (fun y => gB F n y false) B n) := by rw [lwL, ← hn, if_neg c2, if_neg (fun q => by first | exact absurd q.1 (i_nlt c3) | exact absurd q.2 (i_nlt c4))]
          rw [e] at hp
          exact hp
        · refine g_aload_n h (q := 1) 1 dX4_letWinnersIn_75 rfl ?_
          refine g_get h 1 i 0 (ok_F hi) rfl rfl uin_X0 13 (by decide) fl_X4_64 rfl dX4_letWinnersIn_76 ?_
          refine g_get h 3 i 0 (ok_R (by omega)) rfl rfl uin_X2 1 (by decide) fl_X4_21 rfl dX4_letWinnersIn_79 ?_
          refine g_is (nI (Q.2)) (by rw [eQ]) ?_
          refine g_aload_n h (q := 1) 1 dX4_letWinnersIn_82 rfl ?_
          refine g_get h 1 i 0 (ok_F hi) rfl rfl uin_X0 2 (by decide) fl_X4_67 rfl dX4_letWinnersIn_83 ?_
          refine g_is (F.1 2) (by rw [eF]) ?_
          refine g_icmp_ge h 108 dX4_letWinnersIn_86 (by decide) (fun c4 => ?_) (fun c4 => ?_)
          · refine g_aload_n h (q := 0) 0 dX4_letWinnersIn_108 rfl ?_
            refine g_get h 5 0 0 ⟨rfl, rfl⟩ rfl rfl uin_X4 1 (by decide) fl_X4_18 rfl dX4_letWinnersIn_109 ?_
            refine g_iload h (q := 5) 5 dX4_letWinnersIn_112 rfl ?_
            refine g_aload_n h (q := 1) 1 dX4_letWinnersIn_114 rfl ?_
            refine g_iconst h (v := bI false) dX4_letWinnersIn_115 (by decide) ?_
            refine g_callV h mv_X2_addInOrder 3 15 0 (ok_R (by decide)) rfl rfl (As := [.int (nI (n)), .ref (ad E 1 i 0), .int (bI false)]) (c_X2_addInOrder (kl K) hE (σ := τ) 15 i (by decide) hi n hn64 false (by rw [eB]; exact hB)) ml_X4_34 rfl (by decide) (by decide) rfl (Nat.le_of_ble_eq_true rfl) dX4_letWinnersIn_116 (fun v σ9 h9 => ?_)
            rw [h9.1, h9.2]; clear h9
            rw [eB, eF]
            generalize ht4 : sR τ 15 (rIns (fun y => gB F n y false) B n) = τ4
            refine g_iinc h (q := 4) (v := nI (t + 1)) 4 [(0, .ref (ad E 5 0 0)), (1, .ref (ad E 1 i 0)), (2, .int (F.2.2 2 n)), (3, .int 0), (4, .int (nI (t + 1))), (5, .int (nI (n)))] dX4_letWinnersIn_119 rfl (nI_inc t 1) (by decide) rfl ?_
            refine g_goto h 16 dX4_letWinnersIn_122 (by decide) ?_
            refine g_sub [(0, .ref (ad E 5 0 0)), (1, .ref (ad E 1 i 0)), (2, .int (F.2.2 2 n)), (3, .int (nI (0))), (4, .int (nI (t + 1)))] [0, 1, 2, 3, 4] rfl ?_
            refine ih (t + 1) (F.2.2 2 n) (0) F Q (rIns (fun y => gB F n y false) B n) τ4 (by rw [← ht4, ht, sW_B]) (by omega) (by omega) hF hFl hQ (rIns_ok hB hn64) ?_
            have e : lwL (σ.2.1 14) (m + 1) t a s F Q B = lwL (σ.2.1 14) m (t + 1) (F.2.2 2 n) (0) F Q (rIns (fun y => gB F n y false) B n) := by rw [lwL, ← hn, if_neg c2, if_neg (fun q => by first | exact absurd q.1 (i_nlt c3) | exact absurd q.2 (i_nlt c4))]
            rw [e] at hp
            exact hp
          · refine g_aload_n h (q := 1) 1 dX4_letWinnersIn_89 rfl ?_
            refine g_get h 1 i 0 (ok_F hi) rfl rfl uin_X0 13 (by decide) fl_X4_64 rfl dX4_letWinnersIn_90 ?_
            refine g_iload h (q := 5) 5 dX4_letWinnersIn_93 rfl ?_
            refine g_callV h mv_X2_add 3 i 0 (ok_R (by omega)) rfl rfl (As := [.int (nI (n))]) (c_X2_add (kl K) hE (σ := τ) i (by omega) (by rw [eQ]; exact hQ) n) ml_X4_70 rfl (by decide) (by decide) rfl (Nat.le_of_ble_eq_true rfl) dX4_letWinnersIn_95 (fun v σ9 h9 => ?_)
            rw [h9.1, h9.2]; clear h9
            rw [eQ]
            generalize ht2 : sR τ i (rAdd Q n) = τ2
            have eF2 : τ2.1 i = F := by rw [← ht2, ← eF]; rfl
            refine g_aload_n h (q := 1) 1 dX4_letWinnersIn_98 rfl ?_
            refine g_iload h (q := 5) 5 dX4_letWinnersIn_99 rfl ?_
            refine g_iconst h (v := 2) dX4_letWinnersIn_101 (by decide) ?_
            refine g_callV h mv_X0_moveLetter 1 i 0 (ok_F hi) rfl rfl (As := [.int (nI (n)), .int 2]) (c_X0_moveLetter (kl K) hE (σ := τ2) i hi n 2 hn64 (by decide) (by rw [eF2]; exact hF.2 n (by omega))) ml_X4_74 rfl (by decide) (by decide) rfl (Nat.le_of_ble_eq_true rfl) dX4_letWinnersIn_102 (fun v σ9 h9 => ?_)
            rw [h9.1, h9.2]; clear h9
            rw [eF2]
            generalize ht3 : sF τ2 i (mvL F n 2) = τ3
            refine g_goto h 119 dX4_letWinnersIn_105 (by decide) ?_
            refine g_iinc h (q := 4) (v := nI (t + 1)) 4 [(0, .ref (ad E 5 0 0)), (1, .ref (ad E 1 i 0)), (2, .int (F.2.2 2 n)), (3, .int 0), (4, .int (nI (t + 1))), (5, .int (nI (n)))] dX4_letWinnersIn_119 rfl (nI_inc t 1) (by decide) rfl ?_
            refine g_goto h 16 dX4_letWinnersIn_122 (by decide) ?_
            refine g_sub [(0, .ref (ad E 5 0 0)), (1, .ref (ad E 1 i 0)), (2, .int (F.2.2 2 n)), (3, .int (nI (0))), (4, .int (nI (t + 1)))] [0, 1, 2, 3, 4] rfl ?_
            refine ih (t + 1) (F.2.2 2 n) (0) (mvL F n 2) (rAdd Q n) B τ3 (by rw [← ht3, ← ht2, ht, sW_Q hi, sW_F]) (by omega) (by omega) (mvL_pk hF n (by decide)) hFl (rAdd_le hQ n) hB ?_
            have e : lwL (σ.2.1 14) (m + 1) t a s F Q B = lwL (σ.2.1 14) m (t + 1) (F.2.2 2 n) (0) (mvL F n 2) (rAdd Q n) B := by rw [lwL, ← hn, if_neg c2, if_pos ⟨i_lt c3, i_lt c4⟩]
            rw [e] at hp
            exact hp
      · refine g_iload_n h (q := 3) 3 dX4_letWinnersIn_51 rfl ?_
        refine g_iconst h (v := 1) dX4_letWinnersIn_52 (by decide) ?_
        refine g_iadd h dX4_letWinnersIn_53 ?_
        refine g_is (nI (s + 1)) (nI_add s 1) ?_
        refine g_goto h 58 dX4_letWinnersIn_54 (by decide) ?_
        refine g_istore_n h (q := 3) [(0, .ref (ad E 5 0 0)), (1, .ref (ad E 1 i 0)), (2, .int a), (3, .int (nI (s + 1))), (4, .int (nI (t))), (5, .int (nI (n)))] dX4_letWinnersIn_58 (by decide) rfl ?_
        refine g_aload_n h (q := 1) 1 dX4_letWinnersIn_59 rfl ?_
        refine g_get h 1 i 0 (ok_F hi) rfl rfl uin_X0 7 (by decide) fl_X4_58 rfl dX4_letWinnersIn_60 ?_
        refine g_iload h (q := 5) 5 dX4_letWinnersIn_63 rfl ?_
        refine g_aldF h i 2 hi (by decide) (n) (show n < 64 by omega) dX4_letWinnersIn_65 ?_
        refine g_is (F.2.2 2 n) (by rw [eF]) ?_
        refine g_istore_n h (q := 2) [(0, .ref (ad E 5 0 0)), (1, .ref (ad E 1 i 0)), (2, .int (F.2.2 2 n)), (3, .int (nI (s + 1))), (4, .int (nI (t))), (5, .int (nI (n)))] dX4_letWinnersIn_66 (by decide) rfl ?_
        refine g_iload_n h (q := 3) 3 dX4_letWinnersIn_67 rfl ?_
        refine g_aload_n h (q := 1) 1 dX4_letWinnersIn_68 rfl ?_
        refine g_get h 1 i 0 (ok_F hi) rfl rfl uin_X0 0 (by decide) fl_X4_61 rfl dX4_letWinnersIn_69 ?_
        refine g_is (F.1 0) (by rw [eF]) ?_
        refine g_icmp_ge h 108 dX4_letWinnersIn_72 (by decide) (fun c3 => ?_) (fun c3 => ?_)
        · refine g_aload_n h (q := 0) 0 dX4_letWinnersIn_108 rfl ?_
          refine g_get h 5 0 0 ⟨rfl, rfl⟩ rfl rfl uin_X4 1 (by decide) fl_X4_18 rfl dX4_letWinnersIn_109 ?_
          refine g_iload h (q := 5) 5 dX4_letWinnersIn_112 rfl ?_
          refine g_aload_n h (q := 1) 1 dX4_letWinnersIn_114 rfl ?_
          refine g_iconst h (v := bI false) dX4_letWinnersIn_115 (by decide) ?_
          refine g_callV h mv_X2_addInOrder 3 15 0 (ok_R (by decide)) rfl rfl (As := [.int (nI (n)), .ref (ad E 1 i 0), .int (bI false)]) (c_X2_addInOrder (kl K) hE (σ := τ) 15 i (by decide) hi n hn64 false (by rw [eB]; exact hB)) ml_X4_34 rfl (by decide) (by decide) rfl (Nat.le_of_ble_eq_true rfl) dX4_letWinnersIn_116 (fun v σ9 h9 => ?_)
          rw [h9.1, h9.2]; clear h9
          rw [eB, eF]
          generalize ht4 : sR τ 15 (rIns (fun y => gB F n y false) B n) = τ4
          refine g_iinc h (q := 4) (v := nI (t + 1)) 4 [(0, .ref (ad E 5 0 0)), (1, .ref (ad E 1 i 0)), (2, .int (F.2.2 2 n)), (3, .int (nI (s + 1))), (4, .int (nI (t + 1))), (5, .int (nI (n)))] dX4_letWinnersIn_119 rfl (nI_inc t 1) (by decide) rfl ?_
          refine g_goto h 16 dX4_letWinnersIn_122 (by decide) ?_
          refine g_sub [(0, .ref (ad E 5 0 0)), (1, .ref (ad E 1 i 0)), (2, .int (F.2.2 2 n)), (3, .int (nI (s + 1))), (4, .int (nI (t + 1)))] [0, 1, 2, 3, 4] rfl ?_
          refine ih (t + 1) (F.2.2 2 n) (s + 1) F Q (rIns (fun y => gB F n y false) B n) τ4 (by rw [← ht4, ht, sW_B]) (by omega) (by omega) hF hFl hQ (rIns_ok hB hn64) ?_
          have e : lwL (σ.2.1 14) (m + 1) t a s F Q B = lwL (σ.2.1 14) m (t + 1) (F.2.2 2 n) (s + 1) F Q (rIns (fun y => gB F n y false) B n) := by rw [lwL, ← hn, if_pos c2, if_neg (fun q => by first | exact absurd q.1 (i_nlt c3) | exact absurd q.2 (i_nlt c4))]
          rw [e] at hp
          exact hp
        · refine g_aload_n h (q := 1) 1 dX4_letWinnersIn_75 rfl ?_
          refine g_get h 1 i 0 (ok_F hi) rfl rfl uin_X0 13 (by decide) fl_X4_64 rfl dX4_letWinnersIn_76 ?_
          refine g_get h 3 i 0 (ok_R (by omega)) rfl rfl uin_X2 1 (by decide) fl_X4_21 rfl dX4_letWinnersIn_79 ?_
          refine g_is (nI (Q.2)) (by rw [eQ]) ?_
          refine g_aload_n h (q := 1) 1 dX4_letWinnersIn_82 rfl ?_
          refine g_get h 1 i 0 (ok_F hi) rfl rfl uin_X0 2 (by decide) fl_X4_67 rfl dX4_letWinnersIn_83 ?_
          refine g_is (F.1 2) (by rw [eF]) ?_
          refine g_icmp_ge h 108 dX4_letWinnersIn_86 (by decide) (fun c4 => ?_) (fun c4 => ?_)
          · refine g_aload_n h (q := 0) 0 dX4_letWinnersIn_108 rfl ?_
            refine g_get h 5 0 0 ⟨rfl, rfl⟩ rfl rfl uin_X4 1 (by decide) fl_X4_18 rfl dX4_letWinnersIn_109 ?_
            refine g_iload h (q := 5) 5 dX4_letWinnersIn_112 rfl ?_
            refine g_aload_n h (q := 1) 1 dX4_letWinnersIn_114 rfl ?_
            refine g_iconst h (v := bI false) dX4_letWinnersIn_115 (by decide) ?_
            refine g_callV h mv_X2_addInOrder 3 15 0 (ok_R (by decide)) rfl rfl (As := [.int (nI (n)), .ref (ad E 1 i 0), .int (bI false)]) (c_X2_addInOrder (kl K) hE (σ := τ) 15 i (by decide) hi n hn64 false (by rw [eB]; exact hB)) ml_X4_34 rfl (by decide) (by decide) rfl (Nat.le_of_ble_eq_true rfl) dX4_letWinnersIn_116 (fun v σ9 h9 => ?_)
            rw [h9.1, h9.2]; clear h9
            rw [eB, eF]
            generalize ht4 : sR τ 15 (rIns (fun y => gB F n y false) B n) = τ4
            refine g_iinc h (q := 4) (v := nI (t + 1)) 4 [(0, .ref (ad E 5 0 0)), (1, .ref (ad E 1 i 0)), (2, .int (F.2.2 2 n)), (3, .int (nI (s + 1))), (4, .int (nI (t + 1))), (5, .int (nI (n)))] dX4_letWinnersIn_119 rfl (nI_inc t 1) (by decide) rfl ?_
            refine g_goto h 16 dX4_letWinnersIn_122 (by decide) ?_
            refine g_sub [(0, .ref (ad E 5 0 0)), (1, .ref (ad E 1 i 0)), (2, .int (F.2.2 2 n)), (3, .int (nI (s + 1))), (4, .int (nI (t + 1)))] [0, 1, 2, 3, 4] rfl ?_
            refine ih (t + 1) (F.2.2 2 n) (s + 1) F Q (rIns (fun y => gB F n y false) B n) τ4 (by rw [← ht4, ht, sW_B]) (by omega) (by omega) hF hFl hQ (rIns_ok hB hn64) ?_
            have e : lwL (σ.2.1 14) (m + 1) t a s F Q B = lwL (σ.2.1 14) m (t + 1) (F.2.2 2 n) (s + 1) F Q (rIns (fun y => gB F n y false) B n) := by rw [lwL, ← hn, if_pos c2, if_neg (fun q => by first | exact absurd q.1 (i_nlt c3) | exact absurd q.2 (i_nlt c4))]
            rw [e] at hp
            exact hp
          · refine g_aload_n h (q := 1) 1 dX4_letWinnersIn_89 rfl ?_
            refine g_get h 1 i 0 (ok_F hi) rfl rfl uin_X0 13 (by decide) fl_X4_64 rfl dX4_letWinnersIn_90 ?_
            refine g_iload h (q := 5) 5 dX4_letWinnersIn_93 rfl ?_
            refine g_callV h mv_X2_add 3 i 0 (ok_R (by omega)) rfl rfl (As := [.int (nI (n))]) (c_X2_add (kl K) hE (σ := τ) i (by omega) (by rw [eQ]; exact hQ) n) ml_X4_70 rfl (by decide) (by decide) rfl (Nat.le_of_ble_eq_true rfl) dX4_letWinnersIn_95 (fun v σ9 h9 => ?_)
            rw [h9.1, h9.2]; clear h9
            rw [eQ]
            generalize ht2 : sR τ i (rAdd Q n) = τ2
            have eF2 : τ2.1 i = F := by rw [← ht2, ← eF]; rfl
            refine g_aload_n h (q := 1) 1 dX4_letWinnersIn_98 rfl ?_
            refine g_iload h (q := 5) 5 dX4_letWinnersIn_99 rfl ?_
            refine g_iconst h (v := 2) dX4_letWinnersIn_101 (by decide) ?_
            refine g_callV h mv_X0_moveLetter 1 i 0 (ok_F hi) rfl rfl (As := [.int (nI (n)), .int 2]) (c_X0_moveLetter (kl K) hE (σ := τ2) i hi n 2 hn64 (by decide) (by rw [eF2]; exact hF.2 n (by omega))) ml_X4_74 rfl (by decide) (by decide) rfl (Nat.le_of_ble_eq_true rfl) dX4_letWinnersIn_102 (fun v σ9 h9 => ?_)
            rw [h9.1, h9.2]; clear h9
            rw [eF2]
            generalize ht3 : sF τ2 i (mvL F n 2) = τ3
            refine g_goto h 119 dX4_letWinnersIn_105 (by decide) ?_
            refine g_iinc h (q := 4) (v := nI (t + 1)) 4 [(0, .ref (ad E 5 0 0)), (1, .ref (ad E 1 i 0)), (2, .int (F.2.2 2 n)), (3, .int (nI (s + 1))), (4, .int (nI (t + 1))), (5, .int (nI (n)))] dX4_letWinnersIn_119 rfl (nI_inc t 1) (by decide) rfl ?_
            refine g_goto h 16 dX4_letWinnersIn_122 (by decide) ?_
            refine g_sub [(0, .ref (ad E 5 0 0)), (1, .ref (ad E 1 i 0)), (2, .int (F.2.2 2 n)), (3, .int (nI (s + 1))), (4, .int (nI (t + 1)))] [0, 1, 2, 3, 4] rfl ?_
            refine ih (t + 1) (F.2.2 2 n) (s + 1) (mvL F n 2) (rAdd Q n) B τ3 (by rw [← ht3, ← ht2, ht, sW_Q hi, sW_F]) (by omega) (by omega) (mvL_pk hF n (by decide)) hFl (rAdd_le hQ n) hB ?_
            have e : lwL (σ.2.1 14) (m + 1) t a s F Q B = lwL (σ.2.1 14) m (t + 1) (F.2.2 2 n) (s + 1) (mvL F n 2) (rAdd Q n) B := by rw [lwL, ← hn, if_pos c2, if_pos ⟨i_lt c3, i_lt c4⟩]
            rw [e] at hp
            exact hp
set_option maxHeartbeats 4000000 in
theorem c_X4_letWinnersIn (l : Launch) {E : EnvT} (hE : EOK E) {σ : ST} (i : Nat) (hi : i < 14) (hF : PK (σ.1 i)) (hW : ROK (σ.1 i).2.1 (σ.2.1 14)) (hQ : (σ.2.1 i).2 ≤ 64) : Con l E yX4_letWinnersIn cX4_letWinnersIn 6 none 2 47 [.ref (ad E 5 0 0), .ref (ad E 1 i 0)] σ (rV (sW σ i (lwL (σ.2.1 14) (σ.2.1 14).2 0 (-9) 0 (σ.1 i) (σ.2.1 i) ((σ.2.1 15).1, 0)).1 (lwL (σ.2.1 14) (σ.2.1 14).2 0 (-9) 0 (σ.1 i) (σ.2.1 i) ((σ.2.1 15).1, 0)).2.1 (lwL (σ.2.1 14) (σ.2.1 14).2 0 (-9) 0 (σ.1 i) (σ.2.1 i) ((σ.2.1 15).1, 0)).2.2)) := by
  refine con_intro hE (by decide) (Nat.le_of_ble_eq_true rfl) (fun K hkl h hR => ?_)
  subst hkl
  have h : Cx K E cX4_letWinnersIn 6 RX4 2 47 := h
  show GG K E σ 0 [(0, .ref (ad E 5 0 0)), (1, .ref (ad E 1 i 0))] []
  refine g_aload_n h (q := 0) 0 dX4_letWinnersIn_0 rfl ?_
  refine g_get h 5 0 0 ⟨rfl, rfl⟩ rfl rfl uin_X4 1 (by decide) fl_X4_18 rfl dX4_letWinnersIn_1 ?_
  refine g_iconst h (v := 0) dX4_letWinnersIn_4 (by decide) ?_
  refine g_putRs h 15 (by decide) (m := 0) fl_X4_21 dX4_letWinnersIn_5 (fun σ1 hσ1 => ?_)
  refine g_bipush h (v := (-9)) dX4_letWinnersIn_8 (by decide) ?_
  refine g_istore_n h (q := 2) [(0, .ref (ad E 5 0 0)), (1, .ref (ad E 1 i 0)), (2, .int ((-9)))] dX4_letWinnersIn_10 (by decide) rfl ?_
  refine g_iconst h (v := 0) dX4_letWinnersIn_11 (by decide) ?_
  refine g_istore_n h (q := 3) [(0, .ref (ad E 5 0 0)), (1, .ref (ad E 1 i 0)), (2, .int ((-9))), (3, .int 0)] dX4_letWinnersIn_12 (by decide) rfl ?_
  refine g_iconst h (v := 0) dX4_letWinnersIn_13 (by decide) ?_
  refine g_istore h (q := 4) [(0, .ref (ad E 5 0 0)), (1, .ref (ad E 1 i 0)), (2, .int ((-9))), (3, .int 0), (4, .int 0)] dX4_letWinnersIn_14 (by decide) rfl ?_
  exact l_X4_letWinnersIn (σ := σ) hE h hR i hi hF.1 hW _ 0 (-9) 0 (σ.1 i) (σ.2.1 i) ((σ.2.1 15).1, 0) σ1 (by rw [hσ1]; simp only [sW, sF, sR, up_id]) (Nat.zero_add _) (Nat.le_refl _) hF rfl hQ ⟨Nat.zero_le _, fun t q => absurd q (Nat.not_lt_zero t)⟩ ⟨rfl, rfl⟩
