section RMM
variable {K : KX} {E : EnvT} {cc : ByteArray} {nL : Nat} {own : String} {f n : Nat} {σ : ST} {M : MT} {pc : Nat} {lv : List (Nat × Value)} {rest : List Value}
theorem g_gMc (h : Cx K E cc nL own f n) (w : Nat) (hw : w < 4) {index : Nat} (hl : Cond.fieldLink own index (TX6 w).1 (TX6 w).2.1 (TX6 w).2.2.1 ∈ gtb) (hd : decode cc pc = .ok (.getfield index, 3)) (kk : GG K E (sM σ M) (pc + 3) lv (.int (M.1 w) :: rest)) : GG K E (sM σ M) pc lv (.ref (ad E 11 0 0) :: rest) := by
  have hc : w = 0 ∨ w = 1 ∨ w = 2 ∨ w = 3 := by omega
  refine g_get h 11 0 0 ⟨rfl, rfl⟩ rfl rfl uin_X6 w (by omega) hl ?_ hd kk
  rcases hc with rfl | rfl | rfl | rfl <;> rfl
theorem g_gMn (h : Cx K E cc nL own f n) (w : Nat) (hw : w < 5) {index : Nat} (hl : Cond.fieldLink own index (TX6 (mns w)).1 (TX6 (mns w)).2.1 (TX6 (mns w)).2.2.1 ∈ gtb) (hd : decode cc pc = .ok (.getfield index, 3)) (kk : GG K E (sM σ M) (pc + 3) lv (.int (nI (M.2.1 w)) :: rest)) : GG K E (sM σ M) pc lv (.ref (ad E 11 0 0) :: rest) := by
  have hc : w = 0 ∨ w = 1 ∨ w = 2 ∨ w = 3 ∨ w = 4 := by omega
  refine g_get h 11 0 0 ⟨rfl, rfl⟩ rfl rfl uin_X6 (mns w) ?_ hl ?_ hd kk
  · rcases hc with rfl | rfl | rfl | rfl | rfl <;> decide
  · rcases hc with rfl | rfl | rfl | rfl | rfl <;> rfl
def mas (j : Nat) : Nat := match j with
  | 0 => 6
  | 1 => 7
  | 2 => 8
  | 3 => 12
  | 4 => 13
  | 5 => 14
  | 6 => 16
  | _ => 17
theorem g_gMa (h : Cx K E cc nL own f n) (j : Nat) (hj : j < 8) {index : Nat} (hl : Cond.fieldLink own index (TX6 (mas j)).1 (TX6 (mas j)).2.1 (TX6 (mas j)).2.2.1 ∈ gtb) (hd : decode cc pc = .ok (.getfield index, 3)) (kk : GG K E (sM σ M) (pc + 3) lv (.ref (ad E 12 0 j) :: rest)) : GG K E (sM σ M) pc lv (.ref (ad E 11 0 0) :: rest) := by
  have hc : j = 0 ∨ j = 1 ∨ j = 2 ∨ j = 3 ∨ j = 4 ∨ j = 5 ∨ j = 6 ∨ j = 7 := by omega
  refine g_get h 11 0 0 ⟨rfl, rfl⟩ rfl rfl uin_X6 (mas j) ?_ hl ?_ hd kk
  · rcases hc with rfl | rfl | rfl | rfl | rfl | rfl | rfl | rfl <;> decide
  · rcases hc with rfl | rfl | rfl | rfl | rfl | rfl | rfl | rfl <;> rfl
theorem g_gMo (h : Cx K E cc nL own f n) {index : Nat} (hl : Cond.fieldLink own index (TX6 11).1 (TX6 11).2.1 (TX6 11).2.2.1 ∈ gtb) (hd : decode cc pc = .ok (.getfield index, 3)) (kk : GG K E (sM σ M) (pc + 3) lv (.ref (ad E 13 0 0) :: rest)) : GG K E (sM σ M) pc lv (.ref (ad E 11 0 0) :: rest) :=
  g_get h 11 0 0 ⟨rfl, rfl⟩ rfl rfl uin_X6 11 (by decide) hl rfl hd kk
theorem g_pMc (h : Cx K E cc nL own f n) (w : Nat) (hw : w < 4) {index : Nat} {x : Int32} (hl : Cond.fieldLink own index (TX6 w).1 (TX6 w).2.1 (TX6 w).2.2.1 ∈ gtb) (hd : decode cc pc = .ok (.putfield index, 3)) (kk : ∀ M', M' = (va_up M.1 w x, M.2) → GG K E (sM σ M') (pc + 3) lv rest) : GG K E (sM σ M) pc lv (.int x :: .ref (ad E 11 0 0) :: rest) :=
  g_putMc h w hw hl hd (fun σ' e => by rw [e]; exact kk _ rfl)
theorem g_pMn (h : Cx K E cc nL own f n) (w : Nat) (hw : w < 5) {index m : Nat} (hl : Cond.fieldLink own index (TX6 (mns w)).1 (TX6 (mns w)).2.1 (TX6 (mns w)).2.2.1 ∈ gtb) (hd : decode cc pc = .ok (.putfield index, 3)) (kk : ∀ M', M' = (M.1, va_up M.2.1 w m, M.2.2) → GG K E (sM σ M') (pc + 3) lv rest) : GG K E (sM σ M) pc lv (.int (nI m) :: .ref (ad E 11 0 0) :: rest) :=
  g_putMn h w hw hl hd (fun σ' e => by rw [e]; exact kk _ rfl)
theorem g_lM (h : Cx K E cc nL own f n) (j : Nat) (hj : j < 8) (t : Nat) (ht : t < mlen j) (hd : decode cc pc = .ok (.iaload, 1)) (kk : GG K E (sM σ M) (pc + 1) lv (.int (M.2.2.1 j t) :: rest)) : GG K E (sM σ M) pc lv (.int (nI t) :: .ref (ad E 12 0 j) :: rest) := g_aldM h j hj t ht hd kk
theorem g_lO (h : Cx K E cc nL own f n) (t : Nat) (ht : t < 64) (hd : decode cc pc = .ok (.iaload, 1)) (kk : GG K E (sM σ M) (pc + 1) lv (.int (nI (M.2.2.2 t)) :: rest)) : GG K E (sM σ M) pc lv (.int (nI t) :: .ref (ad E 13 0 0) :: rest) := g_aldO h t ht hd kk
theorem g_sA (h : Cx K E cc nL own f n) (j : Nat) (hj : j < 8) (t : Nat) (ht : t < mlen j) {x : Int32} (hd : decode cc pc = .ok (.iastore, 1)) (kk : ∀ M', M' = (M.1, M.2.1, va_up M.2.2.1 j (upd (M.2.2.1 j) t x), M.2.2.2) → GG K E (sM σ M') (pc + 1) lv rest) : GG K E (sM σ M) pc lv (.int x :: .int (nI t) :: .ref (ad E 12 0 j) :: rest) :=
  g_astM h j hj t ht hd (fun σ' e => by rw [e]; exact kk _ rfl)
theorem g_sO (h : Cx K E cc nL own f n) (t : Nat) (ht : t < 64) {m : Nat} (hd : decode cc pc = .ok (.iastore, 1)) (kk : ∀ M', M' = (M.1, M.2.1, M.2.2.1, va_up M.2.2.2 t m) → GG K E (sM σ M') (pc + 1) lv rest) : GG K E (sM σ M) pc lv (.int (nI m) :: .int (nI t) :: .ref (ad E 13 0 0) :: rest) :=
  g_astO h t ht hd (fun σ' e => by rw [e]; exact kk _ rfl)
end RMM
def mOf (M : MT) (n w : Nat) : Int32 := M.2.2.1 0 (8 * n + w)
def mSet (M : MT) (n w : Nat) (v : Int32) : MT := (M.1, M.2.1, va_up M.2.2.1 0 (upd (M.2.2.1 0) (8 * n + w) v), M.2.2.2)
set_option maxHeartbeats 4000000 in
theorem c_X6_in (l : Launch) {E : EnvT} (hE : EOK E) {σ : ST} {M : MT} (x lo hi : Int32) : Con l E yX6_in cX6_in 3 (some .boolean) 0 0 [.int x, .int lo, .int hi] (sM σ M) (rI (bI (wi x lo hi)) (sM σ M)) := by
  refine con_intro hE (by decide) (Nat.le_of_ble_eq_true rfl) (fun K hkl h hR => ?_)
  subst hkl
  have h : Cx K E cX6_in 3 RX6 0 0 := h
  show GG K E (sM σ M) 0 [(0, .int x), (1, .int lo), (2, .int hi)] []
  refine g_iload_n h (q := 0) 0 dX6_in_0 rfl ?_
  refine g_iload_n h (q := 1) 1 dX6_in_1 rfl ?_
  refine g_icmp_lt h 14 dX6_in_2 (by decide) (fun c1 => ?_) (fun c1 => ?_)
  · refine g_iconst h (v := 0) dX6_in_14 (by decide) ?_
    exact g_zret h hR dX6_in_15 (by decide) (show rI _ _ _ _ from ⟨by rw [show wi x lo hi = false by simp [wi, Int32.not_le.mpr c1]]; rfl, rfl⟩)
  · refine g_iload_n h (q := 0) 0 dX6_in_5 rfl ?_
    refine g_iload_n h (q := 2) 2 dX6_in_6 rfl ?_
    refine g_icmp_gt h 14 dX6_in_7 (by decide) (fun c2 => ?_) (fun c2 => ?_)
    · refine g_iconst h (v := 0) dX6_in_14 (by decide) ?_
      exact g_zret h hR dX6_in_15 (by decide) (show rI _ _ _ _ from ⟨by rw [show wi x lo hi = false by simp [wi, i_le c1, Int32.not_le.mpr c2]]; rfl, rfl⟩)
    · refine g_iconst h (v := 1) dX6_in_10 (by decide) ?_
      refine g_goto h 15 dX6_in_11 (by decide) ?_
      exact g_zret h hR dX6_in_15 (by decide) (show rI _ _ _ _ from ⟨by rw [show wi x lo hi = true by simp [wi, i_le c1, i_le c2]]; rfl, rfl⟩)
set_option maxHeartbeats 4000000 in
theorem c_X6_isLine (l : Launch) {E : EnvT} (hE : EOK E) {σ : ST} {M : MT} (x : Int32) : Con l E yX6_isLine cX6_isLine 1 (some .boolean) 1 22 [.int x] (sM σ M) (rI (bI (wi x 0 7)) (sM σ M)) := by
  refine con_intro hE (by decide) (Nat.le_of_ble_eq_true rfl) (fun K hkl h hR => ?_)
  subst hkl
  have h : Cx K E cX6_isLine 1 RX6 1 22 := h
  show GG K E (sM σ M) 0 [(0, .int x)] []
  refine g_iload_n h (q := 0) 0 dX6_isLine_0 rfl ?_
  refine g_iconst h (v := 0) dX6_isLine_1 (by decide) ?_
  refine g_bipush h (v := 7) dX6_isLine_2 (by decide) ?_
  refine g_callS h ms_X6_in (As := [.int x, .int 0, .int 7]) (c_X6_in (kl K) hE (σ := σ) (M := M) x 0 7) ml_X6_63 rfl (by decide) (by decide) rfl (Nat.le_of_ble_eq_true rfl) dX6_isLine_4 (fun v σ9 h9 => ?_)
  rw [h9.1, h9.2]; clear h9
  exact g_zret h hR dX6_isLine_7 (bI_nar _) (⟨rfl, rfl⟩)
set_option maxHeartbeats 4000000 in
theorem c_X6_of (l : Launch) {E : EnvT} (hE : EOK E) {σ : ST} {M : MT} (n w : Nat) (hn : n < 64) (hw : w < 8) : Con l E yX6_of cX6_of 3 (some .int) 0 0 [.ref (ad E 11 0 0), .int (nI (n)), .int (nI (w))] (sM σ M) (rI (mOf M n w) (sM σ M)) := by
  refine con_intro hE (by decide) (Nat.le_of_ble_eq_true rfl) (fun K hkl h hR => ?_)
  subst hkl
  have h : Cx K E cX6_of 3 RX6 0 0 := h
  show GG K E (sM σ M) 0 [(0, .ref (ad E 11 0 0)), (1, .int (nI (n))), (2, .int (nI (w)))] []
  refine g_aload_n h (q := 0) 0 dX6_of_0 rfl ?_
  refine g_gMa h 0 (by decide) fl_X6_19 dX6_of_1 ?_
  refine g_bipush h (v := 8) dX6_of_4 (by decide) ?_
  refine g_iload_n h (q := 1) 1 dX6_of_6 rfl ?_
  refine g_imul h dX6_of_7 ?_
  refine g_is (nI (8 * n)) (pk_mul 8 n) ?_
  refine g_iload_n h (q := 2) 2 dX6_of_8 rfl ?_
  refine g_iadd h dX6_of_9 ?_
  refine g_is (nI ((8 * n) + w)) (nI_add (8 * n) w) ?_
  refine g_lM h 0 (by decide) ((8 * n) + w) (show (8 * n) + w < 512 by omega) dX6_of_10 ?_
  exact g_iret h hR dX6_of_11 (show rI _ _ _ _ from ⟨rfl, rfl⟩)
set_option maxHeartbeats 4000000 in
theorem c_X6_sets (l : Launch) {E : EnvT} (hE : EOK E) {σ : ST} {M : MT} (n w : Nat) (hn : n < 64) (hw : w < 8) (v : Int32) : Con l E yX6_sets cX6_sets 4 none 0 0 [.ref (ad E 11 0 0), .int (nI (n)), .int (nI (w)), .int v] (sM σ M) (rV (sM σ (mSet M n w v))) := by
  refine con_intro hE (by decide) (Nat.le_of_ble_eq_true rfl) (fun K hkl h hR => ?_)
  subst hkl
  have h : Cx K E cX6_sets 4 RX6 0 0 := h
  show GG K E (sM σ M) 0 [(0, .ref (ad E 11 0 0)), (1, .int (nI (n))), (2, .int (nI (w))), (3, .int v)] []
  refine g_aload_n h (q := 0) 0 dX6_sets_0 rfl ?_
  refine g_gMa h 0 (by decide) fl_X6_19 dX6_sets_1 ?_
  refine g_bipush h (v := 8) dX6_sets_4 (by decide) ?_
  refine g_iload_n h (q := 1) 1 dX6_sets_6 rfl ?_
  refine g_imul h dX6_sets_7 ?_
  refine g_is (nI (8 * n)) (pk_mul 8 n) ?_
  refine g_iload_n h (q := 2) 2 dX6_sets_8 rfl ?_
  refine g_iadd h dX6_sets_9 ?_
  refine g_is (nI ((8 * n) + w)) (nI_add (8 * n) w) ?_
  refine g_iload_n h (q := 3) 3 dX6_sets_10 rfl ?_
  refine g_sA h 0 (by decide) ((8 * n) + w) (show (8 * n) + w < 512 by omega) dX6_sets_11 (fun M1 hM1 => ?_)
  exact g_vret h hR dX6_sets_12 (show rV _ _ _ from ⟨rfl, by rw [hM1]; rfl⟩)
def mAt (M : MT) (line : Int32) (k : Nat) : Bool := decide (mOf M k 0 = 0) && decide (mOf M k 1 = line)
def mAtL (M : MT) (line : Int32) : Int32 := findN (mAt M line) (M.2.1 0) 0
def mAh (M : MT) (a b : Nat) : Bool := if mOf M a 3 ≠ mOf M b 3 then decide (mOf M b 3 < mOf M a 3) else decide (a < b)
def mSo (M : MT) (a b : Nat) : Bool := if mOf M a 2 ≠ mOf M b 2 then decide (mOf M a 2 < mOf M b 2) else mAh M a b
def mIn (M : MT) (n : Nat) : Bool := decide (mOf M n 0 = 0) || decide (mOf M n 0 = 1)
def ctL (p : Nat → Bool) : Nat → Nat → Nat → Nat
  | 0, _, c => c
  | m + 1, k, c => ctL p m (k + 1) (c + (if p k then 1 else 0))
def mCt (M : MT) (a : Int32) : Nat := ctL (fun k => decide (mOf M k 0 = a)) (M.2.1 0) 0 0
set_option maxHeartbeats 4000000 in
theorem l_X6_atLine {K : KX} {E : EnvT} (hE : EOK E) (h : Cx K E cX6_atLine 3 RX6 1 22) {σ : ST} {M : MT} {post : Option Value → ST → Prop} (hR : Rx K E (some .int) post) (hM : M.2.1 0 ≤ 64) (line : Int32) : ∀ m k, k + m = M.2.1 0 → post (some (.int (findN (mAt M line) m k))) (sM σ M) → GG K E (sM σ M) 2 [(0, .ref (ad E 11 0 0)), (1, .int line), (2, .int (nI k))] [] := by
  intro m
  induction m with
  | zero =>
    intro k hk hp
    refine g_iload_n h (q := 2) 2 dX6_atLine_2 rfl ?_
    refine g_aload_n h (q := 0) 0 dX6_atLine_3 rfl ?_
    refine g_gMn h 0 (by decide) fl_X6_50 dX6_atLine_4 ?_
    refine g_ncmp_ge h (a := k) (b := M.2.1 0) 37 dX6_atLine_7 (by decide) (by omega) (by omega) (fun c1 => ?_) (fun c1 => ?_)
    · refine g_bipush h (v := (-9)) dX6_atLine_37 (by decide) ?_
      exact g_iret h hR dX6_atLine_39 (hp)
    · exfalso; omega
  | succ m ih =>
    intro k hk hp
    refine g_iload_n h (q := 2) 2 dX6_atLine_2 rfl ?_
    refine g_aload_n h (q := 0) 0 dX6_atLine_3 rfl ?_
    refine g_gMn h 0 (by decide) fl_X6_50 dX6_atLine_4 ?_
    refine g_ncmp_ge h (a := k) (b := M.2.1 0) 37 dX6_atLine_7 (by decide) (by omega) (by omega) (fun c1 => ?_) (fun c1 => ?_)
    · exfalso; omega
    · refine g_aload_n h (q := 0) 0 dX6_atLine_10 rfl ?_
      refine g_iload_n h (q := 2) 2 dX6_atLine_11 rfl ?_
      refine g_iconst h (v := 0) dX6_atLine_12 (by decide) ?_
      refine g_callV h mv_X6_of 11 0 0 ⟨rfl, rfl⟩ rfl rfl (As := [.int (nI (k)), .int 0]) (c_X6_of (kl K) hE (σ := σ) (M := M) (k) 0 (by omega) (by decide)) ml_X6_70 rfl (by decide) (by decide) rfl (Nat.le_of_ble_eq_true rfl) dX6_atLine_13 (fun v σ9 h9 => ?_)
      rw [h9.1, h9.2]; clear h9
      refine g_if_ne h 31 dX6_atLine_16 (by decide) (fun c2 => ?_) (fun c2 => ?_)
      · refine g_iinc h (q := 2) (v := nI (k + 1)) 2 [(0, .ref (ad E 11 0 0)), (1, .int line), (2, .int (nI (k + 1)))] dX6_atLine_31 rfl (nI_inc k 1) (by decide) rfl ?_
        refine g_goto h 2 dX6_atLine_34 (by decide) ?_
        exact ih (k + 1) (by omega) (by have e : mAt M line k = false := (by simp [mAt, c2]); simpa [findN, e] using hp)
      · refine g_aload_n h (q := 0) 0 dX6_atLine_19 rfl ?_
        refine g_iload_n h (q := 2) 2 dX6_atLine_20 rfl ?_
        refine g_iconst h (v := 1) dX6_atLine_21 (by decide) ?_
        refine g_callV h mv_X6_of 11 0 0 ⟨rfl, rfl⟩ rfl rfl (As := [.int (nI (k)), .int 1]) (c_X6_of (kl K) hE (σ := σ) (M := M) (k) 1 (by omega) (by decide)) ml_X6_70 rfl (by decide) (by decide) rfl (Nat.le_of_ble_eq_true rfl) dX6_atLine_22 (fun v σ9 h9 => ?_)
        rw [h9.1, h9.2]; clear h9
        refine g_iload_n h (q := 1) 1 dX6_atLine_25 rfl ?_
        refine g_icmp_ne h 31 dX6_atLine_26 (by decide) (fun c3 => ?_) (fun c3 => ?_)
        · refine g_iinc h (q := 2) (v := nI (k + 1)) 2 [(0, .ref (ad E 11 0 0)), (1, .int line), (2, .int (nI (k + 1)))] dX6_atLine_31 rfl (nI_inc k 1) (by decide) rfl ?_
          refine g_goto h 2 dX6_atLine_34 (by decide) ?_
          exact ih (k + 1) (by omega) (by have e : mAt M line k = false := (by simp [mAt, c2, c3]); simpa [findN, e] using hp)
        · refine g_iload_n h (q := 2) 2 dX6_atLine_29 rfl ?_
          exact g_iret h hR dX6_atLine_30 (by
      have e : mAt M line k = true := by simp [mAt, c2, c3]
      simpa [findN, e] using hp)
set_option maxHeartbeats 4000000 in
theorem c_X6_atLine (l : Launch) {E : EnvT} (hE : EOK E) {σ : ST} {M : MT} (hM : M.2.1 0 ≤ 64) (line : Int32) : Con l E yX6_atLine cX6_atLine 3 (some .int) 1 22 [.ref (ad E 11 0 0), .int line] (sM σ M) (rI (mAtL M line) (sM σ M)) := by
  refine con_intro hE (by decide) (Nat.le_of_ble_eq_true rfl) (fun K hkl h hR => ?_)
  subst hkl
  have h : Cx K E cX6_atLine 3 RX6 1 22 := h
  show GG K E (sM σ M) 0 [(0, .ref (ad E 11 0 0)), (1, .int line)] []
  refine g_iconst h (v := 0) dX6_atLine_0 (by decide) ?_
  refine g_istore_n h (q := 2) [(0, .ref (ad E 11 0 0)), (1, .int line), (2, .int 0)] dX6_atLine_1 (by decide) rfl ?_
  exact l_X6_atLine hE h hR hM line _ 0 (Nat.zero_add _) ⟨rfl, rfl⟩
set_option maxHeartbeats 4000000 in
theorem c_X6_isAhead (l : Launch) {E : EnvT} (hE : EOK E) {σ : ST} {M : MT} (a b : Nat) (ha : a < 64) (hb : b < 64) : Con l E yX6_isAhead cX6_isAhead 3 (some .boolean) 1 22 [.ref (ad E 11 0 0), .int (nI (a)), .int (nI (b))] (sM σ M) (rI (bI (mAh M a b)) (sM σ M)) := by
  refine con_intro hE (by decide) (Nat.le_of_ble_eq_true rfl) (fun K hkl h hR => ?_)
  subst hkl
  have h : Cx K E cX6_isAhead 3 RX6 1 22 := h
  show GG K E (sM σ M) 0 [(0, .ref (ad E 11 0 0)), (1, .int (nI (a))), (2, .int (nI (b)))] []
  refine g_aload_n h (q := 0) 0 dX6_isAhead_0 rfl ?_
  refine g_iload_n h (q := 1) 1 dX6_isAhead_1 rfl ?_
  refine g_iconst h (v := 3) dX6_isAhead_2 (by decide) ?_
  refine g_callV h mv_X6_of 11 0 0 ⟨rfl, rfl⟩ rfl rfl (As := [.int (nI (a)), .int 3]) (c_X6_of (kl K) hE (σ := σ) (M := M) (a) 3 (ha) (by decide)) ml_X6_70 rfl (by decide) (by decide) rfl (Nat.le_of_ble_eq_true rfl) dX6_isAhead_3 (fun v σ9 h9 => ?_)
  rw [h9.1, h9.2]; clear h9
  refine g_aload_n h (q := 0) 0 dX6_isAhead_6 rfl ?_
  refine g_iload_n h (q := 2) 2 dX6_isAhead_7 rfl ?_
  refine g_iconst h (v := 3) dX6_isAhead_8 (by decide) ?_
  refine g_callV h mv_X6_of 11 0 0 ⟨rfl, rfl⟩ rfl rfl (As := [.int (nI (b)), .int 3]) (c_X6_of (kl K) hE (σ := σ) (M := M) (b) 3 (hb) (by decide)) ml_X6_70 rfl (by decide) (by decide) rfl (Nat.le_of_ble_eq_true rfl) dX6_isAhead_9 (fun v σ9 h9 => ?_)
  rw [h9.1, h9.2]; clear h9
  refine g_icmp_eq h 38 dX6_isAhead_12 (by decide) (fun c1 => ?_) (fun c1 => ?_)
  · refine g_iload_n h (q := 1) 1 dX6_isAhead_38 rfl ?_
    refine g_iload_n h (q := 2) 2 dX6_isAhead_39 rfl ?_
    refine g_ncmp_ge h (a := a) (b := b) 47 dX6_isAhead_40 (by decide) (by omega) (by omega) (fun c2 => ?_) (fun c2 => ?_)
    · refine g_iconst h (v := 0) dX6_isAhead_47 (by decide) ?_
      exact g_zret h hR dX6_isAhead_48 (by decide) (show rI _ _ _ _ from ⟨by rw [show mAh M a b = false by simp [mAh, i_nlt, i_lt, Nat.not_lt, c1, c2]]; rfl, rfl⟩)
    · refine g_iconst h (v := 1) dX6_isAhead_43 (by decide) ?_
      refine g_goto h 48 dX6_isAhead_44 (by decide) ?_
      exact g_zret h hR dX6_isAhead_48 (by decide) (show rI _ _ _ _ from ⟨by rw [show mAh M a b = true by simp [mAh, i_nlt, i_lt, Nat.not_lt, c1, c2]]; rfl, rfl⟩)
  · refine g_aload_n h (q := 0) 0 dX6_isAhead_15 rfl ?_
    refine g_iload_n h (q := 1) 1 dX6_isAhead_16 rfl ?_
    refine g_iconst h (v := 3) dX6_isAhead_17 (by decide) ?_
    refine g_callV h mv_X6_of 11 0 0 ⟨rfl, rfl⟩ rfl rfl (As := [.int (nI (a)), .int 3]) (c_X6_of (kl K) hE (σ := σ) (M := M) (a) 3 (ha) (by decide)) ml_X6_70 rfl (by decide) (by decide) rfl (Nat.le_of_ble_eq_true rfl) dX6_isAhead_18 (fun v σ9 h9 => ?_)
    rw [h9.1, h9.2]; clear h9
    refine g_aload_n h (q := 0) 0 dX6_isAhead_21 rfl ?_
    refine g_iload_n h (q := 2) 2 dX6_isAhead_22 rfl ?_
    refine g_iconst h (v := 3) dX6_isAhead_23 (by decide) ?_
    refine g_callV h mv_X6_of 11 0 0 ⟨rfl, rfl⟩ rfl rfl (As := [.int (nI (b)), .int 3]) (c_X6_of (kl K) hE (σ := σ) (M := M) (b) 3 (hb) (by decide)) ml_X6_70 rfl (by decide) (by decide) rfl (Nat.le_of_ble_eq_true rfl) dX6_isAhead_24 (fun v σ9 h9 => ?_)
    rw [h9.1, h9.2]; clear h9
    refine g_icmp_le h 34 dX6_isAhead_27 (by decide) (fun c3 => ?_) (fun c3 => ?_)
    · refine g_iconst h (v := 0) dX6_isAhead_34 (by decide) ?_
      refine g_goto h 48 dX6_isAhead_35 (by decide) ?_
      exact g_zret h hR dX6_isAhead_48 (by decide) (show rI _ _ _ _ from ⟨by rw [show mAh M a b = false by simp [mAh, i_nlt, i_lt, Nat.not_lt, c1, c3]]; rfl, rfl⟩)
    · refine g_iconst h (v := 1) dX6_isAhead_30 (by decide) ?_
      refine g_goto h 48 dX6_isAhead_31 (by decide) ?_
      exact g_zret h hR dX6_isAhead_48 (by decide) (show rI _ _ _ _ from ⟨by rw [show mAh M a b = true by simp [mAh, i_nlt, i_lt, Nat.not_lt, c1, c3]]; rfl, rfl⟩)
set_option maxHeartbeats 4000000 in
theorem c_X6_isIn (l : Launch) {E : EnvT} (hE : EOK E) {σ : ST} {M : MT} (a : Nat) (ha : a < 64) : Con l E yX6_isIn cX6_isIn 2 (some .boolean) 1 22 [.ref (ad E 11 0 0), .int (nI (a))] (sM σ M) (rI (bI (mIn M a)) (sM σ M)) := by
  refine con_intro hE (by decide) (Nat.le_of_ble_eq_true rfl) (fun K hkl h hR => ?_)
  subst hkl
  have h : Cx K E cX6_isIn 2 RX6 1 22 := h
  show GG K E (sM σ M) 0 [(0, .ref (ad E 11 0 0)), (1, .int (nI (a)))] []
  refine g_aload_n h (q := 0) 0 dX6_isIn_0 rfl ?_
  refine g_iload_n h (q := 1) 1 dX6_isIn_1 rfl ?_
  refine g_iconst h (v := 0) dX6_isIn_2 (by decide) ?_
  refine g_callV h mv_X6_of 11 0 0 ⟨rfl, rfl⟩ rfl rfl (As := [.int (nI (a)), .int 0]) (c_X6_of (kl K) hE (σ := σ) (M := M) (a) 0 (ha) (by decide)) ml_X6_70 rfl (by decide) (by decide) rfl (Nat.le_of_ble_eq_true rfl) dX6_isIn_3 (fun v σ9 h9 => ?_)
  rw [h9.1, h9.2]; clear h9
  refine g_if_eq h 19 dX6_isIn_6 (by decide) (fun c1 => ?_) (fun c1 => ?_)
  · refine g_iconst h (v := 1) dX6_isIn_19 (by decide) ?_
    refine g_goto h 24 dX6_isIn_20 (by decide) ?_
    exact g_zret h hR dX6_isIn_24 (by decide) (show rI _ _ _ _ from ⟨by rw [show mIn M a = true by simp [mIn, i_nlt, i_lt, Nat.not_lt, c1]]; rfl, rfl⟩)
  · refine g_aload_n h (q := 0) 0 dX6_isIn_9 rfl ?_
    refine g_iload_n h (q := 1) 1 dX6_isIn_10 rfl ?_
    refine g_iconst h (v := 0) dX6_isIn_11 (by decide) ?_
    refine g_callV h mv_X6_of 11 0 0 ⟨rfl, rfl⟩ rfl rfl (As := [.int (nI (a)), .int 0]) (c_X6_of (kl K) hE (σ := σ) (M := M) (a) 0 (ha) (by decide)) ml_X6_70 rfl (by decide) (by decide) rfl (Nat.le_of_ble_eq_true rfl) dX6_isIn_12 (fun v σ9 h9 => ?_)
    rw [h9.1, h9.2]; clear h9
    refine g_iconst h (v := 1) dX6_isIn_15 (by decide) ?_
    refine g_icmp_ne h 23 dX6_isIn_16 (by decide) (fun c2 => ?_) (fun c2 => ?_)
    · refine g_iconst h (v := 0) dX6_isIn_23 (by decide) ?_
      exact g_zret h hR dX6_isIn_24 (by decide) (show rI _ _ _ _ from ⟨by rw [show mIn M a = false by simp [mIn, i_nlt, i_lt, Nat.not_lt, c1, c2]]; rfl, rfl⟩)
    · refine g_iconst h (v := 1) dX6_isIn_19 (by decide) ?_
      refine g_goto h 24 dX6_isIn_20 (by decide) ?_
      exact g_zret h hR dX6_isIn_24 (by decide) (show rI _ _ _ _ from ⟨by rw [show mIn M a = true by simp [mIn, i_nlt, i_lt, Nat.not_lt, c1, c2]]; rfl, rfl⟩)
set_option maxHeartbeats 4000000 in
theorem c_X6_isSooner (l : Launch) {E : EnvT} (hE : EOK E) {σ : ST} {M : MT} (a b : Nat) (ha : a < 64) (hb : b < 64) : Con l E yX6_isSooner cX6_isSooner 3 (some .boolean) 2 44 [.ref (ad E 11 0 0), .int (nI (a)), .int (nI (b))] (sM σ M) (rI (bI (mSo M a b)) (sM σ M)) := by
  refine con_intro hE (by decide) (Nat.le_of_ble_eq_true rfl) (fun K hkl h hR => ?_)
  subst hkl
  have h : Cx K E cX6_isSooner 3 RX6 2 44 := h
  show GG K E (sM σ M) 0 [(0, .ref (ad E 11 0 0)), (1, .int (nI (a))), (2, .int (nI (b)))] []
  refine g_aload_n h (q := 0) 0 dX6_isSooner_0 rfl ?_
  refine g_iload_n h (q := 1) 1 dX6_isSooner_1 rfl ?_
  refine g_iconst h (v := 2) dX6_isSooner_2 (by decide) ?_
  refine g_callV h mv_X6_of 11 0 0 ⟨rfl, rfl⟩ rfl rfl (As := [.int (nI (a)), .int 2]) (c_X6_of (kl K) hE (σ := σ) (M := M) (a) 2 (ha) (by decide)) ml_X6_70 rfl (by decide) (by decide) rfl (Nat.le_of_ble_eq_true rfl) dX6_isSooner_3 (fun v σ9 h9 => ?_)
  rw [h9.1, h9.2]; clear h9
  refine g_aload_n h (q := 0) 0 dX6_isSooner_6 rfl ?_
  refine g_iload_n h (q := 2) 2 dX6_isSooner_7 rfl ?_
  refine g_iconst h (v := 2) dX6_isSooner_8 (by decide) ?_
  refine g_callV h mv_X6_of 11 0 0 ⟨rfl, rfl⟩ rfl rfl (As := [.int (nI (b)), .int 2]) (c_X6_of (kl K) hE (σ := σ) (M := M) (b) 2 (hb) (by decide)) ml_X6_70 rfl (by decide) (by decide) rfl (Nat.le_of_ble_eq_true rfl) dX6_isSooner_9 (fun v σ9 h9 => ?_)
  rw [h9.1, h9.2]; clear h9
  refine g_icmp_eq h 38 dX6_isSooner_12 (by decide) (fun c1 => ?_) (fun c1 => ?_)
  · refine g_aload_n h (q := 0) 0 dX6_isSooner_38 rfl ?_
    refine g_iload_n h (q := 1) 1 dX6_isSooner_39 rfl ?_
    refine g_iload_n h (q := 2) 2 dX6_isSooner_40 rfl ?_
    refine g_callV h mv_X6_isAhead 11 0 0 ⟨rfl, rfl⟩ rfl rfl (As := [.int (nI (a)), .int (nI (b))]) (c_X6_isAhead (kl K) hE (σ := σ) (M := M) a b ha hb) ml_X6_86 rfl (by decide) (by decide) rfl (Nat.le_of_ble_eq_true rfl) dX6_isSooner_41 (fun v σ9 h9 => ?_)
    rw [h9.1, h9.2]; clear h9
    exact g_zret h hR dX6_isSooner_44 (by first | exact bI_nar _ | decide) (show rI _ _ _ _ from ⟨by rw [show mSo M a b = mAh M a b by simp [mSo, c1]], rfl⟩)
  · refine g_aload_n h (q := 0) 0 dX6_isSooner_15 rfl ?_
    refine g_iload_n h (q := 1) 1 dX6_isSooner_16 rfl ?_
    refine g_iconst h (v := 2) dX6_isSooner_17 (by decide) ?_
    refine g_callV h mv_X6_of 11 0 0 ⟨rfl, rfl⟩ rfl rfl (As := [.int (nI (a)), .int 2]) (c_X6_of (kl K) hE (σ := σ) (M := M) (a) 2 (ha) (by decide)) ml_X6_70 rfl (by decide) (by decide) rfl (Nat.le_of_ble_eq_true rfl) dX6_isSooner_18 (fun v σ9 h9 => ?_)
    rw [h9.1, h9.2]; clear h9
    refine g_aload_n h (q := 0) 0 dX6_isSooner_21 rfl ?_
    refine g_iload_n h (q := 2) 2 dX6_isSooner_22 rfl ?_
    refine g_iconst h (v := 2) dX6_isSooner_23 (by decide) ?_
    refine g_callV h mv_X6_of 11 0 0 ⟨rfl, rfl⟩ rfl rfl (As := [.int (nI (b)), .int 2]) (c_X6_of (kl K) hE (σ := σ) (M := M) (b) 2 (hb) (by decide)) ml_X6_70 rfl (by decide) (by decide) rfl (Nat.le_of_ble_eq_true rfl) dX6_isSooner_24 (fun v σ9 h9 => ?_)
    rw [h9.1, h9.2]; clear h9
    refine g_icmp_ge h 34 dX6_isSooner_27 (by decide) (fun c2 => ?_) (fun c2 => ?_)
    · refine g_iconst h (v := 0) dX6_isSooner_34 (by decide) ?_
      refine g_goto h 44 dX6_isSooner_35 (by decide) ?_
      exact g_zret h hR dX6_isSooner_44 (by first | exact bI_nar _ | decide) (show rI _ _ _ _ from ⟨by rw [show mSo M a b = false by simp [mSo, i_nlt, i_lt, Nat.not_lt, c1, c2]]; rfl, rfl⟩)
    · refine g_iconst h (v := 1) dX6_isSooner_30 (by decide) ?_
      refine g_goto h 44 dX6_isSooner_31 (by decide) ?_
      exact g_zret h hR dX6_isSooner_44 (by first | exact bI_nar _ | decide) (show rI _ _ _ _ from ⟨by rw [show mSo M a b = true by simp [mSo, i_nlt, i_lt, Nat.not_lt, c1, c2]]; rfl, rfl⟩)
set_option maxHeartbeats 4000000 in
theorem l_X6_manyAt {K : KX} {E : EnvT} (hE : EOK E) (h : Cx K E cX6_manyAt 4 RX6 1 22) {σ : ST} {M : MT} {post : Option Value → ST → Prop} (hR : Rx K E (some .int) post) (hM : M.2.1 0 ≤ 64) (a : Int32) : ∀ m k c, k + m = M.2.1 0 → c ≤ k → post (some (.int (nI (ctL (fun k => decide (mOf M k 0 = a)) m k c)))) (sM σ M) → GG K E (sM σ M) 4 [(0, .ref (ad E 11 0 0)), (1, .int a), (2, .int (nI c)), (3, .int (nI k))] [] := by
  intro m
  induction m with
  | zero =>
    intro k c hk hc hp
    refine g_iload_n h (q := 3) 3 dX6_manyAt_4 rfl ?_
    refine g_aload_n h (q := 0) 0 dX6_manyAt_5 rfl ?_
    refine g_gMn h 0 (by decide) fl_X6_50 dX6_manyAt_6 ?_
    refine g_ncmp_ge h (a := k) (b := M.2.1 0) 36 dX6_manyAt_9 (by decide) (by omega) (by omega) (fun c1 => ?_) (fun c1 => ?_)
    · refine g_iload_n h (q := 2) 2 dX6_manyAt_36 rfl ?_
      exact g_iret h hR dX6_manyAt_37 (hp)
    · exfalso; omega
  | succ m ih =>
    intro k c hk hc hp
    refine g_iload_n h (q := 3) 3 dX6_manyAt_4 rfl ?_
    refine g_aload_n h (q := 0) 0 dX6_manyAt_5 rfl ?_
    refine g_gMn h 0 (by decide) fl_X6_50 dX6_manyAt_6 ?_
    refine g_ncmp_ge h (a := k) (b := M.2.1 0) 36 dX6_manyAt_9 (by decide) (by omega) (by omega) (fun c1 => ?_) (fun c1 => ?_)
    · exfalso; omega
    · refine g_iload_n h (q := 2) 2 dX6_manyAt_12 rfl ?_
      refine g_aload_n h (q := 0) 0 dX6_manyAt_13 rfl ?_
      refine g_iload_n h (q := 3) 3 dX6_manyAt_14 rfl ?_
      refine g_iconst h (v := 0) dX6_manyAt_15 (by decide) ?_
      refine g_callV h mv_X6_of 11 0 0 ⟨rfl, rfl⟩ rfl rfl (As := [.int (nI (k)), .int 0]) (c_X6_of (kl K) hE (σ := σ) (M := M) (k) 0 (by omega) (by decide)) ml_X6_70 rfl (by decide) (by decide) rfl (Nat.le_of_ble_eq_true rfl) dX6_manyAt_16 (fun v σ9 h9 => ?_)
      rw [h9.1, h9.2]; clear h9
      refine g_iload_n h (q := 1) 1 dX6_manyAt_19 rfl ?_
      refine g_icmp_ne h 27 dX6_manyAt_20 (by decide) (fun c2 => ?_) (fun c2 => ?_)
      · refine g_iconst h (v := 0) dX6_manyAt_27 (by decide) ?_
        refine g_iadd h dX6_manyAt_28 ?_
        refine g_is (nI (c + 0)) (nI_add c 0) ?_
        refine g_istore_n h (q := 2) [(0, .ref (ad E 11 0 0)), (1, .int a), (2, .int (nI (c + 0))), (3, .int (nI (k)))] dX6_manyAt_29 (by decide) rfl ?_
        refine g_iinc h (q := 3) (v := nI (k + 1)) 3 [(0, .ref (ad E 11 0 0)), (1, .int a), (2, .int (nI (c + 0))), (3, .int (nI (k + 1)))] dX6_manyAt_30 rfl (nI_inc k 1) (by decide) rfl ?_
        refine g_goto h 4 dX6_manyAt_33 (by decide) ?_
        exact ih (k + 1) _ (by omega) (by omega) (by simpa [ctL, c2] using hp)
      · refine g_iconst h (v := 1) dX6_manyAt_23 (by decide) ?_
        refine g_goto h 28 dX6_manyAt_24 (by decide) ?_
        refine g_iadd h dX6_manyAt_28 ?_
        refine g_is (nI (c + 1)) (nI_add c 1) ?_
        refine g_istore_n h (q := 2) [(0, .ref (ad E 11 0 0)), (1, .int a), (2, .int (nI (c + 1))), (3, .int (nI (k)))] dX6_manyAt_29 (by decide) rfl ?_
        refine g_iinc h (q := 3) (v := nI (k + 1)) 3 [(0, .ref (ad E 11 0 0)), (1, .int a), (2, .int (nI (c + 1))), (3, .int (nI (k + 1)))] dX6_manyAt_30 rfl (nI_inc k 1) (by decide) rfl ?_
        refine g_goto h 4 dX6_manyAt_33 (by decide) ?_
        exact ih (k + 1) _ (by omega) (by omega) (by simpa [ctL, c2] using hp)
set_option maxHeartbeats 4000000 in
theorem c_X6_manyAt (l : Launch) {E : EnvT} (hE : EOK E) {σ : ST} {M : MT} (hM : M.2.1 0 ≤ 64) (a : Int32) : Con l E yX6_manyAt cX6_manyAt 4 (some .int) 1 22 [.ref (ad E 11 0 0), .int a] (sM σ M) (rI (nI (mCt M a)) (sM σ M)) := by
  refine con_intro hE (by decide) (Nat.le_of_ble_eq_true rfl) (fun K hkl h hR => ?_)
  subst hkl
  have h : Cx K E cX6_manyAt 4 RX6 1 22 := h
  show GG K E (sM σ M) 0 [(0, .ref (ad E 11 0 0)), (1, .int a)] []
  refine g_iconst h (v := 0) dX6_manyAt_0 (by decide) ?_
  refine g_istore_n h (q := 2) [(0, .ref (ad E 11 0 0)), (1, .int a), (2, .int 0)] dX6_manyAt_1 (by decide) rfl ?_
  refine g_iconst h (v := 0) dX6_manyAt_2 (by decide) ?_
  refine g_istore_n h (q := 3) [(0, .ref (ad E 11 0 0)), (1, .int a), (2, .int 0), (3, .int 0)] dX6_manyAt_3 (by decide) rfl ?_
  exact l_X6_manyAt hE h hR hM a _ 0 0 (Nat.zero_add _) (Nat.le_refl _) ⟨rfl, rfl⟩
