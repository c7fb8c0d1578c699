def sF (σ : ST) (i : Nat) (F : FabT) : ST := (va_up σ.1 i F, σ.2)
def sR (σ : ST) (r : Nat) (w : RowT) : ST := (σ.1, va_up σ.2.1 r w, σ.2.2)
def sX (σ : ST) (x : XT) : ST := (σ.1, σ.2.1, x, σ.2.2.2)
def sM (σ : ST) (m : MT) : ST := (σ.1, σ.2.1, σ.2.2.1, m)
theorem up_s {α : Type} (g : Nat → α) (i : Nat) (v : α) : va_up g i v i = v := by simp [va_up]
theorem up_n {α : Type} {g : Nat → α} {i j : Nat} {v : α} (h : j ≠ i) : va_up g i v j = g j := by simp [va_up, h]
theorem up_id {α : Type} (g : Nat → α) (i : Nat) : va_up g i (g i) = g := by funext j; by_cases h : j = i <;> simp [va_up, h]
theorem ok_F {i : Nat} (h : i < 14) : okK 1 i 0 := ⟨h, rfl⟩
theorem ok_A {i j : Nat} (h : i < 14) (hj : j < 8) : okK 2 i j := ⟨h, hj⟩
theorem ok_R {i : Nat} (h : i < 16) : okK 3 i 0 := ⟨h, rfl⟩
theorem ok_N {i : Nat} (h : i < 16) : okK 4 i 0 := ⟨h, rfl⟩
theorem enc_F_c {E : EnvT} {σ : ST} {i : Nat} {c : Nat → Int32} {m : Nat} : ∀ k' i' j', okK k' i' j' → ¬ (k' = 1 ∧ i' = i ∧ j' = 0) → enc E (sF σ i (c, m, (σ.1 i).2.2)) k' i' j' = enc E σ k' i' j' := by
  intro k' i' j' hok hne
  match k', hok, hne with
  | 0, _, _ => rfl
  | 1, hok, hne =>
    have : i' ≠ i := fun e => hne ⟨rfl, e, hok.2⟩
    simp [enc, sF, up_n this]
  | 2, _, _ =>
    by_cases e : i' = i
    · subst e; simp [enc, sF, up_s]
    · simp [enc, sF, up_n e]
  | 3, _, _ => rfl
  | 4, _, _ => rfl
  | 5, _, _ => rfl
  | 6, _, _ => rfl
  | 7, _, _ => rfl
  | 8, _, _ => rfl
  | 9, _, _ => rfl
  | 10, _, _ => rfl
  | 11, _, _ => rfl
  | 12, _, _ => rfl
  | 13, _, _ => rfl
  | _ + 14, hok, _ => exact hok.elim
theorem enc_F_a {E : EnvT} {σ : ST} {i j : Nat} {fn : Nat → Int32} : ∀ k' i' j', okK k' i' j' → ¬ (k' = 2 ∧ i' = i ∧ j' = j) → enc E (sF σ i ((σ.1 i).1, (σ.1 i).2.1, va_up (σ.1 i).2.2 j fn)) k' i' j' = enc E σ k' i' j' := by
  intro k' i' j' hok hne
  match k', hok, hne with
  | 0, _, _ => rfl
  | 1, _, _ =>
    by_cases e : i' = i
    · subst e; simp [enc, sF, up_s]
    · simp [enc, sF, up_n e]
  | 2, _, hne =>
    by_cases e : i' = i
    · subst e
      have : j' ≠ j := fun e => hne ⟨rfl, rfl, e⟩
      simp [enc, sF, up_s, up_n this]
    · simp [enc, sF, up_n e]
  | 3, _, _ => rfl
  | 4, _, _ => rfl
  | 5, _, _ => rfl
  | 6, _, _ => rfl
  | 7, _, _ => rfl
  | 8, _, _ => rfl
  | 9, _, _ => rfl
  | 10, _, _ => rfl
  | 11, _, _ => rfl
  | 12, _, _ => rfl
  | 13, _, _ => rfl
  | _ + 14, hok, _ => exact hok.elim
theorem enc_R_s {E : EnvT} {σ : ST} {r m : Nat} : ∀ k' i' j', okK k' i' j' → ¬ (k' = 3 ∧ i' = r ∧ j' = 0) → enc E (sR σ r ((σ.2.1 r).1, m)) k' i' j' = enc E σ k' i' j' := by
  intro k' i' j' hok hne
  match k', hok, hne with
  | 0, _, _ => rfl
  | 1, _, _ => rfl
  | 2, _, _ => rfl
  | 3, hok, hne =>
    have : i' ≠ r := fun e => hne ⟨rfl, e, hok.2⟩
    simp [enc, sR, up_n this]
  | 4, _, _ =>
    by_cases e : i' = r
    · subst e; simp [enc, sR, up_s]
    · simp [enc, sR, up_n e]
  | 5, _, _ => rfl
  | 6, _, _ => rfl
  | 7, _, _ => rfl
  | 8, _, _ => rfl
  | 9, _, _ => rfl
  | 10, _, _ => rfl
  | 11, _, _ => rfl
  | 12, _, _ => rfl
  | 13, _, _ => rfl
  | _ + 14, hok, _ => exact hok.elim
theorem enc_R_n {E : EnvT} {σ : ST} {r : Nat} {g : Nat → Nat} : ∀ k' i' j', okK k' i' j' → ¬ (k' = 4 ∧ i' = r ∧ j' = 0) → enc E (sR σ r (g, (σ.2.1 r).2)) k' i' j' = enc E σ k' i' j' := by
  intro k' i' j' hok hne
  match k', hok, hne with
  | 0, _, _ => rfl
  | 1, _, _ => rfl
  | 2, _, _ => rfl
  | 3, _, _ =>
    by_cases e : i' = r
    · subst e; simp [enc, sR, up_s]
    · simp [enc, sR, up_n e]
  | 4, hok, hne =>
    have : i' ≠ r := fun e => hne ⟨rfl, e, hok.2⟩
    simp [enc, sR, up_n this]
  | 5, _, _ => rfl
  | 6, _, _ => rfl
  | 7, _, _ => rfl
  | 8, _, _ => rfl
  | 9, _, _ => rfl
  | 10, _, _ => rfl
  | 11, _, _ => rfl
  | 12, _, _ => rfl
  | 13, _, _ => rfl
  | _ + 14, hok, _ => exact hok.elim
theorem enc_X_01 {E : EnvT} {σ : ST} {w m : Nat} (hw : w < 2) : ∀ k' i' j', okK k' i' j' → ¬ (k' = 6 ∧ i' = 0 ∧ j' = 0) → enc E (sX σ (va_up σ.2.2.1.1 w m, σ.2.2.1.2)) k' i' j' = enc E σ k' i' j' := by
  intro k' i' j' hok hne
  match k', hok, hne with
  | 0, _, _ => rfl
  | 1, _, _ => rfl
  | 2, _, _ => rfl
  | 3, _, _ => rfl
  | 4, _, _ => rfl
  | 5, _, _ => rfl
  | 6, hok, hne => exact absurd ⟨rfl, hok.1, hok.2⟩ hne
  | 7, _, _ => rfl
  | 8, _, _ =>
    have : 2 ≠ w := by omega
    simp [enc, sX, up_n this]
  | 9, _, _ => rfl
  | 10, _, _ => rfl
  | 11, _, _ => rfl
  | 12, _, _ => rfl
  | 13, _, _ => rfl
  | _ + 14, hok, _ => exact hok.elim
theorem enc_X_2 {E : EnvT} {σ : ST} {m : Nat} : ∀ k' i' j', okK k' i' j' → ¬ (k' = 8 ∧ i' = 0 ∧ j' = 0) → enc E (sX σ (va_up σ.2.2.1.1 2 m, σ.2.2.1.2)) k' i' j' = enc E σ k' i' j' := by
  intro k' i' j' hok hne
  match k', hok, hne with
  | 0, _, _ => rfl
  | 1, _, _ => rfl
  | 2, _, _ => rfl
  | 3, _, _ => rfl
  | 4, _, _ => rfl
  | 5, _, _ => rfl
  | 6, _, _ => rfl
  | 7, _, _ => rfl
  | 8, hok, hne => exact absurd ⟨rfl, hok.1, hok.2⟩ hne
  | 9, _, _ => rfl
  | 10, _, _ => rfl
  | 11, _, _ => rfl
  | 12, _, _ => rfl
  | 13, _, _ => rfl
  | _ + 14, hok, _ => exact hok.elim
theorem enc_X_a {E : EnvT} {σ : ST} {j : Nat} {fn : Nat → Int32} : ∀ k' i' j', okK k' i' j' → ¬ (k' = 9 ∧ i' = 0 ∧ j' = j) → enc E (sX σ (σ.2.2.1.1, va_up σ.2.2.1.2 j fn)) k' i' j' = enc E σ k' i' j' := by
  intro k' i' j' hok hne
  match k', hok, hne with
  | 0, _, _ => rfl
  | 1, _, _ => rfl
  | 2, _, _ => rfl
  | 3, _, _ => rfl
  | 4, _, _ => rfl
  | 5, _, _ => rfl
  | 6, _, _ => rfl
  | 7, _, _ => rfl
  | 8, _, _ => rfl
  | 9, hok, hne =>
    have : j' ≠ j := fun e => hne ⟨rfl, hok.1, e⟩
    simp [enc, sX, up_n this]
  | 10, _, _ => rfl
  | 11, _, _ => rfl
  | 12, _, _ => rfl
  | 13, _, _ => rfl
  | _ + 14, hok, _ => exact hok.elim
theorem enc_M_c {E : EnvT} {σ : ST} {c : Nat → Int32} {m : Nat → Nat} : ∀ k' i' j', okK k' i' j' → ¬ (k' = 11 ∧ i' = 0 ∧ j' = 0) → enc E (sM σ (c, m, σ.2.2.2.2.2)) k' i' j' = enc E σ k' i' j' := by
  intro k' i' j' hok hne
  match k', hok, hne with
  | 0, _, _ => rfl
  | 1, _, _ => rfl
  | 2, _, _ => rfl
  | 3, _, _ => rfl
  | 4, _, _ => rfl
  | 5, _, _ => rfl
  | 6, _, _ => rfl
  | 7, _, _ => rfl
  | 8, _, _ => rfl
  | 9, _, _ => rfl
  | 10, _, _ => rfl
  | 11, hok, hne => exact absurd ⟨rfl, hok.1, hok.2⟩ hne
  | 12, _, _ => rfl
  | 13, _, _ => rfl
  | _ + 14, hok, _ => exact hok.elim
theorem enc_M_a {E : EnvT} {σ : ST} {j : Nat} {fn : Nat → Int32} : ∀ k' i' j', okK k' i' j' → ¬ (k' = 12 ∧ i' = 0 ∧ j' = j) → enc E (sM σ (σ.2.2.2.1, σ.2.2.2.2.1, va_up σ.2.2.2.2.2.1 j fn, σ.2.2.2.2.2.2)) k' i' j' = enc E σ k' i' j' := by
  intro k' i' j' hok hne
  match k', hok, hne with
  | 0, _, _ => rfl
  | 1, _, _ => rfl
  | 2, _, _ => rfl
  | 3, _, _ => rfl
  | 4, _, _ => rfl
  | 5, _, _ => rfl
  | 6, _, _ => rfl
  | 7, _, _ => rfl
  | 8, _, _ => rfl
  | 9, _, _ => rfl
  | 10, _, _ => rfl
  | 11, _, _ => rfl
  | 12, hok, hne =>
    have : j' ≠ j := fun e => hne ⟨rfl, hok.1, e⟩
    simp [enc, sM, up_n this]
  | 13, _, _ => rfl
  | _ + 14, hok, _ => exact hok.elim
theorem enc_M_o {E : EnvT} {σ : ST} {g : Nat → Nat} : ∀ k' i' j', okK k' i' j' → ¬ (k' = 13 ∧ i' = 0 ∧ j' = 0) → enc E (sM σ (σ.2.2.2.1, σ.2.2.2.2.1, σ.2.2.2.2.2.1, g)) k' i' j' = enc E σ k' i' j' := by
  intro k' i' j' hok hne
  match k', hok, hne with
  | 0, _, _ => rfl
  | 1, _, _ => rfl
  | 2, _, _ => rfl
  | 3, _, _ => rfl
  | 4, _, _ => rfl
  | 5, _, _ => rfl
  | 6, _, _ => rfl
  | 7, _, _ => rfl
  | 8, _, _ => rfl
  | 9, _, _ => rfl
  | 10, _, _ => rfl
  | 11, _, _ => rfl
  | 12, _, _ => rfl
  | 13, hok, hne => exact absurd ⟨rfl, hok.1, hok.2⟩ hne
  | _ + 14, hok, _ => exact hok.elim
section RM
variable {K : KX} {E : EnvT} {cc : ByteArray} {nL : Nat} {own : String} {f n : Nat} {σ : ST} {pc : Nat} {lv : List (Nat × Value)} {rest : List Value}
theorem g_putFc (h : Cx K E cc nL own f n) (i : Nat) (hi : i < 14) (w : Nat) (hw : w < 4) {index : Nat} {x : Int32} (hl : Cond.fieldLink own index (TX0 w).1 (TX0 w).2.1 (TX0 w).2.2.1 ∈ gtb) (hd : decode cc pc = .ok (.putfield index, 3)) (kk : ∀ σ', σ' = sF σ i (va_up (σ.1 i).1 w x, (σ.1 i).2) → GG K E σ' (pc + 3) lv rest) : GG K E σ pc lv (.int x :: .ref (ad E 1 i 0) :: rest) := by
  have hc : w = 0 ∨ w = 1 ∨ w = 2 ∨ w = 3 := by omega
  refine g_put h 1 i 0 (ok_F hi) rfl rfl uin_X0 tyX0 tyX0_ok nmX0 w (by omega) hl ?_ ?_ ?_ (σ' := sF σ i (va_up (σ.1 i).1 w x, (σ.1 i).2.1, (σ.1 i).2.2)) ?_ enc_F_c hd (kk _ rfl)
  · rcases hc with rfl | rfl | rfl | rfl <;> rfl
  · rcases hc with rfl | rfl | rfl | rfl <;> decide +kernel
  · show w < 14; omega
  · rcases hc with rfl | rfl | rfl | rfl <;> simp [enc, sF, up_s, va_up]
theorem g_putFl (h : Cx K E cc nL own f n) (i : Nat) (hi : i < 14) {index m : Nat} (hl : Cond.fieldLink own index (TX0 4).1 (TX0 4).2.1 (TX0 4).2.2.1 ∈ gtb) (hd : decode cc pc = .ok (.putfield index, 3)) (kk : ∀ σ', σ' = sF σ i ((σ.1 i).1, m, (σ.1 i).2.2) → GG K E σ' (pc + 3) lv rest) : GG K E σ pc lv (.int (nI m) :: .ref (ad E 1 i 0) :: rest) := by
  refine g_put h 1 i 0 (ok_F hi) rfl rfl uin_X0 tyX0 tyX0_ok nmX0 4 (by omega) hl rfl (by decide +kernel) (Nat.le_of_ble_eq_true rfl) (σ' := sF σ i ((σ.1 i).1, m, (σ.1 i).2.2)) ?_ enc_F_c hd (kk _ rfl)
  simp [enc, sF, up_s]
theorem g_putRs (h : Cx K E cc nL own f n) (r : Nat) (hr : r < 16) {index m : Nat} (hl : Cond.fieldLink own index (TX2 1).1 (TX2 1).2.1 (TX2 1).2.2.1 ∈ gtb) (hd : decode cc pc = .ok (.putfield index, 3)) (kk : ∀ σ', σ' = sR σ r ((σ.2.1 r).1, m) → GG K E σ' (pc + 3) lv rest) : GG K E σ pc lv (.int (nI m) :: .ref (ad E 3 r 0) :: rest) := by
  refine g_put h 3 r 0 (ok_R hr) rfl rfl uin_X2 tyX2 tyX2_ok nmX2 1 (by omega) hl rfl (by decide +kernel) (Nat.le_of_ble_eq_true rfl) (σ' := sR σ r ((σ.2.1 r).1, m)) ?_ enc_R_s hd (kk _ rfl)
  simp [enc, sR, up_s]
theorem g_putXp (h : Cx K E cc nL own f n) (w : Nat) (hw : w < 2) {index m : Nat} (hl : Cond.fieldLink own index (TX1 (w + 1)).1 (TX1 (w + 1)).2.1 (TX1 (w + 1)).2.2.1 ∈ gtb) (hd : decode cc pc = .ok (.putfield index, 3)) (kk : ∀ σ', σ' = sX σ (va_up σ.2.2.1.1 w m, σ.2.2.1.2) → GG K E σ' (pc + 3) lv rest) : GG K E σ pc lv (.int (nI m) :: .ref (ad E 6 0 0) :: rest) := by
  have hc : w = 0 ∨ w = 1 := by omega
  refine g_put h 6 0 0 ⟨rfl, rfl⟩ rfl rfl uin_X1 tyX1 tyX1_ok nmX1 (w + 1) (by omega) hl ?_ ?_ ?_ (σ' := sX σ (va_up σ.2.2.1.1 w m, σ.2.2.1.2)) ?_ (enc_X_01 hw) hd (kk _ rfl)
  · rcases hc with rfl | rfl <;> rfl
  · rcases hc with rfl | rfl <;> decide +kernel
  · show w + 1 < 3; omega
  · rcases hc with rfl | rfl <;> simp [enc, sX, va_up]
theorem g_putXs (h : Cx K E cc nL own f n) {index m : Nat} (hl : Cond.fieldLink own index (TX3 2).1 (TX3 2).2.1 (TX3 2).2.2.1 ∈ gtb) (hd : decode cc pc = .ok (.putfield index, 3)) (kk : ∀ σ', σ' = sX σ (va_up σ.2.2.1.1 2 m, σ.2.2.1.2) → GG K E σ' (pc + 3) lv rest) : GG K E σ pc lv (.int (nI m) :: .ref (ad E 8 0 0) :: rest) := by
  refine g_put h 8 0 0 ⟨rfl, rfl⟩ rfl rfl uin_X3 tyX3 tyX3_ok nmX3 2 (by omega) hl rfl (by decide +kernel) (Nat.le_of_ble_eq_true rfl) (σ' := sX σ (va_up σ.2.2.1.1 2 m, σ.2.2.1.2)) ?_ enc_X_2 hd (kk _ rfl)
  simp [enc, sX, va_up]
theorem g_putMc (h : Cx K E cc nL own f n) (w : Nat) (hw : w < 4) {index : Nat} {x : Int32} (hl : Cond.fieldLink own index (TX6 w).1 (TX6 w).2.1 (TX6 w).2.2.1 ∈ gtb) (hd : decode cc pc = .ok (.putfield index, 3)) (kk : ∀ σ', σ' = sM σ (va_up σ.2.2.2.1 w x, σ.2.2.2.2) → GG K E σ' (pc + 3) lv rest) : GG K E σ pc lv (.int x :: .ref (ad E 11 0 0) :: rest) := by
  have hc : w = 0 ∨ w = 1 ∨ w = 2 ∨ w = 3 := by omega
  refine g_put h 11 0 0 ⟨rfl, rfl⟩ rfl rfl uin_X6 tyX6 tyX6_ok nmX6 w (by omega) hl ?_ ?_ ?_ (σ' := sM σ (va_up σ.2.2.2.1 w x, σ.2.2.2.2.1, σ.2.2.2.2.2)) ?_ enc_M_c hd (kk _ rfl)
  · rcases hc with rfl | rfl | rfl | rfl <;> rfl
  · rcases hc with rfl | rfl | rfl | rfl <;> decide +kernel
  · show w < 18; omega
  · rcases hc with rfl | rfl | rfl | rfl <;> simp [enc, sM, va_up]
/-- the slots of many, counter, done, sorted, seen -/
def mns (w : Nat) : Nat := match w with
  | 0 => 4
  | 1 => 5
  | 2 => 9
  | 3 => 10
  | _ => 15
theorem g_putMn (h : Cx K E cc nL own f n) (w : Nat) (hw : w < 5) {index m : Nat} (hl : Cond.fieldLink own index (TX6 (mns w)).1 (TX6 (mns w)).2.1 (TX6 (mns w)).2.2.1 ∈ gtb) (hd : decode cc pc = .ok (.putfield index, 3)) (kk : ∀ σ', σ' = sM σ (σ.2.2.2.1, va_up σ.2.2.2.2.1 w m, σ.2.2.2.2.2) → GG K E σ' (pc + 3) lv rest) : GG K E σ pc lv (.int (nI m) :: .ref (ad E 11 0 0) :: rest) := by
  have hc : w = 0 ∨ w = 1 ∨ w = 2 ∨ w = 3 ∨ w = 4 := by omega
  refine g_put h 11 0 0 ⟨rfl, rfl⟩ rfl rfl uin_X6 tyX6 tyX6_ok nmX6 (mns w) ?_ hl ?_ ?_ ?_ (σ' := sM σ (σ.2.2.2.1, va_up σ.2.2.2.2.1 w m, σ.2.2.2.2.2)) ?_ enc_M_c hd (kk _ rfl)
  · rcases hc with rfl | rfl | rfl | rfl | rfl <;> decide
  · rcases hc with rfl | rfl | rfl | rfl | rfl <;> rfl
  · rcases hc with rfl | rfl | rfl | rfl | rfl <;> decide +kernel
  · show mns w < 18; rcases hc with rfl | rfl | rfl | rfl | rfl <;> decide
  · rcases hc with rfl | rfl | rfl | rfl | rfl <;> simp [enc, sM, va_up, mns]
theorem flen_lt (j : Nat) : flen j < 2 ^ 31 := by unfold flen; split <;> decide
theorem mlen_lt (j : Nat) : mlen j < 2 ^ 31 := by unfold mlen; split <;> decide
theorem xlen_lt (j : Nat) : xlen j < 2 ^ 31 := by unfold xlen; split <;> decide
theorem g_astF (h : Cx K E cc nL own f n) (i j : Nat) (hi : i < 14) (hj : j < 8) (t : Nat) (ht : t < flen j) {x : Int32} (hd : decode cc pc = .ok (.iastore, 1)) (kk : ∀ σ', σ' = sF σ i ((σ.1 i).1, (σ.1 i).2.1, va_up (σ.1 i).2.2 j (upd ((σ.1 i).2.2 j) t x)) → GG K E σ' (pc + 1) lv rest) : GG K E σ pc lv (.int x :: .int (nI t) :: .ref (ad E 2 i j) :: rest) :=
  g_iast h 2 i j (ok_A hi hj) rfl t ht (flen_lt j) (by simp [enc, sF, up_s]) enc_F_a hd (kk _ rfl)
theorem g_aldF (h : Cx K E cc nL own f n) (i j : Nat) (hi : i < 14) (hj : j < 8) (t : Nat) (ht : t < flen j) (hd : decode cc pc = .ok (.iaload, 1)) (kk : GG K E σ (pc + 1) lv (.int ((σ.1 i).2.2 j t) :: rest)) : GG K E σ pc lv (.int (nI t) :: .ref (ad E 2 i j) :: rest) :=
  g_iald h 2 i j (ok_A hi hj) rfl t ht (flen_lt j) hd kk
theorem g_astR (h : Cx K E cc nL own f n) (r : Nat) (hr : r < 16) (t : Nat) (ht : t < 64) {m : Nat} (hd : decode cc pc = .ok (.iastore, 1)) (kk : ∀ σ', σ' = sR σ r (va_up (σ.2.1 r).1 t m, (σ.2.1 r).2) → GG K E σ' (pc + 1) lv rest) : GG K E σ pc lv (.int (nI m) :: .int (nI t) :: .ref (ad E 4 r 0) :: rest) := by
  refine g_iast h 4 r 0 (ok_N hr) rfl t ht (by decide) (σ' := sR σ r (va_up (σ.2.1 r).1 t m, (σ.2.1 r).2)) ?_ enc_R_n hd (kk _ rfl)
  simp only [enc, sR, up_s]
  congr 3
  congr 1
  funext q
  by_cases e : q = t <;> simp [va_up, upd, e]
theorem g_aldR (h : Cx K E cc nL own f n) (r : Nat) (hr : r < 16) (t : Nat) (ht : t < 64) (hd : decode cc pc = .ok (.iaload, 1)) (kk : GG K E σ (pc + 1) lv (.int (nI ((σ.2.1 r).1 t)) :: rest)) : GG K E σ pc lv (.int (nI t) :: .ref (ad E 4 r 0) :: rest) :=
  g_iald h 4 r 0 (ok_N hr) rfl t ht (by decide) hd kk
theorem g_aldX (h : Cx K E cc nL own f n) (j : Nat) (hj : j < 4) (hj2 : j ≠ 2) (t : Nat) (ht : t < xlen j) (hd : decode cc pc = .ok (.iaload, 1)) (kk : GG K E σ (pc + 1) lv (.int (σ.2.2.1.2 j t) :: rest)) : GG K E σ pc lv (.int (nI t) :: .ref (ad E 9 0 j) :: rest) := by
  refine g_iald h 9 0 j ⟨rfl, hj⟩ (N := xlen j) (fn := σ.2.2.1.2 j) ?_ t ht (xlen_lt j) hd kk
  have hc : j = 0 ∨ j = 1 ∨ j = 3 := by omega
  rcases hc with rfl | rfl | rfl <;> rfl
theorem g_astX (h : Cx K E cc nL own f n) (j : Nat) (hj : j < 4) (hj2 : j ≠ 2) (t : Nat) (ht : t < xlen j) {x : Int32} (hd : decode cc pc = .ok (.iastore, 1)) (kk : ∀ σ', σ' = sX σ (σ.2.2.1.1, va_up σ.2.2.1.2 j (upd (σ.2.2.1.2 j) t x)) → GG K E σ' (pc + 1) lv rest) : GG K E σ pc lv (.int x :: .int (nI t) :: .ref (ad E 9 0 j) :: rest) := by
  refine g_iast h 9 0 j ⟨rfl, hj⟩ (N := xlen j) (fn := σ.2.2.1.2 j) ?_ t ht (xlen_lt j) (σ' := sX σ (σ.2.2.1.1, va_up σ.2.2.1.2 j (upd (σ.2.2.1.2 j) t x))) ?_ enc_X_a hd (kk _ rfl)
  · have hc : j = 0 ∨ j = 1 ∨ j = 3 := by omega
    rcases hc with rfl | rfl | rfl <;> rfl
  · have hc : j = 0 ∨ j = 1 ∨ j = 3 := by omega
    rcases hc with rfl | rfl | rfl <;> simp [enc, sX, up_s, xarr]
theorem g_aldZ (h : Cx K E cc nL own f n) (t : Nat) (ht : t < 2) (hd : decode cc pc = .ok (.baload, 1)) (kk : GG K E σ (pc + 1) lv (.int (σ.2.2.1.2 2 t) :: rest)) : GG K E σ pc lv (.int (nI t) :: .ref (ad E 9 0 2) :: rest) :=
  g_zald h 9 0 2 ⟨rfl, by decide⟩ (N := 2) (fn := σ.2.2.1.2 2) rfl t ht (by decide) hd kk
theorem g_astZ (h : Cx K E cc nL own f n) (t : Nat) (ht : t < 2) {x : Int32} (hx : narrow .boolean (.int x) = .int x) (hd : decode cc pc = .ok (.bastore, 1)) (kk : ∀ σ', σ' = sX σ (σ.2.2.1.1, va_up σ.2.2.1.2 2 (upd (σ.2.2.1.2 2) t x)) → GG K E σ' (pc + 1) lv rest) : GG K E σ pc lv (.int x :: .int (nI t) :: .ref (ad E 9 0 2) :: rest) := by
  refine g_zast h 9 0 2 ⟨rfl, by decide⟩ (N := 2) (fn := σ.2.2.1.2 2) rfl t ht (by decide) hx (σ' := sX σ (σ.2.2.1.1, va_up σ.2.2.1.2 2 (upd (σ.2.2.1.2 2) t x))) ?_ enc_X_a hd (kk _ rfl)
  simp [enc, sX, up_s, xarr]
theorem g_aldM (h : Cx K E cc nL own f n) (j : Nat) (hj : j < 8) (t : Nat) (ht : t < mlen j) (hd : decode cc pc = .ok (.iaload, 1)) (kk : GG K E σ (pc + 1) lv (.int (σ.2.2.2.2.2.1 j t) :: rest)) : GG K E σ pc lv (.int (nI t) :: .ref (ad E 12 0 j) :: rest) :=
  g_iald h 12 0 j ⟨rfl, hj⟩ rfl t ht (mlen_lt j) hd kk
theorem g_astM (h : Cx K E cc nL own f n) (j : Nat) (hj : j < 8) (t : Nat) (ht : t < mlen j) {x : Int32} (hd : decode cc pc = .ok (.iastore, 1)) (kk : ∀ σ', σ' = sM σ (σ.2.2.2.1, σ.2.2.2.2.1, va_up σ.2.2.2.2.2.1 j (upd (σ.2.2.2.2.2.1 j) t x), σ.2.2.2.2.2.2) → GG K E σ' (pc + 1) lv rest) : GG K E σ pc lv (.int x :: .int (nI t) :: .ref (ad E 12 0 j) :: rest) :=
  g_iast h 12 0 j ⟨rfl, hj⟩ rfl t ht (mlen_lt j) (by simp [enc, sM, up_s]) enc_M_a hd (kk _ rfl)
theorem g_aldO (h : Cx K E cc nL own f n) (t : Nat) (ht : t < 64) (hd : decode cc pc = .ok (.iaload, 1)) (kk : GG K E σ (pc + 1) lv (.int (nI (σ.2.2.2.2.2.2 t)) :: rest)) : GG K E σ pc lv (.int (nI t) :: .ref (ad E 13 0 0) :: rest) :=
  g_iald h 13 0 0 ⟨rfl, rfl⟩ rfl t ht (by decide) hd kk
theorem g_astO (h : Cx K E cc nL own f n) (t : Nat) (ht : t < 64) {m : Nat} (hd : decode cc pc = .ok (.iastore, 1)) (kk : ∀ σ', σ' = sM σ (σ.2.2.2.1, σ.2.2.2.2.1, σ.2.2.2.2.2.1, va_up σ.2.2.2.2.2.2 t m) → GG K E σ' (pc + 1) lv rest) : GG K E σ pc lv (.int (nI m) :: .int (nI t) :: .ref (ad E 13 0 0) :: rest) := by
  refine g_iast h 13 0 0 ⟨rfl, rfl⟩ rfl t ht (by decide) (σ' := sM σ (σ.2.2.2.1, σ.2.2.2.2.1, σ.2.2.2.2.2.1, va_up σ.2.2.2.2.2.2 t m)) ?_ enc_M_o hd (kk _ rfl)
  simp only [enc, sM]
  congr 3
  congr 1
  funext q
  by_cases e : q = t <;> simp [va_up, upd, e]
theorem g_aldG (h : Cx K E cc nL own f n) (t : Nat) (ht : t < 10) (hd : decode cc pc = .ok (.aaload, 1)) (kk : GG K E σ (pc + 1) lv (.ref (ad E 1 (2 + t) 0) :: rest)) : GG K E σ pc lv (.int (nI t) :: .ref (ad E 7 0 0) :: rest) :=
  g_aald h 7 0 0 ⟨rfl, rfl⟩ rfl t ht (by decide) hd kk
theorem g_aldI (h : Cx K E cc nL own f n) (t : Nat) (ht : t < 2) (hd : decode cc pc = .ok (.aaload, 1)) (kk : GG K E σ (pc + 1) lv (.ref (ad E 1 (12 + t) 0) :: rest)) : GG K E σ pc lv (.int (nI t) :: .ref (ad E 10 0 0) :: rest) :=
  g_aald h 10 0 0 ⟨rfl, rfl⟩ rfl t ht (by decide) hd kk
end RM
