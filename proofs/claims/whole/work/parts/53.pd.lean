def tbV (F : FabT) (j x w : Nat) : Int32 := if nI j < F.1 1 then (if w = 0 then 1 else if w = 6 then F.2.2 6 x + 1 else F.2.2 w x) else (if w = 0 then 4 else if w = 5 then F.1 3 else F.2.2 w x)
def tb1 (F : FabT) (j n : Nat) : FabT := if nI j < F.1 1 then rdL (mvL F n 1) n else enL F n 4
theorem tbL_s (B : RowT) (m t : Nat) (F : FabT) : tbL B (m + 1) t F = tbL B m (t + 1) (tb1 F t (B.1 t)) := by
  rw [tbL, tb1]; split <;> rfl
theorem tb1_c (F : FabT) (j n : Nat) : (tb1 F j n).1 = F.1 ∧ (tb1 F j n).2.1 = F.2.1 := by unfold tb1; split <;> exact ⟨rfl, rfl⟩
theorem tb1_at (F : FabT) (j n x w : Nat) (hw : w < 7) : (tb1 F j n).2.2 w x = if x = n then tbV F j n w else F.2.2 w x := by
  unfold tb1 tbV
  by_cases h : nI j < F.1 1
  · rw [if_pos h, if_pos h]
    by_cases w6 : w = 6
    · subst w6
      have e : (rdL (mvL F n 1) n).2.2 6 = upd (F.2.2 6) n (F.2.2 6 n + 1) := by
        simp only [rdL, up_s]; rw [mvL_w F n 1 (by decide) (by decide)]
      rw [e]
      by_cases ex : x = n
      · subst ex; rw [ud_s, if_pos rfl, if_neg (by decide), if_pos rfl]
      · rw [ud_ne ex, if_neg ex]
    · rw [rdL_w _ _ w6]
      by_cases w0 : w = 0
      · subst w0; rw [mvL_0]; by_cases ex : x = n
        · rw [if_pos ex, if_pos ex, if_pos rfl]; rfl
        · rw [if_neg ex, if_neg ex]
      · rw [mvL_w F n 1 w0 (by omega), if_neg w0, if_neg w6]; by_cases ex : x = n
        · rw [if_pos ex, ex]
        · rw [if_neg ex]
  · rw [if_neg h, if_neg h]
    by_cases w5 : w = 5
    · subst w5
      have e : (enL F n 4).2.2 5 = upd (F.2.2 5) n (F.1 3) := by
        simp only [enL, up_s]; rw [mvL_w F n 4 (by decide) (by decide)]; rfl
      rw [e]
      by_cases ex : x = n
      · subst ex; rw [ud_s, if_pos rfl, if_neg (by decide), if_pos rfl]
      · rw [ud_ne ex, if_neg ex]
    · rw [enL_w _ _ _ w5]
      by_cases w0 : w = 0
      · subst w0; rw [mvL_0]; by_cases ex : x = n
        · rw [if_pos ex, if_pos ex, if_pos rfl]; rfl
        · rw [if_neg ex, if_neg ex]
      · rw [mvL_w F n 4 w0 (by omega), if_neg w0, if_neg w5]; by_cases ex : x = n
        · rw [if_pos ex, ex]
        · rw [if_neg ex]
theorem TL_of {F G : FabT} (h : TL F) (h1 : G.2.1 = F.2.1) (h2 : G.2.2 0 = F.2.2 0) (h3 : G.2.2 7 = F.2.2 7) : TL G := by
  intro p hp; unfold ca; rw [h1, h2, h3]; exact h p hp
theorem tb1_TL {F : FabT} (hF : PK F) (hT : TL F) (j : Nat) {n : Nat} (hn : n < F.2.1) : PK (tb1 F j n) ∧ TL (tb1 F j n) := by
  unfold tb1
  split
  · exact ⟨rdL_pk (mvL_pk hF _ (by decide)) _, TL_of (TL_mv hF hT hn (by decide : 1 < 5)) rfl (rdL_w _ _ (by decide)) (rdL_w _ _ (by decide))⟩
  · exact ⟨enL_pk hF _ (by decide), TL_of (TL_mv hF hT hn (by decide : 4 < 5)) rfl (enL_w _ _ _ (by decide)) (enL_w _ _ _ (by decide))⟩
theorem tbL_at (B : RowT) : ∀ (m t : Nat) (F : FabT), PK F → TL F → (∀ j, t ≤ j → j < t + m → B.1 j < F.2.1) → (∀ a b, t ≤ a → a < t + m → t ≤ b → b < t + m → B.1 a = B.1 b → a = b) →
    (tbL B m t F).1 = F.1 ∧ (tbL B m t F).2.1 = F.2.1 ∧ PK (tbL B m t F) ∧ TL (tbL B m t F) ∧ (∀ j, t ≤ j → j < t + m → ∀ w, w < 7 → (tbL B m t F).2.2 w (B.1 j) = tbV F j (B.1 j) w) ∧
    (∀ x, (∀ j, t ≤ j → j < t + m → B.1 j ≠ x) → ∀ w, w < 7 → (tbL B m t F).2.2 w x = F.2.2 w x) := by
  intro m
  induction m with
  | zero => intro t F hF hT _ _; exact ⟨rfl, rfl, hF, hT, fun j h1 h2 => by omega, fun _ _ _ _ => rfl⟩
  | succ m ih =>
    intro t F hF hT hB hi
    have hn := hB t (Nat.le_refl _) (by omega)
    have hc := tb1_c F t (B.1 t)
    obtain ⟨p1, p2⟩ := tb1_TL hF hT t hn
    rw [tbL_s]
    obtain ⟨a1, a2, a3, a4, a5, a6⟩ := ih (t + 1) (tb1 F t (B.1 t)) p1 p2 (fun j h1 h2 => by rw [hc.2]; exact hB j (by omega) (by omega)) (fun a b h1 h2 h3 h4 => hi a b (by omega) (by omega) (by omega) (by omega))
    refine ⟨a1.trans hc.1, a2.trans hc.2, a3, a4, fun j h1 h2 w hw => ?_, fun x hx w hw => ?_⟩
    · by_cases e : j = t
      · rw [e, a6 (B.1 t) (fun q q1 q2 qe => by have := hi q t (by omega) (by omega) (by omega) (by omega) qe; omega) w hw, tb1_at F t _ _ w hw, if_pos rfl]
      · have hne : B.1 j ≠ B.1 t := fun q => e (hi j t h1 h2 (Nat.le_refl _) (by omega) q)
        rw [a5 j (by omega) (by omega) w hw]
        unfold tbV
        rw [hc.1, tb1_at F t _ _ 6 (by decide), if_neg hne, tb1_at F t _ _ w hw, if_neg hne]
    · rw [a6 x (fun j h1 h2 => hx j (by omega) (by omega)) w hw, tb1_at F t _ _ w hw, if_neg (fun q => hx t (Nat.le_refl _) (by omega) q.symm)]
def t2V (M : MT) (n : Nat) (t : Int32) (u : Nat) : Int32 := if u = 0 then t else if u = 6 then mOf M n 6 + (if t = 1 then 1 else 0) else if u = 5 then (if t = 4 then M.1 3 else mOf M n 5) else mOf M n u
theorem mT2_of (M : MT) (n : Nat) (t : Int32) (k u : Nat) (hu : u < 8) : mOf (mT2 M n t) k u = if k = n then t2V M n t u else mOf M k u := by
  unfold mT2 t2V
  simp only [mOf_mSet (show 0 < 8 by decide) (show 6 < 8 by decide), mOf_mSet (show 0 < 8 by decide) (show 5 < 8 by decide), mOf_mSet (show 6 < 8 by decide) (show 5 < 8 by decide), mOf_mSet (show 5 < 8 by decide) hu, mOf_mSet (show 6 < 8 by decide) hu, mOf_mSet (show 0 < 8 by decide) hu]
  by_cases e : k = n
  · subst e
    by_cases u0 : u = 0
    · subst u0; simp
    · by_cases u6 : u = 6
      · subst u6; simp
      · by_cases u5 : u = 5
        · subst u5; simp
        · simp [u0, u5, u6]
  · simp [e]
theorem t2L_at (o : Nat → Nat) (g : Nat → Int32) : ∀ (m t : Nat) (M : MT), (∀ a b, t ≤ a → a < t + m → t ≤ b → b < t + m → o a = o b → a = b) →
    (t2L o g m t M).1 = M.1 ∧ (t2L o g m t M).2.1 = M.2.1 ∧ (t2L o g m t M).2.2.2 = M.2.2.2 ∧ (∀ j, t ≤ j → j < t + m → ∀ u, u < 8 → mOf (t2L o g m t M) (o j) u = t2V M (o j) (g j) u) ∧
    (∀ x, (∀ j, t ≤ j → j < t + m → o j ≠ x) → ∀ u, u < 8 → mOf (t2L o g m t M) x u = mOf M x u) := by
  intro m
  induction m with
  | zero => intro t M _; exact ⟨rfl, rfl, rfl, fun j h1 h2 => by omega, fun _ _ _ _ => rfl⟩
  | succ m ih =>
    intro t M hi
    rw [t2L]
    obtain ⟨a1, a2, a3, a5, a6⟩ := ih (t + 1) (mT2 M (o t) (g t)) (fun a b h1 h2 h3 h4 => hi a b (by omega) (by omega) (by omega) (by omega))
    refine ⟨a1, a2, a3, fun j h1 h2 u hu => ?_, fun x hx u hu => ?_⟩
    · by_cases e : j = t
      · rw [e, a6 (o t) (fun q q1 q2 qe => by have := hi q t (by omega) (by omega) (by omega) (by omega) qe; omega) u hu, mT2_of _ _ _ _ _ hu, if_pos rfl]
      · have hne : o j ≠ o t := fun q => e (hi j t h1 h2 (Nat.le_refl _) (by omega) q)
        rw [a5 j (by omega) (by omega) u hu]
        unfold t2V
        rw [mT2_of _ _ _ _ 6 (by decide), if_neg hne, mT2_of _ _ _ _ 5 (by decide), if_neg hne, mT2_of _ _ _ _ u hu, if_neg hne]
        rfl
    · rw [a6 x (fun j h1 h2 => hx j (by omega) (by omega)) u hu, mT2_of _ _ _ _ _ hu, if_neg (fun q => hx t (Nat.le_refl _) (by omega) q.symm)]
theorem ahL_c (M : MT) (o : Nat → Nat) (n : Nat) : ∀ m j c, ahL M o n m j c + (rv o j).countP (fun x => decide (x ≠ n ∧ mOf M x 0 ≠ 2 ∧ mAh M x n = true)) = c + (rv o (j + m)).countP (fun x => decide (x ≠ n ∧ mOf M x 0 ≠ 2 ∧ mAh M x n = true)) := by
  intro m
  induction m with
  | zero => intro j c; rfl
  | succ m ih =>
    intro j c
    have h := ih (j + 1) (c + (if o j ≠ n ∧ mOf M (o j) 0 ≠ 2 ∧ mAh M (o j) n = true then 1 else 0))
    rw [show j + 1 + m = j + (m + 1) by omega, rv, List.countP_cons] at h
    rw [ahL]
    by_cases q : o j ≠ n ∧ mOf M (o j) 0 ≠ 2 ∧ mAh M (o j) n = true
    · rw [if_pos q] at h ⊢; rw [if_pos (decide_eq_true q)] at h; omega
    · rw [if_neg q] at h ⊢; rw [if_neg (by rw [decide_eq_true_iff]; exact q)] at h; omega
