theorem kkL_val (p b : Nat → Int32) (s l : Nat) : ∀ m k x, ((∃ q, k ≤ q ∧ q < k + m ∧ b q = 0 ∧ p q = p l) → kkL p b s l m k x = nI s) ∧ ((¬ ∃ q, k ≤ q ∧ q < k + m ∧ b q = 0 ∧ p q = p l) → kkL p b s l m k x = x) := by
  intro m
  induction m with
  | zero => intro k x; exact ⟨fun ⟨q, h1, h2, _⟩ => by omega, fun _ => rfl⟩
  | succ m ih =>
    intro k x
    rw [kkL]
    obtain ⟨i1, i2⟩ := ih (k + 1) (if b k = 0 ∧ p k = p l then nI s else x)
    by_cases r : ∃ q, k + 1 ≤ q ∧ q < k + 1 + m ∧ b q = 0 ∧ p q = p l
    · refine ⟨fun _ => i1 r, fun q => ?_⟩
      obtain ⟨q', a1, a2, a3⟩ := r
      exact absurd ⟨q', by omega, by omega, a3⟩ q
    · rw [i2 r]
      by_cases c : b k = 0 ∧ p k = p l
      · rw [if_pos c]; exact ⟨fun _ => rfl, fun q => absurd ⟨k, Nat.le_refl _, by omega, c⟩ q⟩
      · rw [if_neg c]
        refine ⟨fun ⟨q', a1, a2, a3⟩ => ?_, fun _ => rfl⟩
        by_cases e : q' = k
        · rw [e] at a3; exact absurd a3 c
        · exact absurd ⟨q', by omega, by omega, a3⟩ r
def SI (M : MT) (np p b : Nat → Int32) : Prop := (∀ q, q < 8 → np q = if b q = 0 then p q else -9) ∧ (∀ q, q < 8 → b q = 0 → ∃ v, v < 8 ∧ p q = nI v) ∧ BO M b
theorem pl_8 : ∀ s, s < 4 → 1 ≤ s → ∀ x, x < 8 → ∀ y, y < 8 → ∃ v, v < 8 ∧ (nI x &&& (bitS s ^^^ (-1))) ||| (nI y &&& bitS s) = nI v := by
  intro s hs h1 x hx y hy
  have key : ∀ s, s < 4 → 1 ≤ s → ∀ x, x < 8 → ∀ y, y < 8 → ((nI x &&& (bitS s ^^^ (-1))) ||| (nI y &&& bitS s)) = nI ((nI x &&& (bitS s ^^^ (-1))) ||| (nI y &&& bitS s)).toNatClampNeg ∧ ((nI x &&& (bitS s ^^^ (-1))) ||| (nI y &&& bitS s)).toNatClampNeg < 8 := by decide +kernel
  obtain ⟨k1, k2⟩ := key s hs h1 x hx y hy
  exact ⟨_, k2, k1⟩
theorem bit_eq : ∀ s, s < 4 → 1 ≤ s → ((8 : Int32) >>> (nI s &&& 31)) = bitS s := by decide +kernel
theorem stage_eq {F : FabT} {M : MT} (hR : RF F M) {s : Nat} (hs : s < 4) (hs1 : 1 ≤ s) : ∀ m t tk np p b, t + m = 8 → SI M np p b → (∀ v, v < 8 → (tk &&& bt v = 0 ↔ ∀ q, q < t → ¬ (b q = 0 ∧ p q = nI v))) →
    SI M (psL F (bitS s) m t tk np) (snL M (bitS s) s m t p b).1 (snL M (bitS s) s m t p b).2 := by
  intro m
  induction m with
  | zero => intro t tk np p b _ h _; exact h
  | succ m ih =>
    intro t tk np p b ht h hk
    obtain ⟨h1, h2, h3⟩ := h
    have hnt := h1 t (by omega)
    have hf := fAt_eq hR (nI t)
    rw [psL, snL]
    by_cases c : b t = 0
    · obtain ⟨v0, hv0, hp0⟩ := h2 t (by omega) c
      have hat := h3 t (by omega) c
      rw [if_pos c] at hnt
      rw [if_neg (fun q => q.elim (fun e => hat (hf.symm.trans e)) (fun e => nI_m9 (show v0 < 2 ^ 31 by omega) (by rw [← hp0, ← hnt]; exact e))), if_pos c]
      obtain ⟨j, hj, hje⟩ := mAtL_nat hat
      have hjl : j < F.2.1 := by rw [hR.2.2.1]; exact hj
      have h64 := hR.1.1
      obtain ⟨a, ha, hae⟩ := hR.2.2.2.2.2.1 j hjl
      have epl : plc F (bitS s) np t = mPl M (bitS s) p t := by
        unfold plc mPl
        rw [hnt, hf, hje, nI_clamp (by omega), hR.2.2.2.2.1 j 2 hjl (by decide) (by decide)]
      obtain ⟨v, hv, hve⟩ := pl_8 s hs hs1 v0 hv0 a ha
      have eV : mPl M (bitS s) p t = nI v := by
        unfold mPl
        rw [hp0, hje, nI_clamp (by omega), ← hR.2.2.2.2.1 j 2 hjl (by decide) (by decide), hae, hve]
      rw [epl, eV]
      have hbt : (1 : Int32) <<< (nI v &&& 31) = bt v := rfl
      rw [hbt]
      have hpq : ∀ q, q ≠ t → upd p t (nI v) q = p q := fun q hq => ud_ne hq
      have hkk := kkL_val (upd p t (nI v)) b s t t 0 (b t)
      have hex : (∃ q, 0 ≤ q ∧ q < 0 + t ∧ b q = 0 ∧ upd p t (nI v) q = upd p t (nI v) t) ↔ ¬ tk &&& bt v = 0 := by
        rw [hk v hv, ud_s]
        constructor
        · rintro ⟨q, _, q2, q3, q4⟩ r
          rw [hpq q (by omega)] at q4
          exact r q (by omega) ⟨q3, q4⟩
        · intro r
          apply Classical.byContradiction
          intro r2
          exact r (fun q hq ⟨q3, q4⟩ => r2 ⟨q, Nat.zero_le _, by omega, q3, by rw [hpq q (by omega)]; exact q4⟩)
      have hbn : kkL (upd p t (nI v)) b s t t 0 (b t) = if tk &&& bt v = 0 then 0 else nI s := by
        by_cases c2 : tk &&& bt v = 0
        · rw [if_pos c2, hkk.2 (fun q => (hex.mp q) c2), c]
        · rw [if_neg c2, hkk.1 (hex.mpr c2)]
      rw [hbn]
      have hs0 : ¬ nI s = 0 := nI_ne0 (by omega) (by omega)
      refine ih (t + 1) _ _ _ _ (by omega) ⟨fun q hq => ?_, fun q hq hb => ?_, h3.up9 hat _⟩ (fun w hw => ?_)
      · by_cases e : q = t
        · subst e
          rw [ud_s, ud_s, ud_s]
          by_cases c2 : tk &&& bt v = 0
          · rw [if_pos c2, if_pos c2, if_pos rfl]
          · rw [if_neg c2, if_neg c2, if_neg hs0]
        · rw [ud_ne e, ud_ne e, ud_ne e]; exact h1 q hq
      · by_cases e : q = t
        · rw [e, ud_s]; exact ⟨v, hv, rfl⟩
        · rw [ud_ne e] at hb; rw [ud_ne e]; exact h2 q hq hb
      · rw [bt_or hv hw, hk w hw]
        constructor
        · rintro ⟨r1, r2⟩ q hq ⟨r3, r4⟩
          by_cases e : q = t
          · rw [e, ud_s] at r4
            exact r2 ((nI_eq (by omega) (by omega)).mp r4)
          · rw [ud_ne e] at r3 r4
            exact r1 q (by omega) ⟨r3, r4⟩
        · intro r
          refine ⟨fun q hq ⟨r3, r4⟩ => r q (by omega) ⟨by rw [ud_ne (by omega)]; exact r3, by rw [ud_ne (by omega)]; exact r4⟩, fun e => ?_⟩
          subst e
          by_cases c2 : tk &&& bt v = 0
          · exact r t (by omega) ⟨by rw [ud_s, if_pos c2], ud_s _ _ _⟩
          · rw [hk v hw] at c2
            exact c2 (fun q hq ⟨r3, r4⟩ => r q (by omega) ⟨by rw [ud_ne (by omega)]; exact r3, by rw [ud_ne (by omega)]; exact r4⟩)
    · rw [if_neg c] at hnt
      rw [if_pos (Or.inr hnt), if_neg c]
      refine ih (t + 1) tk np p b (by omega) ⟨h1, h2, h3⟩ (fun w hw => ?_)
      rw [hk w hw]
      constructor
      · intro r q hq ⟨r3, r4⟩
        by_cases e : q = t
        · rw [e] at r3; exact c r3
        · exact r q (by omega) ⟨r3, r4⟩
      · intro r q hq; exact r q (by omega)
theorem snL_a (M : MT) (bit : Int32) (s a : Nat) : ∀ m l p b, l + m = 8 → (¬ b a = 0 → (snL M bit s m l p b).2 a = b a) ∧ (b a = 0 → (snL M bit s m l p b).2 a = 0 ∨ (snL M bit s m l p b).2 a = nI s) := by
  intro m
  induction m with
  | zero => intro l p b _; exact ⟨fun _ => rfl, fun h => Or.inl h⟩
  | succ m ih =>
    intro l p b hl
    rw [snL]
    by_cases c : b l = 0
    · rw [if_pos c]
      obtain ⟨kv, hkv⟩ : ∃ kv, kv = kkL (upd p l (mPl M bit p l)) b s l l 0 (b l) := ⟨_, rfl⟩
      have hor : kv = 0 ∨ kv = nI s := by
        obtain ⟨k1, k2⟩ := kkL_val (upd p l (mPl M bit p l)) b s l l 0 (b l)
        rw [hkv]
        by_cases r : ∃ q, 0 ≤ q ∧ q < 0 + l ∧ b q = 0 ∧ upd p l (mPl M bit p l) q = upd p l (mPl M bit p l) l
        · exact Or.inr (k1 r)
        · exact Or.inl ((k2 r).trans c)
      rw [← hkv]
      obtain ⟨i1, i2⟩ := ih (l + 1) (upd p l (mPl M bit p l)) (upd b l kv) (by omega)
      by_cases e : a = l
      · subst e
        rw [ud_s] at i1 i2
        refine ⟨fun q => absurd c q, fun _ => ?_⟩
        by_cases c3 : kv = 0
        · exact i2 c3
        · rw [i1 c3]; exact Or.inr (hor.resolve_left c3)
      · rw [ud_ne e] at i1 i2
        exact ⟨i1, i2⟩
    · rw [if_neg c]; exact ih (l + 1) p b (by omega)
theorem sgL_fix (M : MT) (a : Nat) : ∀ m s p b, ¬ b a = 0 → (sgL M m s p b).2 a = b a := by
  intro m
  induction m with
  | zero => intro s p b _; rfl
  | succ m ih =>
    intro s p b h
    rw [sgL]
    have := (snL_a M ((8 : Int32) >>> (nI s &&& 31)) s a 8 0 p b rfl).1 h
    rw [ih _ _ _ (by rw [this]; exact h), this]
theorem str_eq {F : FabT} {M : MT} (hR : RF F M) {a : Nat} (ha : a < 8) : ∀ m s np p b, s + m = 4 → 1 ≤ s → SI M np p b → b a = 0 → (strL F a m s np).1 = (sgL M m s p b).2 a := by
  intro m
  induction m with
  | zero => intro s np p b _ _ _ hb; exact hb.symm
  | succ m ih =>
    intro s np p b hs h1 h hb
    rw [strL, sgL, bit_eq s (by omega) h1]
    have hst := stage_eq hR (show s < 4 by omega) h1 8 0 0 np p b rfl h (fun v _ => ⟨fun _ q hq => absurd hq (Nat.not_lt_zero q), fun _ => Int32.zero_and⟩)
    obtain ⟨x1, x2, x3⟩ := hst
    have hor := (snL_a M (bitS s) s a 8 0 p b rfl).2 hb
    have hxa := x1 a ha
    by_cases c : (snL M (bitS s) s 8 0 p b).2 a = 0
    · obtain ⟨v, hv, hve⟩ := x2 a ha c
      rw [if_pos c, hve] at hxa
      rw [if_neg (by rw [hxa]; exact nI_m9 (by omega))]
      exact ih (s + 1) _ _ _ (by omega) (by omega) ⟨x1, x2, x3⟩ c
    · rw [if_neg c] at hxa
      rw [if_pos hxa, sgL_fix M a _ _ _ _ c]
      exact (hor.resolve_left c).symm
theorem CP.net {σ : ST} {M : MT} (h : CP σ M) (g : Nat → Int32) : CP (sN σ g) M := by
  obtain ⟨h1, h2, h3, h4, h5, h6, h7⟩ := h
  exact ⟨⟨h1.1, h1.2.1, h1.2.2.1, h1.2.2.2.1, h1.2.2.2.2.1, h1.2.2.2.2.2.1, h1.2.2.2.2.2.2⟩, h2, h3, h4, h5, h6, h7⟩
theorem EQM_PB (M : MT) (p b : Nat → Int32) : EQM M (mPB M p b) := ⟨⟨fun _ _ => rfl, rfl, rfl, fun _ _ => rfl⟩, rfl, rfl, fun _ _ => rfl, rfl, rfl, rfl⟩
theorem ok_straight {σ : ST} {M : MT} (h : CP σ M) (a : Int32) : OK σ (xStraight σ a) (yStraight M a) := by
  have hR := h.2.1.1
  unfold xStraight yStraight
  by_cases c : wi a 0 7 = true
  · rw [if_pos c, if_pos c, fAt_eq hR]
    by_cases c2 : mAtL M a = -9
    · rw [if_pos c2, if_pos c2]; exact ⟨rfl, h, rfl⟩
    · rw [if_neg c2, if_neg c2]
      obtain ⟨j, hj, hje⟩ := wi_nat (n := 7) (by decide) c
      refine ⟨?_, (h.net _).eqm (EQM_PB M _ _), rfl⟩
      show (strL (σ.1 0) a.toNatClampNeg 3 1 (enN (σ.1 0) (σ.2.2.1.2 3) 8)).1 = (msS M).2 a.toNatClampNeg
      rw [hje] at c2 ⊢
      rw [nI_clamp (by omega)]
      refine str_eq hR (show j < 8 by omega) 3 1 _ _ _ rfl (by decide) ⟨fun q hq => ?_, fun q hq _ => ⟨q, hq, by rw [sp0, if_pos hq]⟩, fun l hl h0 e => ?_⟩ ?_
      · rw [enN, if_pos hq, fAt_eq hR, sb0, if_pos hq, sp0, if_pos hq]
        by_cases c3 : mAtL M (nI q) = -9
        · rw [if_pos c3, if_pos c3, if_neg (by decide)]
        · rw [if_neg c3, if_neg c3, if_pos rfl]
      · rw [sb0, if_pos hl, if_pos e] at h0; exact absurd h0 (by decide)
      · rw [sb0, if_pos (by omega), if_neg c2]
  · rw [if_neg c, if_neg c]; exact ⟨rfl, h, rfl⟩
