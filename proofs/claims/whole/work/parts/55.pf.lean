def bt (a : Nat) : Int32 := (1 : Int32) <<< (nI a &&& 31)
theorem or_and_0 (x y z : Int32) : (x ||| y) &&& z = 0 ↔ x &&& z = 0 ∧ y &&& z = 0 := by
  have e : (x ||| y) &&& z = (x &&& z) ||| (y &&& z) := by
    apply Int32.toBitVec_inj.mp
    ext i hi
    simp [Bool.and_or_distrib_right]
  rw [e, Int32.or_eq_zero_iff]
theorem bt_and : ∀ a, a < 8 → ∀ b, b < 8 → (bt a &&& bt b = 0 ↔ a ≠ b) := by decide
theorem bt_or {sv : Int32} {a b : Nat} (ha : a < 8) (hb : b < 8) : (sv ||| bt a) &&& bt b = 0 ↔ sv &&& bt b = 0 ∧ a ≠ b := by
  rw [or_and_0, bt_and a ha b hb]
theorem enL_at (F : FabT) (n q x w : Nat) (hw : w < 7) : (enL F n q).2.2 w x = if x = n then (if w = 0 then nI q else if w = 5 then F.1 3 else F.2.2 w x) else F.2.2 w x := by
  by_cases w5 : w = 5
  · subst w5
    have e : (enL F n q).2.2 5 = upd (F.2.2 5) n (F.1 3) := by
      simp only [enL, up_s]; rw [mvL_w F n q (by decide) (by decide)]; rfl
    rw [e]
    by_cases ex : x = n
    · subst ex; rw [ud_s, if_pos rfl, if_neg (by decide), if_pos rfl]
    · rw [ud_ne ex, if_neg ex]
  · rw [enL_w _ _ _ w5]
    by_cases w0 : w = 0
    · subst w0; rw [mvL_0]; by_cases ex : x = n
      · rw [if_pos ex, if_pos ex, if_pos rfl]
      · rw [if_neg ex, if_neg ex]
    · rw [mvL_w F n q w0 (by omega), if_neg w0, if_neg w5]; by_cases ex : x = n
      · rw [if_pos ex]
      · rw [if_neg ex]
theorem enL_TL {F : FabT} (hF : PK F) (hT : TL F) {n q : Nat} (hn : n < F.2.1) (hq : q < 5) : TL (enL F n q) :=
  TL_of (TL_mv hF hT hn hq) rfl (enL_w _ _ _ (by decide)) (enL_w _ _ _ (by decide))
def foV (F : FabT) (fi : Nat → Bool) (l : List Nat) (n w : Nat) : Int32 := if n ∈ l ∧ fi n = true then (if w = 0 then 3 else if w = 5 then F.1 3 else F.2.2 w n) else F.2.2 w n
theorem foL_at (fi : Nat → Bool) (z : Nat) (Q0 : Nat → Nat) (hnd : (rv Q0 z).Nodup) (F0 : FabT) (hq0 : ∀ q, q < z → Q0 q < F0.2.1 ∧ ∃ a, a < 8 ∧ F0.2.2 2 (Q0 q) = nI a)
    (hfi : ∀ q, q < z → (fi (Q0 q) = true ↔ ∀ t', t' < q → F0.2.2 2 (Q0 t') ≠ F0.2.2 2 (Q0 q))) : ∀ (m t : Nat) (sv : Int32) (l : Nat) (F : FabT) (g : Nat → Nat), t + m = z → l ≤ t → (∀ q, t ≤ q → q < z → g q = Q0 q) → PK F → TL F → F.2.1 = F0.2.1 → F.1 = F0.1 →
    (∀ a, a < 8 → (sv &&& bt a = 0 ↔ ∀ t', t' < t → F0.2.2 2 (Q0 t') ≠ nI a)) → rv g l = (rv Q0 t).filter (fun n => !fi n) → (∀ w, w < 7 → ∀ n, F.2.2 w n = foV F0 fi (rv Q0 t) n w) →
    PK (foL m t sv l F g).1 ∧ TL (foL m t sv l F g).1 ∧ (foL m t sv l F g).1.1 = F0.1 ∧ (foL m t sv l F g).1.2.1 = F0.2.1 ∧ rv (foL m t sv l F g).2.1 (foL m t sv l F g).2.2 = (rv Q0 z).filter (fun n => !fi n) ∧
    (∀ w, w < 7 → ∀ n, (foL m t sv l F g).1.2.2 w n = foV F0 fi (rv Q0 z) n w) := by
  intro m
  induction m with
  | zero =>
    intro t sv l F g ht hl hg hF hT hL hc hsv hr hV
    have e : t = z := by omega
    subst e
    exact ⟨hF, hT, hc, hL, hr, hV⟩
  | succ m ih =>
    intro t sv l F g ht hl hg hF hT hL hc hsv hr hV
    have hgt : g t = Q0 t := hg t (Nat.le_refl _) (by omega)
    obtain ⟨hn, a, ha, hae⟩ := hq0 t (by omega)
    have h2 : F.2.2 2 (Q0 t) = F0.2.2 2 (Q0 t) := by
      rw [hV 2 (by decide), foV]; split
      · rfl
      · rfl
    have hnot : Q0 t ∉ rv Q0 t := fun q => by
      obtain ⟨t', h1, he⟩ := rv_mem.mp q
      have := rv_nd hnd t' t (by omega) (by omega) he
      omega
    have hfit : sv &&& bt a = 0 ↔ fi (Q0 t) = true := by
      rw [hsv a ha, hfi t (by omega), hae]
    have hbt : (1 : Int32) <<< (F.2.2 2 (g t) &&& 31) = bt a := by rw [hgt, h2, hae]; rfl
    rw [foL, hbt, hgt]
    have hVn : ∀ w, w < 7 → ∀ n, n ≠ Q0 t → foV F0 fi (rv Q0 (t + 1)) n w = foV F0 fi (rv Q0 t) n w := fun w _ n hne => by
      have hm : n ∈ rv Q0 (t + 1) ↔ n ∈ rv Q0 t := by rw [rv, List.mem_cons]; exact ⟨fun q => q.elim (fun e => absurd e hne) id, Or.inr⟩
      unfold foV
      simp only [hm]
    have hF0t : ∀ w, w < 7 → F.2.2 w (Q0 t) = F0.2.2 w (Q0 t) := fun w hw => by
      rw [hV w hw, foV, if_neg (fun q => hnot q.1)]
    by_cases c : sv &&& bt a = 0
    · have hfi1 := hfit.mp c
      rw [if_pos c]
      refine ih (t + 1) _ l (enL F (Q0 t) 3) g (by omega) (by omega) (fun q h1 h2 => hg q (by omega) h2) (enL_pk hF _ (by decide)) (enL_TL hF hT (by rw [hL]; exact hn) (by decide)) hL hc (fun b hb => ?_) ?_ (fun w hw n => ?_)
      · rw [bt_or ha hb, hsv b hb]
        constructor
        · rintro ⟨q1, q2⟩ t' ht'
          by_cases e : t' = t
          · rw [e, hae]; exact fun e2 => q2 ((nI_eq (by omega) (by omega)).mp e2)
          · exact q1 t' (by omega)
        · intro q
          exact ⟨fun t' ht' => q t' (by omega), fun e => by have := q t (by omega); rw [hae, e] at this; exact this rfl⟩
      · rw [hr, rv, List.filter_cons, if_neg (by rw [hfi1]; decide)]
      · rw [enL_at _ _ _ _ _ hw]
        by_cases e : n = Q0 t
        · subst e
          have hm : Q0 t ∈ rv Q0 (t + 1) ∧ fi (Q0 t) = true := ⟨by rw [rv]; exact List.mem_cons_self .., hfi1⟩
          rw [if_pos (Eq.refl (Q0 t)), foV, if_pos hm, hc, hF0t w hw]; rfl
        · rw [if_neg e, hVn w hw n e]; exact hV w hw n
    · have hfi0 : fi (Q0 t) = false := by
        rw [← Bool.not_eq_true]; exact fun q => c (hfit.mpr q)
      rw [if_neg c]
      refine ih (t + 1) sv (l + 1) F (va_up g l (Q0 t)) (by omega) (by omega) (fun q h1 h2 => ?_) hF hT hL hc (fun b hb => ?_) ?_ (fun w hw n => ?_)
      · rw [up_n (by omega)]; exact hg q (by omega) h2
      · rw [hsv b hb]
        constructor
        · intro q t' ht'
          by_cases e : t' = t
          · rw [e, hae]
            intro e2
            have hab := (nI_eq (by omega) (by omega)).mp e2
            subst hab
            exact c ((hsv a ha).mpr q)
          · exact q t' (by omega)
        · intro q t' ht'; exact q t' (by omega)
      · rw [rv, up_s, rv_congr (f := g) l (fun q hq => up_n (by omega)), hr, rv, List.filter_cons, if_pos (by rw [hfi0]; rfl)]
      · by_cases e : n = Q0 t
        · subst e
          rw [hF0t w hw, foV, if_neg (fun q => by rw [hfi0] at q; exact absurd q.2 (by decide))]
        · rw [hVn w hw n e]; exact hV w hw n
