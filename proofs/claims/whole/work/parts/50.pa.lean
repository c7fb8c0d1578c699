/-- the numbers of a row, the last first -/
def rv (g : Nat → Nat) : Nat → List Nat
  | 0 => []
  | k + 1 => g k :: rv g k
def rr (w : RowT) : List Nat := rv w.1 w.2
theorem rv_len (g : Nat → Nat) : ∀ k, (rv g k).length = k := by
  intro k
  induction k with
  | zero => rfl
  | succ k ih => simp [rv, ih]
theorem rv_congr {g f : Nat → Nat} : ∀ k, (∀ t, t < k → g t = f t) → rv g k = rv f k := by
  intro k
  induction k with
  | zero => intro _; rfl
  | succ k ih => intro h; rw [rv, rv, h k (Nat.lt_succ_self k), ih (fun t ht => h t (by omega))]
theorem rv_inj {g f : Nat → Nat} : ∀ k, rv g k = rv f k → ∀ t, t < k → g t = f t := by
  intro k
  induction k with
  | zero => intro _ t ht; exact absurd ht (Nat.not_lt_zero t)
  | succ k ih =>
    intro h t ht
    rw [rv, rv, List.cons.injEq] at h
    by_cases e : t = k
    · rw [e]; exact h.1
    · exact ih h.2 t (by omega)
theorem rr_inj {w v : RowT} (h : rr w = rr v) : w.2 = v.2 ∧ ∀ t, t < w.2 → w.1 t = v.1 t := by
  have e : w.2 = v.2 := by
    have := congrArg List.length h
    rwa [rr, rr, rv_len, rv_len] at this
  refine ⟨e, ?_⟩
  unfold rr at h
  rw [← e] at h
  exact rv_inj _ h
theorem rv_mem {g : Nat → Nat} {x : Nat} : ∀ {k}, x ∈ rv g k ↔ ∃ t, t < k ∧ g t = x := by
  intro k
  induction k with
  | zero => simp [rv]
  | succ k ih =>
    rw [rv, List.mem_cons, ih]
    constructor
    · rintro (h | ⟨t, h1, h2⟩)
      · exact ⟨k, Nat.lt_succ_self k, h.symm⟩
      · exact ⟨t, by omega, h2⟩
    · rintro ⟨t, h1, h2⟩
      by_cases e : t = k
      · exact Or.inl (by rw [← h2, e])
      · exact Or.inr ⟨t, by omega, h2⟩
theorem rv_nd {g : Nat → Nat} : ∀ {k}, (rv g k).Nodup → ∀ a b, a < k → b < k → g a = g b → a = b := by
  intro k
  induction k with
  | zero => intro _ a b ha; exact absurd ha (Nat.not_lt_zero a)
  | succ k ih =>
    intro h a b ha hb e
    rw [rv, List.nodup_cons] at h
    by_cases ea : a = k
    · by_cases eb : b = k
      · rw [ea, eb]
      · exact absurd (rv_mem.mpr ⟨b, by omega, by rw [← e, ea]⟩) h.1
    · by_cases eb : b = k
      · exact absurd (rv_mem.mpr ⟨a, by omega, by rw [e, eb]⟩) h.1
      · exact ih h.2 a b (by omega) (by omega) e
def oin (lt : Nat → Bool) (x : Nat) : List Nat → List Nat
  | [] => [x]
  | y :: ys => if lt y then y :: oin lt x ys else x :: y :: ys
theorem insL_hi (lt : Nat → Bool) : ∀ (k : Nat) (g : Nat → Nat), (insL lt g k).2 ≤ k ∧ ∀ q, k < q → (insL lt g k).1 q = g q := by
  intro k
  induction k with
  | zero => intro g; exact ⟨Nat.le_refl _, fun _ _ => rfl⟩
  | succ k ih =>
    intro g
    rw [insL]
    split
    · obtain ⟨a, b⟩ := ih (va_up g (k + 1) (g k))
      exact ⟨by omega, fun q hq => by rw [b q (by omega), up_n (by omega)]⟩
    · exact ⟨Nat.le_refl _, fun _ _ => rfl⟩
theorem insL_rv (lt : Nat → Bool) (x : Nat) : ∀ (k : Nat) (g : Nat → Nat), rv (va_up (insL lt g k).1 (insL lt g k).2 x) (k + 1) = oin lt x (rv g k) := by
  intro k
  induction k with
  | zero => intro g; simp [insL, rv, oin, up_s]
  | succ k ih =>
    intro g
    by_cases h : lt (g k) = true
    · obtain ⟨a, b⟩ := insL_hi lt k (va_up g (k + 1) (g k))
      have e : insL lt g (k + 1) = insL lt (va_up g (k + 1) (g k)) k := by rw [insL, if_pos h]
      rw [e, rv, ih, up_n (by omega), b (k + 1) (by omega), up_s, rv, oin, if_pos h]
      rw [rv_congr (f := g) k (fun t ht => up_n (by omega))]
    · have e : insL lt g (k + 1) = (g, k + 1) := by rw [insL, if_neg h]
      rw [e, rv, up_s, rv_congr (f := g) (k + 1) (fun t ht => up_n (by omega)), rv, oin, if_neg h]
theorem rr_ins (lt : Nat → Bool) {w : RowT} (x : Nat) (h : w.2 < 64) : rr (rIns lt w x) = oin lt x (rr w) := by
  rw [rIns, if_pos h]; exact insL_rv lt x w.2 w.1
theorem rr_add {w : RowT} (x : Nat) (h : w.2 < 64) : rr (rAdd w x) = x :: rr w := by
  rw [rAdd, if_pos h]
  show rv (va_up w.1 w.2 x) (w.2 + 1) = _
  rw [rv, up_s, rv_congr (f := w.1) w.2 (fun t ht => up_n (by omega))]; rfl
theorem oin_perm (lt : Nat → Bool) (x : Nat) : ∀ l, (oin lt x l).Perm (x :: l) := by
  intro l
  induction l with
  | nil => exact List.Perm.refl _
  | cons y ys ih =>
    rw [oin]
    split
    · exact (List.Perm.cons y ih).trans (List.Perm.swap x y ys)
    · exact List.Perm.refl _
theorem oin_congr {lt lt' : Nat → Bool} (x : Nat) : ∀ l, (∀ y, y ∈ l → lt y = lt' y) → oin lt x l = oin lt' x l := by
  intro l
  induction l with
  | nil => intro _; rfl
  | cons y ys ih =>
    intro h
    rw [oin, oin, h y (List.mem_cons_self ..), ih (fun z hz => h z (List.mem_cons_of_mem _ hz))]
def srL (lt : Nat → Nat → Bool) (sel : Nat → Bool) : Nat → Nat → List Nat → List Nat
  | 0, _, l => l
  | m + 1, k, l => srL lt sel m (k + 1) (if sel k then oin (lt k) k l else l)
theorem srtL_rr (F : FabT) (sel : Nat → Bool) (b : Bool) : ∀ (m k : Nat) (w : RowT), w.2 ≤ k → k + m ≤ 64 → rr (srtL F sel b m k w) = srL (fun k y => gB F k y b) sel m k (rr w) := by
  intro m
  induction m with
  | zero => intro k w _ _; rfl
  | succ m ih =>
    intro k w hw hk
    rw [srtL, srL]
    by_cases h : sel k = true
    · rw [if_pos h, if_pos h, ih (k + 1) _ (by have := rIns_sz (fun y => gB F k y b) w k; omega) (by omega), rr_ins _ _ (by omega)]
    · rw [if_neg h, if_neg h, ih (k + 1) w (by omega) (by omega)]
theorem msL_rr (M : MT) : ∀ (m k : Nat) (w : RowT), w.2 ≤ k → k + m ≤ 64 → rr (msL M m k w) = srL (fun k y => mSo M k y) (mIn M) m k (rr w) := by
  intro m
  induction m with
  | zero => intro k w _ _; rfl
  | succ m ih =>
    intro k w hw hk
    rw [msL, srL]
    by_cases h : mIn M k = true
    · rw [if_pos h, if_pos h, ih (k + 1) _ (by have := rIns_sz (fun y => mSo M k y) w k; omega) (by omega), rr_ins _ _ (by omega)]
    · rw [if_neg h, if_neg h, ih (k + 1) w (by omega) (by omega)]
theorem srL_congr {lt lt' : Nat → Nat → Bool} {sel sel' : Nat → Bool} (L : Nat) (h1 : ∀ k, k < L → sel k = sel' k) (h2 : ∀ a b, a < L → b < L → lt a b = lt' a b) : ∀ m k l, k + m ≤ L → (∀ x, x ∈ l → x < k) → srL lt sel m k l = srL lt' sel' m k l := by
  intro m
  induction m with
  | zero => intro k l _ _; rfl
  | succ m ih =>
    intro k l hk hl
    rw [srL, srL, h1 k (by omega), oin_congr k l (fun y hy => h2 k y (by omega) (by have := hl y hy; omega))]
    refine ih (k + 1) _ (by omega) (fun x hx => ?_)
    by_cases h : sel' k = true
    · rw [if_pos h] at hx
      rcases List.mem_cons.mp ((oin_perm _ _ _).mem_iff.mp hx) with e | e
      · omega
      · have := hl x e; omega
    · rw [if_neg h] at hx; have := hl x hx; omega
theorem srL_mem {lt : Nat → Nat → Bool} {sel : Nat → Bool} {x : Nat} : ∀ m k l, x ∈ srL lt sel m k l ↔ x ∈ l ∨ (k ≤ x ∧ x < k + m ∧ sel x = true) := by
  intro m
  induction m with
  | zero =>
    intro k l
    rw [srL]
    exact ⟨Or.inl, fun h => h.elim id (fun q => by omega)⟩
  | succ m ih =>
    intro k l
    rw [srL, ih]
    by_cases h : sel k = true
    · rw [if_pos h, (oin_perm _ _ _).mem_iff, List.mem_cons]
      constructor
      · rintro ((e | e) | ⟨a, b, c⟩)
        · rw [e]; exact Or.inr ⟨Nat.le_refl _, by omega, h⟩
        · exact Or.inl e
        · exact Or.inr ⟨by omega, by omega, c⟩
      · rintro (e | ⟨a, b, c⟩)
        · exact Or.inl (Or.inr e)
        · by_cases e : x = k
          · exact Or.inl (Or.inl e)
          · exact Or.inr ⟨by omega, by omega, c⟩
    · rw [if_neg h]
      constructor
      · rintro (e | ⟨a, b, c⟩)
        · exact Or.inl e
        · exact Or.inr ⟨by omega, by omega, c⟩
      · rintro (e | ⟨a, b, c⟩)
        · exact Or.inl e
        · by_cases e : x = k
          · rw [e] at c; exact absurd c h
          · exact Or.inr ⟨by omega, by omega, c⟩
theorem srL_nodup {lt : Nat → Nat → Bool} {sel : Nat → Bool} : ∀ m k l, l.Nodup → (∀ x, x ∈ l → x < k) → (srL lt sel m k l).Nodup := by
  intro m
  induction m with
  | zero => intro k l h _; exact h
  | succ m ih =>
    intro k l hn hl
    rw [srL]
    by_cases h : sel k = true
    · rw [if_pos h]
      refine ih (k + 1) _ ((oin_perm _ _ _).nodup_iff.mpr (List.nodup_cons.mpr ⟨fun q => absurd (hl k q) (Nat.lt_irrefl k), hn⟩)) (fun x hx => ?_)
      rcases List.mem_cons.mp ((oin_perm _ _ _).mem_iff.mp hx) with e | e
      · omega
      · have := hl x e; omega
    · rw [if_neg h]; exact ih (k + 1) l hn (fun x hx => by have := hl x hx; omega)
/-- who is ahead: the higher priority, then the lower number -/
def ah (pr : Nat → Int32) (a b : Nat) : Bool := if pr a ≠ pr b then decide (pr b < pr a) else decide (a < b)
theorem gB_ah (F : FabT) (a b : Nat) : gB F a b false = ah (F.2.2 3) a b := by simp [gB, ah]
theorem mAh_ah (M : MT) (a b : Nat) : mAh M a b = ah (fun n => mOf M n 3) a b := rfl
theorem ah_irr (pr : Nat → Int32) (a : Nat) : ah pr a a = false := by simp [ah]
theorem ah_iff {pr : Nat → Int32} {a b : Nat} : ah pr a b = true ↔ (pr b).toInt < (pr a).toInt ∨ ((pr a).toInt = (pr b).toInt ∧ a < b) := by
  unfold ah
  by_cases h : pr a = pr b
  · simp [h]
  · have : (pr a).toInt ≠ (pr b).toInt := fun e => h (Int32.toInt_inj.mp e)
    simp [h, Int32.lt_iff_toInt_lt, this]
theorem ah_asym {pr : Nat → Int32} {a b : Nat} (h : ah pr a b = true) : ah pr b a = false := by
  rw [Bool.eq_false_iff]; intro q
  rw [ah_iff] at h q; omega
theorem ah_tot {pr : Nat → Int32} {a b : Nat} (h : ¬ ah pr a b = true) (hn : a ≠ b) : ah pr b a = true := by
  rw [ah_iff] at *; omega
theorem ah_trans {pr : Nat → Int32} {a b c : Nat} (h1 : ah pr a b = true) (h2 : ah pr b c = true) : ah pr a c = true := by
  rw [ah_iff] at *; omega
theorem oin_sorted (pr : Nat → Int32) (x : Nat) : ∀ l, x ∉ l → l.Pairwise (fun y z => ah pr z y = true) → (oin (fun y => ah pr x y) x l).Pairwise (fun y z => ah pr z y = true) := by
  intro l
  induction l with
  | nil => intro _ _; exact List.pairwise_singleton _ _
  | cons y ys ih =>
    intro hx hp
    rw [List.pairwise_cons] at hp
    have hxy : x ≠ y := fun e => hx (by rw [e]; exact List.mem_cons_self ..)
    rw [oin]
    by_cases h : ah pr x y = true
    · rw [if_pos h, List.pairwise_cons]
      refine ⟨fun z hz => ?_, ih (fun q => hx (List.mem_cons_of_mem _ q)) hp.2⟩
      rcases List.mem_cons.mp ((oin_perm _ _ _).mem_iff.mp hz) with e | e
      · rw [e]; exact h
      · exact hp.1 z e
    · rw [if_neg h, List.pairwise_cons, List.pairwise_cons]
      have hyx := ah_tot h hxy
      refine ⟨fun z hz => ?_, hp⟩
      rcases List.mem_cons.mp hz with e | e
      · rw [e]; exact hyx
      · exact ah_trans (hp.1 z e) hyx
theorem ah_idx (pr : Nat → Int32) (g : Nat → Nat) : ∀ k, (rv g k).Pairwise (fun y z => ah pr z y = true) → ∀ t, t < k → (rv g k).countP (fun m => ah pr m (g t)) = t := by
  intro k
  induction k with
  | zero => intro _ t ht; exact absurd ht (Nat.not_lt_zero t)
  | succ k ih =>
    intro h t ht
    rw [rv, List.pairwise_cons] at h
    rw [rv, List.countP_cons]
    by_cases e : t = k
    · rw [e, ah_irr]
      have : (rv g k).countP (fun m => ah pr m (g k)) = (rv g k).length := List.countP_eq_length.mpr (fun z hz => h.1 z hz)
      rw [this, rv_len]; rfl
    · rw [ih h.2 t (by omega), ah_asym (h.1 (g t) (rv_mem.mpr ⟨t, by omega, rfl⟩))]; rfl
/-- how many below L -/
def cn (p : Nat → Bool) : Nat → Nat
  | 0 => 0
  | L + 1 => cn p L + (p L).toNat
theorem ctL_cn (p : Nat → Bool) : ∀ m k c, ctL p m k c + cn p k = c + cn p (k + m) := by
  intro m
  induction m with
  | zero => intro k c; rfl
  | succ m ih =>
    intro k c
    have h := ih (k + 1) (c + (if p k = true then 1 else 0))
    rw [show k + 1 + m = k + (m + 1) by omega, cn] at h
    have e : ctL p (m + 1) k c = ctL p m (k + 1) (c + (if p k = true then 1 else 0)) := by
      rw [ctL]
      try (split <;> rfl)
    rw [e]
    by_cases q : p k = true
    · simp [q] at h ⊢; omega
    · simp [q] at h ⊢; omega
theorem ctL_0 (p : Nat → Bool) (L : Nat) : ctL p L 0 0 = cn p L := by
  have := ctL_cn p L 0 0
  simpa [cn] using this
theorem cn_congr {p q : Nat → Bool} : ∀ L, (∀ k, k < L → p k = q k) → cn p L = cn q L := by
  intro L
  induction L with
  | zero => intro _; rfl
  | succ L ih => intro h; rw [cn, cn, ih (fun k hk => h k (by omega)), h L (Nat.lt_succ_self L)]
theorem cn_le (p : Nat → Bool) : ∀ L, cn p L ≤ L := by
  intro L
  induction L with
  | zero => exact Nat.le_refl _
  | succ L ih => rw [cn]; cases p L <;> simp [Bool.toNat] <;> omega
theorem cn_upd {p q : Nat → Bool} {n : Nat} (h : ∀ k, k ≠ n → q k = p k) : ∀ L, n < L → cn q L + (p n).toNat = cn p L + (q n).toNat := by
  intro L
  induction L with
  | zero => intro hn; exact absurd hn (Nat.not_lt_zero n)
  | succ L ih =>
    intro hn
    rw [cn, cn]
    by_cases e : n = L
    · subst e
      rw [cn_congr n (fun k hk => h k (by omega))]; omega
    · have := ih (by omega)
      rw [h L (fun e2 => e e2.symm)]; omega
theorem cn_pos {p : Nat → Bool} : ∀ {L}, 0 < cn p L → ∃ k, k < L ∧ p k = true := by
  intro L
  induction L with
  | zero => intro h; exact absurd h (Nat.not_lt_zero 0)
  | succ L ih =>
    intro h
    rw [cn] at h
    by_cases e : p L = true
    · exact ⟨L, Nat.lt_succ_self L, e⟩
    · have e2 : p L = false := by simpa using e
      rw [e2] at h
      obtain ⟨k, h1, h2⟩ := ih h
      exact ⟨k, by omega, h2⟩
