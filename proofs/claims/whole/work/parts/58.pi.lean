def NB (M : MT) : Prop := (∀ n, n < M.2.1 0 → ¬ mOf M n 0 = 5) ∧ (∃ v, v ≤ 99 ∧ M.1 3 = nI v) ∧ (∃ v, 1 ≤ v ∧ v ≤ 3 ∧ M.1 0 = nI v) ∧ (∃ v, v ≤ 24 ∧ M.1 2 = nI v)
def CC (F : FabT) (Q : RowT) (M : MT) : Prop := RF F M ∧ RQ F Q M ∧ NB M
def EC (M N : MT) : Prop := (∀ w, w < 4 → N.1 w = M.1 w) ∧ N.2.1 0 = M.2.1 0 ∧ N.2.1 1 = M.2.1 1 ∧ ∀ t, t < 512 → N.2.2.1 0 t = M.2.2.1 0 t
theorem EC.of {M N : MT} (h : EC M N) {n u : Nat} (hn : n < 64) (hu : u < 8) : mOf N n u = mOf M n u := h.2.2.2 _ (by omega)
theorem EC.symm {M N : MT} (h : EC M N) : EC N M := ⟨fun w hw => (h.1 w hw).symm, h.2.1.symm, h.2.2.1.symm, fun t ht => (h.2.2.2 t ht).symm⟩
theorem RF.ec {F : FabT} {M N : MT} (h : RF F M) (e : EC M N) : RF F N := by
  have h64 := h.1.1
  refine ⟨h.1, fun w hw => by rw [e.1 w hw]; exact h.2.1 w hw, by rw [e.2.1]; exact h.2.2.1, fun n hn => by rw [e.of (by omega) (by decide)]; exact h.2.2.2.1 n hn, fun n w hn h0 hw => by rw [e.of (by omega) (by omega)]; exact h.2.2.2.2.1 n w hn h0 hw, h.2.2.2.2.2.1, h.2.2.2.2.2.2⟩
theorem RQ.ec {F : FabT} {Q : RowT} {M N : MT} (hF : PK F) (h : RQ F Q M) (e : EC M N) : RQ F Q N := by
  have h64 := hF.1
  have hl : ∀ n, n ∈ rr Q → mOf N n 7 = mOf M n 7 := fun n hn => e.of (by have := ((h.1 n).mp hn).1; omega) (by decide)
  refine ⟨h.1, fun n hn => by rw [hl n hn, e.2.2.1]; exact h.2.1 n hn, h.2.2.1.imp_of_mem (fun {a b} ha hb q => by rw [hl a ha, hl b hb]; exact q), by rw [e.2.2.1]; exact h.2.2.2⟩
theorem CC.ec {F : FabT} {Q : RowT} {M N : MT} (h : CC F Q M) (e : EC M N) : CC F Q N := by
  obtain ⟨h1, h2, h3, h4, h5, h6⟩ := h
  have h64 := h1.1.1
  rw [h1.2.2.1] at h64
  refine ⟨h1.ec e, h2.ec h1.1 e, fun n hn => ?_, ?_, ?_, ?_⟩
  · rw [e.2.1] at hn
    rw [e.of (by omega) (by decide)]; exact h3 n hn
  · rw [e.1 3 (by decide)]; exact h4
  · rw [e.1 0 (by decide)]; exact h5
  · rw [e.1 2 (by decide)]; exact h6
theorem rr_cp (A B : RowT) : rr (cpR A B) = rr B := rv_congr B.2 (fun t ht => by show (if t < B.2 then B.1 t else A.1 t) = _; rw [if_pos ht])
theorem cpF_w (A B : FabT) {w m : Nat} (hw : w < 7) (hm : m < B.2.1) : (cpF A B).2.2 w m = B.2.2 w m := by
  show (if (w < 7 ∧ m < B.2.1) ∨ (w = 7 ∧ m < 5) then _ else _) = _
  rw [if_pos (Or.inl ⟨hw, hm⟩)]
theorem ca_cp (A B : FabT) (p : Nat) : ca (cpF A B) p = ca B p := cn_congr B.2.1 (fun k hk => by rw [cpF_w A B (by decide) hk])
theorem RF.cp {A B : FabT} {M : MT} (h : RF B M) : RF (cpF A B) M := by
  refine ⟨cpF_pk h.1, fun w hw => ?_, h.2.2.1, fun n hn => by rw [cpF_w A B (by decide) hn]; exact h.2.2.2.1 n hn, fun n w hn h0 hw => by rw [cpF_w A B hw hn]; exact h.2.2.2.2.1 n w hn h0 hw, fun n hn => by rw [cpF_w A B (by decide) hn]; exact h.2.2.2.2.2.1 n hn, fun p hp => ?_⟩
  · show (if w < 4 then B.1 w else A.1 w) = _
    rw [if_pos hw]; exact h.2.1 w hw
  · rw [ca_cp]
    show (if (7 < 7 ∧ p < B.2.1) ∨ (7 = 7 ∧ p < 5) then B.2.2 7 p else _) = _
    rw [if_pos (Or.inr ⟨rfl, hp⟩)]; exact h.2.2.2.2.2.2 p hp
theorem RQ.cp {A B : FabT} {P Q : RowT} {M : MT} (h : RQ B Q M) : RQ (cpF A B) (cpR P Q) M := by
  refine ⟨fun n => ?_, fun n hn => h.2.1 n (by rw [rr_cp] at hn; exact hn), by rw [rr_cp]; exact h.2.2.1, by rw [ca_cp, ca_cp]; exact h.2.2.2⟩
  rw [rr_cp, h.1]
  constructor
  · intro q; exact ⟨q.1, by rw [cpF_w A B (by decide) q.1]; exact q.2⟩
  · intro q; exact ⟨q.1, by have := q.2; rw [cpF_w A B (by decide) q.1] at this; exact this⟩
theorem CC.cp {A B : FabT} {P Q : RowT} {M : MT} (h : CC B Q M) : CC (cpF A B) (cpR P Q) M := ⟨h.1.cp, h.2.1.cp, h.2.2⟩
def KR (k : Nat → Int32) (p : Nat) (N : MT) : Prop := (∀ w, w < 4 → k (520 * p + w) = N.1 w) ∧ k (520 * p + 4) = nI (N.2.1 0) ∧ k (520 * p + 5) = nI (N.2.1 1) ∧ ∀ t, t < 512 → k (520 * p + 8 + t) = N.2.2.1 0 t
def SNAP (F : FabT) (Q : RowT) (k : Nat → Int32) (p : Nat) : Prop := ∃ N, CC F Q N ∧ KR k p N
theorem KR.cg {k k' : Nat → Int32} {p q : Nat} {N : MT} (h : KR k p N) (e : ∀ t, t < 520 → k' (520 * q + t) = k (520 * p + t)) : KR k' q N :=
  ⟨fun w hw => by rw [e w (by omega)]; exact h.1 w hw, by rw [e 4 (by decide)]; exact h.2.1, by rw [e 5 (by decide)]; exact h.2.2.1, fun t ht => by rw [Nat.add_assoc, e (8 + t) (by omega), ← Nat.add_assoc]; exact h.2.2.2 t ht⟩
theorem SNAP.cg {F : FabT} {Q : RowT} {k k' : Nat → Int32} {p q : Nat} (h : SNAP F Q k p) (e : ∀ t, t < 520 → k' (520 * q + t) = k (520 * p + t)) : SNAP F Q k' q := by
  obtain ⟨N, h1, h2⟩ := h
  exact ⟨N, h1, h2.cg e⟩
theorem KR_wr (M : MT) (p : Nat) : KR (wrG M p 512) p M := by
  refine ⟨fun w hw => ?_, wrG_4 M p 512, wrG_5 M p 512, fun t ht => ?_⟩
  · rcases (show w = 0 ∨ w = 1 ∨ w = 2 ∨ w = 3 by omega) with e | e | e | e
    · subst e; rw [wrG, if_pos (by omega)]
    · subst e; rw [wrG, if_neg (by omega), if_pos rfl]
    · subst e; rw [wrG, if_neg (by omega), if_neg (by omega), if_pos rfl]
    · subst e; rw [wrG, if_neg (by omega), if_neg (by omega), if_neg (by omega), if_pos rfl]
  · rw [wrG, if_neg (by omega), if_neg (by omega), if_neg (by omega), if_neg (by omega), if_neg (by omega), if_neg (by omega), if_pos (by omega)]
    rw [show 520 * p + 8 + t - (520 * p + 8) = t by omega]
theorem wrG_ne (M : MT) {p q : Nat} (h : q ≠ p) {t : Nat} (ht : t < 520) : wrG M p 512 (520 * q + t) = M.2.2.1 1 (520 * q + t) := by
  have : 520 * q + t < 520 * p ∨ 520 * p + 520 ≤ 520 * q + t := by
    rcases Nat.lt_or_gt_of_ne h with a | a
    · left; omega
    · right; omega
  rw [wrG, if_neg (by omega), if_neg (by omega), if_neg (by omega), if_neg (by omega), if_neg (by omega), if_neg (by omega), if_neg (by omega)]
theorem mCb_ec {M N : MT} {p : Nat} (h : KR (M.2.2.1 1) p N) : EC N (mCb M p (N.2.1 0) (N.2.1 1) 512) := by
  refine ⟨fun w hw => ?_, by simp [mCb, va_up], by simp [mCb, va_up], fun t ht => ?_⟩
  · show cbC M p w = _
    rcases (show w = 0 ∨ w = 1 ∨ w = 2 ∨ w = 3 by omega) with e | e | e | e
    · subst e; rw [← h.1 0 (by decide)]; simp [cbC, va_up]
    · subst e; rw [← h.1 1 (by decide)]; simp [cbC, va_up]
    · subst e; rw [← h.1 2 (by decide)]; simp [cbC, va_up]
    · subst e; rw [← h.1 3 (by decide)]; simp [cbC, va_up]
  · rw [← h.2.2.2 t ht]
    show va_up M.2.2.1 0 (cbI M p 512) 0 t = _
    rw [up_s, cbI, if_pos ht]
def ix (nx d p : Nat) : Nat := (nx + 10 - d + p) % 10
/-- the class and the reference between calls -/
def CP (σ : ST) (M : MT) : Prop := XO σ ∧ CC (σ.1 0) (σ.2.1 0) M ∧ σ.2.2.1.1 1 = M.2.1 2 ∧
  (∀ p, p < M.2.1 2 → SNAP (σ.1 (2 + ix (σ.2.2.1.1 0) (M.2.1 2) p)) (σ.2.1 (2 + ix (σ.2.2.1.1 0) (M.2.1 2) p)) (M.2.2.1 1) p) ∧
  (∀ k, k < 2 → σ.2.2.1.2 2 k = M.2.2.1 2 k ∧ (¬ M.2.2.1 2 k = 0 → SNAP (σ.1 (12 + k)) (σ.2.1 (12 + k)) (M.2.2.1 1) (10 + k))) ∧
  σ.2.2.1.1 2 = M.2.1 4 ∧ (∀ t, t < M.2.1 4 → σ.2.2.1.2 0 t = M.2.2.1 6 t ∧ σ.2.2.1.2 1 t = M.2.2.1 7 t ∧ ∃ s, 1 ≤ s ∧ s ≤ 40 ∧ M.2.2.1 6 t = nI s)
/-- what a question leaves of the reference -/
def EQM (M N : MT) : Prop := EC M N ∧ N.2.1 2 = M.2.1 2 ∧ N.2.1 4 = M.2.1 4 ∧ (∀ t, t < 6240 → N.2.2.1 1 t = M.2.2.1 1 t) ∧ N.2.2.1 2 = M.2.2.1 2 ∧ N.2.2.1 6 = M.2.2.1 6 ∧ N.2.2.1 7 = M.2.2.1 7
theorem EQM.refl (M : MT) : EQM M M := ⟨⟨fun _ _ => rfl, rfl, rfl, fun _ _ => rfl⟩, rfl, rfl, fun _ _ => rfl, rfl, rfl, rfl⟩
theorem EQM.trans {M N O : MT} (h : EQM M N) (g : EQM N O) : EQM M O := ⟨⟨fun w hw => (g.1.1 w hw).trans (h.1.1 w hw), g.1.2.1.trans h.1.2.1, g.1.2.2.1.trans h.1.2.2.1, fun t ht => (g.1.2.2.2 t ht).trans (h.1.2.2.2 t ht)⟩, g.2.1.trans h.2.1, g.2.2.1.trans h.2.2.1, fun t ht => (g.2.2.2.1 t ht).trans (h.2.2.2.1 t ht), g.2.2.2.2.1.trans h.2.2.2.2.1, g.2.2.2.2.2.1.trans h.2.2.2.2.2.1, g.2.2.2.2.2.2.trans h.2.2.2.2.2.2⟩
theorem CP.eqm {σ : ST} {M N : MT} (h : CP σ M) (e : EQM M N) : CP σ N := by
  obtain ⟨h1, h2, h3, h4, h5, h6, h7⟩ := h
  obtain ⟨e1, e2, e3, e4, e5, e6, e7⟩ := e
  refine ⟨h1, h2.ec e1, by rw [e2]; exact h3, fun p hp => ?_, fun k hk => ?_, by rw [e3]; exact h6, fun t ht => ?_⟩
  · rw [e2] at hp ⊢
    have := h1.2.2.2.2.1
    exact (h4 p hp).cg (fun t ht => e4 _ (by omega))
  · rw [e5]
    exact ⟨(h5 k hk).1, fun q => ((h5 k hk).2 q).cg (fun t ht => e4 _ (by omega))⟩
  · rw [e3] at ht
    rw [e6, e7]; exact h7 t ht
theorem CP.same {σ τ : ST} {M : MT} (h : CP σ M) (e : Same σ τ) : CP τ M := by
  have hX := e.XO h.1
  obtain ⟨h1, h2, h3, h4, h5, h6, h7⟩ := h
  obtain ⟨e1, e2, e3, _, _⟩ := e
  refine ⟨hX, by rw [e1 0 (by decide), e2 0 (by decide) (by decide)]; exact h2, by rw [e3]; exact h3, fun p hp => ?_, fun k hk => ?_, by rw [e3]; exact h6, fun t ht => by rw [e3]; exact h7 t ht⟩
  · rw [e3]
    have : ix (σ.2.2.1.1 0) (M.2.1 2) p < 10 := Nat.mod_lt _ (by decide)
    rw [e1 _ (by omega), e2 _ (by omega) (by omega)]
    exact h4 p hp
  · rw [e3, e1 _ (by omega), e2 _ (by omega) (by omega)]
    exact h5 k hk
