def okB (k i j : Nat) : Bool := match k with
  | 0 => decide (i < 1) && decide (j < 1)
  | 1 => decide (i < 14) && decide (j < 1)
  | 2 => decide (i < 14) && decide (j < 8)
  | 3 => decide (i < 16) && decide (j < 1)
  | 4 => decide (i < 16) && decide (j < 1)
  | 5 => decide (i < 1) && decide (j < 1)
  | 6 => decide (i < 1) && decide (j < 1)
  | 7 => decide (i < 1) && decide (j < 1)
  | 8 => decide (i < 1) && decide (j < 1)
  | 9 => decide (i < 1) && decide (j < 4)
  | 10 => decide (i < 1) && decide (j < 1)
  | 11 => decide (i < 1) && decide (j < 1)
  | 12 => decide (i < 1) && decide (j < 8)
  | 13 => decide (i < 1) && decide (j < 1)
  | _ => false
def tbB : List (Nat × Nat × Nat) := [(0, 0, 0), (1, 0, 0), (2, 0, 0), (2, 0, 1), (2, 0, 2), (2, 0, 3), (2, 0, 4), (2, 0, 5), (2, 0, 6), (2, 0, 7), (3, 0, 0), (4, 0, 0), (1, 1, 0), (2, 1, 0), (2, 1, 1), (2, 1, 2), (2, 1, 3), (2, 1, 4), (2, 1, 5), (2, 1, 6), (2, 1, 7), (3, 1, 0), (4, 1, 0), (5, 0, 0), (3, 14, 0), (4, 14, 0), (3, 15, 0), (4, 15, 0), (6, 0, 0), (7, 0, 0), (1, 2, 0), (2, 2, 0), (2, 2, 1), (2, 2, 2), (2, 2, 3), (2, 2, 4), (2, 2, 5), (2, 2, 6), (2, 2, 7), (3, 2, 0), (4, 2, 0), (1, 3, 0), (2, 3, 0), (2, 3, 1), (2, 3, 2), (2, 3, 3), (2, 3, 4), (2, 3, 5), (2, 3, 6), (2, 3, 7), (3, 3, 0), (4, 3, 0), (1, 4, 0), (2, 4, 0), (2, 4, 1), (2, 4, 2), (2, 4, 3), (2, 4, 4), (2, 4, 5), (2, 4, 6), (2, 4, 7), (3, 4, 0), (4, 4, 0), (1, 5, 0), (2, 5, 0), (2, 5, 1), (2, 5, 2), (2, 5, 3), (2, 5, 4), (2, 5, 5), (2, 5, 6), (2, 5, 7), (3, 5, 0), (4, 5, 0), (1, 6, 0), (2, 6, 0), (2, 6, 1), (2, 6, 2), (2, 6, 3), (2, 6, 4), (2, 6, 5), (2, 6, 6), (2, 6, 7), (3, 6, 0), (4, 6, 0), (1, 7, 0), (2, 7, 0), (2, 7, 1), (2, 7, 2), (2, 7, 3), (2, 7, 4), (2, 7, 5), (2, 7, 6), (2, 7, 7), (3, 7, 0), (4, 7, 0), (1, 8, 0), (2, 8, 0), (2, 8, 1), (2, 8, 2), (2, 8, 3), (2, 8, 4), (2, 8, 5), (2, 8, 6), (2, 8, 7), (3, 8, 0), (4, 8, 0), (1, 9, 0), (2, 9, 0), (2, 9, 1), (2, 9, 2), (2, 9, 3), (2, 9, 4), (2, 9, 5), (2, 9, 6), (2, 9, 7), (3, 9, 0), (4, 9, 0), (1, 10, 0), (2, 10, 0), (2, 10, 1), (2, 10, 2), (2, 10, 3), (2, 10, 4), (2, 10, 5), (2, 10, 6), (2, 10, 7), (3, 10, 0), (4, 10, 0), (1, 11, 0), (2, 11, 0), (2, 11, 1), (2, 11, 2), (2, 11, 3), (2, 11, 4), (2, 11, 5), (2, 11, 6), (2, 11, 7), (3, 11, 0), (4, 11, 0), (8, 0, 0), (9, 0, 0), (9, 0, 1), (10, 0, 0), (9, 0, 2), (9, 0, 3), (1, 12, 0), (2, 12, 0), (2, 12, 1), (2, 12, 2), (2, 12, 3), (2, 12, 4), (2, 12, 5), (2, 12, 6), (2, 12, 7), (3, 12, 0), (4, 12, 0), (1, 13, 0), (2, 13, 0), (2, 13, 1), (2, 13, 2), (2, 13, 3), (2, 13, 4), (2, 13, 5), (2, 13, 6), (2, 13, 7), (3, 13, 0), (4, 13, 0), (11, 0, 0), (12, 0, 0), (12, 0, 1), (12, 0, 2), (13, 0, 0), (12, 0, 3), (12, 0, 4), (12, 0, 5), (12, 0, 6), (12, 0, 7)]
def ckB (k i j : Nat) : Bool := if okB k i j = true then tbB[adB 0 k i j]? == some (k, i, j) else true
theorem ok_b {k i j : Nat} (h : okK k i j) : k < 14 ∧ i < 16 ∧ j < 8 ∧ okB k i j = true := by
  match k, h with
  | 0, h =>
    obtain ⟨h1, h2⟩ := h
    have h1 : i < 1 := by omega
    have h2 : j < 1 := by omega
    exact ⟨by decide, by omega, by omega, by simp [okB, h1, h2]⟩
  | 1, h =>
    obtain ⟨h1, h2⟩ := h
    have h1 : i < 14 := by omega
    have h2 : j < 1 := by omega
    exact ⟨by decide, by omega, by omega, by simp [okB, h1, h2]⟩
  | 2, h =>
    obtain ⟨h1, h2⟩ := h
    have h1 : i < 14 := by omega
    have h2 : j < 8 := by omega
    exact ⟨by decide, by omega, by omega, by simp [okB, h1, h2]⟩
  | 3, h =>
    obtain ⟨h1, h2⟩ := h
    have h1 : i < 16 := by omega
    have h2 : j < 1 := by omega
    exact ⟨by decide, by omega, by omega, by simp [okB, h1, h2]⟩
  | 4, h =>
    obtain ⟨h1, h2⟩ := h
    have h1 : i < 16 := by omega
    have h2 : j < 1 := by omega
    exact ⟨by decide, by omega, by omega, by simp [okB, h1, h2]⟩
  | 5, h =>
    obtain ⟨h1, h2⟩ := h
    have h1 : i < 1 := by omega
    have h2 : j < 1 := by omega
    exact ⟨by decide, by omega, by omega, by simp [okB, h1, h2]⟩
  | 6, h =>
    obtain ⟨h1, h2⟩ := h
    have h1 : i < 1 := by omega
    have h2 : j < 1 := by omega
    exact ⟨by decide, by omega, by omega, by simp [okB, h1, h2]⟩
  | 7, h =>
    obtain ⟨h1, h2⟩ := h
    have h1 : i < 1 := by omega
    have h2 : j < 1 := by omega
    exact ⟨by decide, by omega, by omega, by simp [okB, h1, h2]⟩
  | 8, h =>
    obtain ⟨h1, h2⟩ := h
    have h1 : i < 1 := by omega
    have h2 : j < 1 := by omega
    exact ⟨by decide, by omega, by omega, by simp [okB, h1, h2]⟩
  | 9, h =>
    obtain ⟨h1, h2⟩ := h
    have h1 : i < 1 := by omega
    have h2 : j < 4 := by omega
    exact ⟨by decide, by omega, by omega, by simp [okB, h1, h2]⟩
  | 10, h =>
    obtain ⟨h1, h2⟩ := h
    have h1 : i < 1 := by omega
    have h2 : j < 1 := by omega
    exact ⟨by decide, by omega, by omega, by simp [okB, h1, h2]⟩
  | 11, h =>
    obtain ⟨h1, h2⟩ := h
    have h1 : i < 1 := by omega
    have h2 : j < 1 := by omega
    exact ⟨by decide, by omega, by omega, by simp [okB, h1, h2]⟩
  | 12, h =>
    obtain ⟨h1, h2⟩ := h
    have h1 : i < 1 := by omega
    have h2 : j < 8 := by omega
    exact ⟨by decide, by omega, by omega, by simp [okB, h1, h2]⟩
  | 13, h =>
    obtain ⟨h1, h2⟩ := h
    have h1 : i < 1 := by omega
    have h2 : j < 1 := by omega
    exact ⟨by decide, by omega, by omega, by simp [okB, h1, h2]⟩
set_option maxRecDepth 20000 in
theorem inv_C : ∀ k, k < 14 → ∀ i, i < 16 → ∀ j, j < 8 → ckB k i j = true := by decide +kernel
theorem inv_B (k : Nat) (h1 : k < 14) (i : Nat) (h2 : i < 16) (j : Nat) (h3 : j < 8) (h : okB k i j = true) : tbB[adB 0 k i j]? = some (k, i, j) := by
  have t := inv_C k h1 i h2 j h3
  unfold ckB at t
  rw [if_pos h] at t
  exact eq_of_beq t
theorem fbA_sh (B i : Nat) : fbA B i = B + fbA 0 i := by
  unfold fbA
  by_cases c1 : i = 0
  · rw [if_pos c1, if_pos c1]
  · rw [if_neg c1, if_neg c1]
    by_cases c2 : i = 1
    · rw [if_pos c2, if_pos c2]
    · rw [if_neg c2, if_neg c2]
      by_cases c3 : i < 12
      · rw [if_pos c3, if_pos c3]; omega
      · rw [if_neg c3, if_neg c3]; omega
theorem rwA_sh (B i : Nat) : rwA B i = B + rwA 0 i := by
  unfold rwA
  by_cases c : i < 14
  · rw [if_pos c, if_pos c, fbA_sh B i]; omega
  · rw [if_neg c, if_neg c]; omega
theorem xaA_sh (B j : Nat) : xaA B j = B + xaA 0 j := by
  unfold xaA
  by_cases c : j < 2
  · rw [if_pos c, if_pos c]; omega
  · rw [if_neg c, if_neg c]; omega
theorem maA_sh (B j : Nat) : maA B j = B + maA 0 j := by
  unfold maA
  by_cases c : j < 3
  · rw [if_pos c, if_pos c]; omega
  · rw [if_neg c, if_neg c]; omega
theorem adB_sh (B k i j : Nat) : adB B k i j = B + adB 0 k i j := by
  unfold adB
  split
  · omega
  · exact fbA_sh B i
  · rw [fbA_sh B i]; omega
  · exact rwA_sh B i
  · rw [rwA_sh B i]; omega
  · omega
  · omega
  · omega
  · omega
  · exact xaA_sh B j
  · omega
  · omega
  · exact maA_sh B j
  · omega
theorem EOK_B (D : va_G) (cI cZ cO : ClassId) (B : Nat) : EOK (D, cI, cZ, cO, adB B) := by
  intro k i j k' i' j' h h' e
  have e : adB B k i j = adB B k' i' j' := e
  rw [adB_sh B k i j, adB_sh B k' i' j'] at e
  have e0 : adB 0 k i j = adB 0 k' i' j' := Nat.add_left_cancel e
  obtain ⟨a1, a2, a3, a4⟩ := ok_b h
  obtain ⟨b1, b2, b3, b4⟩ := ok_b h'
  have t1 := inv_B k a1 i a2 j a3 a4
  have t2 := inv_B k' b1 i' b2 j' b3 b4
  rw [e0, t2] at t1
  cases t1
  exact ⟨rfl, rfl, rfl⟩
theorem AE_B {D : va_G} {cI cZ cO : ClassId} {B q : Nat} (h : AE (D, cI, cZ, cO, adB B) q) : B ≤ q := by
  obtain ⟨k, i, j, _, e⟩ := h
  have e : q = adB B k i j := e
  rw [e, adB_sh B k i j]; omega
