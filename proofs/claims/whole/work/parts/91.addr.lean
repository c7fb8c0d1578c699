def fbA (B i : Nat) : Nat := if i = 0 then B + 1 else if i = 1 then B + 12 else if i < 12 then B + 30 + 11 * (i - 2) else B + 146 + 11 * (i - 12)
def rwA (B i : Nat) : Nat := if i < 14 then fbA B i + 9 else B + 24 + 2 * (i - 14)
def xaA (B j : Nat) : Nat := if j < 2 then B + 141 + j else B + 142 + j
def maA (B j : Nat) : Nat := if j < 3 then B + 169 + j else B + 170 + j
def adB (B k i j : Nat) : Nat := match k with
  | 0 => B
  | 1 => fbA B i
  | 2 => fbA B i + 1 + j
  | 3 => rwA B i
  | 4 => rwA B i + 1
  | 5 => B + 23
  | 6 => B + 28
  | 7 => B + 29
  | 8 => B + 140
  | 9 => xaA B j
  | 10 => B + 143
  | 11 => B + 168
  | 12 => maA B j
  | _ => B + 172
/-- where each kind lies -/
def inB (B k i j q : Nat) : Prop := q = adB B k i j
theorem fbA_c (B i : Nat) (h : i < 14) : (i = 0 ∧ fbA B i = B + 1) ∨ (i = 1 ∧ fbA B i = B + 12) ∨ (2 ≤ i ∧ i < 12 ∧ fbA B i = B + 30 + 11 * (i - 2)) ∨ (12 ≤ i ∧ fbA B i = B + 146 + 11 * (i - 12)) := by
  unfold fbA
  by_cases c1 : i = 0
  · left; exact ⟨c1, if_pos c1⟩
  · by_cases c2 : i = 1
    · right; left; exact ⟨c2, by rw [if_neg c1, if_pos c2]⟩
    · by_cases c3 : i < 12
      · right; right; left; exact ⟨by omega, c3, by rw [if_neg c1, if_neg c2, if_pos c3]⟩
      · right; right; right; exact ⟨by omega, by rw [if_neg c1, if_neg c2, if_neg c3]⟩
theorem rwA_c (B i : Nat) (h : i < 16) : (i < 14 ∧ rwA B i = fbA B i + 9) ∨ (14 ≤ i ∧ rwA B i = B + 24 + 2 * (i - 14)) := by
  unfold rwA
  by_cases c : i < 14
  · left; exact ⟨c, if_pos c⟩
  · right; exact ⟨by omega, if_neg c⟩
theorem xaA_c (B j : Nat) : (j < 2 ∧ xaA B j = B + 141 + j) ∨ (2 ≤ j ∧ xaA B j = B + 142 + j) := by
  unfold xaA
  by_cases c : j < 2
  · left; exact ⟨c, if_pos c⟩
  · right; exact ⟨by omega, if_neg c⟩
theorem maA_c (B j : Nat) : (j < 3 ∧ maA B j = B + 169 + j) ∨ (3 ≤ j ∧ maA B j = B + 170 + j) := by
  unfold maA
  by_cases c : j < 3
  · left; exact ⟨c, if_pos c⟩
  · right; exact ⟨by omega, if_neg c⟩
