def c0 : Nat → Int32 := fun w => match w with
  | 0 => 1
  | 1 => 8
  | 2 => 8
  | _ => 0
def f0 : FabT := (c0, 0, fun _ _ => 0)
def m0 : MT := (c0, fun _ => 0, fun _ _ => 0, fun _ => 0)
def s0 : ST := (fun _ => f0, fun _ => (fun _ => 0, 0), (fun _ => 0, fun _ _ => 0), m0)
theorem CP_0 : CP s0 s0.2.2.2 := by
  have hn : ∀ n, ¬ n < f0.2.1 := fun n => Nat.not_lt_zero n
  have pk : PK f0 := ⟨Nat.zero_le _, fun n h => absurd h (hn n)⟩
  refine ⟨⟨pk, ⟨Nat.zero_le _, fun t h => absurd h (Nat.not_lt_zero t)⟩, fun j _ => ⟨Nat.zero_le _, Nat.zero_le _⟩, by decide, by decide, by decide, fun t h => absurd h (Nat.not_lt_zero t)⟩, ⟨⟨pk, fun _ _ => rfl, rfl, fun n h => absurd h (hn n), fun n w h => absurd h (hn n), fun n h => absurd h (hn n), fun p _ => rfl⟩, ⟨fun n => ⟨fun q => absurd q (List.not_mem_nil), fun q => absurd q.1 (hn n)⟩, fun n h => absurd h (List.not_mem_nil), List.Pairwise.nil, rfl⟩, fun n h => absurd h (Nat.not_lt_zero n), ⟨0, by decide, rfl⟩, ⟨1, by decide, by decide, rfl⟩, ⟨8, by decide, rfl⟩⟩, rfl, fun p h => absurd h (Nat.not_lt_zero p), fun k _ => ⟨rfl, fun q => absurd rfl q⟩, rfl, fun t h => absurd h (Nat.not_lt_zero t)⟩
