theorem ra_I (E : EnvT) : ∀ (U : State) (cB : ClassId), va_RA U (eI E) .int → U.vm.findClass ("[" ++ FieldType.int.toString) = some cB → cB = eI E := fun U cB h1 h2 => Option.some.inj (h2.symm.trans h1)
theorem ra_Z (E : EnvT) : ∀ (U : State) (cB : ClassId), va_RA U (eZ E) .boolean → U.vm.findClass ("[" ++ FieldType.boolean.toString) = some cB → cB = eZ E := fun U cB h1 h2 => Option.some.inj (h2.symm.trans h1)
def arI (E : EnvT) (n : Nat) : va_E := .inl (eI E, n, .inl (fun _ => 0))
def rowW (E : EnvT) (a z : Nat) : Nat → Option va_E := va_up (va_up (fun _ => none) z (some (arI E 64))) a (some (.inr (2, [.ref z, .int 0])))
set_option maxHeartbeats 4000000 in
theorem c_X2_init (l : Launch) (E : EnvT) (a z : Nat) : CCon l E yX2_init cX2_init 1 1 12 a z 1 64 (.inr (2, [.null, .int 0])) (rowW E a z) := by
  refine cc_intro (by decide) (by decide) rfl (fun K hkl h hf hn hc hs hNW haz hR => ?_)
  have h : Hx K E (CA a z) cX2_init 1 RX2 := h
  refine h_aload h (q := 0) 0 dX2_init_0 rfl ?_
  refine h_obj h ml_X2_3 (by rw [hf]; exact Nat.le_refl _) (by rw [hn]; exact Nat.le_refl _) dX2_init_1 ?_
  refine h_aload h (q := 0) 0 dX2_init_4 rfl ?_
  refine h_bipush h (v := nI 64) dX2_init_5 (by decide) ?_
  refine h_newa h (ty := .int) rfl arr_int 0 (cA := eI E) rfl (N := 64) (by decide) (a0 := (64, .inl (fun _ => 0))) rfl (by decide) (by rw [hc]; exact Nat.le_refl _) (by rw [hs]; exact Nat.le_refl _) (ra_I E) dX2_init_7 ?_
  refine h_put h (a := a) (by rw [up_n (by omega), up_s]) rfl uin_X2 tyX2 tyX2_ok nmX2 (Or.inl rfl) 0 (by decide) fl_X2_9 rfl rfl (ty := .array .int) (by decide +kernel) rfl rfl (by decide) dX2_init_9 ?_
  refine h_ret h hR rfl (fun q e hq => ?_) dX2_init_12
  unfold rowW at hq
  by_cases c1 : q = a
  · rw [c1, up_s] at hq ⊢; exact hq
  · rw [up_n c1] at hq ⊢
    by_cases c2 : q = z
    · rw [c2, up_s] at hq ⊢; exact hq
    · rw [up_n c2] at hq; exact absurd hq (by intro h9; cases h9)
