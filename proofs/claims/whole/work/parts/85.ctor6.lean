def seeIO (z : Nat) : va_E := .inr (3, [.ref z, .ref (z + 1), .int 0])
def seeI0 : va_E := .inr (3, [.null, .null, .int 0])
def seeIW (E : EnvT) (a z : Nat) : Nat → Option va_E := fun q => if q = a then some (seeIO z) else if q = z + 1 then some (arI E 6) else if q = z then some (arI E 6) else none
set_option maxHeartbeats 4000000 in
theorem c_X3_init (l : Launch) (E : EnvT) (a z : Nat) : CCon l E yX3_init cX3_init 1 1 12 a z 2 12 seeI0 (seeIW E a z) := by
  refine cc_intro (by decide) (by decide) rfl (fun K hkl h hf hn hc hs hNW haz hR => ?_)
  have h : Hx K E (CA a z) cX3_init 1 RX3 := h
  refine h_aload h (q := 0) 0 dX3_init_0 rfl ?_
  refine h_obj h ml_X3_3 (by rw [hf]; decide) (by rw [hn]; decide) dX3_init_1 ?_
  refine h_aload h (q := 0) 0 dX3_init_4 rfl ?_
  refine h_bipush h (v := nI 6) dX3_init_5 (by decide) ?_
  refine h_newa (z := z) h (ty := .int) rfl arr_int 0 (cA := eI E) rfl (N := 6) (by decide) (a0 := (6, .inl (fun _ => 0))) rfl (by decide) (by rw [hc]; decide) (by rw [hs]; decide) (ra_I E) dX3_init_7 ?_
  refine h_put h (a := a) ((up_n (by omega)).trans (up_s _ _ _)) rfl uin_X3 tyX3 tyX3_ok nmX3 (Or.inl rfl) 0 (by decide) fl_X3_9 rfl rfl (ty := .array .int) (by decide +kernel) rfl rfl (Nat.le_of_ble_eq_true rfl) dX3_init_9 ?_
  refine h_aload h (q := 0) 0 dX3_init_12 rfl ?_
  refine h_bipush h (v := nI 6) dX3_init_13 (by decide) ?_
  refine h_newa (z := z + 1) h (ty := .int) rfl arr_int 0 (cA := eI E) rfl (N := 6) (by decide) (a0 := (6, .inl (fun _ => 0))) rfl (by decide) (by rw [hc]; decide) (by rw [hs]; decide) (ra_I E) dX3_init_15 ?_
  refine h_put h (a := a) ((up_n (by omega)).trans (up_s _ _ _)) rfl uin_X3 tyX3 tyX3_ok nmX3 (Or.inl rfl) 1 (by decide) fl_X3_15 rfl rfl (ty := .array .int) (by decide +kernel) rfl rfl (Nat.le_of_ble_eq_true rfl) dX3_init_17 ?_
  refine h_ret h hR rfl (fun q e hq => ?_) dX3_init_20
  unfold seeIW at hq
  by_cases c1 : q = a
  · rw [if_pos c1] at hq; rw [c1, up_s]; exact hq
  · rw [if_neg c1] at hq
    rw [up_n c1]
    by_cases d1 : q = z + 1
    · rw [if_pos d1] at hq; rw [d1, up_s]; exact hq
    · rw [if_neg d1] at hq; rw [up_n d1]
      rw [up_n c1]
      by_cases d0 : q = z
      · rw [if_pos d0] at hq; rw [d0, up_s]; exact hq
      · rw [if_neg d0] at hq; rw [up_n d0]
        exact absurd hq (by intro h9; cases h9)
def modIO (z : Nat) : va_E := .inr (6, [.int 1, .int 8, .int 8, .int 0, .int 0, .int 0, .ref z, .ref (z + 1), .ref (z + 2), .int 0, .int 0, .ref (z + 3), .ref (z + 4), .ref (z + 5), .ref (z + 6), .int 0, .ref (z + 7), .ref (z + 8)])
def modI0 : va_E := .inr (6, [.int 0, .int 0, .int 0, .int 0, .int 0, .int 0, .null, .null, .null, .int 0, .int 0, .null, .null, .null, .null, .int 0, .null, .null])
def modIW (E : EnvT) (a z : Nat) : Nat → Option va_E := fun q => if q = a then some (modIO z) else if q = z + 8 then some (arI E 6) else if q = z + 7 then some (arI E 6) else if q = z + 6 then some (arI E 8) else if q = z + 5 then some (arI E 8) else if q = z + 4 then some (arI E 64) else if q = z + 3 then some (arI E 64) else if q = z + 2 then some (arI E 2) else if q = z + 1 then some (arI E 6760) else if q = z then some (arI E 512) else none
set_option maxHeartbeats 4000000 in
theorem c_X6_init (l : Launch) (E : EnvT) (a z : Nat) : CCon l E yX6_init cX6_init 1 1 12 a z 9 7430 modI0 (modIW E a z) := by
  refine cc_intro (by decide) (by decide) rfl (fun K hkl h hf hn hc hs hNW haz hR => ?_)
  have h : Hx K E (CA a z) cX6_init 1 RX6 := h
  refine h_aload h (q := 0) 0 dX6_init_0 rfl ?_
  refine h_obj h ml_X6_1 (by rw [hf]; decide) (by rw [hn]; decide) dX6_init_1 ?_
  refine h_aload h (q := 0) 0 dX6_init_4 rfl ?_
  refine h_iconst h (v := 1) dX6_init_5 (by decide) ?_
  refine h_putI h (a := a) (up_s _ _ _) rfl uin_X6 tyX6 tyX6_ok nmX6 (Or.inl rfl) 0 (by decide) fl_X6_7 rfl (by decide +kernel) (Nat.le_of_ble_eq_true rfl) dX6_init_6 ?_
  refine h_aload h (q := 0) 0 dX6_init_9 rfl ?_
  refine h_bipush h (v := 8) dX6_init_10 (by decide) ?_
  refine h_putI h (a := a) (up_s _ _ _) rfl uin_X6 tyX6 tyX6_ok nmX6 (Or.inl rfl) 1 (by decide) fl_X6_13 rfl (by decide +kernel) (Nat.le_of_ble_eq_true rfl) dX6_init_12 ?_
  refine h_aload h (q := 0) 0 dX6_init_15 rfl ?_
  refine h_bipush h (v := 8) dX6_init_16 (by decide) ?_
  refine h_putI h (a := a) (up_s _ _ _) rfl uin_X6 tyX6 tyX6_ok nmX6 (Or.inl rfl) 2 (by decide) fl_X6_16 rfl (by decide +kernel) (Nat.le_of_ble_eq_true rfl) dX6_init_18 ?_
  refine h_aload h (q := 0) 0 dX6_init_21 rfl ?_
  refine h_sipush h (v := nI 512) dX6_init_22 (by decide) ?_
  refine h_newa (z := z) h (ty := .int) rfl arr_int 0 (cA := eI E) rfl (N := 512) (by decide) (a0 := (512, .inl (fun _ => 0))) rfl (by decide) (by rw [hc]; decide) (by rw [hs]; decide) (ra_I E) dX6_init_25 ?_
  refine h_put h (a := a) ((up_n (by omega)).trans (up_s _ _ _)) rfl uin_X6 tyX6 tyX6_ok nmX6 (Or.inl rfl) 6 (by decide) fl_X6_19 rfl rfl (ty := .array .int) (by decide +kernel) rfl rfl (Nat.le_of_ble_eq_true rfl) dX6_init_27 ?_
  refine h_aload h (q := 0) 0 dX6_init_30 rfl ?_
  refine h_sipush h (v := nI 6760) dX6_init_31 (by decide) ?_
  refine h_newa (z := z + 1) h (ty := .int) rfl arr_int 0 (cA := eI E) rfl (N := 6760) (by decide) (a0 := (6760, .inl (fun _ => 0))) rfl (by decide) (by rw [hc]; decide) (by rw [hs]; decide) (ra_I E) dX6_init_34 ?_
  refine h_put h (a := a) ((up_n (by omega)).trans (up_s _ _ _)) rfl uin_X6 tyX6 tyX6_ok nmX6 (Or.inl rfl) 7 (by decide) fl_X6_23 rfl rfl (ty := .array .int) (by decide +kernel) rfl rfl (Nat.le_of_ble_eq_true rfl) dX6_init_36 ?_
  refine h_aload h (q := 0) 0 dX6_init_39 rfl ?_
  refine h_iconst h (v := nI 2) dX6_init_40 (by decide) ?_
  refine h_newa (z := z + 2) h (ty := .int) rfl arr_int 0 (cA := eI E) rfl (N := 2) (by decide) (a0 := (2, .inl (fun _ => 0))) rfl (by decide) (by rw [hc]; decide) (by rw [hs]; decide) (ra_I E) dX6_init_41 ?_
  refine h_put h (a := a) ((up_n (by omega)).trans (up_s _ _ _)) rfl uin_X6 tyX6 tyX6_ok nmX6 (Or.inl rfl) 8 (by decide) fl_X6_26 rfl rfl (ty := .array .int) (by decide +kernel) rfl rfl (Nat.le_of_ble_eq_true rfl) dX6_init_43 ?_
  refine h_aload h (q := 0) 0 dX6_init_46 rfl ?_
  refine h_bipush h (v := nI 64) dX6_init_47 (by decide) ?_
  refine h_newa (z := z + 3) h (ty := .int) rfl arr_int 0 (cA := eI E) rfl (N := 64) (by decide) (a0 := (64, .inl (fun _ => 0))) rfl (by decide) (by rw [hc]; decide) (by rw [hs]; decide) (ra_I E) dX6_init_49 ?_
  refine h_put h (a := a) ((up_n (by omega)).trans (up_s _ _ _)) rfl uin_X6 tyX6 tyX6_ok nmX6 (Or.inl rfl) 11 (by decide) fl_X6_29 rfl rfl (ty := .array .int) (by decide +kernel) rfl rfl (Nat.le_of_ble_eq_true rfl) dX6_init_51 ?_
  refine h_aload h (q := 0) 0 dX6_init_54 rfl ?_
  refine h_bipush h (v := nI 64) dX6_init_55 (by decide) ?_
  refine h_newa (z := z + 4) h (ty := .int) rfl arr_int 0 (cA := eI E) rfl (N := 64) (by decide) (a0 := (64, .inl (fun _ => 0))) rfl (by decide) (by rw [hc]; decide) (by rw [hs]; decide) (ra_I E) dX6_init_57 ?_
  refine h_put h (a := a) ((up_n (by omega)).trans (up_s _ _ _)) rfl uin_X6 tyX6 tyX6_ok nmX6 (Or.inl rfl) 12 (by decide) fl_X6_32 rfl rfl (ty := .array .int) (by decide +kernel) rfl rfl (Nat.le_of_ble_eq_true rfl) dX6_init_59 ?_
  refine h_aload h (q := 0) 0 dX6_init_62 rfl ?_
  refine h_bipush h (v := nI 8) dX6_init_63 (by decide) ?_
  refine h_newa (z := z + 5) h (ty := .int) rfl arr_int 0 (cA := eI E) rfl (N := 8) (by decide) (a0 := (8, .inl (fun _ => 0))) rfl (by decide) (by rw [hc]; decide) (by rw [hs]; decide) (ra_I E) dX6_init_65 ?_
  refine h_put h (a := a) ((up_n (by omega)).trans (up_s _ _ _)) rfl uin_X6 tyX6 tyX6_ok nmX6 (Or.inl rfl) 13 (by decide) fl_X6_35 rfl rfl (ty := .array .int) (by decide +kernel) rfl rfl (Nat.le_of_ble_eq_true rfl) dX6_init_67 ?_
  refine h_aload h (q := 0) 0 dX6_init_70 rfl ?_
  refine h_bipush h (v := nI 8) dX6_init_71 (by decide) ?_
  refine h_newa (z := z + 6) h (ty := .int) rfl arr_int 0 (cA := eI E) rfl (N := 8) (by decide) (a0 := (8, .inl (fun _ => 0))) rfl (by decide) (by rw [hc]; decide) (by rw [hs]; decide) (ra_I E) dX6_init_73 ?_
  refine h_put h (a := a) ((up_n (by omega)).trans (up_s _ _ _)) rfl uin_X6 tyX6 tyX6_ok nmX6 (Or.inl rfl) 14 (by decide) fl_X6_38 rfl rfl (ty := .array .int) (by decide +kernel) rfl rfl (Nat.le_of_ble_eq_true rfl) dX6_init_75 ?_
  refine h_aload h (q := 0) 0 dX6_init_78 rfl ?_
  refine h_bipush h (v := nI 6) dX6_init_79 (by decide) ?_
  refine h_newa (z := z + 7) h (ty := .int) rfl arr_int 0 (cA := eI E) rfl (N := 6) (by decide) (a0 := (6, .inl (fun _ => 0))) rfl (by decide) (by rw [hc]; decide) (by rw [hs]; decide) (ra_I E) dX6_init_81 ?_
  refine h_put h (a := a) ((up_n (by omega)).trans (up_s _ _ _)) rfl uin_X6 tyX6 tyX6_ok nmX6 (Or.inl rfl) 16 (by decide) fl_X6_41 rfl rfl (ty := .array .int) (by decide +kernel) rfl rfl (Nat.le_of_ble_eq_true rfl) dX6_init_83 ?_
  refine h_aload h (q := 0) 0 dX6_init_86 rfl ?_
  refine h_bipush h (v := nI 6) dX6_init_87 (by decide) ?_
  refine h_newa (z := z + 8) h (ty := .int) rfl arr_int 0 (cA := eI E) rfl (N := 6) (by decide) (a0 := (6, .inl (fun _ => 0))) rfl (by decide) (by rw [hc]; decide) (by rw [hs]; decide) (ra_I E) dX6_init_89 ?_
  refine h_put h (a := a) ((up_n (by omega)).trans (up_s _ _ _)) rfl uin_X6 tyX6 tyX6_ok nmX6 (Or.inl rfl) 17 (by decide) fl_X6_44 rfl rfl (ty := .array .int) (by decide +kernel) rfl rfl (Nat.le_of_ble_eq_true rfl) dX6_init_91 ?_
  refine h_ret h hR rfl (fun q e hq => ?_) dX6_init_94
  unfold modIW at hq
  by_cases c1 : q = a
  · rw [if_pos c1] at hq; rw [c1, up_s]; exact hq
  · rw [if_neg c1] at hq
    rw [up_n c1]
    by_cases d8 : q = z + 8
    · rw [if_pos d8] at hq; rw [d8, up_s]; exact hq
    · rw [if_neg d8] at hq; rw [up_n d8]
      rw [up_n c1]
      by_cases d7 : q = z + 7
      · rw [if_pos d7] at hq; rw [d7, up_s]; exact hq
      · rw [if_neg d7] at hq; rw [up_n d7]
        rw [up_n c1]
        by_cases d6 : q = z + 6
        · rw [if_pos d6] at hq; rw [d6, up_s]; exact hq
        · rw [if_neg d6] at hq; rw [up_n d6]
          rw [up_n c1]
          by_cases d5 : q = z + 5
          · rw [if_pos d5] at hq; rw [d5, up_s]; exact hq
          · rw [if_neg d5] at hq; rw [up_n d5]
            rw [up_n c1]
            by_cases d4 : q = z + 4
            · rw [if_pos d4] at hq; rw [d4, up_s]; exact hq
            · rw [if_neg d4] at hq; rw [up_n d4]
              rw [up_n c1]
              by_cases d3 : q = z + 3
              · rw [if_pos d3] at hq; rw [d3, up_s]; exact hq
              · rw [if_neg d3] at hq; rw [up_n d3]
                rw [up_n c1]
                by_cases d2 : q = z + 2
                · rw [if_pos d2] at hq; rw [d2, up_s]; exact hq
                · rw [if_neg d2] at hq; rw [up_n d2]
                  rw [up_n c1]
                  by_cases d1 : q = z + 1
                  · rw [if_pos d1] at hq; rw [d1, up_s]; exact hq
                  · rw [if_neg d1] at hq; rw [up_n d1]
                    rw [up_n c1]
                    by_cases d0 : q = z
                    · rw [if_pos d0] at hq; rw [d0, up_s]; exact hq
                    · rw [if_neg d0] at hq; rw [up_n d0]
                      exact absurd hq (by intro h9; cases h9)
def sorO (z : Nat) : va_E := .inr (4, [.ref z, .ref (z + 2)])
def sorW (E : EnvT) (a z : Nat) : Nat → Option va_E := fun q => if q = a then some (sorO z) else if q = z + 2 then some (.inr (2, [.ref (z + 3), .int 0])) else if q = z + 3 then some (arI E 64) else if q = z then some (.inr (2, [.ref (z + 1), .int 0])) else if q = z + 1 then some (arI E 64) else none
set_option maxHeartbeats 4000000 in
theorem c_X4_init (l : Launch) (E : EnvT) (a z : Nat) : CCon l E yX4_init cX4_init 1 2 32 a z 4 132 (.inr (4, [.null, .null])) (sorW E a z) := by
  refine cc_intro (by decide) (by decide) rfl (fun K hkl h hf hn hc hs hNW haz hR => ?_)
  have h : Hx K E (CA a z) cX4_init 1 RX4 := h
  refine h_aload h (q := 0) 0 dX4_init_0 rfl ?_
  refine h_obj h ml_X4_3 (by rw [hf]; decide) (by rw [hn]; decide) dX4_init_1 ?_
  refine h_aload h (q := 0) 0 dX4_init_4 rfl ?_
  refine h_new (z := z) h (ci := 2) (fs := [.null, .int 0]) uin_X2 tyX2 tyX2_ok cl_X4_9 ins_X2 ini_X2 rfl (fun j hj => by rcases (show j = 0 ∨ j = 1 by omega) with rfl | rfl <;> rfl) (by rw [hc]; decide) (by rw [hs]; decide) dX4_init_5 ?_
  refine h_dup h dX4_init_8 rfl ?_
  refine h_ctor (z := z + 1) h hNW (c_X2_init (kl K) E (z) (z + 1)) (up_s _ _ _) (Or.inr (by omega)) (by decide) ini_X2 co_X2_init im_X2_init rfl (by decide +kernel) (by rw [hf]; decide) (by rw [hn]; decide) (by rw [hc]; decide) (by rw [hs]; decide) (Nat.le_of_ble_eq_true rfl) dX4_init_9 ?_
  refine h_put h (a := a) ((if_neg (by omega)).trans ((up_n (by omega)).trans (up_s _ _ _))) rfl uin_X4 tyX4 tyX4_ok nmX4 (Or.inl rfl) 0 (by decide) fl_X4_12 rfl rfl (ty := .object "LetterFabric$Row") (by decide +kernel) rfl rfl (Nat.le_of_ble_eq_true rfl) dX4_init_12 ?_
  refine h_aload h (q := 0) 0 dX4_init_15 rfl ?_
  refine h_new (z := z + 2) h (ci := 2) (fs := [.null, .int 0]) uin_X2 tyX2 tyX2_ok cl_X4_9 ins_X2 ini_X2 rfl (fun j hj => by rcases (show j = 0 ∨ j = 1 by omega) with rfl | rfl <;> rfl) (by rw [hc]; decide) (by rw [hs]; decide) dX4_init_16 ?_
  refine h_dup h dX4_init_19 rfl ?_
  refine h_ctor (z := z + 3) h hNW (c_X2_init (kl K) E (z + 2) (z + 3)) (up_s _ _ _) (Or.inr (by omega)) (by decide) ini_X2 co_X2_init im_X2_init rfl (by decide +kernel) (by rw [hf]; decide) (by rw [hn]; decide) (by rw [hc]; decide) (by rw [hs]; decide) (Nat.le_of_ble_eq_true rfl) dX4_init_20 ?_
  refine h_put h (a := a) ((if_neg (by omega)).trans ((up_n (by omega)).trans (up_s _ _ _))) rfl uin_X4 tyX4 tyX4_ok nmX4 (Or.inl rfl) 1 (by decide) fl_X4_18 rfl rfl (ty := .object "LetterFabric$Row") (by decide +kernel) rfl rfl (Nat.le_of_ble_eq_true rfl) dX4_init_23 ?_
  refine h_ret h hR rfl (fun q e hq => ?_) dX4_init_26
  unfold sorW at hq
  by_cases c1 : q = a
  · rw [if_pos c1] at hq; rw [c1, up_s]; exact hq
  · rw [if_neg c1] at hq; rw [up_n c1]
    by_cases c2 : q = z + 2
    · rw [if_pos c2] at hq; rw [if_pos (Or.inl c2), rowW, c2, up_s]; exact hq
    · rw [if_neg c2] at hq
      by_cases c3 : q = z + 3
      · rw [if_pos c3] at hq; rw [if_pos (Or.inr (by omega)), rowW, up_n c2, c3, up_s]; exact hq
      · rw [if_neg c3] at hq
        by_cases c4 : q = z
        · rw [if_pos c4] at hq; rw [if_neg (by omega), up_n c2, up_n c1, if_pos (Or.inl c4), rowW, c4, up_s]; exact hq
        · rw [if_neg c4] at hq
          by_cases c5 : q = z + 1
          · rw [if_pos c5] at hq; rw [if_neg (by omega), up_n c2, up_n c1, if_pos (Or.inr (by omega)), rowW, up_n c4, c5, up_s]; exact hq
          · rw [if_neg c5] at hq; exact absurd hq (by intro h9; cases h9)
