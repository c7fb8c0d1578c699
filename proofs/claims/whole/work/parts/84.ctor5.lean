def fabO (z : Nat) : va_E := .inr (0, [.int 1, .int 8, .int 8, .int 0, .int 0, .ref z, .ref (z + 1), .ref (z + 2), .ref (z + 3), .ref (z + 4), .ref (z + 5), .ref (z + 6), .ref (z + 7), .ref (z + 8)])
def fab0 : va_E := .inr (0, [.int 0, .int 0, .int 0, .int 0, .int 0, .null, .null, .null, .null, .null, .null, .null, .null, .null])
def fabW (E : EnvT) (a z : Nat) : Nat → Option va_E := fun q => if q = a then some (fabO z) else if q = z + 8 then some (.inr (2, [.ref (z + 9), .int 0])) else if q = z + 9 then some (arI E 64) else if q = z + 7 then some (arI E 5) else if z ≤ q ∧ q < z + 7 then some (arI E 64) else none
set_option maxHeartbeats 4000000 in
theorem c_X0_init (l : Launch) (E : EnvT) (a z : Nat) : CCon l E yX0_init cX0_init 1 2 32 a z 10 519 fab0 (fabW E a z) := by
  refine cc_intro (by decide) (by decide) rfl (fun K hkl h hf hn hc hs hNW haz hR => ?_)
  have h : Hx K E (CA a z) cX0_init 1 RX0 := h
  refine h_aload h (q := 0) 0 dX0_init_0 rfl ?_
  refine h_obj h ml_X0_3 (by rw [hf]; decide) (by rw [hn]; decide) dX0_init_1 ?_
  refine h_aload h (q := 0) 0 dX0_init_4 rfl ?_
  refine h_iconst h (v := 1) dX0_init_5 (by decide) ?_
  refine h_putI h (a := a) (up_s _ _ _) rfl uin_X0 tyX0 tyX0_ok nmX0 (Or.inl rfl) 0 (by decide) fl_X0_9 rfl (by decide +kernel) (by decide) dX0_init_6 ?_
  refine h_aload h (q := 0) 0 dX0_init_9 rfl ?_
  refine h_bipush h (v := 8) dX0_init_10 (by decide) ?_
  refine h_putI h (a := a) (up_s _ _ _) rfl uin_X0 tyX0 tyX0_ok nmX0 (Or.inl rfl) 1 (by decide) fl_X0_15 rfl (by decide +kernel) (by decide) dX0_init_12 ?_
  refine h_aload h (q := 0) 0 dX0_init_15 rfl ?_
  refine h_bipush h (v := 8) dX0_init_16 (by decide) ?_
  refine h_putI h (a := a) (up_s _ _ _) rfl uin_X0 tyX0 tyX0_ok nmX0 (Or.inl rfl) 2 (by decide) fl_X0_18 rfl (by decide +kernel) (by decide) dX0_init_18 ?_
  refine h_aload h (q := 0) 0 dX0_init_21 rfl ?_
  refine h_bipush h (v := nI 64) dX0_init_22 (by decide) ?_
  refine h_newa (z := z) h (ty := .int) rfl arr_int 0 (cA := eI E) rfl (N := 64) (by decide) (a0 := (64, .inl (fun _ => 0))) rfl (by decide) (by rw [hc]; decide) (by rw [hs]; decide) (ra_I E) dX0_init_24 ?_
  refine h_put h (a := a) ((up_n (by omega)).trans (up_s _ _ _)) rfl uin_X0 tyX0 tyX0_ok nmX0 (Or.inl rfl) 5 (by decide) fl_X0_21 rfl rfl (ty := .array .int) (by decide +kernel) rfl rfl (Nat.le_of_ble_eq_true rfl) dX0_init_26 ?_
  refine h_aload h (q := 0) 0 dX0_init_29 rfl ?_
  refine h_bipush h (v := nI 64) dX0_init_30 (by decide) ?_
  refine h_newa (z := z + 1) h (ty := .int) rfl arr_int 0 (cA := eI E) rfl (N := 64) (by decide) (a0 := (64, .inl (fun _ => 0))) rfl (by decide) (by rw [hc]; decide) (by rw [hs]; decide) (ra_I E) dX0_init_32 ?_
  refine h_put h (a := a) ((up_n (by omega)).trans (up_s _ _ _)) rfl uin_X0 tyX0 tyX0_ok nmX0 (Or.inl rfl) 6 (by decide) fl_X0_25 rfl rfl (ty := .array .int) (by decide +kernel) rfl rfl (Nat.le_of_ble_eq_true rfl) dX0_init_34 ?_
  refine h_aload h (q := 0) 0 dX0_init_37 rfl ?_
  refine h_bipush h (v := nI 64) dX0_init_38 (by decide) ?_
  refine h_newa (z := z + 2) h (ty := .int) rfl arr_int 0 (cA := eI E) rfl (N := 64) (by decide) (a0 := (64, .inl (fun _ => 0))) rfl (by decide) (by rw [hc]; decide) (by rw [hs]; decide) (ra_I E) dX0_init_40 ?_
  refine h_put h (a := a) ((up_n (by omega)).trans (up_s _ _ _)) rfl uin_X0 tyX0 tyX0_ok nmX0 (Or.inl rfl) 7 (by decide) fl_X0_28 rfl rfl (ty := .array .int) (by decide +kernel) rfl rfl (Nat.le_of_ble_eq_true rfl) dX0_init_42 ?_
  refine h_aload h (q := 0) 0 dX0_init_45 rfl ?_
  refine h_bipush h (v := nI 64) dX0_init_46 (by decide) ?_
  refine h_newa (z := z + 3) h (ty := .int) rfl arr_int 0 (cA := eI E) rfl (N := 64) (by decide) (a0 := (64, .inl (fun _ => 0))) rfl (by decide) (by rw [hc]; decide) (by rw [hs]; decide) (ra_I E) dX0_init_48 ?_
  refine h_put h (a := a) ((up_n (by omega)).trans (up_s _ _ _)) rfl uin_X0 tyX0 tyX0_ok nmX0 (Or.inl rfl) 8 (by decide) fl_X0_31 rfl rfl (ty := .array .int) (by decide +kernel) rfl rfl (Nat.le_of_ble_eq_true rfl) dX0_init_50 ?_
  refine h_aload h (q := 0) 0 dX0_init_53 rfl ?_
  refine h_bipush h (v := nI 64) dX0_init_54 (by decide) ?_
  refine h_newa (z := z + 4) h (ty := .int) rfl arr_int 0 (cA := eI E) rfl (N := 64) (by decide) (a0 := (64, .inl (fun _ => 0))) rfl (by decide) (by rw [hc]; decide) (by rw [hs]; decide) (ra_I E) dX0_init_56 ?_
  refine h_put h (a := a) ((up_n (by omega)).trans (up_s _ _ _)) rfl uin_X0 tyX0 tyX0_ok nmX0 (Or.inl rfl) 9 (by decide) fl_X0_34 rfl rfl (ty := .array .int) (by decide +kernel) rfl rfl (Nat.le_of_ble_eq_true rfl) dX0_init_58 ?_
  refine h_aload h (q := 0) 0 dX0_init_61 rfl ?_
  refine h_bipush h (v := nI 64) dX0_init_62 (by decide) ?_
  refine h_newa (z := z + 5) h (ty := .int) rfl arr_int 0 (cA := eI E) rfl (N := 64) (by decide) (a0 := (64, .inl (fun _ => 0))) rfl (by decide) (by rw [hc]; decide) (by rw [hs]; decide) (ra_I E) dX0_init_64 ?_
  refine h_put h (a := a) ((up_n (by omega)).trans (up_s _ _ _)) rfl uin_X0 tyX0 tyX0_ok nmX0 (Or.inl rfl) 10 (by decide) fl_X0_37 rfl rfl (ty := .array .int) (by decide +kernel) rfl rfl (Nat.le_of_ble_eq_true rfl) dX0_init_66 ?_
  refine h_aload h (q := 0) 0 dX0_init_69 rfl ?_
  refine h_bipush h (v := nI 64) dX0_init_70 (by decide) ?_
  refine h_newa (z := z + 6) h (ty := .int) rfl arr_int 0 (cA := eI E) rfl (N := 64) (by decide) (a0 := (64, .inl (fun _ => 0))) rfl (by decide) (by rw [hc]; decide) (by rw [hs]; decide) (ra_I E) dX0_init_72 ?_
  refine h_put h (a := a) ((up_n (by omega)).trans (up_s _ _ _)) rfl uin_X0 tyX0 tyX0_ok nmX0 (Or.inl rfl) 11 (by decide) fl_X0_40 rfl rfl (ty := .array .int) (by decide +kernel) rfl rfl (Nat.le_of_ble_eq_true rfl) dX0_init_74 ?_
  refine h_aload h (q := 0) 0 dX0_init_77 rfl ?_
  refine h_iconst h (v := nI 5) dX0_init_78 (by decide) ?_
  refine h_newa (z := z + 7) h (ty := .int) rfl arr_int 0 (cA := eI E) rfl (N := 5) (by decide) (a0 := (5, .inl (fun _ => 0))) rfl (by decide) (by rw [hc]; decide) (by rw [hs]; decide) (ra_I E) dX0_init_79 ?_
  refine h_put h (a := a) ((up_n (by omega)).trans (up_s _ _ _)) rfl uin_X0 tyX0 tyX0_ok nmX0 (Or.inl rfl) 12 (by decide) fl_X0_43 rfl rfl (ty := .array .int) (by decide +kernel) rfl rfl (Nat.le_of_ble_eq_true rfl) dX0_init_81 ?_
  refine h_aload h (q := 0) 0 dX0_init_84 rfl ?_
  refine h_new (z := z + 8) h (ci := 2) (fs := [.null, .int 0]) uin_X2 tyX2 tyX2_ok cl_X0_46 ins_X2 ini_X2 rfl (fun j hj => by rcases (show j = 0 ∨ j = 1 by omega) with rfl | rfl <;> rfl) (by rw [hc]; decide) (by rw [hs]; decide) dX0_init_85 ?_
  refine h_dup h dX0_init_88 rfl ?_
  refine h_ctor (z := z + 9) h hNW (c_X2_init (kl K) E (z + 8) (z + 9)) (up_s _ _ _) (Or.inr (by omega)) (by decide) ini_X2 co_X2_init im_X2_init rfl (by decide +kernel) (by rw [hf]; decide) (by rw [hn]; decide) (by rw [hc]; decide) (by rw [hs]; decide) (Nat.le_of_ble_eq_true rfl) dX0_init_89 ?_
  refine h_put h (a := a) ((if_neg (by omega)).trans ((up_n (by omega)).trans (up_s _ _ _))) rfl uin_X0 tyX0 tyX0_ok nmX0 (Or.inl rfl) 13 (by decide) fl_X0_49 rfl rfl (ty := .object "LetterFabric$Row") (by decide +kernel) rfl rfl (Nat.le_of_ble_eq_true rfl) dX0_init_92 ?_
  refine h_ret h hR rfl (fun q e hq => ?_) dX0_init_95
  unfold fabW at hq
  by_cases c1 : q = a
  · rw [if_pos c1] at hq; rw [c1, up_s]; exact hq
  · rw [if_neg c1] at hq; rw [up_n c1]
    by_cases c2 : q = z + 8
    · rw [if_pos c2] at hq; rw [if_pos (Or.inl c2), rowW, c2, up_s]; exact hq
    · rw [if_neg c2] at hq
      by_cases c3 : q = z + 9
      · rw [if_pos c3] at hq; rw [if_pos (Or.inr (by omega)), rowW, up_n c2, c3, up_s]; exact hq
      · rw [if_neg c3] at hq
        have c4 : q < z + 8 := by
          by_cases e7 : q = z + 7
          · omega
          · rw [if_neg e7] at hq
            by_cases e8 : z ≤ q ∧ q < z + 7
            · omega
            · rw [if_neg e8] at hq; exact absurd hq (by intro h9; cases h9)
        rw [if_neg (by omega), up_n c2, up_n c1]
        by_cases c7 : q = z + 7
        · rw [if_pos c7] at hq; rw [c7, up_s]; exact hq
        · rw [if_neg c7] at hq; rw [up_n c7]
          have c8 : z ≤ q ∧ q < z + 7 := by
            by_cases e8 : z ≤ q ∧ q < z + 7
            · exact e8
            · rw [if_neg e8] at hq; exact absurd hq (by intro h9; cases h9)
          rw [if_pos c8] at hq
          rw [up_n c1]
          by_cases d6 : q = z + 6
          · rw [d6, up_s]; exact hq
          · rw [up_n d6]
            rw [up_n c1]
            by_cases d5 : q = z + 5
            · rw [d5, up_s]; exact hq
            · rw [up_n d5]
              rw [up_n c1]
              by_cases d4 : q = z + 4
              · rw [d4, up_s]; exact hq
              · rw [up_n d4]
                rw [up_n c1]
                by_cases d3 : q = z + 3
                · rw [d3, up_s]; exact hq
                · rw [up_n d3]
                  rw [up_n c1]
                  by_cases d2 : q = z + 2
                  · rw [d2, up_s]; exact hq
                  · rw [up_n d2]
                    rw [up_n c1]
                    by_cases d1 : q = z + 1
                    · rw [d1, up_s]; exact hq
                    · rw [up_n d1]
                      rw [up_n c1]
                      have d0 : q = z := by omega
                      rw [d0, up_s]; exact hq
