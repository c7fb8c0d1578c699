def blk (O : va_E) (a : Nat) (r : Nat → Option va_E) : Nat → Option va_E := fun q => if q = a then some O else r q
def ext (r : Nat → Option va_E) (b : Nat) (n : Nat → Option va_E) : Nat → Option va_E := fun q => if b ≤ q then n q else r q
theorem blk_a (O : va_E) (a : Nat) (r : Nat → Option va_E) : blk O a r a = some O := if_pos rfl
theorem inc_obj {a b : Nat} (hab : a < b) (O O' pre : va_E) (R w1 : Nat → Option va_E) : ∀ q e, blk O' a (ext R b w1) q = some e → va_up (fun q => if q = b ∨ b + 1 ≤ q then w1 q else va_up (blk O a R) b (some pre) q) a (some O') q = some e := by
  intro q e h
  unfold blk ext at h
  by_cases c : q = a
  · rw [if_pos c] at h; rw [c, up_s]; exact h
  · rw [if_neg c] at h; rw [up_n c]
    by_cases c2 : b ≤ q
    · rw [if_pos c2] at h; rw [if_pos (by omega)]; exact h
    · rw [if_neg c2] at h; rw [if_neg (by omega), up_n (by omega), blk, if_neg c]; exact h
def one (b : Nat) (x : va_E) : Nat → Option va_E := fun q => if q = b then some x else none
theorem inc_arr {a b : Nat} (hab : a < b) (O O' x : va_E) (R : Nat → Option va_E) : ∀ q e, blk O' a (ext R b (one b x)) q = some e → va_up (va_up (blk O a R) b (some x)) a (some O') q = some e := by
  intro q e h
  unfold blk ext one at h
  by_cases c : q = a
  · rw [if_pos c] at h; rw [c, up_s]; exact h
  · rw [if_neg c] at h; rw [up_n c]
    by_cases c2 : b ≤ q
    · rw [if_pos c2] at h
      by_cases c3 : q = b
      · rw [if_pos c3] at h; rw [c3, up_s]; exact h
      · rw [if_neg c3] at h; exact absurd h (by intro h9; cases h9)
    · rw [if_neg c2] at h; rw [up_n (by omega), blk, if_neg c]; exact h
def lfR (E : EnvT) (z : Nat) : Nat → Option va_E :=
  ext (ext (ext (ext (ext (ext (ext (ext (fun _ => none) z (fabW E z (z + 1))) (z + 11) (fabW E (z + 11) (z + 12))) (z + 22) (sorW E (z + 22) (z + 23))) (z + 27) (pasW E (z + 27) (z + 28))) (z + 139) (seeIW E (z + 139) (z + 140))) (z + 142) (one (z + 142) (arO E 2 (fun _ => none)))) (z + 143) (one (z + 143) (.inl (eZ E, 2, .inl (fun _ => 0))))) (z + 144) (one (z + 144) (arI E 8))
def lfO (z : Nat) : va_E := .inr (5, [.ref z, .ref (z + 11), .ref (z + 22), .ref (z + 27), .ref (z + 139), .ref (z + 142), .ref (z + 143), .ref (z + 144)])
def lfW (E : EnvT) (a z : Nat) : Nat → Option va_E := fun q => if q = a then some (lfO z) else if q = z + 142 then some (arO E 2 (rgF (z + 145) 2)) else if z + 145 ≤ q ∧ q < z + 167 then fabW E (z + 145 + 11 * ((q - (z + 145)) / 11)) (z + 145 + 11 * ((q - (z + 145)) / 11) + 1) q else if z ≤ q ∧ q < z + 145 then lfR E z q else none
theorem lf_loop {K : KX} {E : EnvT} {a z : Nat} (haz : a < z) (h : Hx K E (CA a z) cX5_init 2 RX5) (hf : (kR K).frames = 4) (hn : (kR K).locals = 73) (hc : (kR K).cells = 167) (hs : (kR K).slots = 7636) (hNW : NW (ks K)) (hR : RC K E a z 167 7636 (lfW E a z)) : ∀ m i w, i + m = 2 → w a = some (lfO z) → w (z + 142) = some (arO E 2 (rgF (z + 145) i)) → fbs E (z + 145) i w → (∀ q e, z ≤ q → q < z + 145 → q ≠ z + 142 → lfR E z q = some e → w q = some e) →
    HH K E (CA a z) (z + 145 + 11 * i) (145 + 11 * i) (6570 + 533 * i) w 84 [(0, .ref a), (1, .int (nI i))] [] := by
  intro m
  induction m with
  | zero =>
    intro i w hi ha hz hb hr
    have e : i = 2 := by omega
    subst e
    refine h_iload h (q := 1) 1 dX5_init_84 rfl ?_
    refine h_iconst h (v := nI 2) dX5_init_85 (by decide) ?_
    refine h_ncmp_ge h 108 dX5_init_86 (by decide) (by decide) (by decide) (fun _ => ?_) (fun c => absurd c (by decide))
    refine h_ret h hR rfl (fun q e hq => ?_) dX5_init_108
    unfold lfW at hq
    by_cases c1 : q = a
    · rw [if_pos c1] at hq; rw [c1, ha]; exact hq
    · rw [if_neg c1] at hq
      by_cases c2 : q = z + 142
      · rw [if_pos c2] at hq; rw [c2, hz]; exact hq
      · rw [if_neg c2] at hq
        by_cases c3 : z + 145 ≤ q ∧ q < z + 167
        · rw [if_pos c3] at hq
          exact hb ((q - (z + 145)) / 11) (by omega) q e hq
        · rw [if_neg c3] at hq
          by_cases c4 : z ≤ q ∧ q < z + 145
          · rw [if_pos c4] at hq; exact hr q e c4.1 c4.2 c2 hq
          · rw [if_neg c4] at hq; exact absurd hq (by intro h9; cases h9)
  | succ m ih =>
    intro i w hi ha hz hb hr
    refine h_iload h (q := 1) 1 dX5_init_84 rfl ?_
    refine h_iconst h (v := nI 2) dX5_init_85 (by decide) ?_
    refine h_ncmp_ge h 108 dX5_init_86 (by decide) (by omega) (by decide) (fun c => absurd c (by omega)) (fun _ => ?_)
    refine h_aload h (q := 0) 0 dX5_init_89 rfl ?_
    refine h_get h ha rfl uin_X5 5 (by decide) fl_X5_40 rfl dX5_init_90 ?_
    refine h_iload h (q := 1) 1 dX5_init_93 rfl ?_
    refine h_new h (ci := 0) (fs := [.int 0, .int 0, .int 0, .int 0, .int 0, .null, .null, .null, .null, .null, .null, .null, .null, .null]) uin_X0 tyX0 tyX0_ok cl_X5_9 ins_X0 ini_X0 rfl (fun j hj => by rcases (show j = 0 ∨ j = 1 ∨ j = 2 ∨ j = 3 ∨ j = 4 ∨ j = 5 ∨ j = 6 ∨ j = 7 ∨ j = 8 ∨ j = 9 ∨ j = 10 ∨ j = 11 ∨ j = 12 ∨ j = 13 by omega) with rfl | rfl | rfl | rfl | rfl | rfl | rfl | rfl | rfl | rfl | rfl | rfl | rfl | rfl <;> rfl) (by rw [hc]; omega) (by rw [hs]; omega) dX5_init_94 ?_
    refine h_dup h dX5_init_97 rfl ?_
    refine h_ctor h hNW (c_X0_init (kl K) E (z + 145 + 11 * i) (z + 145 + 11 * i + 1)) (up_s _ _ _) (Or.inr (by omega)) (by decide) ini_X0 co_X0_init im_X0_init rfl (by decide +kernel) (by rw [hf]; decide) (by rw [hn]; decide) (by rw [hc]; omega) (by rw [hs]; omega) (Nat.le_of_ble_eq_true rfl) dX5_init_98 ?_
    refine h_aast h (a := z + 142) (n := 2) (t := i) (f := rgF (z + 145) i) (v := z + 145 + 11 * i) (vs := [.int 1, .int 8, .int 8, .int 0, .int 0, .ref (z + 145 + 11 * i + 1), .ref (z + 145 + 11 * i + 1 + 1), .ref (z + 145 + 11 * i + 1 + 2), .ref (z + 145 + 11 * i + 1 + 3), .ref (z + 145 + 11 * i + 1 + 4), .ref (z + 145 + 11 * i + 1 + 5), .ref (z + 145 + 11 * i + 1 + 6), .ref (z + 145 + 11 * i + 1 + 7), .ref (z + 145 + 11 * i + 1 + 8)]) ((if_neg (by omega)).trans ((up_n (by omega)).trans hz)) ((if_pos (Or.inl rfl)).trans (if_pos rfl)) (by omega) (by decide) (Or.inr (by omega)) dX5_init_101 ?_
    rw [rgF_s]
    refine h_iinc h (q := 1) (v := nI (i + 1)) 1 [(0, .ref a), (1, .int (nI (i + 1)))] dX5_init_102 rfl (nI_inc i 1) (by decide) rfl ?_
    refine h_goto h 84 dX5_init_105 (by decide) ?_
    have e1 : z + 145 + 11 * i + 1 + 10 = z + 145 + 11 * (i + 1) := by omega
    have e2 : 145 + 11 * i + 1 + 10 = 145 + 11 * (i + 1) := by omega
    have e3 : 6570 + 533 * i + 14 + 519 = 6570 + 533 * (i + 1) := by omega
    rw [e1, e2, e3]
    refine ih (i + 1) _ (by omega) ?_ (up_s _ _ _) (fun j hj q e hq => ?_) (fun q e h1 h2 h3 hq => ?_)
    · exact (up_n (by omega)).trans ((if_neg (by omega)).trans ((up_n (by omega)).trans ha))
    · have hr := fabW_rng hq
      by_cases c : j = i
      · subst c
        exact (up_n (by omega)).trans ((if_pos (by omega)).trans hq)
      · exact (up_n (by omega)).trans ((if_neg (by omega)).trans ((up_n (by omega)).trans (hb j (by omega) q e hq)))
    · exact (up_n h3).trans ((if_neg (by omega)).trans ((up_n (by omega)).trans (hr q e h1 h2 h3 hq)))
theorem inc_0 {a : Nat} (pre : va_E) : ∀ q e, blk pre a (fun _ => none) q = some e → va_up (fun _ => none) a (some pre) q = some e := by
  intro q e h
  unfold blk at h
  by_cases c : q = a
  · rw [if_pos c] at h; rw [c, up_s]; exact h
  · rw [if_neg c] at h; exact absurd h (by intro h9; cases h9)
set_option maxHeartbeats 8000000 in
theorem c_X5_init (l : Launch) (E : EnvT) (a z : Nat) : CCon l E yX5_init cX5_init 2 4 73 a z 167 7636 (.inr (5, [.null, .null, .null, .null, .null, .null, .null, .null])) (lfW E a z) := by
  refine cc_intro (by decide) (by decide) rfl (fun K hkl h hf hn hc hs hNW haz hR => ?_)
  have h : Hx K E (CA a z) cX5_init 2 RX5 := h
  refine h_w _ (inc_0 _) ?_
  refine h_aload h (q := 0) 0 dX5_init_0 rfl ?_
  refine h_obj h ml_X5_3 (by rw [hf]; decide) (by rw [hn]; decide) dX5_init_1 ?_
  refine h_aload h (q := 0) 0 dX5_init_4 rfl ?_
  refine h_new (z := z) h (ci := 0) (fs := [.int 0, .int 0, .int 0, .int 0, .int 0, .null, .null, .null, .null, .null, .null, .null, .null, .null]) uin_X0 tyX0 tyX0_ok cl_X5_9 ins_X0 ini_X0 rfl (fun j hj => by rcases (show j = 0 ∨ j = 1 ∨ j = 2 ∨ j = 3 ∨ j = 4 ∨ j = 5 ∨ j = 6 ∨ j = 7 ∨ j = 8 ∨ j = 9 ∨ j = 10 ∨ j = 11 ∨ j = 12 ∨ j = 13 by omega) with rfl | rfl | rfl | rfl | rfl | rfl | rfl | rfl | rfl | rfl | rfl | rfl | rfl | rfl <;> rfl) (by rw [hc]; decide) (by rw [hs]; decide) dX5_init_5 ?_
  refine h_dup h dX5_init_8 rfl ?_
  refine h_ctor (z := z + 1) h hNW (c_X0_init (kl K) E (z) (z + 1)) (up_s _ _ _) (Or.inr (by omega)) (by decide) ini_X0 co_X0_init im_X0_init rfl (by decide +kernel) (by rw [hf]; decide) (by rw [hn]; decide) (by rw [hc]; decide) (by rw [hs]; decide) (Nat.le_of_ble_eq_true rfl) dX5_init_9 ?_
  refine h_put h (a := a) ((if_neg (by omega)).trans ((up_n (by omega)).trans (blk_a _ _ _))) rfl uin_X5 tyX5 tyX5_ok nmX5 (Or.inl rfl) 0 (by decide) fl_X5_12 rfl rfl (ty := .object "LetterFabric$Fabric") (by decide +kernel) rfl rfl (Nat.le_of_ble_eq_true rfl) dX5_init_12 ?_
  refine h_w _ (inc_obj (b := z) (by omega) _ _ _ _ _) ?_
  refine h_aload h (q := 0) 0 dX5_init_15 rfl ?_
  refine h_new (z := z + 11) h (ci := 0) (fs := [.int 0, .int 0, .int 0, .int 0, .int 0, .null, .null, .null, .null, .null, .null, .null, .null, .null]) uin_X0 tyX0 tyX0_ok cl_X5_9 ins_X0 ini_X0 rfl (fun j hj => by rcases (show j = 0 ∨ j = 1 ∨ j = 2 ∨ j = 3 ∨ j = 4 ∨ j = 5 ∨ j = 6 ∨ j = 7 ∨ j = 8 ∨ j = 9 ∨ j = 10 ∨ j = 11 ∨ j = 12 ∨ j = 13 by omega) with rfl | rfl | rfl | rfl | rfl | rfl | rfl | rfl | rfl | rfl | rfl | rfl | rfl | rfl <;> rfl) (by rw [hc]; decide) (by rw [hs]; decide) dX5_init_16 ?_
  refine h_dup h dX5_init_19 rfl ?_
  refine h_ctor (z := z + 12) h hNW (c_X0_init (kl K) E (z + 11) (z + 12)) (up_s _ _ _) (Or.inr (by omega)) (by decide) ini_X0 co_X0_init im_X0_init rfl (by decide +kernel) (by rw [hf]; decide) (by rw [hn]; decide) (by rw [hc]; decide) (by rw [hs]; decide) (Nat.le_of_ble_eq_true rfl) dX5_init_20 ?_
  refine h_put h (a := a) ((if_neg (by omega)).trans ((up_n (by omega)).trans (blk_a _ _ _))) rfl uin_X5 tyX5 tyX5_ok nmX5 (Or.inl rfl) 1 (by decide) fl_X5_16 rfl rfl (ty := .object "LetterFabric$Fabric") (by decide +kernel) rfl rfl (Nat.le_of_ble_eq_true rfl) dX5_init_23 ?_
  refine h_w _ (inc_obj (b := z + 11) (by omega) _ _ _ _ _) ?_
  refine h_aload h (q := 0) 0 dX5_init_26 rfl ?_
  refine h_new (z := z + 22) h (ci := 4) (fs := [.null, .null]) uin_X4 tyX4 tyX4_ok cl_X5_19 ins_X4 ini_X4 rfl (fun j hj => by rcases (show j = 0 ∨ j = 1 by omega) with rfl | rfl <;> rfl) (by rw [hc]; decide) (by rw [hs]; decide) dX5_init_27 ?_
  refine h_dup h dX5_init_30 rfl ?_
  refine h_ctor (z := z + 23) h hNW (c_X4_init (kl K) E (z + 22) (z + 23)) (up_s _ _ _) (Or.inr (by omega)) (by decide) ini_X4 co_X4_init im_X4_init rfl (by decide +kernel) (by rw [hf]; decide) (by rw [hn]; decide) (by rw [hc]; decide) (by rw [hs]; decide) (Nat.le_of_ble_eq_true rfl) dX5_init_31 ?_
  refine h_put h (a := a) ((if_neg (by omega)).trans ((up_n (by omega)).trans (blk_a _ _ _))) rfl uin_X5 tyX5 tyX5_ok nmX5 (Or.inl rfl) 2 (by decide) fl_X5_22 rfl rfl (ty := .object "LetterFabric$Sorter") (by decide +kernel) rfl rfl (Nat.le_of_ble_eq_true rfl) dX5_init_34 ?_
  refine h_w _ (inc_obj (b := z + 22) (by omega) _ _ _ _ _) ?_
  refine h_aload h (q := 0) 0 dX5_init_37 rfl ?_
  refine h_new (z := z + 27) h (ci := 1) (fs := [.null, .int 0, .int 0]) uin_X1 tyX1 tyX1_ok cl_X5_26 ins_X1 ini_X1 rfl (fun j hj => by rcases (show j = 0 ∨ j = 1 ∨ j = 2 by omega) with rfl | rfl | rfl <;> rfl) (by rw [hc]; decide) (by rw [hs]; decide) dX5_init_38 ?_
  refine h_dup h dX5_init_41 rfl ?_
  refine h_ctorI (z := z + 28) h hNW (c_X1_init (kl K) E (z + 27) (z + 28)) (up_s _ _ _) (Or.inr (by omega)) ml_X5_28 ini_X1 co_X1_init im_X1_init rfl (by decide +kernel) (by rw [hf]; decide) (by rw [hn]; decide) (by rw [hc]; decide) (by rw [hs]; decide) (Nat.le_of_ble_eq_true rfl) dX5_init_42 ?_
  refine h_put h (a := a) ((if_neg (by omega)).trans ((up_n (by omega)).trans (blk_a _ _ _))) rfl uin_X5 tyX5 tyX5_ok nmX5 (Or.inl rfl) 3 (by decide) fl_X5_29 rfl rfl (ty := .object "LetterFabric$Past") (by decide +kernel) rfl rfl (Nat.le_of_ble_eq_true rfl) dX5_init_45 ?_
  refine h_w _ (inc_obj (b := z + 27) (by omega) _ _ _ _ _) ?_
  refine h_aload h (q := 0) 0 dX5_init_48 rfl ?_
  refine h_new (z := z + 139) h (ci := 3) (fs := [.null, .null, .int 0]) uin_X3 tyX3 tyX3_ok cl_X5_33 ins_X3 ini_X3 rfl (fun j hj => by rcases (show j = 0 ∨ j = 1 ∨ j = 2 by omega) with rfl | rfl | rfl <;> rfl) (by rw [hc]; decide) (by rw [hs]; decide) dX5_init_49 ?_
  refine h_dup h dX5_init_52 rfl ?_
  refine h_ctor (z := z + 140) h hNW (c_X3_init (kl K) E (z + 139) (z + 140)) (up_s _ _ _) (Or.inr (by omega)) (by decide) ini_X3 co_X3_init im_X3_init rfl (by decide +kernel) (by rw [hf]; decide) (by rw [hn]; decide) (by rw [hc]; decide) (by rw [hs]; decide) (Nat.le_of_ble_eq_true rfl) dX5_init_53 ?_
  refine h_put h (a := a) ((if_neg (by omega)).trans ((up_n (by omega)).trans (blk_a _ _ _))) rfl uin_X5 tyX5 tyX5_ok nmX5 (Or.inl rfl) 4 (by decide) fl_X5_36 rfl rfl (ty := .object "LetterFabric$Sightings") (by decide +kernel) rfl rfl (Nat.le_of_ble_eq_true rfl) dX5_init_56 ?_
  refine h_w _ (inc_obj (b := z + 139) (by omega) _ _ _ _ _) ?_
  refine h_aload h (q := 0) 0 dX5_init_59 rfl ?_
  refine h_iconst h (v := nI 2) dX5_init_60 (by decide) ?_
  refine h_newq (z := z + 142) h hNW cl_X5_9 (N := 2) (by decide) (by rw [hc]; decide) (by rw [hs]; decide) dX5_init_61 ?_
  refine h_put h (a := a) ((up_n (by omega)).trans (blk_a _ _ _)) rfl uin_X5 tyX5 tyX5_ok nmX5 (Or.inl rfl) 5 (by decide) fl_X5_40 rfl rfl (ty := .array (.object "LetterFabric$Fabric")) (by decide +kernel) rfl rfl (Nat.le_of_ble_eq_true rfl) dX5_init_64 ?_
  refine h_w _ (inc_arr (b := z + 142) (by omega) _ _ _ _) ?_
  refine h_aload h (q := 0) 0 dX5_init_67 rfl ?_
  refine h_iconst h (v := nI 2) dX5_init_68 (by decide) ?_
  refine h_newa (z := z + 143) h (ty := .boolean) rfl arr_boolean 1 (cA := eZ E) rfl (N := 2) (by decide) (a0 := (2, .inl (fun _ => 0))) rfl (by decide) (by rw [hc]; decide) (by rw [hs]; decide) (ra_Z E) dX5_init_69 ?_
  refine h_put h (a := a) ((up_n (by omega)).trans (blk_a _ _ _)) rfl uin_X5 tyX5 tyX5_ok nmX5 (Or.inl rfl) 6 (by decide) fl_X5_44 rfl rfl (ty := .array .boolean) (by decide +kernel) rfl rfl (Nat.le_of_ble_eq_true rfl) dX5_init_71 ?_
  refine h_w _ (inc_arr (b := z + 143) (by omega) _ _ _ _) ?_
  refine h_aload h (q := 0) 0 dX5_init_74 rfl ?_
  refine h_bipush h (v := nI 8) dX5_init_75 (by decide) ?_
  refine h_newa (z := z + 144) h (ty := .int) rfl arr_int 0 (cA := eI E) rfl (N := 8) (by decide) (a0 := (8, .inl (fun _ => 0))) rfl (by decide) (by rw [hc]; decide) (by rw [hs]; decide) (ra_I E) dX5_init_77 ?_
  refine h_put h (a := a) ((up_n (by omega)).trans (blk_a _ _ _)) rfl uin_X5 tyX5 tyX5_ok nmX5 (Or.inl rfl) 7 (by decide) fl_X5_48 rfl rfl (ty := .array .int) (by decide +kernel) rfl rfl (Nat.le_of_ble_eq_true rfl) dX5_init_79 ?_
  refine h_w _ (inc_arr (b := z + 144) (by omega) _ _ _ _) ?_
  refine h_iconst h (v := nI 0) dX5_init_82 (by decide) ?_
  refine h_istore h (q := 1) [(0, .ref a), (1, .int (nI 0))] dX5_init_83 (by decide) rfl ?_
  refine lf_loop haz h hf hn hc hs hNW hR 2 0 _ rfl (blk_a _ _ _) ?_ (fun j hj => absurd hj (Nat.not_lt_zero j)) (fun q e h1 h2 h3 hq => ?_)
  · refine (if_neg (by omega)).trans ((if_neg (by omega)).trans ((if_neg (by omega)).trans ((if_pos (by omega)).trans ((if_pos rfl).trans ?_))))
    congr 2
  · exact (if_neg (by omega)).trans hq
