theorem fabW_rng {E : EnvT} {b q : Nat} {e : va_E} (h : fabW E b (b + 1) q = some e) : b ≤ q ∧ q < b + 11 := by
  unfold fabW at h
  by_cases c1 : q = b
  · omega
  · rw [if_neg c1] at h
    by_cases c2 : q = b + 1 + 8
    · omega
    · rw [if_neg c2] at h
      by_cases c3 : q = b + 1 + 9
      · omega
      · rw [if_neg c3] at h
        by_cases c4 : q = b + 1 + 7
        · omega
        · rw [if_neg c4] at h
          by_cases c5 : b + 1 ≤ q ∧ q < b + 1 + 7
          · omega
          · rw [if_neg c5] at h; exact absurd h (by intro h9; cases h9)
def rgF (b i : Nat) : Nat → Option Nat := fun j => if j < i then some (b + 11 * j) else none
theorem rgF_s (b i : Nat) : va_up (rgF b i) i (some (b + 11 * i)) = rgF b (i + 1) := by
  funext j
  by_cases e : j = i
  · subst e; rw [up_s, rgF, if_pos (by omega)]
  · rw [up_n e, rgF, rgF]
    by_cases c : j < i
    · rw [if_pos c, if_pos (by omega)]
    · rw [if_neg c, if_neg (by omega)]
/-- n fabrics in a row from b on -/
def fbs (E : EnvT) (b n : Nat) (w : Nat → Option va_E) : Prop := ∀ j, j < n → ∀ q e, fabW E (b + 11 * j) (b + 11 * j + 1) q = some e → w q = some e
def pasO (z : Nat) : va_E := .inr (1, [.ref z, .int 0, .int 0])
def pasW (E : EnvT) (a z : Nat) : Nat → Option va_E := fun q => if q = a then some (pasO z) else if q = z then some (arO E 10 (rgF (z + 1) 10)) else if z + 1 ≤ q ∧ q < z + 111 then fabW E (z + 1 + 11 * ((q - (z + 1)) / 11)) (z + 1 + 11 * ((q - (z + 1)) / 11) + 1) q else none
theorem pas_loop {K : KX} {E : EnvT} {a z : Nat} (haz : a < z) (h : Hx K E (CA a z) cX1_init 2 RX1) (hf : (kR K).frames = 3) (hn : (kR K).locals = 52) (hc : (kR K).cells = 111) (hs : (kR K).slots = 5340) (hNW : NW (ks K)) (hR : RC K E a z 111 5340 (pasW E a z)) : ∀ m i w, i + m = 10 → w a = some (pasO z) → w z = some (arO E 10 (rgF (z + 1) i)) → fbs E (z + 1) i w →
    HH K E (CA a z) (z + 1 + 11 * i) (1 + 11 * i) (10 + 533 * i) w 15 [(0, .ref a), (1, .int (nI i))] [] := by
  intro m
  induction m with
  | zero =>
    intro i w hi ha hz hb
    have e : i = 10 := by omega
    subst e
    refine h_iload h (q := 1) 1 dX1_init_15 rfl ?_
    refine h_bipush h (v := nI 10) dX1_init_16 (by decide) ?_
    refine h_ncmp_ge h 40 dX1_init_18 (by decide) (by decide) (by decide) (fun _ => ?_) (fun c => absurd c (by decide))
    refine h_ret h hR rfl (fun q e hq => ?_) dX1_init_40
    unfold pasW at hq
    by_cases c1 : q = a
    · rw [if_pos c1] at hq; rw [c1, ha]; exact hq
    · rw [if_neg c1] at hq
      by_cases c2 : q = z
      · rw [if_pos c2] at hq; rw [c2, hz]; exact hq
      · rw [if_neg c2] at hq
        by_cases c3 : z + 1 ≤ q ∧ q < z + 111
        · rw [if_pos c3] at hq
          exact hb ((q - (z + 1)) / 11) (by omega) q e hq
        · rw [if_neg c3] at hq; exact absurd hq (by intro h9; cases h9)
  | succ m ih =>
    intro i w hi ha hz hb
    refine h_iload h (q := 1) 1 dX1_init_15 rfl ?_
    refine h_bipush h (v := nI 10) dX1_init_16 (by decide) ?_
    refine h_ncmp_ge h 40 dX1_init_18 (by decide) (by omega) (by decide) (fun c => absurd c (by omega)) (fun _ => ?_)
    refine h_aload h (q := 0) 0 dX1_init_21 rfl ?_
    refine h_get h ha rfl uin_X1 0 (by decide) fl_X1_11 rfl dX1_init_22 ?_
    refine h_iload h (q := 1) 1 dX1_init_25 rfl ?_
    refine h_new h (ci := 0) (fs := [.int 0, .int 0, .int 0, .int 0, .int 0, .null, .null, .null, .null, .null, .null, .null, .null, .null]) uin_X0 tyX0 tyX0_ok cl_X1_9 ins_X0 ini_X0 rfl (fun j hj => by rcases (show j = 0 ∨ j = 1 ∨ j = 2 ∨ j = 3 ∨ j = 4 ∨ j = 5 ∨ j = 6 ∨ j = 7 ∨ j = 8 ∨ j = 9 ∨ j = 10 ∨ j = 11 ∨ j = 12 ∨ j = 13 by omega) with rfl | rfl | rfl | rfl | rfl | rfl | rfl | rfl | rfl | rfl | rfl | rfl | rfl | rfl <;> rfl) (by rw [hc]; omega) (by rw [hs]; omega) dX1_init_26 ?_
    refine h_dup h dX1_init_29 rfl ?_
    refine h_ctor h hNW (c_X0_init (kl K) E (z + 1 + 11 * i) (z + 1 + 11 * i + 1)) (up_s _ _ _) (Or.inr (by omega)) (by decide) ini_X0 co_X0_init im_X0_init rfl (by decide +kernel) (by rw [hf]; decide) (by rw [hn]; decide) (by rw [hc]; omega) (by rw [hs]; omega) (Nat.le_of_ble_eq_true rfl) dX1_init_30 ?_
    refine h_aast h (a := z) (n := 10) (t := i) (f := rgF (z + 1) i) (v := z + 1 + 11 * i) (vs := [.int 1, .int 8, .int 8, .int 0, .int 0, .ref (z + 1 + 11 * i + 1), .ref (z + 1 + 11 * i + 1 + 1), .ref (z + 1 + 11 * i + 1 + 2), .ref (z + 1 + 11 * i + 1 + 3), .ref (z + 1 + 11 * i + 1 + 4), .ref (z + 1 + 11 * i + 1 + 5), .ref (z + 1 + 11 * i + 1 + 6), .ref (z + 1 + 11 * i + 1 + 7), .ref (z + 1 + 11 * i + 1 + 8)]) ((if_neg (by omega)).trans ((up_n (by omega)).trans hz)) ((if_pos (Or.inl rfl)).trans (if_pos rfl)) (by omega) (by decide) (Or.inr (Nat.le_refl _)) dX1_init_33 ?_
    rw [rgF_s]
    refine h_iinc h (q := 1) (v := nI (i + 1)) 1 [(0, .ref a), (1, .int (nI (i + 1)))] dX1_init_34 rfl (nI_inc i 1) (by decide) rfl ?_
    refine h_goto h 15 dX1_init_37 (by decide) ?_
    have e1 : z + 1 + 11 * i + 1 + 10 = z + 1 + 11 * (i + 1) := by omega
    have e2 : 1 + 11 * i + 1 + 10 = 1 + 11 * (i + 1) := by omega
    have e3 : 10 + 533 * i + 14 + 519 = 10 + 533 * (i + 1) := by omega
    rw [e1, e2, e3]
    refine ih (i + 1) _ (by omega) ?_ (up_s _ _ _) (fun j hj q e hq => ?_)
    · exact (up_n (by omega)).trans ((if_neg (by omega)).trans ((up_n (by omega)).trans ha))
    · have hr := fabW_rng hq
      by_cases c : j = i
      · subst c
        exact (up_n (by omega)).trans ((if_pos (by omega)).trans hq)
      · exact (up_n (by omega)).trans ((if_neg (by omega)).trans ((up_n (by omega)).trans (hb j (by omega) q e hq)))
set_option maxHeartbeats 4000000 in
theorem c_X1_init (l : Launch) (E : EnvT) (a z : Nat) : CCon l E yX1_init cX1_init 2 3 52 a z 111 5340 (.inr (1, [.null, .int 0, .int 0])) (pasW E a z) := by
  refine cc_intro (by decide) (by decide) rfl (fun K hkl h hf hn hc hs hNW haz hR => ?_)
  have h : Hx K E (CA a z) cX1_init 2 RX1 := h
  refine h_aload h (q := 0) 0 dX1_init_0 rfl ?_
  refine h_obj h ml_X1_3 (by rw [hf]; decide) (by rw [hn]; decide) dX1_init_1 ?_
  refine h_aload h (q := 0) 0 dX1_init_4 rfl ?_
  refine h_bipush h (v := nI 10) dX1_init_5 (by decide) ?_
  refine h_newq h hNW cl_X1_9 (N := 10) (by decide) (by rw [hc]; decide) (by rw [hs]; decide) dX1_init_7 ?_
  refine h_put h (a := a) ((up_n (by omega)).trans (up_s _ _ _)) rfl uin_X1 tyX1 tyX1_ok nmX1 (Or.inl rfl) 0 (by decide) fl_X1_11 rfl rfl (ty := .array (.object "LetterFabric$Fabric")) (by decide +kernel) rfl rfl (Nat.le_of_ble_eq_true rfl) dX1_init_10 ?_
  refine h_iconst h (v := nI 0) dX1_init_13 (by decide) ?_
  refine h_istore h (q := 1) [(0, .ref a), (1, .int (nI 0))] dX1_init_14 (by decide) rfl ?_
  exact pas_loop haz h hf hn hc hs hNW hR 10 0 _ rfl (up_s _ _ _) ((up_n (by omega)).trans (by rw [up_s]; congr 2)) (fun j hj => absurd hj (Nat.not_lt_zero j))
