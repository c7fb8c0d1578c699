theorem NW_in {s : State} {args : Array Value} (hts : ∀ w ∈ lw_tbl, w.before args s = true) : NW s := by
  intro c hc
  simp only [NWl, List.mem_cons, List.not_mem_nil, or_false] at hc
  rcases hc with rfl | rfl | rfl | rfl | rfl | rfl | rfl
  · exact va_Nw.of rfl (hts _ (List.mem_of_getElem? (i := 48) (by decide +kernel)))
  · exact va_Nw.of rfl (hts _ (List.mem_of_getElem? (i := 54) (by decide +kernel)))
  · exact va_Nw.of rfl (hts _ (List.mem_of_getElem? (i := 138) (by decide +kernel)))
  · exact va_Nw.of rfl (hts _ (List.mem_of_getElem? (i := 143) (by decide +kernel)))
  · exact va_Nw.of rfl (hts _ (List.mem_of_getElem? (i := 159) (by decide +kernel)))
  · exact va_Nw.of rfl (hts _ (List.mem_of_getElem? (i := 173) (by decide +kernel)))
  · exact va_AO.of (C := "LetterFabric$Fabric") (A := args) (hts _ (List.mem_of_getElem? (i := 158) (by decide +kernel)))
theorem K_in {s : State} {args : Array Value} (hts : ∀ w ∈ lw_tbl, w.before args s = true) : ∃ (D : va_G) (cI cZ cO : ClassId), ∀ B, va_K D vwCl (tysE (EB D cI cZ cO B)) s := by
  have hg : ∀ w ∈ gtb, w.before args s = true := fun w h => hts w (gtb_tbl w h)
  have hAO : (Cond.arrayOver (.object "LetterFabric$Fabric")).before args s = true := hts _ (List.mem_of_getElem? (i := 158) (by decide +kernel))
  obtain ⟨c0, i0, k0⟩ := u_known (C := RX0) (T := TX0) (N := 14) (n := 14) hg uin_X0 (hg _ ins_X0)
  obtain ⟨c1, i1, k1⟩ := u_known (C := RX1) (T := TX1) (N := 3) (n := 3) hg uin_X1 (hg _ ins_X1)
  obtain ⟨c2, i2, k2⟩ := u_known (C := RX2) (T := TX2) (N := 2) (n := 2) hg uin_X2 (hg _ ins_X2)
  obtain ⟨c3, i3, k3⟩ := u_known (C := RX3) (T := TX3) (N := 3) (n := 3) hg uin_X3 (hg _ ins_X3)
  obtain ⟨c4, i4, k4⟩ := u_known (C := RX4) (T := TX4) (N := 2) (n := 2) hg uin_X4 (hg _ ins_X4)
  obtain ⟨c5, i5, k5⟩ := u_known (C := RX5) (T := TX5) (N := 8) (n := 8) hg uin_X5 (hg _ ins_X5)
  obtain ⟨c6, i6, k6⟩ := u_known (C := RX6) (T := TX6) (N := 18) (n := 18) hg uin_X6 (hg _ ins_X6)
  obtain ⟨cI, kI, pI, I1, I2, I3⟩ := Cond.arrayClass_spec (hg _ arr_int)
  obtain ⟨cZ, kZ, pZ, Z1, Z2, Z3⟩ := Cond.arrayClass_spec (hg _ arr_boolean)
  obtain ⟨pO, cO, kO, O1, _, O2, O3, O4⟩ := Cond.arrayOver_spec hAO
  refine ⟨(fun k => match k with | 0 => c0 | 1 => c1 | 2 => c2 | 3 => c3 | 4 => c4 | 5 => c5 | _ => c6, fun k => match k with | 0 => i0 | 1 => i1 | 2 => i2 | 3 => i3 | 4 => i4 | 5 => i5 | _ => i6), cI, cZ, cO, fun B => ⟨fun k q hq => ?_, fun k q hq => ?_⟩⟩
  · match k, hq with
    | 0, hq => cases hq; exact k0
    | 1, hq => cases hq; exact k1
    | 2, hq => cases hq; exact k2
    | 3, hq => cases hq; exact k3
    | 4, hq => cases hq; exact k4
    | 5, hq => cases hq; exact k5
    | 6, hq => cases hq; exact k6
    | k + 7, hq => simp [vwCl] at hq
  · match k, hq with
    | 0, hq =>
      have hq : some (cI, FieldType.int) = some q := hq
      cases hq
      exact ⟨fun n z => ⟨fun k h => (by cases h), kI, I2, pI, I3⟩, I1⟩
    | 1, hq =>
      have hq : some (cZ, FieldType.boolean) = some q := hq
      cases hq
      exact ⟨fun n z => ⟨fun k h => (by cases h), kZ, Z2, pZ, Z3⟩, Z1⟩
    | 2, hq =>
      have hq : some (cO, FieldType.object "LetterFabric$Fabric") = some q := hq
      cases hq
      exact ⟨fun n z => ⟨fun k h => (by cases h), kO, O2, pO, O3⟩, kO, pO, O2, O3, O1, O4⟩
    | k + 3, hq => simp [tysE] at hq
theorem SW_in {E : EnvT} {s : State} {b : Nat} (hts : ∀ w ∈ lw_tbl, w.before #[Value.ref b] s = true) (hgv : (Jvm.Cond.and given_1 narrow_1).before #[Value.ref b] s = true) (hA : ∀ a : Nat, a < s.heap.size → ¬ AE E a) : ∃ aw, SW E aw s := by
  have hs := flat_of_before _ hgv
  obtain ⟨aw, hv, hT⟩ := va_Tof (tm := .static "LetterFabric" "WAYS_TO_CHOOSE_LINES" "[I") (ty := .int) (N := 9) (f := fun j => .int (wyF j)) (A := AE E) (by decide) (hs (.arrayOf (.static "LetterFabric" "WAYS_TO_CHOOSE_LINES" "[I") .int) (by decide +kernel))
    (va_eqt (hs (.eq (.length (.static "LetterFabric" "WAYS_TO_CHOOSE_LINES" "[I")) (.int 9)) (by decide +kernel)))
    (fun j hj => by
      rcases (show j = 0 ∨ j = 1 ∨ j = 2 ∨ j = 3 ∨ j = 4 ∨ j = 5 ∨ j = 6 ∨ j = 7 ∨ j = 8 by omega) with rfl | rfl | rfl | rfl | rfl | rfl | rfl | rfl | rfl
      · exact va_eqt (hs (.eq (.elem (.static "LetterFabric" "WAYS_TO_CHOOSE_LINES" "[I") (.int 0)) (.int 1)) (by decide +kernel))
      · exact va_eqt (hs (.eq (.elem (.static "LetterFabric" "WAYS_TO_CHOOSE_LINES" "[I") (.int 1)) (.int 8)) (by decide +kernel))
      · exact va_eqt (hs (.eq (.elem (.static "LetterFabric" "WAYS_TO_CHOOSE_LINES" "[I") (.int 2)) (.int 28)) (by decide +kernel))
      · exact va_eqt (hs (.eq (.elem (.static "LetterFabric" "WAYS_TO_CHOOSE_LINES" "[I") (.int 3)) (.int 56)) (by decide +kernel))
      · exact va_eqt (hs (.eq (.elem (.static "LetterFabric" "WAYS_TO_CHOOSE_LINES" "[I") (.int 4)) (.int 70)) (by decide +kernel))
      · exact va_eqt (hs (.eq (.elem (.static "LetterFabric" "WAYS_TO_CHOOSE_LINES" "[I") (.int 5)) (.int 56)) (by decide +kernel))
      · exact va_eqt (hs (.eq (.elem (.static "LetterFabric" "WAYS_TO_CHOOSE_LINES" "[I") (.int 6)) (.int 28)) (by decide +kernel))
      · exact va_eqt (hs (.eq (.elem (.static "LetterFabric" "WAYS_TO_CHOOSE_LINES" "[I") (.int 7)) (.int 8)) (by decide +kernel))
      · exact va_eqt (hs (.eq (.elem (.static "LetterFabric" "WAYS_TO_CHOOSE_LINES" "[I") (.int 8)) (.int 1)) (by decide +kernel))) hA
  exact ⟨aw, va_Zof (hts (.laysStatic "LetterFabric" "WAYS_TO_CHOOSE_LINES" "[I") (List.mem_of_getElem? (i := 400) (by decide +kernel))) (hts _ (gtb_tbl _ ini_X5)) hv hA, hT⟩
theorem lfW_ge {E : EnvT} {B q : Nat} {e : va_E} (h : lfW E B (B + 1) q = some e) : q = B ∨ B + 1 ≤ q := by
  by_cases c : q < B
  · unfold lfW at h
    rw [if_neg (by omega), if_neg (by omega), if_neg (by omega), if_neg (by omega)] at h
    cases h
  · omega
theorem modIW_ge {E : EnvT} {a q : Nat} {e : va_E} (h : modIW E a (a + 1) q = some e) : q = a ∨ a + 1 ≤ q := by
  by_cases c : q < a
  · unfold modIW at h
    rw [if_neg (by omega), if_neg (by omega), if_neg (by omega), if_neg (by omega), if_neg (by omega), if_neg (by omega), if_neg (by omega), if_neg (by omega), if_neg (by omega), if_neg (by omega)] at h
    cases h
  · omega
set_option maxHeartbeats 4000000 in
/-- the law's first instructions: both objects are made, then its loop -/
theorem l_start {K : KX} {D : va_G} {cI cZ cO : ClassId} {B b : Nat} (h : Hy K (EB D cI cZ cO B) (fun q => B ≤ q) cL_law 4 RL) (hB : (ks K).heap.size = B) (hNW : NW (ks K)) (hR : kR K = room_1) (hce : 178 ≤ kce K) (hsl : 15092 ≤ ksl K)
    (kk : GG K (EB D cI cZ cO B) s0 18 [(0, .ref b), (1, .ref (ad (EB D cI cZ cO B) 0 0 0)), (2, .ref (ad (EB D cI cZ cO B) 11 0 0)), (3, .int (nI 0))] []) : HH K (EB D cI cZ cO B) (fun q => B ≤ q) B 0 0 (fun _ => none) 0 [(0, .ref b)] [] := by
  refine y_new (z := B) h (ci := 5) (fs := [.null, .null, .null, .null, .null, .null, .null, .null]) uin_X5 tyX5 tyX5_ok cl_L_7 ins_X5 ini_X5 rfl (fun j hj => by rcases (show j = 0 ∨ j = 1 ∨ j = 2 ∨ j = 3 ∨ j = 4 ∨ j = 5 ∨ j = 6 ∨ j = 7 by omega) with rfl | rfl | rfl | rfl | rfl | rfl | rfl | rfl <;> rfl) (by rw [hR]; exact Nat.le_of_ble_eq_true rfl) (by rw [hR]; exact Nat.le_of_ble_eq_true rfl) dL_law_0 ?_
  refine y_dup h dL_law_3 rfl ?_
  refine y_ctorI (z := B + 1) h hNW (c_X5_init (kl K) (EB D cI cZ cO B) B (B + 1)) (up_s _ _ _) (Nat.le_refl B) ml_L_9 ini_X5 co_X5_init im_X5_init rfl (by decide +kernel) (by rw [hR]; exact Nat.le_of_ble_eq_true rfl) (by rw [hR]; exact Nat.le_of_ble_eq_true rfl) (by rw [hR]; exact Nat.le_of_ble_eq_true rfl) (by rw [hR]; exact Nat.le_of_ble_eq_true rfl) (Nat.le_of_ble_eq_true rfl) dL_law_4 ?_
  refine y_astore h (q := 1) [(0, .ref b), (1, .ref B)] dL_law_7 (by decide) rfl ?_
  refine y_new (z := B + 168) h (ci := 6) (fs := [.int 0, .int 0, .int 0, .int 0, .int 0, .int 0, .null, .null, .null, .int 0, .int 0, .null, .null, .null, .null, .int 0, .null, .null]) uin_X6 tyX6 tyX6_ok cl_L_10 ins_X6 ini_X6 rfl (fun j hj => by rcases (show j = 0 ∨ j = 1 ∨ j = 2 ∨ j = 3 ∨ j = 4 ∨ j = 5 ∨ j = 6 ∨ j = 7 ∨ j = 8 ∨ j = 9 ∨ j = 10 ∨ j = 11 ∨ j = 12 ∨ j = 13 ∨ j = 14 ∨ j = 15 ∨ j = 16 ∨ j = 17 by omega) with rfl | rfl | rfl | rfl | rfl | rfl | rfl | rfl | rfl | rfl | rfl | rfl | rfl | rfl | rfl | rfl | rfl | rfl <;> rfl) (by rw [hR]; exact Nat.le_of_ble_eq_true rfl) (by rw [hR]; exact Nat.le_of_ble_eq_true rfl) dL_law_8 ?_
  refine y_dup h dL_law_11 rfl ?_
  refine y_ctorI (z := B + 169) h hNW (c_X6_init (kl K) (EB D cI cZ cO B) (B + 168) (B + 169)) (up_s _ _ _) (by show B ≤ B + 168; omega) ml_L_12 ini_X6 co_X6_init im_X6_init rfl (by decide +kernel) (by rw [hR]; exact Nat.le_of_ble_eq_true rfl) (by rw [hR]; exact Nat.le_of_ble_eq_true rfl) (by rw [hR]; exact Nat.le_of_ble_eq_true rfl) (by rw [hR]; exact Nat.le_of_ble_eq_true rfl) (Nat.le_of_ble_eq_true rfl) dL_law_12 ?_
  refine y_astore h (q := 2) [(0, .ref b), (1, .ref B), (2, .ref (B + 168))] dL_law_15 (by decide) rfl ?_
  refine y_iconst h (v := nI 0) dL_law_16 (by decide) ?_
  refine y_istore h (q := 3) [(0, .ref b), (1, .ref B), (2, .ref (B + 168)), (3, .int (nI 0))] dL_law_17 (by decide) rfl ?_
  intro H locs ls hw hz hS hl
  refine va_forget (fun q hq => by rw [hB]; exact hS.2.2 q hq) ?_
  refine W.widen (k := kce K) (n := ksl K) (by omega) (by omega) ?_
  refine kk H [] ls (wh_s0 (fun q e h1 h2 => hw q e ?_) (fun q e h2 => hw q e ?_)) ⟨hS.1, fun q h1 h2 => hS.2.1 q h1 (fun h9 => by have h9 : B ≤ q := h9; omega), fun _ h => absurd h List.not_mem_nil⟩ hl
  · exact (if_neg (by omega)).trans ((up_n (by omega)).trans ((if_pos (lfW_ge h2)).trans h2))
  · exact (if_pos (modIW_ge h2)).trans h2
