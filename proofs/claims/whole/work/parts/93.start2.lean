theorem ext_lt {r n : Nat → Option va_E} {b q : Nat} (h : q < b) : ext r b n q = r q := if_neg (by omega)
theorem ext_ge {r n : Nat → Option va_E} {b q : Nat} (h : b ≤ q) : ext r b n q = n q := if_pos h
theorem one_a {b q : Nat} {x : va_E} (h : q = b) : one b x q = some x := if_pos h
/-- below the images' fabrics -/
theorem lf_R {E : EnvT} {B q : Nat} {e : va_E} (h1 : B + 1 ≤ q) (h2 : q < B + 146) (h3 : q ≠ B + 143) (h : lfR E (B + 1) q = some e) : lfW E B (B + 1) q = some e :=
  (if_neg (by omega)).trans ((if_neg (by omega)).trans ((if_neg (by omega)).trans ((if_pos (by omega)).trans h)))
theorem lf_fab {E : EnvT} {B i q : Nat} {e : va_E} (hi : i < 14) (hq : fabW E (fbA B i) (fbA B i + 1) q = some e) : q < B + 168 ∧ lfW E B (B + 1) q = some e := by
  have hr := fabW_rng hq
  rcases fbA_c B i hi with ⟨_, e1⟩ | ⟨_, e1⟩ | ⟨a1, a2, e1⟩ | ⟨a1, e1⟩
  · rw [e1] at hq hr
    refine ⟨by omega, lf_R (by omega) (by omega) (by omega) ?_⟩
    unfold lfR
    exact (ext_lt (by omega)).trans ((ext_lt (by omega)).trans ((ext_lt (by omega)).trans ((ext_lt (by omega)).trans ((ext_lt (by omega)).trans ((ext_lt (by omega)).trans ((ext_lt (by omega)).trans ((ext_ge (by omega)).trans hq)))))))
  · rw [e1] at hq hr
    refine ⟨by omega, lf_R (by omega) (by omega) (by omega) ?_⟩
    unfold lfR
    exact (ext_lt (by omega)).trans ((ext_lt (by omega)).trans ((ext_lt (by omega)).trans ((ext_lt (by omega)).trans ((ext_lt (by omega)).trans ((ext_lt (by omega)).trans ((ext_ge (by omega)).trans hq))))))
  · rw [e1] at hq hr
    refine ⟨by omega, lf_R (by omega) (by omega) (by omega) ?_⟩
    unfold lfR
    refine (ext_lt (by omega)).trans ((ext_lt (by omega)).trans ((ext_lt (by omega)).trans ((ext_lt (by omega)).trans ((ext_ge (by omega)).trans ?_))))
    have e9 : B + 1 + 28 + 1 + 11 * ((q - (B + 1 + 28 + 1)) / 11) = B + 30 + 11 * (i - 2) := by omega
    unfold pasW
    rw [if_neg (by omega), if_neg (by omega), if_pos (by omega), e9]
    exact hq
  · rw [e1] at hq hr
    refine ⟨by omega, ?_⟩
    have e9 : B + 1 + 145 + 11 * ((q - (B + 1 + 145)) / 11) = B + 146 + 11 * (i - 12) := by omega
    unfold lfW
    rw [if_neg (by omega), if_neg (by omega), if_pos (by omega), e9]
    exact hq
theorem lf_sor {E : EnvT} {B q : Nat} {e : va_E} (h1 : B + 23 ≤ q) (h2 : q < B + 28) (h : sorW E (B + 1 + 22) (B + 1 + 23) q = some e) : lfW E B (B + 1) q = some e := by
  refine lf_R (by omega) (by omega) (by omega) ?_
  unfold lfR
  exact (ext_lt (by omega)).trans ((ext_lt (by omega)).trans ((ext_lt (by omega)).trans ((ext_lt (by omega)).trans ((ext_lt (by omega)).trans ((ext_ge (by omega)).trans h)))))
theorem lf_pas {E : EnvT} {B q : Nat} {e : va_E} (h1 : B + 28 ≤ q) (h2 : q < B + 140) (h : pasW E (B + 1 + 27) (B + 1 + 28) q = some e) : lfW E B (B + 1) q = some e := by
  refine lf_R (by omega) (by omega) (by omega) ?_
  unfold lfR
  exact (ext_lt (by omega)).trans ((ext_lt (by omega)).trans ((ext_lt (by omega)).trans ((ext_lt (by omega)).trans ((ext_ge (by omega)).trans h))))
theorem lf_see {E : EnvT} {B q : Nat} {e : va_E} (h1 : B + 140 ≤ q) (h2 : q < B + 143) (h : seeIW E (B + 1 + 139) (B + 1 + 140) q = some e) : lfW E B (B + 1) q = some e := by
  refine lf_R (by omega) (by omega) (by omega) ?_
  unfold lfR
  exact (ext_lt (by omega)).trans ((ext_lt (by omega)).trans ((ext_lt (by omega)).trans ((ext_ge (by omega)).trans h)))
theorem lf_z {E : EnvT} {B : Nat} : lfW E B (B + 1) (B + 144) = some (.inl (eZ E, 2, .inl (fun _ => 0))) := by
  refine lf_R (by omega) (by omega) (by omega) ?_
  unfold lfR
  exact (ext_lt (by omega)).trans ((ext_ge (by omega)).trans (one_a (by omega)))
theorem lf_n {E : EnvT} {B : Nat} : lfW E B (B + 1) (B + 145) = some (arI E 8) := by
  refine lf_R (by omega) (by omega) (by omega) ?_
  unfold lfR
  exact (ext_ge (by omega)).trans (one_a (by omega))
theorem lf_i {E : EnvT} {B : Nat} : lfW E B (B + 1) (B + 143) = some (arO E 2 (rgF (B + 146) 2)) := (if_neg (by omega)).trans (if_pos (by omega))
theorem arO_to {E : EnvT} {n q : Nat} {f g : Nat → Option Nat} {H : Heap} (h : ∀ x, x < n → f x = g x) (hv : va_at (eD E) vwCl (q, arO E n f) H) : va_at (eD E) vwCl (q, arO E n g) H := by
  have hv : H[q]? = some (vp_cell (eO E) (n, .inr (.inr (.inr (.inr f))))) := hv
  show H[q]? = some (vp_cell (eO E) (n, .inr (.inr (.inr (.inr g)))))
  rw [hv, vp_cell_q, vp_cell_q]
  have e : (fun j : Fin n => va_rf (f j.val)) = fun j : Fin n => va_rf (g j.val) := funext fun j => by rw [h j.val j.isLt]
  unfold arrV
  rw [e]
def EB (D : va_G) (cI cZ cO : ClassId) (B : Nat) : EnvT := (D, cI, cZ, cO, adB B)
section WH0
variable {D : va_G} {cI cZ cO : ClassId} {B : Nat} {H : Heap}
theorem wh_fab (h1 : ∀ q e, q < B + 168 → lfW (EB D cI cZ cO B) B (B + 1) q = some e → va_at (eD (EB D cI cZ cO B)) vwCl (q, e) H) {i : Nat} (hi : i < 14) : ∀ q e, fabW (EB D cI cZ cO B) (fbA B i) (fbA B i + 1) q = some e → va_at (eD (EB D cI cZ cO B)) vwCl (q, e) H := fun q e hq =>
  h1 q e (lf_fab hi hq).1 (lf_fab hi hq).2
set_option maxHeartbeats 4000000 in
theorem wh_s0 (h1 : ∀ q e, q < B + 168 → lfW (EB D cI cZ cO B) B (B + 1) q = some e → va_at (eD (EB D cI cZ cO B)) vwCl (q, e) H) (h2 : ∀ q e, modIW (EB D cI cZ cO B) (B + 168) (B + 169) q = some e → va_at (eD (EB D cI cZ cO B)) vwCl (q, e) H) : Wh (EB D cI cZ cO B) s0 H := by
  intro k i j hok
  match k, hok with
  | 0, hok =>
    obtain ⟨rfl, rfl⟩ := hok
    exact h1 B (lfO (B + 1)) (by omega) (if_pos rfl)
  | 1, hok =>
    obtain ⟨hi, rfl⟩ := hok
    have hr : rwA B i = fbA B i + 9 := if_pos hi
    have hv := wh_fab h1 hi (fbA B i) (fabO (fbA B i + 1)) (if_pos rfl)
    show va_at _ _ (fbA B i, .inr (0, [.int 1, .int 8, .int 8, .int 0, .int 0, .ref (fbA B i + 1), .ref (fbA B i + 1 + 1), .ref (fbA B i + 1 + 2), .ref (fbA B i + 1 + 3), .ref (fbA B i + 1 + 4), .ref (fbA B i + 1 + 5), .ref (fbA B i + 1 + 6), .ref (fbA B i + 1 + 7), .ref (rwA B i)])) H
    rw [hr]
    exact hv
  | 2, hok =>
    obtain ⟨hi, hj⟩ := hok
    show va_at _ _ (fbA B i + 1 + j, .inl (cI, flen j, .inl (fun _ => 0))) H
    by_cases c : j = 7
    · subst c
      exact wh_fab h1 hi (fbA B i + 1 + 7) (arI _ 5) ((if_neg (by omega)).trans ((if_neg (by omega)).trans ((if_neg (by omega)).trans (if_pos rfl))))
    · have e : flen j = 64 := by
        rcases (show j = 0 ∨ j = 1 ∨ j = 2 ∨ j = 3 ∨ j = 4 ∨ j = 5 ∨ j = 6 by omega) with rfl | rfl | rfl | rfl | rfl | rfl | rfl <;> rfl
      rw [e]
      exact wh_fab h1 hi (fbA B i + 1 + j) (arI _ 64) ((if_neg (by omega)).trans ((if_neg (by omega)).trans ((if_neg (by omega)).trans ((if_neg (by omega)).trans (if_pos (by omega))))))
  | 3, hok =>
    obtain ⟨hi, rfl⟩ := hok
    show va_at _ _ (rwA B i, .inr (2, [.ref (rwA B i + 1), .int 0])) H
    by_cases c : i < 14
    · have hr : rwA B i = fbA B i + 9 := if_pos c
      rw [hr]
      exact wh_fab h1 c (fbA B i + 9) (.inr (2, [.ref (fbA B i + 1 + 9), .int 0])) ((if_neg (by omega)).trans (if_pos (by omega)))
    · rcases (show i = 14 ∨ i = 15 by omega) with rfl | rfl
      · exact h1 (B + 24) (.inr (2, [.ref (B + 1 + 23 + 1), .int 0])) (by omega) (lf_sor (by omega) (by omega) ((if_neg (by omega)).trans ((if_neg (by omega)).trans ((if_neg (by omega)).trans (if_pos (by omega))))))
      · exact h1 (B + 26) (.inr (2, [.ref (B + 1 + 23 + 3), .int 0])) (by omega) (lf_sor (by omega) (by omega) ((if_neg (by omega)).trans (if_pos (by omega))))
  | 4, hok =>
    obtain ⟨hi, rfl⟩ := hok
    show va_at _ _ (rwA B i + 1, .inl (cI, 64, .inl (fun _ => 0))) H
    by_cases c : i < 14
    · have hr : rwA B i = fbA B i + 9 := if_pos c
      rw [hr]
      exact wh_fab h1 c (fbA B i + 9 + 1) (arI _ 64) ((if_neg (by omega)).trans ((if_neg (by omega)).trans (if_pos (by omega))))
    · rcases (show i = 14 ∨ i = 15 by omega) with rfl | rfl
      · exact h1 (B + 25) (arI _ 64) (by omega) (lf_sor (by omega) (by omega) ((if_neg (by omega)).trans ((if_neg (by omega)).trans ((if_neg (by omega)).trans ((if_neg (by omega)).trans (if_pos (by omega)))))))
      · exact h1 (B + 27) (arI _ 64) (by omega) (lf_sor (by omega) (by omega) ((if_neg (by omega)).trans ((if_neg (by omega)).trans (if_pos (by omega)))))
  | 5, hok =>
    obtain ⟨rfl, rfl⟩ := hok
    exact h1 (B + 23) (sorO (B + 1 + 23)) (by omega) (lf_sor (by omega) (by omega) (if_pos (by omega)))
  | 6, hok =>
    obtain ⟨rfl, rfl⟩ := hok
    exact h1 (B + 28) (pasO (B + 1 + 28)) (by omega) (lf_pas (by omega) (by omega) (if_pos (by omega)))
  | 7, hok =>
    obtain ⟨rfl, rfl⟩ := hok
    have hv := h1 (B + 29) (arO _ 10 (rgF (B + 1 + 28 + 1) 10)) (by omega) (lf_pas (by omega) (by omega) ((if_neg (by omega)).trans (if_pos (by omega))))
    refine arO_to (f := rgF (B + 1 + 28 + 1) 10) (g := fun j => some (fbA B (2 + j))) (fun x hx => ?_) hv
    rcases fbA_c B (2 + x) (by omega) with ⟨a, _⟩ | ⟨a, _⟩ | ⟨a, b, e⟩ | ⟨a, _⟩
    · omega
    · omega
    · rw [e, rgF, if_pos hx]; congr 1; omega
    · omega
  | 8, hok =>
    obtain ⟨rfl, rfl⟩ := hok
    exact h1 (B + 140) (seeIO (B + 1 + 140)) (by omega) (lf_see (by omega) (by omega) (if_pos (by omega)))
  | 9, hok =>
    obtain ⟨rfl, hj⟩ := hok
    rcases (show j = 0 ∨ j = 1 ∨ j = 2 ∨ j = 3 by omega) with rfl | rfl | rfl | rfl
    · exact h1 (B + 141) (arI _ 6) (by omega) (lf_see (by omega) (by omega) ((if_neg (by omega)).trans ((if_neg (by omega)).trans (if_pos (by omega)))))
    · exact h1 (B + 142) (arI _ 6) (by omega) (lf_see (by omega) (by omega) ((if_neg (by omega)).trans (if_pos (by omega))))
    · exact h1 (B + 144) _ (by omega) lf_z
    · exact h1 (B + 145) _ (by omega) lf_n
  | 10, hok =>
    obtain ⟨rfl, rfl⟩ := hok
    have hv := h1 (B + 143) (arO _ 2 (rgF (B + 146) 2)) (by omega) lf_i
    refine arO_to (f := rgF (B + 146) 2) (g := fun j => some (fbA B (12 + j))) (fun x hx => ?_) hv
    rcases fbA_c B (12 + x) (by omega) with ⟨a, _⟩ | ⟨a, _⟩ | ⟨a, b, e⟩ | ⟨a, e⟩
    · omega
    · omega
    · omega
    · rw [e, rgF, if_pos hx]; congr 1; omega
  | 11, hok =>
    obtain ⟨rfl, rfl⟩ := hok
    exact h2 (B + 168) (modIO (B + 169)) (if_pos rfl)
  | 12, hok =>
    obtain ⟨rfl, hj⟩ := hok
    rcases (show j = 0 ∨ j = 1 ∨ j = 2 ∨ j = 3 ∨ j = 4 ∨ j = 5 ∨ j = 6 ∨ j = 7 by omega) with rfl | rfl | rfl | rfl | rfl | rfl | rfl | rfl
    · exact h2 (B + 169) (arI _ 512) ((if_neg (by omega)).trans ((if_neg (by omega)).trans ((if_neg (by omega)).trans ((if_neg (by omega)).trans ((if_neg (by omega)).trans ((if_neg (by omega)).trans ((if_neg (by omega)).trans ((if_neg (by omega)).trans ((if_neg (by omega)).trans (if_pos (by omega)))))))))))
    · exact h2 (B + 170) (arI _ 6760) ((if_neg (by omega)).trans ((if_neg (by omega)).trans ((if_neg (by omega)).trans ((if_neg (by omega)).trans ((if_neg (by omega)).trans ((if_neg (by omega)).trans ((if_neg (by omega)).trans ((if_neg (by omega)).trans (if_pos (by omega))))))))))
    · exact h2 (B + 171) (arI _ 2) ((if_neg (by omega)).trans ((if_neg (by omega)).trans ((if_neg (by omega)).trans ((if_neg (by omega)).trans ((if_neg (by omega)).trans ((if_neg (by omega)).trans ((if_neg (by omega)).trans (if_pos (by omega)))))))))
    · exact h2 (B + 173) (arI _ 64) ((if_neg (by omega)).trans ((if_neg (by omega)).trans ((if_neg (by omega)).trans ((if_neg (by omega)).trans ((if_neg (by omega)).trans (if_pos (by omega)))))))
    · exact h2 (B + 174) (arI _ 8) ((if_neg (by omega)).trans ((if_neg (by omega)).trans ((if_neg (by omega)).trans ((if_neg (by omega)).trans (if_pos (by omega))))))
    · exact h2 (B + 175) (arI _ 8) ((if_neg (by omega)).trans ((if_neg (by omega)).trans ((if_neg (by omega)).trans (if_pos (by omega)))))
    · exact h2 (B + 176) (arI _ 6) ((if_neg (by omega)).trans ((if_neg (by omega)).trans (if_pos (by omega))))
    · exact h2 (B + 177) (arI _ 6) ((if_neg (by omega)).trans (if_pos (by omega)))
  | 13, hok =>
    obtain ⟨rfl, rfl⟩ := hok
    exact h2 (B + 172) (arI _ 64) ((if_neg (by omega)).trans ((if_neg (by omega)).trans ((if_neg (by omega)).trans ((if_neg (by omega)).trans ((if_neg (by omega)).trans ((if_neg (by omega)).trans (if_pos (by omega))))))))
end WH0
