set_option maxHeartbeats 4000000 in
/-- from the entry, for every script of at most 2048 ints, the law comes to its end with true -/
theorem whole_start {p : Program} {e : Env} {s : State} {m : MethodId} {below : List Frame} {meth : Method} {c : Code} (l : Launch) (hflags : l.flags = flags0) {b L : Nat} {xs : Nat → Int32} (hL : L ≤ 2048) (C0 : lw_At p s m meth c b L xs) : W p l e room_1 s m #[Value.ref b] below meth c s.heap [] 0 0 (lw_Z below #[Value.ref b] s) (entryFrame m ([Value.ref b] : List Value).toArray 4) := by
  obtain ⟨hx, hb, hr, hml, hown, hts, hX, hbl, hlocks, hgv⟩ := id C0
  have hg : ∀ w ∈ gtb, w.before #[Value.ref b] s = true := fun w h => hts w (gtb_tbl w h)
  obtain ⟨D, cI, cZ, cO, hK⟩ := K_in hts
  have hNW : NW s := NW_in hts
  have hE : EOK (EB D cI cZ cO s.heap.size) := EOK_B D cI cZ cO s.heap.size
  have hAE : ∀ q, AE (EB D cI cZ cO s.heap.size) q → s.heap.size ≤ q := fun q h => AE_B h
  obtain ⟨aw, hSW⟩ := SW_in (E := EB D cI cZ cO s.heap.size) hts hgv (fun a ha h => Nat.not_le.mpr ha (hAE a h))
  have hbA : ¬ AE (EB D cI cZ cO s.heap.size) b := fun h => Nat.not_le.mpr hbl (hAE b h)
  obtain ⟨K, hKK⟩ : ∃ K : KX, K = (p, l, e, room_1, s, m, #[Value.ref b], below, meth, c, 600000, 7302250, lw_Z below #[Value.ref b] s) := ⟨_, rfl⟩
  have hC : Cx K (EB D cI cZ cO s.heap.size) cL_law 4 RL 7 161 := by
    subst hKK
    exact ⟨hx, hb, hml, hown, hg, hK _, hE, Nat.le_of_ble_eq_true rfl, Nat.le_of_ble_eq_true rfl, Nat.le_of_ble_eq_true rfl, Nat.le_of_ble_eq_true rfl⟩
  have hend : ∀ σ lv, GG K (EB D cI cZ cO s.heap.size) σ 652 lv [] := by
    subst hKK
    intro σ lv H locs ls hW hS hl
    refine lv_iconst (v := 1) hx hb dL_law_652 (by decide) ?_
    refine va_forget (fun q hq => hAE _ (hS.2.2 q hq)) ?_
    exact lw_ret hx hb hr hlocks dL_law_653
  have hloop : GG K (EB D cI cZ cO s.heap.size) s0 18 [(0, .ref b), (1, .ref (ad (EB D cI cZ cO s.heap.size) 0 0 0)), (2, .ref (ad (EB D cI cZ cO s.heap.size) 11 0 0)), (3, .int (nI 0))] [] := by
    have hSW' : SW (EB D cI cZ cO s.heap.size) aw (ks K) := by subst hKK; exact hSW
    have hX' : va_X b L xs (ks K) (ks K).heap := by subst hKK; exact hX
    have hbl' : b < (ks K).heap.size := by subst hKK; exact hbl
    exact l_law hE hC hSW' hX' hbl' hbA hL hend 2048 0 s0 (by omega) (by omega) CP_0
  have hst : HH K (EB D cI cZ cO s.heap.size) (fun q => s.heap.size ≤ q) s.heap.size 0 0 (fun _ => none) 0 [(0, .ref b)] [] := by
    refine l_start (b := b) ?_ ?_ ?_ ?_ ?_ ?_ hloop
    · subst hKK
      exact ⟨hx, hb, hml, hown, hg, hK _, fun q h => h⟩
    · subst hKK; rfl
    · subst hKK; exact hNW
    · subst hKK; rfl
    · subst hKK; exact Nat.le_of_ble_eq_true rfl
    · subst hKK; exact Nat.le_of_ble_eq_true rfl
  have hl := lv_entry ([.ref b]) (n := 4) (Nat.le_of_ble_eq_true rfl)
  rw [lg_entry_eq]
  subst hKK
  exact hst s.heap [] _ (fun q e h => by cases h) rfl va_S.rf (by show lv_has _ c.maxLocals _; rw [hml]; exact hl)
