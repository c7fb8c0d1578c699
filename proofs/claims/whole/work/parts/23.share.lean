/-- the static array of the class, that nobody writes -/
def wyF (k : Nat) : Int32 := match k with
  | 0 => 1
  | 1 => 8
  | 2 => 28
  | 3 => 56
  | 4 => 70
  | 5 => 56
  | 6 => 28
  | 7 => 8
  | _ => 1
def SW (E : EnvT) (aw : Nat) (U : State) : Prop := va_Z "LetterFabric" "WAYS_TO_CHOOSE_LINES" "[I" (.ref aw) (AE E) U U.heap ∧ va_T .int aw 9 (fun j => .int (wyF j)) (AE E) U U.heap
def ConW (aw : Nat) (l : Launch) (E : EnvT) (y : MethodName) (cc : ByteArray) (nL : Nat) (ret : Option FieldType) (f n : Nat) (av : List Value) (σ : ST) (post : Option Value → ST → Prop) : Prop :=
  Met l y (Cond.code y cc nL ret :: gtb) { frames := f, cells := 0, slots := 0, locals := n } (va_Pc av (fun U => Wd E σ U ∧ SW E aw U)) (QO E post) 0 0 (AE E)
theorem conW_intro {aw : Nat} {l : Launch} {E : EnvT} {y : MethodName} {cc : ByteArray} {nL : Nat} {ret : Option FieldType} {f n : Nat} {av : List Value} {σ : ST} {post : Option Value → ST → Prop} (hE : EOK E) (hy : plainName y.cls = true) (hn : (lg_sl av).length ≤ nL)
    (walk : ∀ K : KX, kl K = l → Cx K E cc nL y.cls f n → Rx K E ret post → SW E aw (ks K) → GG K E σ 0 (lv_args 0 av) []) : ConW aw l E y cc nL ret f n av σ post := by
  refine Met.ofW (cc := cc) (maxL := nL) (ret := ret) hy rfl ?_
  intro p e s m args below meth c s₁ B hml hv
  obtain ⟨rfl, ⟨hK, hW⟩, hSW⟩ := hv
  have hts := atoms_spec (ws := Cond.code y cc nL ret :: gtb) B.pre
  have hown : s.vm.findClass y.cls = some m.cls := findClass_of_methodNamed B.named
  have hl := lv_entry av (n := nL) hn
  rw [lg_entry_eq]
  exact walk (p, l, e, { frames := f, cells := 0, slots := 0, locals := n }, s, m, av.toArray, below, meth, c, 0, 0, MQ below (QO E post) av.toArray s 0 0 (AE E)) rfl
    ⟨B.exec, B.bytes, hml, hown, fun w h => hts w (List.mem_cons_of_mem _ h), hK, hE, Nat.le_refl _, Nat.le_refl _, Nat.le_refl _, Nat.le_refl _⟩ ⟨B.returns, B.notSynchronized, rfl⟩ hSW s.heap [] _ hW va_S.rf (by show lv_has _ c.maxLocals _; rw [hml]; exact hl)
section RW3
variable {K : KX} {E : EnvT} {cc : ByteArray} {nL : Nat} {own : String} {f n : Nat} {σ : ST} {pc : Nat} {lv : List (Nat × Value)} {rest : List Value} {aw : Nat} {post : Option Value → ST → Prop}
theorem SW.at {U : State} (h : SW E aw (ks K)) {H : Heap} {locs : List Loc} (hS : va_S (AE E) (ks K).heap H locs) (hU : U.heap = H) (hvm : (ks K).vm.Alike U.vm) : SW E aw U := by
  refine ⟨va_Z.moved hvm (?_ : va_Z _ _ _ _ _ (ks K) U.heap), va_T.moved hvm (?_ : va_T _ _ _ _ _ (ks K) U.heap)⟩
  · exact h.1.kept (fun a ha hA => by rw [hU]; exact hS.2.1 a ha hA)
  · exact h.2.kept (fun a ha hA => by rw [hU]; exact hS.2.1 a ha hA)
theorem sw_blind {av : List Value} {σ : ST} : FrameBlind (va_Pc av (fun U => Wd E σ U ∧ SW E aw U)) := fun a U g mk q => ⟨q.1, ⟨va_K.moved (u := U) (U := U.calling g mk a) (Vm.Alike.refl U.vm) q.2.1.1, q.2.1.2⟩, va_Z.moved (u := U) (U := U.calling g mk a) (Vm.Alike.refl U.vm) q.2.2.1, va_T.moved (u := U) (U := U.calling g mk a) (Vm.Alike.refl U.vm) q.2.2.2⟩
theorem g_getW (h : Cx K E cc nL RX5 f n) (hw : SW E aw (ks K)) {index : Nat} (hl : Cond.fieldLink RX5 index "LetterFabric" "WAYS_TO_CHOOSE_LINES" "[I" ∈ gtb) (hd : decode cc pc = .ok (.getstatic index, 3)) (k : GG K E σ (pc + 3) lv (.ref aw :: rest)) : GG K E σ pc lv rest := fun H locs ls hW hS hl2 =>
  va_gets h.1 h.2.1 hw.1 hS h.2.2.2.1 (h.2.2.2.2.1 _ hl) (fun _ z => z) hd (k H locs ls hW hS hl2)
theorem g_aldW (h : Cx K E cc nL own f n) (hw : SW E aw (ks K)) (t : Nat) (ht : t < 9) (hd : decode cc pc = .ok (.iaload, 1)) (kk : GG K E σ (pc + 1) lv (.int (wyF t) :: rest)) : GG K E σ pc lv (.int (nI t) :: .ref aw :: rest) := fun H locs ls hW hS hl2 => by
  refine va_ti h.1 h.2.1 hw.2 hS (vp_in_nI ht (by decide)) (v := .int (wyF t)) (by rw [nI_clamp (by omega)]) hd ?_
  exact kk H locs ls hW hS hl2
theorem g_callSW (h : Cx K E cc nL own f n) (hw : SW E aw (ks K)) {y : MethodName} {c' : ByteArray} {nL' : Nat} {ret' : Option FieldType} {np f' n' : Nat} {As : List Value} {idx : Nat} (hMS : MS y c' nL' ret' np)
    (hM : ConW aw (kl K) E y c' nL' ret' f' n' As σ post) (hlink : Cond.methodLink own idx y ∈ gtb) (hlen : As.length = np) (hf : f' + 1 ≤ f) (hn : 8 + (nL' + 11) + n' ≤ n) {st : List Value} (hst : st = As.reverse ++ rest) (hr : (rest.map fun v => v.category).sum ≤ 8) (hd : decode cc pc = .ok (.invokestatic idx, 3))
    (kk : ∀ (v : Option Value) (σ' : ST), post v σ' → GG K E σ' (pc + 3) lv (v.toList ++ rest)) : GG K E σ pc lv st := by
  intro H locs ls hW hS hl
  obtain ⟨m1, m2, m3, m4⟩ := hMS
  have hG : GoodIn gtb (va_wsS own idx y (Cond.code y c' nL' ret' :: gtb)) := good_gtb (fun w hw => by
    simp only [va_wsS, List.cons_append, List.nil_append, List.mem_cons] at hw
    rcases hw with rfl | rfl | rfl | rfl | hw
    · exact hlink
    · exact m1
    · exact m2
    · exact m3
    · exact hw)
  exact g_after h (va_runS (As := As) (rest := rest) (nL := nL) (Ts := gtb) (own := own) ⟨h.1, h.2.1, h.2.2.1, h.2.2.2.1, h.2.2.2.2.1⟩ hM (va_cwS np h.2.2.2.2.1 hG rfl rfl rfl m4 ⟨Nat.le_trans hf h.2.2.2.2.2.2.2.1, Nat.le_trans hn h.2.2.2.2.2.2.2.2.1⟩)
    ⟨sw_blind, fun U hU hWm => ⟨rfl, ⟨va_K.moved hWm.alike h.2.2.2.2.2.1, by rw [hU]; exact hW⟩, hw.at hS hU hWm.alike⟩⟩ rfl hlen (by rw [← h.2.2.1]; exact hl.1) hst (lv_room hr) hd ⟨h.2.2.2.2.2.2.2.2.2.1, h.2.2.2.2.2.2.2.2.2.2⟩) hS hl kk
theorem g_callVW (h : Cx K E cc nL own f n) (hw : SW E aw (ks K)) {y : MethodName} {C : String} {c' : ByteArray} {nL' : Nat} {ret' : Option FieldType} {np f' n' : Nat} {As : List Value} {idx : Nat} (hMV : MV y C c' nL' ret' np) (k i j : Nat) (hok : okK k i j) {ci : Nat} {fs : List Value} (he : enc E σ k i j = .inr (ci, fs)) {T : u_T} {N : Nat} (hc : vwCl[ci]? = some (C, T, N))
    (hM : ConW aw (kl K) E y c' nL' ret' f' n' (.ref (ad E k i j) :: As) σ post) (hlink : Cond.methodLink own idx y ∈ gtb) (hlen : As.length = np) (hf : f' + 1 ≤ f) (hn : 8 + (nL' + 11) + n' ≤ n) {st : List Value} (hst : st = As.reverse ++ .ref (ad E k i j) :: rest) (hr : (rest.map fun v => v.category).sum ≤ 8) (hd : decode cc pc = .ok (.invokevirtual idx, 3))
    (kk : ∀ (v : Option Value) (σ' : ST), post v σ' → GG K E σ' (pc + 3) lv (v.toList ++ rest)) : GG K E σ pc lv st := by
  intro H locs ls hW hS hl
  obtain ⟨m1, m2, m3, m4, m5⟩ := hMV
  have hG : GoodIn gtb (wsV own idx C y (Cond.code y c' nL' ret' :: gtb)) := good_gtb (fun w hw => by
    simp only [wsV, List.cons_append, List.nil_append, List.mem_cons] at hw
    rcases hw with rfl | rfl | rfl | rfl | rfl | hw
    · exact hlink
    · exact m1
    · exact m2
    · exact m3
    · exact m4
    · exact hw)
  exact g_after h (va_runV (As := As) (rest := rest) (nL := nL) (Ts := gtb) (own := own) ⟨h.1, h.2.1, h.2.2.1, h.2.2.2.1, h.2.2.2.2.1⟩ hM (cwV np h.2.2.2.2.1 hG rfl rfl rfl m5 ⟨Nat.le_trans hf h.2.2.2.2.2.2.2.1, Nat.le_trans hn h.2.2.2.2.2.2.2.2.1⟩)
    ⟨sw_blind, va_recv h.2.2.2.2.2.1 (hW.one hok he) hc (q0 := 0) rfl, fun U hU hWm => ⟨rfl, ⟨va_K.moved hWm.alike h.2.2.2.2.2.1, by rw [hU]; exact hW⟩, hw.at hS hU hWm.alike⟩⟩ rfl hlen (by rw [← h.2.2.1]; exact hl.1) hst (lv_room hr) hd ⟨h.2.2.2.2.2.2.2.2.2.1, h.2.2.2.2.2.2.2.2.2.2⟩) hS hl kk
end RW3
theorem cmp_0 {x y : Int64} : lg_cmp x y = 0 ↔ x = y := by
  unfold lg_cmp
  by_cases h1 : y < x
  · rw [if_pos h1]
    constructor
    · intro h; exact absurd h (by decide)
    · intro h; rw [h] at h1; exact absurd h1 Int64.lt_irrefl
  · rw [if_neg h1]
    by_cases h2 : x = y
    · rw [if_pos h2]; exact ⟨fun _ => h2, fun _ => rfl⟩
    · rw [if_neg h2]
      constructor
      · intro h; exact absurd h (by decide)
      · intro h; exact absurd h h2
def pwL (b : Int64) : Nat → Int64 → Int64
  | 0, a => a
  | m + 1, a => pwL b m (a * b)
def cdL : Nat → Int64 → Int64 → Int64
  | 0, d, _ => d
  | m + 1, d, r => if r = 0 then d else cdL m r (d - d / r * r)
def wyL (x l : Nat) : Nat → Nat → Int64 → Int64
  | 0, _, a => a
  | m + 1, k, a => wyL x l m (k + 1) (a + (nI (k - l)).toInt64 * ((wyF k).toInt64 * pwL (nI x).toInt64 k 1 * pwL (nI (80 - x)).toInt64 (8 - k) 1))
set_option maxHeartbeats 4000000 in
theorem l_X5_power {K : KX} {E : EnvT} (hE : EOK E) (h : Cx K E cX5_power 6 RX5 0 0) {σ : ST} {post : Option Value → ST → Prop} (hR : Rx K E (some .long) post) (b : Int64) (n : Nat) (hn : n < 100) : ∀ m k a, k + m = n → post (some (.long (pwL b m a))) σ → GG K E σ 5 [(0, .long b), (2, .int (nI n)), (3, .long a), (5, .int (nI k))] [] := by
  intro m
  induction m with
  | zero =>
    intro k a hm hp
    refine g_iload h (q := 5) 3 dX5_power_5 rfl ?_
    refine g_iload_n h (q := 2) 1 dX5_power_7 rfl ?_
    refine g_ncmp_ge h (a := k) (b := n) 21 dX5_power_8 (by decide) (by omega) (by omega) (fun c1 => ?_) (fun c1 => ?_)
    · refine g_lload_n h (q := 3) 2 dX5_power_21 rfl ?_
      exact g_lret h hR dX5_power_22 (hp)
    · exfalso; omega
  | succ m ih =>
    intro k a hm hp
    refine g_iload h (q := 5) 3 dX5_power_5 rfl ?_
    refine g_iload_n h (q := 2) 1 dX5_power_7 rfl ?_
    refine g_ncmp_ge h (a := k) (b := n) 21 dX5_power_8 (by decide) (by omega) (by omega) (fun c1 => ?_) (fun c1 => ?_)
    · exfalso; omega
    · refine g_lload_n h (q := 3) 2 dX5_power_11 rfl ?_
      refine g_lload_n h (q := 0) 0 dX5_power_12 rfl ?_
      refine g_lmul h dX5_power_13 ?_
      refine g_lstore_n h (q := 3) [(0, .long b), (2, .int (nI (n))), (3, .long (a * b)), (5, .int (nI (k)))] dX5_power_14 (by decide) rfl ?_
      refine g_iinc h (q := 5) (v := nI (k + 1)) 3 [(0, .long b), (2, .int (nI (n))), (3, .long (a * b)), (5, .int (nI (k + 1)))] dX5_power_15 rfl (nI_inc k 1) (by decide) rfl ?_
      refine g_goto h 5 dX5_power_18 (by decide) ?_
      exact ih (k + 1) _ (by omega) hp
set_option maxHeartbeats 4000000 in
theorem c_X5_power (l : Launch) {E : EnvT} (hE : EOK E) {σ : ST} (b : Int64) (n : Nat) (hn : n < 100) : Con l E yX5_power cX5_power 6 (some .long) 0 0 [.long b, .int (nI (n))] σ (rL (pwL b n 1) σ) := by
  refine con_intro hE (by decide) (Nat.le_of_ble_eq_true rfl) (fun K hkl h hR => ?_)
  subst hkl
  have h : Cx K E cX5_power 6 RX5 0 0 := h
  show GG K E σ 0 [(0, .long b), (2, .int (nI (n)))] []
  refine g_lconst h (v := 1) dX5_power_0 (by decide) ?_
  refine g_lstore_n h (q := 3) [(0, .long b), (2, .int (nI (n))), (3, .long 1)] dX5_power_1 (by decide) rfl ?_
  refine g_iconst h (v := 0) dX5_power_2 (by decide) ?_
  refine g_istore h (q := 5) [(0, .long b), (2, .int (nI (n))), (3, .long 1), (5, .int 0)] dX5_power_3 (by decide) rfl ?_
  exact l_X5_power hE h hR b n hn n 0 1 (Nat.zero_add _) ⟨rfl, rfl⟩
set_option maxHeartbeats 4000000 in
theorem l_X6_power {K : KX} {E : EnvT} (hE : EOK E) (h : Cx K E cX6_power 6 RX6 0 0) {σ : ST} {post : Option Value → ST → Prop} (hR : Rx K E (some .long) post) (b : Int64) (n : Nat) (hn : n < 100) : ∀ m k a, k + m = n → post (some (.long (pwL b m a))) σ → GG K E σ 5 [(0, .long b), (2, .int (nI n)), (3, .long a), (5, .int (nI k))] [] := by
  intro m
  induction m with
  | zero =>
    intro k a hm hp
    refine g_iload h (q := 5) 3 dX6_power_5 rfl ?_
    refine g_iload_n h (q := 2) 1 dX6_power_7 rfl ?_
    refine g_ncmp_ge h (a := k) (b := n) 21 dX6_power_8 (by decide) (by omega) (by omega) (fun c1 => ?_) (fun c1 => ?_)
    · refine g_lload_n h (q := 3) 2 dX6_power_21 rfl ?_
      exact g_lret h hR dX6_power_22 (hp)
    · exfalso; omega
  | succ m ih =>
    intro k a hm hp
    refine g_iload h (q := 5) 3 dX6_power_5 rfl ?_
    refine g_iload_n h (q := 2) 1 dX6_power_7 rfl ?_
    refine g_ncmp_ge h (a := k) (b := n) 21 dX6_power_8 (by decide) (by omega) (by omega) (fun c1 => ?_) (fun c1 => ?_)
    · exfalso; omega
    · refine g_lload_n h (q := 3) 2 dX6_power_11 rfl ?_
      refine g_lload_n h (q := 0) 0 dX6_power_12 rfl ?_
      refine g_lmul h dX6_power_13 ?_
      refine g_lstore_n h (q := 3) [(0, .long b), (2, .int (nI (n))), (3, .long (a * b)), (5, .int (nI (k)))] dX6_power_14 (by decide) rfl ?_
      refine g_iinc h (q := 5) (v := nI (k + 1)) 3 [(0, .long b), (2, .int (nI (n))), (3, .long (a * b)), (5, .int (nI (k + 1)))] dX6_power_15 rfl (nI_inc k 1) (by decide) rfl ?_
      refine g_goto h 5 dX6_power_18 (by decide) ?_
      exact ih (k + 1) _ (by omega) hp
set_option maxHeartbeats 4000000 in
theorem c_X6_power (l : Launch) {E : EnvT} (hE : EOK E) {σ : ST} (b : Int64) (n : Nat) (hn : n < 100) : Con l E yX6_power cX6_power 6 (some .long) 0 0 [.long b, .int (nI (n))] σ (rL (pwL b n 1) σ) := by
  refine con_intro hE (by decide) (Nat.le_of_ble_eq_true rfl) (fun K hkl h hR => ?_)
  subst hkl
  have h : Cx K E cX6_power 6 RX6 0 0 := h
  show GG K E σ 0 [(0, .long b), (2, .int (nI (n)))] []
  refine g_lconst h (v := 1) dX6_power_0 (by decide) ?_
  refine g_lstore_n h (q := 3) [(0, .long b), (2, .int (nI (n))), (3, .long 1)] dX6_power_1 (by decide) rfl ?_
  refine g_iconst h (v := 0) dX6_power_2 (by decide) ?_
  refine g_istore h (q := 5) [(0, .long b), (2, .int (nI (n))), (3, .long 1), (5, .int 0)] dX6_power_3 (by decide) rfl ?_
  exact l_X6_power hE h hR b n hn n 0 1 (Nat.zero_add _) ⟨rfl, rfl⟩
set_option maxHeartbeats 4000000 in
theorem l_X5_commonDivisor {K : KX} {E : EnvT} (hE : EOK E) (h : Cx K E cX5_commonDivisor 11 RX5 0 0) {σ : ST} {post : Option Value → ST → Prop} (hR : Rx K E (some .long) post) (a b : Int64) : ∀ m k d r, k + m = 200 → post (some (.long (cdL m d r))) σ → GG K E σ 9 [(0, .long a), (2, .long b), (4, .long d), (6, .long r), (8, .int (nI k))] [] := by
  intro m
  induction m with
  | zero =>
    intro k d r hm hp
    refine g_iload h (q := 8) 4 dX5_commonDivisor_9 rfl ?_
    refine g_sipush h (v := 200) dX5_commonDivisor_11 (by decide) ?_
    refine g_ncmp_ge h (a := k) (b := 200) 45 dX5_commonDivisor_14 (by decide) (by omega) (by omega) (fun c1 => ?_) (fun c1 => ?_)
    · refine g_lload h (q := 4) 2 dX5_commonDivisor_45 rfl ?_
      exact g_lret h hR dX5_commonDivisor_47 (hp)
    · exfalso; omega
  | succ m ih =>
    intro k d r hm hp
    refine g_iload h (q := 8) 4 dX5_commonDivisor_9 rfl ?_
    refine g_sipush h (v := 200) dX5_commonDivisor_11 (by decide) ?_
    refine g_ncmp_ge h (a := k) (b := 200) 45 dX5_commonDivisor_14 (by decide) (by omega) (by omega) (fun c1 => ?_) (fun c1 => ?_)
    · exfalso; omega
    · refine g_lload h (q := 6) 3 dX5_commonDivisor_17 rfl ?_
      refine g_lconst h (v := 0) dX5_commonDivisor_19 (by decide) ?_
      refine g_lcmp h dX5_commonDivisor_20 ?_
      refine g_if_eq h 45 dX5_commonDivisor_21 (by decide) (fun c2 => ?_) (fun c2 => ?_)
      · refine g_lload h (q := 4) 2 dX5_commonDivisor_45 rfl ?_
        exact g_lret h hR dX5_commonDivisor_47 (by rw [cdL, if_pos (cmp_0.mp c2)] at hp; exact hp)
      · refine g_lload h (q := 4) 2 dX5_commonDivisor_24 rfl ?_
        refine g_lload h (q := 6) 3 dX5_commonDivisor_26 rfl ?_
        refine g_lrem h dX5_commonDivisor_28 (fun e => c2 (cmp_0.mpr e)) ?_
        refine g_lstore h (q := 9) [(0, .long a), (2, .long b), (4, .long d), (6, .long r), (8, .int (nI (k))), (9, .long (d - d / r * r))] dX5_commonDivisor_29 (by decide) rfl ?_
        refine g_lload h (q := 6) 3 dX5_commonDivisor_31 rfl ?_
        refine g_lstore h (q := 4) [(0, .long a), (2, .long b), (4, .long r), (6, .long r), (8, .int (nI (k))), (9, .long (d - d / r * r))] dX5_commonDivisor_33 (by decide) rfl ?_
        refine g_lload h (q := 9) 5 dX5_commonDivisor_35 rfl ?_
        refine g_lstore h (q := 6) [(0, .long a), (2, .long b), (4, .long r), (6, .long (d - d / r * r)), (8, .int (nI (k))), (9, .long (d - d / r * r))] dX5_commonDivisor_37 (by decide) rfl ?_
        refine g_iinc h (q := 8) (v := nI (k + 1)) 4 [(0, .long a), (2, .long b), (4, .long r), (6, .long (d - d / r * r)), (8, .int (nI (k + 1))), (9, .long (d - d / r * r))] dX5_commonDivisor_39 rfl (nI_inc k 1) (by decide) rfl ?_
        refine g_goto h 9 dX5_commonDivisor_42 (by decide) ?_
        refine g_sub [(0, .long a), (2, .long b), (4, .long r), (6, .long (d - d / r * r)), (8, .int (nI (k + 1)))] [0, 1, 2, 3, 4] rfl ?_
        exact ih (k + 1) _ _ (by omega) (by rw [cdL, if_neg (fun e => c2 (cmp_0.mpr e))] at hp; exact hp)
set_option maxHeartbeats 4000000 in
theorem c_X5_commonDivisor (l : Launch) {E : EnvT} (hE : EOK E) {σ : ST} (a b : Int64) : Con l E yX5_commonDivisor cX5_commonDivisor 11 (some .long) 0 0 [.long a, .long b] σ (rL (cdL 200 a b) σ) := by
  refine con_intro hE (by decide) (Nat.le_of_ble_eq_true rfl) (fun K hkl h hR => ?_)
  subst hkl
  have h : Cx K E cX5_commonDivisor 11 RX5 0 0 := h
  show GG K E σ 0 [(0, .long a), (2, .long b)] []
  refine g_lload_n h (q := 0) 0 dX5_commonDivisor_0 rfl ?_
  refine g_lstore h (q := 4) [(0, .long a), (2, .long b), (4, .long a)] dX5_commonDivisor_1 (by decide) rfl ?_
  refine g_lload_n h (q := 2) 1 dX5_commonDivisor_3 rfl ?_
  refine g_lstore h (q := 6) [(0, .long a), (2, .long b), (4, .long a), (6, .long b)] dX5_commonDivisor_4 (by decide) rfl ?_
  refine g_iconst h (v := 0) dX5_commonDivisor_6 (by decide) ?_
  refine g_istore h (q := 8) [(0, .long a), (2, .long b), (4, .long a), (6, .long b), (8, .int 0)] dX5_commonDivisor_7 (by decide) rfl ?_
  exact l_X5_commonDivisor hE h hR a b 200 0 a b rfl ⟨rfl, rfl⟩
set_option maxHeartbeats 4000000 in
theorem l_X5_waysNotTaken {K : KX} {E : EnvT} (hE : EOK E) (h : Cx K E cX5_waysNotTaken 7 RX5 1 25) {σ : ST} {aw : Nat} (hw : SW E aw (ks K)) {post : Option Value → ST → Prop} (hR : Rx K E (some .long) post) (x l : Nat) (hx : x ≤ 10) (hl : l ≤ 8) : ∀ m k a, k + m = 9 → l ≤ k → post (some (.long (wyL x l m k a))) σ → GG K E σ 7 [(0, .int (nI x)), (1, .int (nI l)), (2, .long a), (4, .int (nI k))] [] := by
  intro m
  induction m with
  | zero =>
    intro k a hm hlk hp
    refine g_iload h (q := 4) 3 dX5_waysNotTaken_7 rfl ?_
    refine g_bipush h (v := 8) dX5_waysNotTaken_9 (by decide) ?_
    refine g_ncmp_gt h (a := k) (b := 8) 62 dX5_waysNotTaken_11 (by decide) (by omega) (by omega) (fun c1 => ?_) (fun c1 => ?_)
    · refine g_lload_n h (q := 2) 2 dX5_waysNotTaken_62 rfl ?_
      exact g_lret h hR dX5_waysNotTaken_63 (hp)
    · exfalso; omega
  | succ m ih =>
    intro k a hm hlk hp
    refine g_iload h (q := 4) 3 dX5_waysNotTaken_7 rfl ?_
    refine g_bipush h (v := 8) dX5_waysNotTaken_9 (by decide) ?_
    refine g_ncmp_gt h (a := k) (b := 8) 62 dX5_waysNotTaken_11 (by decide) (by omega) (by omega) (fun c1 => ?_) (fun c1 => ?_)
    · exfalso; omega
    · refine g_getW h hw fl_X5_200 dX5_waysNotTaken_14 ?_
      refine g_iload h (q := 4) 3 dX5_waysNotTaken_17 rfl ?_
      refine g_aldW h hw k (by omega) dX5_waysNotTaken_19 ?_
      refine g_i2l h dX5_waysNotTaken_20 ?_
      refine g_iload_n h (q := 0) 0 dX5_waysNotTaken_21 rfl ?_
      refine g_i2l h dX5_waysNotTaken_22 ?_
      refine g_iload h (q := 4) 3 dX5_waysNotTaken_23 rfl ?_
      refine g_callS h ms_X5_power (As := [.long ((nI (x)).toInt64), .int (nI (k))]) (c_X5_power (kl K) hE (σ := σ) (nI x).toInt64 k (by omega)) ml_X5_175 rfl (by decide) (by decide) rfl (Nat.le_of_ble_eq_true rfl) dX5_waysNotTaken_25 (fun v σ9 h9 => ?_)
      rw [h9.1, h9.2]; clear h9
      refine g_lmul h dX5_waysNotTaken_28 ?_
      refine g_bipush h (v := 80) dX5_waysNotTaken_29 (by decide) ?_
      refine g_iload_n h (q := 0) 0 dX5_waysNotTaken_31 rfl ?_
      refine g_isub h dX5_waysNotTaken_32 ?_
      refine g_is (nI (80 - x)) (pk_sub (a := 80) (b := x) (by omega)) ?_
      refine g_i2l h dX5_waysNotTaken_33 ?_
      refine g_bipush h (v := 8) dX5_waysNotTaken_34 (by decide) ?_
      refine g_iload h (q := 4) 3 dX5_waysNotTaken_36 rfl ?_
      refine g_isub h dX5_waysNotTaken_38 ?_
      refine g_is (nI (8 - k)) (pk_sub (a := 8) (b := k) (by omega)) ?_
      refine g_callS h ms_X5_power (As := [.long ((nI (80 - x)).toInt64), .int (nI (8 - k))]) (c_X5_power (kl K) hE (σ := σ) (nI (80 - x)).toInt64 (8 - k) (by omega)) ml_X5_175 rfl (by decide) (by decide) rfl (Nat.le_of_ble_eq_true rfl) dX5_waysNotTaken_39 (fun v σ9 h9 => ?_)
      rw [h9.1, h9.2]; clear h9
      refine g_lmul h dX5_waysNotTaken_42 ?_
      refine g_lstore h (q := 5) [(0, .int (nI (x))), (1, .int (nI (l))), (2, .long a), (4, .int (nI (k))), (5, .long ((((wyF k).toInt64) * (pwL (nI x).toInt64 k 1)) * (pwL (nI (80 - x)).toInt64 (8 - k) 1)))] dX5_waysNotTaken_43 (by decide) rfl ?_
      refine g_lload_n h (q := 2) 2 dX5_waysNotTaken_45 rfl ?_
      refine g_iload h (q := 4) 3 dX5_waysNotTaken_46 rfl ?_
      refine g_iload_n h (q := 1) 1 dX5_waysNotTaken_48 rfl ?_
      refine g_isub h dX5_waysNotTaken_49 ?_
      refine g_is (nI (k - l)) (pk_sub (a := k) (b := l) (by omega)) ?_
      refine g_i2l h dX5_waysNotTaken_50 ?_
      refine g_lload h (q := 5) 4 dX5_waysNotTaken_51 rfl ?_
      refine g_lmul h dX5_waysNotTaken_53 ?_
      refine g_ladd h dX5_waysNotTaken_54 ?_
      refine g_lstore_n h (q := 2) [(0, .int (nI (x))), (1, .int (nI (l))), (2, .long (a + (((nI (k - l)).toInt64) * ((((wyF k).toInt64) * (pwL (nI x).toInt64 k 1)) * (pwL (nI (80 - x)).toInt64 (8 - k) 1))))), (4, .int (nI (k))), (5, .long ((((wyF k).toInt64) * (pwL (nI x).toInt64 k 1)) * (pwL (nI (80 - x)).toInt64 (8 - k) 1)))] dX5_waysNotTaken_55 (by decide) rfl ?_
      refine g_iinc h (q := 4) (v := nI (k + 1)) 3 [(0, .int (nI (x))), (1, .int (nI (l))), (2, .long (a + (((nI (k - l)).toInt64) * ((((wyF k).toInt64) * (pwL (nI x).toInt64 k 1)) * (pwL (nI (80 - x)).toInt64 (8 - k) 1))))), (4, .int (nI (k + 1))), (5, .long ((((wyF k).toInt64) * (pwL (nI x).toInt64 k 1)) * (pwL (nI (80 - x)).toInt64 (8 - k) 1)))] dX5_waysNotTaken_56 rfl (nI_inc k 1) (by decide) rfl ?_
      refine g_goto h 7 dX5_waysNotTaken_59 (by decide) ?_
      refine g_sub [(0, .int (nI (x))), (1, .int (nI (l))), (2, .long (a + (((nI (k - l)).toInt64) * ((((wyF k).toInt64) * (pwL (nI x).toInt64 k 1)) * (pwL (nI (80 - x)).toInt64 (8 - k) 1))))), (4, .int (nI (k + 1)))] [0, 1, 2, 3] rfl ?_
      exact ih (k + 1) _ (by omega) (by omega) hp
set_option maxHeartbeats 4000000 in
theorem c_X5_waysNotTaken (aw : Nat) (la : Launch) {E : EnvT} (hE : EOK E) {σ : ST} (x l : Nat) (hx : x ≤ 10) (hl : l ≤ 8) : ConW aw la E yX5_waysNotTaken cX5_waysNotTaken 7 (some .long) 1 25 [.int (nI (x)), .int (nI (l))] σ (rL (wyL x l (8 - l) (l + 1) 0) σ) := by
  refine conW_intro hE (by decide) (Nat.le_of_ble_eq_true rfl) (fun K hkl h hR hw => ?_)
  subst hkl
  have h : Cx K E cX5_waysNotTaken 7 RX5 1 25 := h
  show GG K E σ 0 [(0, .int (nI (x))), (1, .int (nI (l)))] []
  refine g_lconst h (v := 0) dX5_waysNotTaken_0 (by decide) ?_
  refine g_lstore_n h (q := 2) [(0, .int (nI (x))), (1, .int (nI (l))), (2, .long 0)] dX5_waysNotTaken_1 (by decide) rfl ?_
  refine g_iload_n h (q := 1) 1 dX5_waysNotTaken_2 rfl ?_
  refine g_iconst h (v := 1) dX5_waysNotTaken_3 (by decide) ?_
  refine g_iadd h dX5_waysNotTaken_4 ?_
  refine g_is (nI (l + 1)) (nI_add l 1) ?_
  refine g_istore h (q := 4) [(0, .int (nI (x))), (1, .int (nI (l))), (2, .long 0), (4, .int (nI (l + 1)))] dX5_waysNotTaken_5 (by decide) rfl ?_
  exact l_X5_waysNotTaken hE h hw hR x l hx hl (8 - l) (l + 1) 0 (by omega) (by omega) ⟨rfl, rfl⟩
def shU (x l : Nat) : Int64 := wyL x l (8 - l) (l + 1) 0
def shD (x l : Nat) : Int64 := cdL 200 (shU x l) (pwL 80 8 1)
def xShare (a b c : Int32) : Int64 :=
  if wi a 0 10 = true ∧ wi b 0 8 = true ∧ wi c 0 1 = true then
    (if shD a.toNatClampNeg b.toNatClampNeg = 0 then -1 else if c = 0 then shU a.toNatClampNeg b.toNatClampNeg / shD a.toNatClampNeg b.toNatClampNeg else pwL 80 8 1 / shD a.toNatClampNeg b.toNatClampNeg)
  else -1
set_option maxHeartbeats 4000000 in
theorem c_X5_share (aw : Nat) (la : Launch) {E : EnvT} (hE : EOK E) {σ : ST} (a b c : Int32) : ConW aw la E yX5_share cX5_share 10 (some .long) 2 51 [.ref (ad E 0 0 0), .int a, .int b, .int c] σ (rL (xShare a b c) σ) := by
  refine conW_intro hE (by decide) (Nat.le_of_ble_eq_true rfl) (fun K hkl h hR hw => ?_)
  subst hkl
  have h : Cx K E cX5_share 10 RX5 2 51 := h
  show GG K E σ 0 [(0, .ref (ad E 0 0 0)), (1, .int a), (2, .int b), (3, .int c)] []
  refine g_iload_n h (q := 1) 1 dX5_share_0 rfl ?_
  refine g_iconst h (v := 0) dX5_share_1 (by decide) ?_
  refine g_bipush h (v := 10) dX5_share_2 (by decide) ?_
  refine g_callS h ms_X5_isWithin (As := [.int a, .int 0, .int 10]) (c_X5_isWithin (kl K) hE (σ := σ) a 0 10) ml_X5_52 rfl (by decide) (by decide) rfl (Nat.le_of_ble_eq_true rfl) dX5_share_4 (fun v σ9 h9 => ?_)
  rw [h9.1, h9.2]; clear h9
  refine g_if_eq h 29 dX5_share_7 (by decide) (fun c1 => ?_) (fun c1 => ?_)
  · refine g_ldc2 h cj_X5_167 dX5_share_29 ?_
    exact g_lret h hR dX5_share_32 (show rL _ _ _ _ from ⟨by rw [xShare, if_neg (by simp [bI_0.mp c1])], rfl⟩)
  · refine g_iload_n h (q := 2) 2 dX5_share_10 rfl ?_
    refine g_iconst h (v := 0) dX5_share_11 (by decide) ?_
    refine g_bipush h (v := 8) dX5_share_12 (by decide) ?_
    refine g_callS h ms_X5_isWithin (As := [.int b, .int 0, .int 8]) (c_X5_isWithin (kl K) hE (σ := σ) b 0 8) ml_X5_52 rfl (by decide) (by decide) rfl (Nat.le_of_ble_eq_true rfl) dX5_share_14 (fun v σ9 h9 => ?_)
    rw [h9.1, h9.2]; clear h9
    refine g_if_eq h 29 dX5_share_17 (by decide) (fun c2 => ?_) (fun c2 => ?_)
    · refine g_ldc2 h cj_X5_167 dX5_share_29 ?_
      exact g_lret h hR dX5_share_32 (show rL _ _ _ _ from ⟨by rw [xShare, if_neg (by simp [bI_1.mp c1, bI_0.mp c2])], rfl⟩)
    · refine g_iload_n h (q := 3) 3 dX5_share_20 rfl ?_
      refine g_iconst h (v := 0) dX5_share_21 (by decide) ?_
      refine g_iconst h (v := 1) dX5_share_22 (by decide) ?_
      refine g_callS h ms_X5_isWithin (As := [.int c, .int 0, .int 1]) (c_X5_isWithin (kl K) hE (σ := σ) c 0 1) ml_X5_52 rfl (by decide) (by decide) rfl (Nat.le_of_ble_eq_true rfl) dX5_share_23 (fun v σ9 h9 => ?_)
      rw [h9.1, h9.2]; clear h9
      refine g_if_ne h 33 dX5_share_26 (by decide) (fun c3 => ?_) (fun c3 => ?_)
      · have hwa := bI_1.mp c1
        obtain ⟨x0, hx0, hex0⟩ := wi_nat (n := 10) (by decide) hwa
        subst hex0
        have hcx0 : (nI x0).toNatClampNeg = x0 := nI_clamp (by omega)
        have hwb := bI_1.mp c2
        obtain ⟨l0, hl0, hel0⟩ := wi_nat (n := 8) (by decide) hwb
        subst hel0
        have hcl0 : (nI l0).toNatClampNeg = l0 := nI_clamp (by omega)
        refine g_iload_n h (q := 1) 1 dX5_share_33 rfl ?_
        refine g_iload_n h (q := 2) 2 dX5_share_34 rfl ?_
        refine g_callSW h hw ms_X5_waysNotTaken (As := [.int (nI x0), .int (nI l0)]) (c_X5_waysNotTaken aw (kl K) hE (σ := σ) x0 l0 hx0 hl0) ml_X5_169 rfl (by decide) (by decide) rfl (Nat.le_of_ble_eq_true rfl) dX5_share_35 (fun v σ9 h9 => ?_)
        rw [h9.1, h9.2]; clear h9
        refine g_lstore h (q := 4) [(0, .ref (ad E 0 0 0)), (1, .int (nI (x0))), (2, .int (nI (l0))), (3, .int c), (4, .long (shU x0 l0))] dX5_share_38 (by decide) rfl ?_
        refine g_ldc2 h cj_X5_173 dX5_share_40 ?_
        refine g_bipush h (v := 8) dX5_share_43 (by decide) ?_
        refine g_callS h ms_X5_power (As := [.long 80, .int 8]) (c_X5_power (kl K) hE (σ := σ) 80 8 (by decide)) ml_X5_175 rfl (by decide) (by decide) rfl (Nat.le_of_ble_eq_true rfl) dX5_share_45 (fun v σ9 h9 => ?_)
        rw [h9.1, h9.2]; clear h9
        refine g_lstore h (q := 6) [(0, .ref (ad E 0 0 0)), (1, .int (nI (x0))), (2, .int (nI (l0))), (3, .int c), (4, .long (shU x0 l0)), (6, .long (pwL 80 8 1))] dX5_share_48 (by decide) rfl ?_
        refine g_lload h (q := 4) 4 dX5_share_50 rfl ?_
        refine g_lload h (q := 6) 5 dX5_share_52 rfl ?_
        refine g_callS h ms_X5_commonDivisor (As := [.long (shU x0 l0), .long (pwL 80 8 1)]) (c_X5_commonDivisor (kl K) hE (σ := σ) (shU x0 l0) (pwL 80 8 1)) ml_X5_179 rfl (by decide) (by decide) rfl (Nat.le_of_ble_eq_true rfl) dX5_share_54 (fun v σ9 h9 => ?_)
        rw [h9.1, h9.2]; clear h9
        refine g_lstore h (q := 8) [(0, .ref (ad E 0 0 0)), (1, .int (nI (x0))), (2, .int (nI (l0))), (3, .int c), (4, .long (shU x0 l0)), (6, .long (pwL 80 8 1)), (8, .long (shD x0 l0))] dX5_share_57 (by decide) rfl ?_
        refine g_lload h (q := 8) 6 dX5_share_59 rfl ?_
        refine g_lconst h (v := 0) dX5_share_61 (by decide) ?_
        refine g_lcmp h dX5_share_62 ?_
        refine g_if_ne h 70 dX5_share_63 (by decide) (fun c4 => ?_) (fun c4 => ?_)
        · refine g_iload_n h (q := 3) 3 dX5_share_70 rfl ?_
          refine g_if_ne h 82 dX5_share_71 (by decide) (fun c5 => ?_) (fun c5 => ?_)
          · refine g_lload h (q := 6) 5 dX5_share_82 rfl ?_
            refine g_lload h (q := 8) 6 dX5_share_84 rfl ?_
            refine g_ldiv h dX5_share_86 (fun e => c4 (cmp_0.mpr e)) ?_
            exact g_lret h hR dX5_share_87 (show rL _ _ _ _ from ⟨by rw [xShare, if_pos ⟨hwa, hwb, bI_1.mp c3⟩, hcx0, hcl0, if_neg (fun e => c4 (cmp_0.mpr e)), if_neg c5], rfl⟩)
          · refine g_lload h (q := 4) 4 dX5_share_74 rfl ?_
            refine g_lload h (q := 8) 6 dX5_share_76 rfl ?_
            refine g_ldiv h dX5_share_78 (fun e => c4 (cmp_0.mpr e)) ?_
            refine g_goto h 87 dX5_share_79 (by decide) ?_
            exact g_lret h hR dX5_share_87 (show rL _ _ _ _ from ⟨by rw [xShare, if_pos ⟨hwa, hwb, bI_1.mp c3⟩, hcx0, hcl0, if_neg (fun e => c4 (cmp_0.mpr e)), if_pos c5], rfl⟩)
        · refine g_ldc2 h cj_X5_167 dX5_share_66 ?_
          exact g_lret h hR dX5_share_69 (show rL _ _ _ _ from ⟨by rw [xShare, if_pos ⟨hwa, hwb, bI_1.mp c3⟩, hcx0, hcl0, if_pos (cmp_0.mp c4)], rfl⟩)
      · refine g_ldc2 h cj_X5_167 dX5_share_29 ?_
        exact g_lret h hR dX5_share_32 (show rL _ _ _ _ from ⟨by rw [xShare, if_neg (by simp [bI_1.mp c1, bI_1.mp c2, bI_0.mp c3])], rfl⟩)
