section RC
variable {K : KX} {E : EnvT} {cc : ByteArray} {nL : Nat} {own : String} {f n : Nat} {σ : ST} {pc : Nat} {lv : List (Nat × Value)} {rest : List Value} {post : Option Value → ST → Prop}
theorem g_iret (h : Cx K E cc nL own f n) {v : Int32} (hR : Rx K E (some .int) post) (hd : decode cc pc = .ok (.ireturn, 1)) (hp : post (some (.int v)) σ) : GG K E σ pc lv [.int v] := by
  intro H locs ls hW hS hl
  unfold KW
  rw [hR.2.2]
  exact W.iret h.1 h.2.1 hR.1 (fun t ht hWm => ⟨⟨_, σ, rfl, hp, va_K.moved hWm.alike h.2.2.2.2.2.1, by rw [ht]; exact hW⟩, hS.F ht⟩) hS.2.2 hd hR.2.1
theorem g_zret (h : Cx K E cc nL own f n) {v : Int32} (hR : Rx K E (some .boolean) post) (hd : decode cc pc = .ok (.ireturn, 1)) (hn : narrow .boolean (.int v) = .int v) (hp : post (some (.int v)) σ) : GG K E σ pc lv [.int v] := by
  intro H locs ls hW hS hl
  unfold KW
  rw [hR.2.2]
  exact W.zret h.1 h.2.1 hR.1 hn (fun t ht hWm => ⟨⟨_, σ, rfl, hp, va_K.moved hWm.alike h.2.2.2.2.2.1, by rw [ht]; exact hW⟩, hS.F ht⟩) hS.2.2 hd hR.2.1
theorem g_vret (h : Cx K E cc nL own f n) (hR : Rx K E none post) (hd : decode cc pc = .ok (.return_, 1)) (hp : post none σ) : GG K E σ pc lv [] := by
  intro H locs ls hW hS hl
  unfold KW
  rw [hR.2.2]
  exact W.vret h.1 h.2.1 hR.1 (fun t ht hWm => ⟨⟨_, σ, rfl, hp, va_K.moved hWm.alike h.2.2.2.2.2.1, by rw [ht]; exact hW⟩, hS.F ht⟩) hS.2.2 hd hR.2.1
theorem g_lret (h : Cx K E cc nL own f n) {v : Int64} (hR : Rx K E (some .long) post) (hd : decode cc pc = .ok (.lreturn, 1)) (hp : post (some (.long v)) σ) : GG K E σ pc lv [.long v] := by
  intro H locs ls hW hS hl
  unfold KW
  rw [hR.2.2]
  exact W.lret h.1 h.2.1 hR.1 (fun t ht hWm => ⟨⟨_, σ, rfl, hp, va_K.moved hWm.alike h.2.2.2.2.2.1, by rw [ht]; exact hW⟩, hS.F ht⟩) hS.2.2 hd hR.2.1
theorem g_aret (h : Cx K E cc nL own f n) {a : Nat} {C : String} (hR : Rx K E (some (.object C)) post) (hd : decode cc pc = .ok (.areturn, 1)) (hp : post (some (.ref a)) σ) : GG K E σ pc lv [.ref a] := by
  intro H locs ls hW hS hl
  unfold KW
  rw [hR.2.2]
  exact W.aret h.1 h.2.1 hR.1 (Or.inl ⟨_, rfl⟩) (Or.inr ⟨_, rfl⟩) (fun t ht hWm => ⟨⟨_, σ, rfl, hp, va_K.moved hWm.alike h.2.2.2.2.2.1, by rw [ht]; exact hW⟩, hS.F ht⟩) hS.2.2 hd hR.2.1
theorem good_gtb {ws : List Cond} (hw : ∀ w ∈ ws, w ∈ gtb) : GoodIn gtb ws := fun w h => ⟨hw w h, good_of_word (List.mem_filter.mp (hw w h)).2⟩
/-- what the tables say of a method that is called on an object of its own kind -/
def MV (y : MethodName) (C : String) (cc : ByteArray) (nL : Nat) (ret : Option FieldType) (np : Nat) : Prop :=
  Cond.instanceMethod y ∈ gtb ∧ Cond.selects C y y ∈ gtb ∧ Cond.initialized C ∈ gtb ∧ Cond.code y cc nL ret ∈ gtb ∧ (y.cls = C ∧ y.cls ≠ "java/lang/invoke/MethodHandle" ∧ y.cls ≠ "java/lang/invoke/VarHandle" ∧ (parseMethodDescriptor y.desc).map (fun d => d.parameters.length) = some np)
def MS (y : MethodName) (cc : ByteArray) (nL : Nat) (ret : Option FieldType) (np : Nat) : Prop :=
  Cond.static y ∈ gtb ∧ Cond.initialized y.cls ∈ gtb ∧ Cond.code y cc nL ret ∈ gtb ∧ (y.cls ≠ "java/lang/invoke/MethodHandle" ∧ y.cls ≠ "java/lang/invoke/VarHandle" ∧ (parseMethodDescriptor y.desc).map (fun d => d.parameters.length) = some np)
theorem wd_blind {av : List Value} {σ : ST} : FrameBlind (va_Pc av (fun U => Wd E σ U)) := fun a U g mk q => ⟨q.1, va_K.moved (u := U) (U := U.calling g mk a) (Vm.Alike.refl U.vm) q.2.1, q.2.2⟩
/-- behind a call -/
theorem g_after {st : List Value} {a : Array Value} (h : Cx K E cc nL own f n) {H : Heap} {locs : List Loc} {ls : Array Slot} (hr : va_Run (kp K) (kl K) (ke K) (kR K) (ks K) (km K) (ka K) (kbl K) (kme K) (kc K) H locs (kce K) (ksl K) 0 0 (F0 (km K) pc ls st) rest (QO E post a) (AE E)) (hS : va_S (AE E) (ks K).heap H locs) (hl : lv_has ls (kc K).maxLocals lv)
    (kk : ∀ (v : Option Value) (σ' : ST), post v σ' → GG K E σ' (pc + 3) lv (v.toList ++ rest)) : KW K H locs (F0 (km K) pc ls st) := by
  intro T hT X
  obtain ⟨v, st₀, t, T', L, h0, X', hL, e1, e2, ⟨⟨v', σ', hv, hp, hK', hW'⟩, hz, hk⟩, stp⟩ := hr T hT X
  cases hv
  rw [h0] at hz hk
  obtain ⟨t2, a1, b1⟩ := kk v σ' hp T'.heap (locs ++ L) ls (by rw [e1]; exact hW')
    ⟨Nat.le_trans hS.1 (by rw [e1]; exact hz), fun q h1 h2 => by rw [e1, hk q (Nat.lt_of_lt_of_le h1 hS.1) h2]; exact hS.2.1 q h1 h2, fun q hq => by
      rcases List.mem_append.mp hq with h | h
      · exact hS.2.2 q h
      · exact hL q h⟩ hl T' rfl X'
  exact ⟨t2, stp t2 a1, b1⟩
theorem g_callV (h : Cx K E cc nL own f n) {y : MethodName} {C : String} {c' : ByteArray} {nL' : Nat} {ret' : Option FieldType} {np f' n' : Nat} {As : List Value} {idx : Nat} (hMV : MV y C c' nL' ret' np) (k i j : Nat) (hok : okK k i j) {ci : Nat} {fs : List Value} (he : enc E σ k i j = .inr (ci, fs)) {T : u_T} {N : Nat} (hc : vwCl[ci]? = some (C, T, N))
    (hM : Con (kl K) E y c' nL' ret' f' n' (.ref (ad E k i j) :: As) σ post) (hlink : Cond.methodLink own idx y ∈ gtb) (hlen : As.length = np) (hf : f' + 1 ≤ f) (hn : 8 + (nL' + 11) + n' ≤ n) {st : List Value} (hst : st = As.reverse ++ .ref (ad E k i j) :: rest) (hr : (rest.map fun v => v.category).sum ≤ 8) (hd : decode cc pc = .ok (.invokevirtual idx, 3))
    (kk : ∀ (v : Option Value) (σ' : ST), post v σ' → GG K E σ' (pc + 3) lv (v.toList ++ rest)) : GG K E σ pc lv st := by
  intro H locs ls hW hS hl
  obtain ⟨m1, m2, m3, m4, m5⟩ := hMV
  have hG : GoodIn gtb (wsV own idx C y (Cond.code y c' nL' ret' :: gtb)) := good_gtb (fun w hw => by
    simp only [wsV, List.cons_append, List.nil_append, List.mem_cons] at hw
    rcases hw with rfl | rfl | rfl | rfl | rfl | hw
    · exact hlink
    · exact m1
    · exact m2
    · exact m3
    · exact m4
    · exact hw)
  exact g_after h (va_runV (As := As) (rest := rest) (nL := nL) (Ts := gtb) (own := own) ⟨h.1, h.2.1, h.2.2.1, h.2.2.2.1, h.2.2.2.2.1⟩ hM (cwV np h.2.2.2.2.1 hG rfl rfl rfl m5 ⟨Nat.le_trans hf h.2.2.2.2.2.2.2.1, Nat.le_trans hn h.2.2.2.2.2.2.2.2.1⟩)
    ⟨wd_blind, va_recv h.2.2.2.2.2.1 (hW.one hok he) hc (q0 := 0) rfl, fun U hU hWm => ⟨rfl, va_K.moved hWm.alike h.2.2.2.2.2.1, by rw [hU]; exact hW⟩⟩ rfl hlen (by rw [← h.2.2.1]; exact hl.1) hst (lv_room hr) hd ⟨h.2.2.2.2.2.2.2.2.2.1, h.2.2.2.2.2.2.2.2.2.2⟩) hS hl kk
theorem g_callS (h : Cx K E cc nL own f n) {y : MethodName} {c' : ByteArray} {nL' : Nat} {ret' : Option FieldType} {np f' n' : Nat} {As : List Value} {idx : Nat} (hMS : MS y c' nL' ret' np)
    (hM : Con (kl K) E y c' nL' ret' f' n' As σ post) (hlink : Cond.methodLink own idx y ∈ gtb) (hlen : As.length = np) (hf : f' + 1 ≤ f) (hn : 8 + (nL' + 11) + n' ≤ n) {st : List Value} (hst : st = As.reverse ++ rest) (hr : (rest.map fun v => v.category).sum ≤ 8) (hd : decode cc pc = .ok (.invokestatic idx, 3))
    (kk : ∀ (v : Option Value) (σ' : ST), post v σ' → GG K E σ' (pc + 3) lv (v.toList ++ rest)) : GG K E σ pc lv st := by
  intro H locs ls hW hS hl
  obtain ⟨m1, m2, m3, m4⟩ := hMS
  have hG : GoodIn gtb (va_wsS own idx y (Cond.code y c' nL' ret' :: gtb)) := good_gtb (fun w hw => by
    simp only [va_wsS, List.cons_append, List.nil_append, List.mem_cons] at hw
    rcases hw with rfl | rfl | rfl | rfl | hw
    · exact hlink
    · exact m1
    · exact m2
    · exact m3
    · exact hw)
  exact g_after h (va_runS (As := As) (rest := rest) (nL := nL) (Ts := gtb) (own := own) ⟨h.1, h.2.1, h.2.2.1, h.2.2.2.1, h.2.2.2.2.1⟩ hM (va_cwS np h.2.2.2.2.1 hG rfl rfl rfl m4 ⟨Nat.le_trans hf h.2.2.2.2.2.2.2.1, Nat.le_trans hn h.2.2.2.2.2.2.2.2.1⟩)
    ⟨wd_blind, fun U hU hWm => ⟨rfl, va_K.moved hWm.alike h.2.2.2.2.2.1, by rw [hU]; exact hW⟩⟩ rfl hlen (by rw [← h.2.2.1]; exact hl.1) hst (lv_room hr) hd ⟨h.2.2.2.2.2.2.2.2.2.1, h.2.2.2.2.2.2.2.2.2.2⟩) hS hl kk
theorem g_mmax (h : Cx K E cc nL own f n) {index : Nat} (hlk : Cond.methodLink own index Lib.Math.max.name ∈ gtb) (hf : 1 ≤ f) (hn : 21 ≤ n) (hr : (rest.map fun v => v.category).sum ≤ 8) {x y : Int32} (hd : decode cc pc = .ok (.invokestatic index, 3)) (k : GG K E σ (pc + 3) lv (.int (if x < y then y else x) :: rest)) : GG K E σ pc lv (.int y :: .int x :: rest) := fun H locs ls hW hS hl =>
  va_mmax h.1 h.2.1 hl.1.symm h.2.2.2.1 (h.2.2.2.2.1 _ hlk) (h.2.2.2.2.1 _ sm_J9_max_7cf53) (h.2.2.2.2.1 _ ini_J9) (h.2.2.2.2.1 _ co_J9_max_7cf53) (Nat.le_trans hf h.2.2.2.2.2.2.2.1) (Nat.le_trans (by omega) h.2.2.2.2.2.2.2.2.1) h.2.2.2.2.2.2.2.2.2.1 h.2.2.2.2.2.2.2.2.2.2 hd (k H locs ls hW hS hl)
theorem g_mmin (h : Cx K E cc nL own f n) {index : Nat} (hlk : Cond.methodLink own index Lib.Math.min.name ∈ gtb) (hf : 1 ≤ f) (hn : 21 ≤ n) (hr : (rest.map fun v => v.category).sum ≤ 8) {x y : Int32} (hd : decode cc pc = .ok (.invokestatic index, 3)) (k : GG K E σ (pc + 3) lv (.int (if y < x then y else x) :: rest)) : GG K E σ pc lv (.int y :: .int x :: rest) := fun H locs ls hW hS hl =>
  va_mmin h.1 h.2.1 hl.1.symm h.2.2.2.1 (h.2.2.2.2.1 _ hlk) (h.2.2.2.2.1 _ sm_J9_min_7cf53) (h.2.2.2.2.1 _ ini_J9) (h.2.2.2.2.1 _ co_J9_min_7cf53) (Nat.le_trans hf h.2.2.2.2.2.2.2.1) (Nat.le_trans (by omega) h.2.2.2.2.2.2.2.2.1) h.2.2.2.2.2.2.2.2.2.1 h.2.2.2.2.2.2.2.2.2.2 hd (k H locs ls hW hS hl)
end RC
