/-! ===== the law's start: as in a constructor's walk ===== -/
def Hy (K : KX) (E : EnvT) (A : Nat → Prop) (cc : ByteArray) (nL : Nat) (own : String) : Prop :=
  (kp K).tables.exec = Jvm.exec ∧ (kc K).code = cc ∧ (kc K).maxLocals = nL ∧ (ks K).vm.findClass own = some (km K).cls ∧ (∀ w ∈ gtb, w.before (ka K) (ks K) = true) ∧ va_K (eD E) vwCl (tysE E) (ks K) ∧ (∀ q, (ks K).heap.size ≤ q → A q)
section LW0
variable {K : KX} {E : EnvT} {A : Nat → Prop} {cc : ByteArray} {nL : Nat} {own : String} {z cs sl pc : Nat} {w : Nat → Option va_E} {lv : List (Nat × Value)} {rest : List Value}
theorem y_dup (h : Hy K E A cc nL own) {va : Value} (hd : decode cc pc = .ok (.dup, 1)) (hva : va.category = 1) (k : HH K E A z cs sl w (pc + 1) lv (va :: va :: rest)) : HH K E A z cs sl w pc lv (va :: rest) := fun H locs ls hw hz hS hl => lv_dup h.1 h.2.1 hd hva (k H locs ls hw hz hS hl)
theorem y_iconst (h : Hy K E A cc nL own) {y : Int} {v : Int32} (hd : decode cc pc = .ok (.iconst y, 1)) (hv : Int32.ofInt y = v) (k : HH K E A z cs sl w (pc + 1) lv (.int v :: rest)) : HH K E A z cs sl w pc lv rest := fun H locs ls hw hz hS hl => lv_iconst h.1 h.2.1 hd hv (k H locs ls hw hz hS hl)
theorem y_istore (h : Hy K E A cc nL own) {q : Fin 4} {x : Int32} (lv' : List (Nat × Value)) (hd : decode cc pc = .ok (.istore_n q, 1)) (hn : (q : Nat) < nL) (hv : lset1 lv (q : Nat) (.int x) = lv') (k : HH K E A z cs sl w (pc + 1) lv' rest) : HH K E A z cs sl w pc lv (.int x :: rest) := by
  subst hv
  exact fun H locs ls hw hz hS hl => lv_istore_n h.1 h.2.1 hd rfl hl (by rw [h.2.2.1]; exact hn) rfl (fun ls2 hl2 => k H locs ls2 hw hz hS (lset1_has hl2))
theorem y_astore (h : Hy K E A cc nL own) {q : Fin 4} {x : Nat} (lv' : List (Nat × Value)) (hd : decode cc pc = .ok (.astore_n q, 1)) (hn : (q : Nat) < nL) (hv : lset1 lv (q : Nat) (.ref x) = lv') (k : HH K E A z cs sl w (pc + 1) lv' rest) : HH K E A z cs sl w pc lv (.ref x :: rest) := by
  subst hv
  exact fun H locs ls hw hz hS hl => lv_astore_n h.1 h.2.1 hd rfl hl (by rw [h.2.2.1]; exact hn) rfl (fun ls2 hl2 => k H locs ls2 hw hz hS (lset1_has hl2))
theorem y_new (h : Hy K E A cc nL own) {C : String} {T : u_T} {N ci index : Nat} (hin : ∀ w ∈ u_ws C T N, w ∈ gtb) (ty : Nat → FieldType) (hty : ∀ k, k < N → parseFieldDescriptor (T k).2.2.1 = some (ty k)) (hcl : Cond.classLink own index C ∈ gtb) (hinst : Cond.instantiable C N ∈ gtb) (hini : Cond.initialized C ∈ gtb) (hc : vwCl[ci]? = some (C, T, N))
    {fs : List Value} (hfs : ∀ j, j < N → defaultValue (ty j) = vp_V fs j) (hcs : cs + 1 ≤ (kR K).cells) (hsl : sl + N ≤ (kR K).slots) (hd : decode cc pc = .ok (.new index, 3)) (kk : HH K E A (z + 1) (cs + 1) (sl + N) (va_up w z (some (.inr (ci, fs)))) (pc + 3) lv (.ref z :: rest)) : HH K E A z cs sl w pc lv rest := by
  intro H locs ls hw hz hS hl
  have hKn := h.2.2.2.2.2.1.1 ci _ hc
  refine W.newcK h.1 h.2.1 h.2.2.2.1 (h.2.2.2.2.1 _ hcl) (h.2.2.2.2.1 _ hinst) (h.2.2.2.2.1 _ hini) rfl hd hcs hsl hKn.2.1 rfl fun H1 kC hkC e1 z1 o1 => ?_
  have hb := u_born ty h.2.2.2.2.1 hin hKn hkC e1 hty
  rw [hz] at e1 z1 o1 hb
  subst hz
  refine kk H1 locs ls (fun q e hq => ?_) z1 ⟨Nat.le_trans hS.1 (by omega), fun x h1 h2 => (o1 x (Nat.lt_of_lt_of_le h1 hS.1)).trans (hS.2.1 x h1 h2), hS.2.2⟩ hl
  by_cases c : q = H.size
  · subst c
    rw [up_s] at hq
    cases hq
    exact ⟨_, hc, hb.to hfs⟩
  · rw [up_n c] at hq
    have hv := hw q e hq
    exact hv.kept (o1 q hv.lt)
theorem y_after (h : Hy K E A cc nL own) {b k ms : Nat} {w1 : Nat → Option va_E} {x : Array Value} {st : List Value} {H : Heap} {locs : List Loc} {ls : Array Slot} (hw : ∀ q e, w q = some e → va_at (eD E) vwCl (q, e) H) (hz : H.size = z) (hS : va_S A (ks K).heap H locs) (hl : lv_has ls (kc K).maxLocals lv) (hAb : A b)
    (hr : va_Run (kp K) (kl K) (ke K) (kR K) (ks K) (km K) (ka K) (kbl K) (kme K) (kc K) H locs cs sl k ms (F0 (km K) pc ls st) rest (CQ E b z k w1 x) (CA b z))
    (kk : HH K E A (z + k) (cs + k) (sl + ms) (fun q => if q = b ∨ z ≤ q then w1 q else w q) (pc + 3) lv rest) : W (kp K) (kl K) (ke K) (kR K) (ks K) (km K) (ka K) (kbl K) (kme K) (kc K) H locs cs sl (kQ K) (F0 (km K) pc ls st) := by
  intro T hT X
  obtain ⟨v, st₀, t, T', L, h0, X', hL, e1, e2, ⟨⟨hv, hz1, hw1⟩, hzF, hkF⟩, stp⟩ := hr T hT X
  cases hv
  rw [h0] at hzF hkF
  have hsz := hS.1
  obtain ⟨t2, a1, b1⟩ := kk T'.heap (locs ++ L) ls (fun q e hq => by
      by_cases c9 : q = b ∨ z ≤ q
      · have hq : w1 q = some e := by simpa [c9] using hq
        rw [e1]; exact hw1 q e hq
      · have hq : w q = some e := by simpa [c9] using hq
        have hv := hw q e hq
        exact hv.kept (by rw [e1]; exact hkF q hv.lt c9)) (by rw [e1]; exact hz1)
    ⟨by rw [e1, hz1]; omega, fun q h1 h2 => by
      rw [e1, hkF q (Nat.lt_of_lt_of_le h1 hS.1) (fun r => r.elim (fun e => h2 (by rw [e]; exact hAb)) (fun e => by omega))]; exact hS.2.1 q h1 h2, fun q hq => by
      rcases List.mem_append.mp hq with r | r
      · exact hS.2.2 q r
      · rcases hL q r with e | e
        · rw [e]; exact hAb
        · exact h.2.2.2.2.2.2 _ (by omega)⟩ hl T' rfl X'
  exact ⟨t2, stp t2 a1, b1⟩
theorem y_ctorI (h : Hy K E A cc nL own) (hNW : NW (ks K)) {y : MethodName} {c' : ByteArray} {nL' f' n' b k ms idx : Nat} {pre : va_E} {w1 : Nat → Option va_E} (hM : CCon (kl K) E y c' nL' f' n' b z k ms pre w1) (he : w b = some pre) (hAb : A b) (hlink : Cond.methodLink own idx y ∈ gtb)
    (hini : Cond.initialized y.cls ∈ gtb) (hcode : Cond.code y c' nL' none ∈ gtb) (him : Cond.instanceMethod y ∈ gtb) (hy : y.name = "<init>") (hd0 : y.cls ≠ "java/lang/invoke/MethodHandle" ∧ y.cls ≠ "java/lang/invoke/VarHandle" ∧ (parseMethodDescriptor y.desc).map (fun d => d.parameters.length) = some 0)
    (hf : f' + 1 ≤ (kR K).frames) (hn : 8 + (nL' + 11) + n' ≤ (kR K).locals) (hcs : cs + k ≤ (kR K).cells) (hsl : sl + ms ≤ (kR K).slots) (hr : (rest.map fun v => v.category).sum ≤ 8) (hd : decode cc pc = .ok (.invokespecial idx, 3))
    (kk : HH K E A (z + k) (cs + k) (sl + ms) (fun q => if q = b ∨ z ≤ q then w1 q else w q) (pc + 3) lv rest) : HH K E A z cs sl w pc lv (.ref b :: rest) := by
  intro H locs ls hw hz hS hl
  have hG : GoodIn gtb (Cond.code y c' nL' none :: gtb) := good_gtb (fun w hw => by
    rcases List.mem_cons.mp hw with rfl | hw
    · exact hcode
    · exact hw)
  exact y_after h hw hz hS hl hAb (va_runI (As := []) (rest := rest) (nL := nL) (Ts := gtb) (own := own) ⟨h.1, h.2.1, h.2.2.1, h.2.2.2.1, h.2.2.2.2.1⟩ hM (cwI 0 h.2.2.2.2.1 hG rfl rfl rfl (h.2.2.2.2.1 _ hini) (h.2.2.2.2.1 _ hlink) (h.2.2.2.2.1 _ him) hy hd0 ⟨hf, hn⟩)
    ⟨cp_blind, fun U hU hWm => ⟨rfl, by rw [hU]; exact hz, by rw [hU]; exact hw b _ he, va_K.moved hWm.alike h.2.2.2.2.2.1, NW.warm hWm hNW⟩⟩ rfl rfl (by show ls.size = nL; rw [← h.2.2.1]; exact hl.1) rfl (lv_room hr) hd ⟨hcs, hsl⟩) kk
end LW0
