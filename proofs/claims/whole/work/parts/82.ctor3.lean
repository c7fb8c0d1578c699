theorem NW.warm {s U : State} (hW : s.WarmedH U.vm) (h : NW s) : NW U := by
  intro c hc
  have hq := h c hc
  simp only [NWl, List.mem_cons, List.not_mem_nil, or_false] at hc
  rcases hc with rfl | rfl | rfl | rfl | rfl | rfl | rfl
  · exact va_Nw.warmM hW hq
  · exact va_Nw.warmM hW hq
  · exact va_Nw.warmM hW hq
  · exact va_Nw.warmM hW hq
  · exact va_Nw.warmM hW hq
  · exact va_Nw.warmM hW hq
  · exact va_AO.moved (C := "LetterFabric$Fabric") hW.alike hq
theorem NW.same {s U : State} (hW : s.vm = U.vm) (h : NW s) : NW U := by
  intro c hc
  have hq := h c hc
  simp only [NWl, List.mem_cons, List.not_mem_nil, or_false] at hc
  rcases hc with rfl | rfl | rfl | rfl | rfl | rfl | rfl
  · exact va_Nw.same rfl hW hq
  · exact va_Nw.same rfl hW hq
  · exact va_Nw.same rfl hW hq
  · exact va_Nw.same rfl hW hq
  · exact va_Nw.same rfl hW hq
  · exact va_Nw.same rfl hW hq
  · exact va_AO.moved (C := "LetterFabric$Fabric") (by rw [hW]; exact Vm.Alike.refl U.vm) hq
theorem cp_blind {E : EnvT} {a z : Nat} {pre : va_E} : FrameBlind (va_Pc [.ref a] (CPre E a z pre)) := fun x U g mk q => ⟨q.1, q.2.1, q.2.2.1, va_K.moved (u := U) (U := U.calling g mk x) (Vm.Alike.refl U.vm) q.2.2.2.1, NW.same (s := U) (U := U.calling g mk x) rfl q.2.2.2.2⟩
section CT2
variable {K : KX} {E : EnvT} {A : Nat → Prop} {cc : ByteArray} {nL : Nat} {own : String} {z cs sl pc : Nat} {w : Nat → Option va_E} {lv : List (Nat × Value)} {rest : List Value}
/-- behind a constructor's call -/
theorem h_after (h : Hx K E A cc nL own) {b k ms : Nat} {w1 : Nat → Option va_E} {x : Array Value} {st : List Value} {H : Heap} {locs : List Loc} {ls : Array Slot} (hw : ∀ q e, w q = some e → va_at (eD E) vwCl (q, e) H) (hz : H.size = z) (hS : va_S A (ks K).heap H locs) (hl : lv_has ls (kc K).maxLocals lv) (hAb : A b)
    (hr : va_Run (kp K) (kl K) (ke K) (kR K) (ks K) (km K) (ka K) (kbl K) (kme K) (kc K) H locs cs sl k ms (F0 (km K) pc ls st) rest (CQ E b z k w1 x) (CA b z))
    (kk : HH K E A (z + k) (cs + k) (sl + ms) (fun q => if q = b ∨ z ≤ q then w1 q else w q) (pc + 3) lv rest) : W (kp K) (kl K) (ke K) (kR K) (ks K) (km K) (ka K) (kbl K) (kme K) (kc K) H locs cs sl (kQ K) (F0 (km K) pc ls st) := by
  intro T hT X
  obtain ⟨v, st₀, t, T', L, h0, X', hL, e1, e2, ⟨⟨hv, hz1, hw1⟩, hzF, hkF⟩, stp⟩ := hr T hT X
  cases hv
  rw [h0] at hzF hkF
  have hsz := hS.1
  obtain ⟨t2, a1, b1⟩ := kk T'.heap (locs ++ L) ls (fun q e hq => by
      by_cases c9 : q = b ∨ z ≤ q
      · have hq : w1 q = some e := by simpa [c9] using hq
        rw [e1]; exact hw1 q e hq
      · have hq : w q = some e := by simpa [c9] using hq
        have hv := hw q e hq
        exact hv.kept (by rw [e1]; exact hkF q hv.lt c9)) (by rw [e1]; exact hz1)
    ⟨by rw [e1, hz1]; omega, fun q h1 h2 => by
      rw [e1, hkF q (Nat.lt_of_lt_of_le h1 hS.1) (fun r => r.elim (fun e => h2 (by rw [e]; exact hAb)) (fun e => by omega))]; exact hS.2.1 q h1 h2, fun q hq => by
      rcases List.mem_append.mp hq with r | r
      · exact hS.2.2 q r
      · rcases hL q r with e | e
        · rw [e]; exact hAb
        · exact h.2.2.2.2.2.2.1 _ (by omega)⟩ hl T' rfl X'
  exact ⟨t2, stp t2 a1, b1⟩
theorem h_ctor (h : Hx K E A cc nL own) (hNW : NW (ks K)) {y : MethodName} {c' : ByteArray} {nL' f' n' b k ms idx : Nat} {pre : va_E} {w1 : Nat → Option va_E} (hM : CCon (kl K) E y c' nL' f' n' b z k ms pre w1) (he : w b = some pre) (hAb : A b) (hlink : Cond.methodLinkNest own idx y RX5 ∈ NWl)
    (hini : Cond.initialized y.cls ∈ gtb) (hcode : Cond.code y c' nL' none ∈ gtb) (him : Cond.instanceMethod y ∈ gtb) (hy : y.name = "<init>") (hd0 : y.cls ≠ "java/lang/invoke/MethodHandle" ∧ y.cls ≠ "java/lang/invoke/VarHandle" ∧ (parseMethodDescriptor y.desc).map (fun d => d.parameters.length) = some 0)
    (hf : f' + 1 ≤ (kR K).frames) (hn : 8 + (nL' + 11) + n' ≤ (kR K).locals) (hcs : cs + k ≤ (kR K).cells) (hsl : sl + ms ≤ (kR K).slots) (hr : (rest.map fun v => v.category).sum ≤ 8) (hd : decode cc pc = .ok (.invokespecial idx, 3))
    (kk : HH K E A (z + k) (cs + k) (sl + ms) (fun q => if q = b ∨ z ≤ q then w1 q else w q) (pc + 3) lv rest) : HH K E A z cs sl w pc lv (.ref b :: rest) := by
  intro H locs ls hw hz hS hl
  have hG : GoodIn gtb (Cond.code y c' nL' none :: gtb) := good_gtb (fun w hw => by
    rcases List.mem_cons.mp hw with rfl | hw
    · exact hcode
    · exact hw)
  exact h_after h hw hz hS hl hAb (va_runIN (As := []) (rest := rest) (nL := nL) (Ts := gtb) (own := own) ⟨h.1, h.2.1, h.2.2.1, h.2.2.2.1, h.2.2.2.2.1⟩ hM ⟨va_cnB 0 h.2.2.2.2.1 hG rfl rfl rfl (hNW _ hlink) (h.2.2.2.2.1 _ hini) hd0 ⟨hf, hn⟩, hy, h.2.2.2.2.1 _ him⟩
    ⟨cp_blind, fun U hU hWm => ⟨rfl, by rw [hU]; exact hz, by rw [hU]; exact hw b _ he, va_K.moved hWm.alike h.2.2.2.2.2.1, NW.warm hWm hNW⟩⟩ rfl rfl (by show ls.size = nL; rw [← h.2.2.1]; exact hl.1) rfl (lv_room hr) hd ⟨hcs, hsl⟩) kk
end CT2
