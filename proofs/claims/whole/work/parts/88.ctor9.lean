section CT4
variable {K : KX} {E : EnvT} {A : Nat → Prop} {cc : ByteArray} {nL : Nat} {own : String} {z cs sl pc : Nat} {w : Nat → Option va_E} {lv : List (Nat × Value)} {rest : List Value}
theorem h_ctorI (h : Hx K E A cc nL own) (hNW : NW (ks K)) {y : MethodName} {c' : ByteArray} {nL' f' n' b k ms idx : Nat} {pre : va_E} {w1 : Nat → Option va_E} (hM : CCon (kl K) E y c' nL' f' n' b z k ms pre w1) (he : w b = some pre) (hAb : A b) (hlink : Cond.methodLink own idx y ∈ gtb)
    (hini : Cond.initialized y.cls ∈ gtb) (hcode : Cond.code y c' nL' none ∈ gtb) (him : Cond.instanceMethod y ∈ gtb) (hy : y.name = "<init>") (hd0 : y.cls ≠ "java/lang/invoke/MethodHandle" ∧ y.cls ≠ "java/lang/invoke/VarHandle" ∧ (parseMethodDescriptor y.desc).map (fun d => d.parameters.length) = some 0)
    (hf : f' + 1 ≤ (kR K).frames) (hn : 8 + (nL' + 11) + n' ≤ (kR K).locals) (hcs : cs + k ≤ (kR K).cells) (hsl : sl + ms ≤ (kR K).slots) (hr : (rest.map fun v => v.category).sum ≤ 8) (hd : decode cc pc = .ok (.invokespecial idx, 3))
    (kk : HH K E A (z + k) (cs + k) (sl + ms) (fun q => if q = b ∨ z ≤ q then w1 q else w q) (pc + 3) lv rest) : HH K E A z cs sl w pc lv (.ref b :: rest) := by
  intro H locs ls hw hz hS hl
  have hG : GoodIn gtb (Cond.code y c' nL' none :: gtb) := good_gtb (fun w hw => by
    rcases List.mem_cons.mp hw with rfl | hw
    · exact hcode
    · exact hw)
  exact h_after h hw hz hS hl hAb (va_runI (As := []) (rest := rest) (nL := nL) (Ts := gtb) (own := own) ⟨h.1, h.2.1, h.2.2.1, h.2.2.2.1, h.2.2.2.2.1⟩ hM (cwI 0 h.2.2.2.2.1 hG rfl rfl rfl (h.2.2.2.2.1 _ hini) (h.2.2.2.2.1 _ hlink) (h.2.2.2.2.1 _ him) hy hd0 ⟨hf, hn⟩)
    ⟨cp_blind, fun U hU hWm => ⟨rfl, by rw [hU]; exact hz, by rw [hU]; exact hw b _ he, va_K.moved hWm.alike h.2.2.2.2.2.1, NW.warm hWm hNW⟩⟩ rfl rfl (by show ls.size = nL; rw [← h.2.2.1]; exact hl.1) rfl (lv_room hr) hd ⟨hcs, hsl⟩) kk
/-- another world with the same cells -/
theorem h_w (w' : Nat → Option va_E) (hw : ∀ q e, w' q = some e → w q = some e) {st : List Value} (k : HH K E A z cs sl w' pc lv st) : HH K E A z cs sl w pc lv st := fun H locs ls h1 hz hS hl => k H locs ls (fun q e hq => h1 q e (hw q e hq)) hz hS hl
end CT4
