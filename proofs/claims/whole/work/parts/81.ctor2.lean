def NWl : List Cond := [.methodLinkNest RX5 11 yX0_init RX5, .methodLinkNest RX0 48 yX2_init RX5, .methodLinkNest RX5 21 yX4_init RX5, .methodLinkNest RX4 11 yX2_init RX5, .methodLinkNest RX1 17 yX0_init RX5, .methodLinkNest RX5 35 yX3_init RX5, .arrayOver (.object "LetterFabric$Fabric")]
def NW (U : State) : Prop := ∀ c ∈ NWl, va_Nw c U
def CA (a z : Nat) : Nat → Prop := fun q => q = a ∨ z ≤ q
def CPre (E : EnvT) (a z : Nat) (pre : va_E) (U : State) : Prop := U.heap.size = z ∧ va_at (eD E) vwCl (a, pre) U.heap ∧ va_K (eD E) vwCl (tysE E) U ∧ NW U
def CQ (E : EnvT) (a z k : Nat) (w1 : Nat → Option va_E) : Array Value → State → Outcome → State → Prop := fun _ st oc t => (oc = .returned none ∧ t.heap.size = z + k ∧ (∀ q e, w1 q = some e → va_at (eD E) vwCl (q, e) t.heap)) ∧ va_F (CA a z) st t
/-- a constructor's contract: the object at a, the heap of size z before; the cells w1 behind it, k new ones, of ms slots -/
def CCon (l : Launch) (E : EnvT) (y : MethodName) (cc : ByteArray) (nL f n a z k ms : Nat) (pre : va_E) (w1 : Nat → Option va_E) : Prop :=
  Met l y (Cond.code y cc nL none :: gtb) { frames := f, cells := k, slots := ms, locals := n } (va_Pc [.ref a] (CPre E a z pre)) (CQ E a z k w1) k ms (CA a z)
/-- the constructor's walk ends so -/
def RC (K : KX) (E : EnvT) (a z k ms : Nat) (w1 : Nat → Option va_E) : Prop := (kme K).sig.returnType = none ∧ (kme K).locks = false ∧ kQ K = MQ (kbl K) (CQ E a z k w1) (ka K) (ks K) k ms (CA a z)
theorem cc_intro {l : Launch} {E : EnvT} {y : MethodName} {cc : ByteArray} {nL f n a z k ms : Nat} {pre : va_E} {w1 : Nat → Option va_E} (hy : plainName y.cls = true) (hn : 1 ≤ nL) (hi : y.name = "<init>")
    (walk : ∀ K : KX, kl K = l → Hx K E (CA a z) cc nL y.cls → (kR K).frames = f → (kR K).locals = n → (kR K).cells = k → (kR K).slots = ms → NW (ks K) → a < z → RC K E a z k ms w1 → HH K E (CA a z) z 0 0 (va_up (fun _ => none) a (some pre)) 0 [(0, .ref a)] []) : CCon l E y cc nL f n a z k ms pre w1 := by
  refine Met.ofW (cc := cc) (maxL := nL) (ret := none) hy rfl ?_
  intro p e s m args below meth c s₁ B hml hv
  obtain ⟨rfl, hz, hP, hK, hNW⟩ := hv
  have hts := atoms_spec (ws := Cond.code y cc nL none :: gtb) B.pre
  have hown : s.vm.findClass y.cls = some m.cls := findClass_of_methodNamed B.named
  have hl := lv_entry [.ref a] (n := nL) hn
  rw [lg_entry_eq]
  refine walk (p, l, e, { frames := f, cells := k, slots := ms, locals := n }, s, m, ([.ref a] : List Value).toArray, below, meth, c, 0, 0, MQ below (CQ E a z k w1) ([.ref a] : List Value).toArray s k ms (CA a z)) rfl
    ⟨B.exec, B.bytes, hml, hown, fun w h => hts w (List.mem_cons_of_mem _ h), hK, fun q hq => Or.inr (by rw [← hz]; exact hq), ?_⟩ rfl rfl rfl rfl hNW (by have := hP.lt; rw [hz] at this; exact this) ⟨B.returns, B.notSynchronized, rfl⟩ s.heap [] _ (fun q e hq => ?_) hz va_S.rf (by show lv_has _ c.maxLocals _; rw [hml]; exact hl)
  · rw [← hi]; exact (name_of_methodNamed B.named B.method).1
  · by_cases c9 : q = a
    · subst c9
      rw [up_s] at hq
      cases hq
      exact hP
    · rw [up_n c9] at hq; exact absurd hq (by intro h9; cases h9)
section CT1
variable {K : KX} {E : EnvT} {cc : ByteArray} {nL : Nat} {own : String} {a z0 z k ms cs sl pc : Nat} {w w1 : Nat → Option va_E} {lv : List (Nat × Value)} {rest : List Value}
theorem h_ret (h : Hx K E (CA a z0) cc nL own) (hR : RC K E a z0 k ms w1) (hz : z = z0 + k) (hw1 : ∀ q e, w1 q = some e → w q = some e) (hd : decode cc pc = .ok (.return_, 1)) : HH K E (CA a z0) z k ms w pc lv [] := by
  intro H locs ls hw hz2 hS hl
  rw [hR.2.2]
  exact W.vret h.1 h.2.1 hR.1 (fun t ht hWm => ⟨⟨rfl, by rw [ht, hz2, hz], fun q e hq => by rw [ht]; exact hw q e (hw1 q e hq)⟩, hS.F ht⟩) hS.2.2 hd hR.2.1
end CT1
