section CT3
variable {K : KX} {E : EnvT} {A : Nat → Prop} {cc : ByteArray} {nL : Nat} {own : String} {z cs sl pc : Nat} {w : Nat → Option va_E} {lv : List (Nat × Value)} {rest : List Value}
def arO (E : EnvT) (n : Nat) (f : Nat → Option Nat) : va_E := .inl (eO E, n, .inr (.inr (.inr (.inr f))))
theorem h_newq (h : Hx K E A cc nL own) (hNW : NW (ks K)) {index : Nat} (hcl : Cond.classLink own index RX0 ∈ gtb) {N : Nat} (hN : N < 2 ^ 20) (hcs : cs + 1 ≤ (kR K).cells) (hsl : sl + N ≤ (kR K).slots) (hd : decode cc pc = .ok (.anewarray index, 3))
    (kk : HH K E A (z + 1) (cs + 1) (sl + N) (va_up w z (some (arO E N (fun _ => none)))) (pc + 3) lv (.ref z :: rest)) : HH K E A z cs sl w pc lv (.int (nI N) :: rest) := by
  intro H locs ls hw hz hS hl
  have hover : va_AO "LetterFabric$Fabric" (ks K) := hNW (.arrayOver (.object "LetterFabric$Fabric")) (by simp [NWl])
  have hNc : (nI N).toNatClampNeg = N := nI_clamp (by omega)
  refine W.anew h.1 h.2.1 h.2.2.2.1 (h.2.2.2.2.1 _ hcl) (va_AO.use hover) rfl hd rfl (nI_pos (by omega)) (by rw [hNc]; omega) hcs (by rw [hNc]; exact hsl) fun cA kA comp f1 f2 f3 f4 => ?_
  obtain ⟨kA2, comp2, g1, g2, g3, g4⟩ := (h.2.2.2.2.2.1.2 2 _ (show (tysE E)[2]? = some (eO E, .object "LetterFabric$Fabric") from rfl)).2
  have e : cA = eO E := Option.some.inj (f1.symm.trans g4)
  subst e
  rw [hNc]
  generalize hH1 : H.push ({ cls := eO E, slots := Array.replicate N .null, vm := .none } : Cell) = H1
  have z1 : H1.size = H.size + 1 := by rw [← hH1, Array.size_push]
  have e1 : H1[H.size]? = some (arrV (eO E) N (fun _ => .null)) := by rw [← hH1, Array.getElem?_push_size, ← arrV_new]
  have o1 : ∀ q : Nat, q < H.size → H1[q]? = H[q]? := fun q hq => by rw [← hH1, Array.getElem?_push, if_neg (Nat.ne_of_lt hq)]
  subst hz
  refine kk H1 locs ls (fun q e hq => ?_) z1 ⟨Nat.le_trans hS.1 (by omega), fun x h1 h2 => (o1 x (Nat.lt_of_lt_of_le h1 hS.1)).trans (hS.2.1 x h1 h2), hS.2.2⟩ hl
  by_cases c : q = H.size
  · subst c
    rw [up_s] at hq
    cases hq
    show H1[H.size]? = some (vp_cell _ _)
    rw [vp_cell_q]; exact e1
  · rw [up_n c] at hq
    have hv := hw q e hq
    exact hv.kept (o1 q hv.lt)
theorem h_get (h : Hx K E A cc nL own) {a ci : Nat} {fs : List Value} (he : w a = some (.inr (ci, fs))) {C : String} {T : u_T} {N : Nat} (hc : vwCl[ci]? = some (C, T, N)) (hin : ∀ w ∈ u_ws C T N, w ∈ gtb) (q : Nat) (hq : q < N) {index : Nat} (hl : Cond.fieldLink own index (T q).1 (T q).2.1 (T q).2.2.1 ∈ gtb) {v : Value} (hv : fs[q]? = some v) (hd : decode cc pc = .ok (.getfield index, 3))
    (kk : HH K E A z cs sl w (pc + 3) lv (v :: rest)) : HH K E A z cs sl w pc lv (.ref a :: rest) := fun H locs ls hw hz hS hl2 => by
  have hP : va_P (eD E) vwCl [(a, .inr (ci, fs))] H := by
    intro k x hk
    have h1 : k < 1 := (List.getElem?_eq_some_iff.mp hk).1
    rw [show k = 0 by omega] at hk
    cases hk
    exact hw a _ he
  exact va_get (D := eD E) (cl := vwCl) h.1 h.2.1 h.2.2.2.2.1 hin h.2.2.2.1 h.2.2.2.2.2.1 hP 0 rfl hc q hq (h.2.2.2.2.1 _ hl) (fun _ z => z) hv hd (kk H locs ls hw hz hS hl2)
theorem h_aast (h : Hx K E A cc nL own) {a n v t : Nat} {f : Nat → Option Nat} (he : w a = some (arO E n f)) {vs : List Value} (hv : w v = some (.inr (0, vs))) (ht : t < n) (hn : n < 2 ^ 31) (hA : A a) (hd : decode cc pc = .ok (.aastore, 1))
    (kk : HH K E A z cs sl (va_up w a (some (arO E n (va_up f t (some v))))) (pc + 1) lv rest) : HH K E A z cs sl w pc lv (.ref v :: .int (nI t) :: .ref a :: rest) := by
  intro H locs ls hw hz hS hl
  have hlt : (nI t).toNatClampNeg < n := by rw [nI_clamp (by omega)]; exact ht
  have h0 : ¬ nI t < 0 := nI_pos (by omega)
  obtain ⟨r', hr', cellV, g1, g2, g3, -⟩ := hw v _ hv
  have hcls := (h.2.2.2.2.2.1.1 0 _ hr').2
  obtain ⟨kA, comp, k1, k2, k3, -⟩ := (h.2.2.2.2.2.1.2 2 _ (show (tysE E)[2]? = some (eO E, .object "LetterFabric$Fabric") from rfl)).2
  have hr0 : r'.1 = "LetterFabric$Fabric" := by
    have : vwCl[0]? = some r' := hr'
    cases this; rfl
  rw [hr0] at hcls
  have hcomp : comp = (eD E).1 0 := Option.some.inj (k3.symm.trans hcls.1)
  subst hcomp
  obtain ⟨kC, hkC, -⟩ := hcls.2
  refine W.aast h.1 h.2.1 (hw a _ he) (fun q h => by cases h) (fun h => by cases h) k1 k2 rfl hkC ⟨h0, by show _ < (arrV _ _ _).slots.size; rw [arrV_size]; exact hlt⟩ g1 (fun q h => by rw [g3] at h; cases h) (by rw [g2]; exact hkC) (by rw [g2]; exact va_assign hcls) rfl rfl hd fun H1 e zz oq => ?_
  refine kk H1 _ ls (fun q e9 hq => ?_) (zz.trans hz) (hS.put zz oq hA) hl
  by_cases c : q = a
  · subst c
    rw [up_s] at hq
    cases hq
    show H1[q]? = some (vp_cell _ _)
    rw [e]
    rw [vp_cell_q, vp_cell_q, arrV_store, nI_clamp (by omega)]
    congr 2
    funext x
    by_cases hx : x = t
    · subst hx
      simp [updV, va_up, va_rf]
    · simp [updV, va_up, hx]
  · rw [up_n c] at hq
    exact (hw q e9 hq).kept (oq q c)
end CT3
