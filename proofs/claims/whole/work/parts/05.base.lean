/-! ===== the world: one value for all that the class and the reference hold =====
 a fabric: (nets mayTurn room now by 0..3, letters, the arrays by 0..7: places fromLine toAddress priorities putIn endedIn rounds tally)
 a row: (numbers, size); rows 0..13 are the queues of the fabrics, 14 waiting, 15 beaten
 the rest of the class: (next known seen.size by 0..2, the arrays by 0..3: slots outs kept netPlaces)
 the reference: (nets backs room now by 0..3, many counter done sorted seen by 0..4, the arrays by 0..7: its kept isKept turn place blocked seenSlots seenOut, order) -/
abbrev FabT : Type := (Nat → Int32) × Nat × (Nat → Nat → Int32)
abbrev RowT : Type := (Nat → Nat) × Nat
abbrev XT : Type := (Nat → Nat) × (Nat → Nat → Int32)
abbrev MT : Type := (Nat → Int32) × (Nat → Nat) × (Nat → Nat → Int32) × (Nat → Nat)
abbrev ST : Type := (Nat → FabT) × (Nat → RowT) × XT × MT
abbrev EnvT : Type := va_G × ClassId × ClassId × ClassId × (Nat → Nat → Nat → Nat)
abbrev eD (E : EnvT) : va_G := E.1
abbrev eI (E : EnvT) : ClassId := E.2.1
abbrev eZ (E : EnvT) : ClassId := E.2.2.1
abbrev eO (E : EnvT) : ClassId := E.2.2.2.1
abbrev ad (E : EnvT) (k i j : Nat) : Nat := E.2.2.2.2 k i j
def flen (j : Nat) : Nat := match j with
  | 7 => 5
  | _ => 64
def xlen (j : Nat) : Nat := match j with
  | 0 => 6
  | 1 => 6
  | 2 => 2
  | _ => 8
def mlen (j : Nat) : Nat := match j with
  | 0 => 512
  | 1 => 6760
  | 2 => 2
  | 3 => 64
  | 4 => 8
  | 5 => 8
  | _ => 6
/-- which cells there are: kind, which one, which of its arrays -/
def okK (k i j : Nat) : Prop := match k with
  | 0 => i = 0 ∧ j = 0
  | 1 => i < 14 ∧ j = 0
  | 2 => i < 14 ∧ j < 8
  | 3 => i < 16 ∧ j = 0
  | 4 => i < 16 ∧ j = 0
  | 5 => i = 0 ∧ j = 0
  | 6 => i = 0 ∧ j = 0
  | 7 => i = 0 ∧ j = 0
  | 8 => i = 0 ∧ j = 0
  | 9 => i = 0 ∧ j < 4
  | 10 => i = 0 ∧ j = 0
  | 11 => i = 0 ∧ j = 0
  | 12 => i = 0 ∧ j < 8
  | 13 => i = 0 ∧ j = 0
  | _ => False
def xarr (E : EnvT) (j : Nat) (f : Nat → Int32) : va_E := match j with
  | 2 => .inl (eZ E, 2, .inl f)
  | j => .inl (eI E, xlen j, .inl f)
def enc (E : EnvT) (σ : ST) (k i j : Nat) : va_E := match k with
  | 0 => .inr (5, [.ref (ad E 1 0 0), .ref (ad E 1 1 0), .ref (ad E 5 0 0), .ref (ad E 6 0 0), .ref (ad E 8 0 0), .ref (ad E 10 0 0), .ref (ad E 9 0 2), .ref (ad E 9 0 3)])
  | 1 => .inr (0, [.int ((σ.1 i).1 0), .int ((σ.1 i).1 1), .int ((σ.1 i).1 2), .int ((σ.1 i).1 3), .int (nI (σ.1 i).2.1), .ref (ad E 2 i 0), .ref (ad E 2 i 1), .ref (ad E 2 i 2), .ref (ad E 2 i 3), .ref (ad E 2 i 4), .ref (ad E 2 i 5), .ref (ad E 2 i 6), .ref (ad E 2 i 7), .ref (ad E 3 i 0)])
  | 2 => .inl (eI E, flen j, .inl ((σ.1 i).2.2 j))
  | 3 => .inr (2, [.ref (ad E 4 i 0), .int (nI (σ.2.1 i).2)])
  | 4 => .inl (eI E, 64, .inl (fun n => nI ((σ.2.1 i).1 n)))
  | 5 => .inr (4, [.ref (ad E 3 14 0), .ref (ad E 3 15 0)])
  | 6 => .inr (1, [.ref (ad E 7 0 0), .int (nI (σ.2.2.1.1 0)), .int (nI (σ.2.2.1.1 1))])
  | 7 => .inl (eO E, 10, .inr (.inr (.inr (.inr (fun j => some (ad E 1 (2 + j) 0))))))
  | 8 => .inr (3, [.ref (ad E 9 0 0), .ref (ad E 9 0 1), .int (nI (σ.2.2.1.1 2))])
  | 9 => xarr E j (σ.2.2.1.2 j)
  | 10 => .inl (eO E, 2, .inr (.inr (.inr (.inr (fun j => some (ad E 1 (12 + j) 0))))))
  | 11 => .inr (6, [.int (σ.2.2.2.1 0), .int (σ.2.2.2.1 1), .int (σ.2.2.2.1 2), .int (σ.2.2.2.1 3), .int (nI (σ.2.2.2.2.1 0)), .int (nI (σ.2.2.2.2.1 1)), .ref (ad E 12 0 0), .ref (ad E 12 0 1), .ref (ad E 12 0 2), .int (nI (σ.2.2.2.2.1 2)), .int (nI (σ.2.2.2.2.1 3)), .ref (ad E 13 0 0), .ref (ad E 12 0 3), .ref (ad E 12 0 4), .ref (ad E 12 0 5), .int (nI (σ.2.2.2.2.1 4)), .ref (ad E 12 0 6), .ref (ad E 12 0 7)])
  | 12 => .inl (eI E, mlen j, .inl (σ.2.2.2.2.2.1 j))
  | _ => .inl (eI E, 64, .inl (fun n => nI (σ.2.2.2.2.2.2 n)))
def EOK (E : EnvT) : Prop := ∀ k i j k' i' j', okK k i j → okK k' i' j' → ad E k i j = ad E k' i' j' → k = k' ∧ i = i' ∧ j = j'
def AE (E : EnvT) (q : Nat) : Prop := ∃ k i j, okK k i j ∧ q = ad E k i j
def tysE (E : EnvT) : List (ClassId × FieldType) := [(eI E, .int), (eZ E, .boolean), (eO E, .object "LetterFabric$Fabric")]
def Wh (E : EnvT) (σ : ST) (H : Heap) : Prop := ∀ k i j, okK k i j → va_at (eD E) vwCl (ad E k i j, enc E σ k i j) H
def Wd (E : EnvT) (σ : ST) (U : State) : Prop := va_K (eD E) vwCl (tysE E) U ∧ Wh E σ U.heap
theorem Wh.one {E : EnvT} {σ : ST} {H : Heap} (h : Wh E σ H) {k i j : Nat} (hok : okK k i j) {e : va_E} (he : enc E σ k i j = e) : va_P (eD E) vwCl [(ad E k i j, e)] H := by
  subst he
  intro q x hq
  have hz : q < 1 := (List.getElem?_eq_some_iff.mp hq).1
  rw [show q = 0 by omega] at hq
  cases hq
  exact h k i j hok
theorem Wh.put {E : EnvT} {σ σ' : ST} {H H1 : Heap} (hE : EOK E) (h : Wh E σ H) {k i j : Nat} (hok : okK k i j) {e : va_E} (he : va_at (eD E) vwCl (ad E k i j, e) H1) (ho : ∀ q : Nat, q ≠ ad E k i j → H1[q]? = H[q]?)
    (h1 : enc E σ' k i j = e) (h2 : ∀ k' i' j', okK k' i' j' → ¬ (k' = k ∧ i' = i ∧ j' = j) → enc E σ' k' i' j' = enc E σ k' i' j') : Wh E σ' H1 := by
  intro k' i' j' hok'
  by_cases hs : k' = k ∧ i' = i ∧ j' = j
  · obtain ⟨rfl, rfl, rfl⟩ := hs
    rw [h1]
    exact he
  · rw [h2 k' i' j' hok' hs]
    exact (h k' i' j' hok').kept (ho _ (fun q => hs (hE _ _ _ _ _ _ hok' hok q)))
/-! ===== the machine's fixed parts of one walk ===== -/
abbrev KX : Type := Program × Launch × Env × Room × State × MethodId × Array Value × List Frame × Method × Code × Nat × Nat × (State → Prop)
abbrev kp (K : KX) := K.1
abbrev kl (K : KX) := K.2.1
abbrev ke (K : KX) := K.2.2.1
abbrev kR (K : KX) := K.2.2.2.1
abbrev ks (K : KX) := K.2.2.2.2.1
abbrev km (K : KX) := K.2.2.2.2.2.1
abbrev ka (K : KX) := K.2.2.2.2.2.2.1
abbrev kbl (K : KX) := K.2.2.2.2.2.2.2.1
abbrev kme (K : KX) := K.2.2.2.2.2.2.2.2.1
abbrev kc (K : KX) := K.2.2.2.2.2.2.2.2.2.1
abbrev kce (K : KX) := K.2.2.2.2.2.2.2.2.2.2.1
abbrev ksl (K : KX) := K.2.2.2.2.2.2.2.2.2.2.2.1
abbrev kQ (K : KX) := K.2.2.2.2.2.2.2.2.2.2.2.2
def KW (K : KX) (H : Heap) (locs : List Loc) (g : JFrame) : Prop := W (kp K) (kl K) (ke K) (kR K) (ks K) (km K) (ka K) (kbl K) (kme K) (kc K) H locs (kce K) (ksl K) (kQ K) g
/-- the machine, at pc, the world being σ, the locals lv, the stack st, comes to its end -/
def GG (K : KX) (E : EnvT) (σ : ST) (pc : Nat) (lv : List (Nat × Value)) (st : List Value) : Prop :=
  ∀ (H : Heap) (locs : List Loc) (ls : Array Slot), Wh E σ H → va_S (AE E) (ks K).heap H locs → lv_has ls (kc K).maxLocals lv → KW K H locs (F0 (km K) pc ls st)
/-- what is known of the walk: the code, how many locals, whose, room for frames and locals below -/
def Cx (K : KX) (E : EnvT) (cc : ByteArray) (nL : Nat) (own : String) (f n : Nat) : Prop :=
  (kp K).tables.exec = Jvm.exec ∧ (kc K).code = cc ∧ (kc K).maxLocals = nL ∧ (ks K).vm.findClass own = some (km K).cls ∧ (∀ w ∈ gtb, w.before (ka K) (ks K) = true) ∧ va_K (eD E) vwCl (tysE E) (ks K) ∧ EOK E ∧ f ≤ (kR K).frames ∧ n ≤ (kR K).locals ∧ kce K ≤ (kR K).cells ∧ ksl K ≤ (kR K).slots
def QO (E : EnvT) (post : Option Value → ST → Prop) : Array Value → State → Outcome → State → Prop := fun _ st oc t => (∃ (v : Option Value) (σ' : ST), oc = .returned v ∧ post v σ' ∧ Wd E σ' t) ∧ va_F (AE E) st t
/-- the walk is one of a method with this answer's type and this end -/
def Rx (K : KX) (E : EnvT) (ret : Option FieldType) (post : Option Value → ST → Prop) : Prop :=
  (kme K).sig.returnType = ret ∧ (kme K).locks = false ∧ kQ K = MQ (kbl K) (QO E post) (ka K) (ks K) (kce K) (ksl K) (AE E)
/-- a method's contract -/
def Con (l : Launch) (E : EnvT) (y : MethodName) (cc : ByteArray) (nL : Nat) (ret : Option FieldType) (f n : Nat) (av : List Value) (σ : ST) (post : Option Value → ST → Prop) : Prop :=
  Met l y (Cond.code y cc nL ret :: gtb) { frames := f, cells := 0, slots := 0, locals := n } (va_Pc av (fun U => Wd E σ U)) (QO E post) 0 0 (AE E)
theorem con_intro {l : Launch} {E : EnvT} {y : MethodName} {cc : ByteArray} {nL : Nat} {ret : Option FieldType} {f n : Nat} {av : List Value} {σ : ST} {post : Option Value → ST → Prop} (hE : EOK E) (hy : plainName y.cls = true) (hn : (lg_sl av).length ≤ nL)
    (walk : ∀ K : KX, kl K = l → Cx K E cc nL y.cls f n → Rx K E ret post → GG K E σ 0 (lv_args 0 av) []) : Con l E y cc nL ret f n av σ post := by
  refine Met.ofW (cc := cc) (maxL := nL) (ret := ret) hy rfl ?_
  intro p e s m args below meth c s₁ B hml hv
  obtain ⟨rfl, hK, hW⟩ := hv
  have hts := atoms_spec (ws := Cond.code y cc nL ret :: gtb) B.pre
  have hown : s.vm.findClass y.cls = some m.cls := findClass_of_methodNamed B.named
  have hl := lv_entry av (n := nL) hn
  rw [lg_entry_eq]
  exact walk (p, l, e, { frames := f, cells := 0, slots := 0, locals := n }, s, m, av.toArray, below, meth, c, 0, 0, MQ below (QO E post) av.toArray s 0 0 (AE E)) rfl
    ⟨B.exec, B.bytes, hml, hown, fun w h => hts w (List.mem_cons_of_mem _ h), hK, hE, Nat.le_refl _, Nat.le_refl _, Nat.le_refl _, Nat.le_refl _⟩ ⟨B.returns, B.notSynchronized, rfl⟩ s.heap [] _ hW va_S.rf (by show lv_has _ c.maxLocals _; rw [hml]; exact hl)
