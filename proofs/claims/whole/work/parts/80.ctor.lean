/-! ===== the constructors: a world of cells by their addresses ===== -/
def HH (K : KX) (E : EnvT) (A : Nat → Prop) (z cs sl : Nat) (w : Nat → Option va_E) (pc : Nat) (lv : List (Nat × Value)) (st : List Value) : Prop :=
  ∀ (H : Heap) (locs : List Loc) (ls : Array Slot), (∀ q e, w q = some e → va_at (eD E) vwCl (q, e) H) → H.size = z → va_S A (ks K).heap H locs → lv_has ls (kc K).maxLocals lv →
    W (kp K) (kl K) (ke K) (kR K) (ks K) (km K) (ka K) (kbl K) (kme K) (kc K) H locs cs sl (kQ K) (F0 (km K) pc ls st)
/-- what is known of a constructor's walk -/
def Hx (K : KX) (E : EnvT) (A : Nat → Prop) (cc : ByteArray) (nL : Nat) (own : String) : Prop :=
  (kp K).tables.exec = Jvm.exec ∧ (kc K).code = cc ∧ (kc K).maxLocals = nL ∧ (ks K).vm.findClass own = some (km K).cls ∧ (∀ w ∈ gtb, w.before (ka K) (ks K) = true) ∧ va_K (eD E) vwCl (tysE E) (ks K) ∧ (∀ q, (ks K).heap.size ≤ q → A q) ∧ (kme K).name = "<init>"
section CT0
variable {K : KX} {E : EnvT} {A : Nat → Prop} {cc : ByteArray} {nL : Nat} {own : String} {z cs sl pc : Nat} {w : Nat → Option va_E} {lv : List (Nat × Value)} {rest : List Value}
theorem h_aload (h : Hx K E A cc nL own) {q : Fin 4} {x : Nat} (j : Nat) (hd : decode cc pc = .ok (.aload_n q, 1)) (hk : lv[j]? = some ((q : Nat), .ref x)) (k : HH K E A z cs sl w (pc + 1) lv (.ref x :: rest)) : HH K E A z cs sl w pc lv rest := fun H locs ls hw hz hS hl => lv_aload_n h.1 h.2.1 hd rfl (lv_at hl j hk) (k H locs ls hw hz hS hl)
theorem h_iload (h : Hx K E A cc nL own) {q : Fin 4} {x : Int32} (j : Nat) (hd : decode cc pc = .ok (.iload_n q, 1)) (hk : lv[j]? = some ((q : Nat), .int x)) (k : HH K E A z cs sl w (pc + 1) lv (.int x :: rest)) : HH K E A z cs sl w pc lv rest := fun H locs ls hw hz hS hl => lv_iload_n h.1 h.2.1 hd rfl (lv_at hl j hk) (k H locs ls hw hz hS hl)
theorem h_dup (h : Hx K E A cc nL own) {va : Value} (hd : decode cc pc = .ok (.dup, 1)) (hva : va.category = 1) (k : HH K E A z cs sl w (pc + 1) lv (va :: va :: rest)) : HH K E A z cs sl w pc lv (va :: rest) := fun H locs ls hw hz hS hl => lv_dup h.1 h.2.1 hd hva (k H locs ls hw hz hS hl)
theorem h_iconst (h : Hx K E A cc nL own) {y : Int} {v : Int32} (hd : decode cc pc = .ok (.iconst y, 1)) (hv : Int32.ofInt y = v) (k : HH K E A z cs sl w (pc + 1) lv (.int v :: rest)) : HH K E A z cs sl w pc lv rest := fun H locs ls hw hz hS hl => lv_iconst h.1 h.2.1 hd hv (k H locs ls hw hz hS hl)
theorem h_bipush (h : Hx K E A cc nL own) {y : Int} {v : Int32} (hd : decode cc pc = .ok (.bipush y, 2)) (hv : (Int8.ofInt y).toInt32 = v) (k : HH K E A z cs sl w (pc + 2) lv (.int v :: rest)) : HH K E A z cs sl w pc lv rest := fun H locs ls hw hz hS hl => lv_bipush h.1 h.2.1 hd hv (k H locs ls hw hz hS hl)
theorem h_sipush (h : Hx K E A cc nL own) {y : Int} {v : Int32} (hd : decode cc pc = .ok (.sipush y, 3)) (hv : (Int16.ofInt y).toInt32 = v) (k : HH K E A z cs sl w (pc + 3) lv (.int v :: rest)) : HH K E A z cs sl w pc lv rest := fun H locs ls hw hz hS hl => lv_sipush h.1 h.2.1 hd hv (k H locs ls hw hz hS hl)
theorem h_istore (h : Hx K E A cc nL own) {q : Fin 4} {x : Int32} (lv' : List (Nat × Value)) (hd : decode cc pc = .ok (.istore_n q, 1)) (hn : (q : Nat) < nL) (hv : lset1 lv (q : Nat) (.int x) = lv') (k : HH K E A z cs sl w (pc + 1) lv' rest) : HH K E A z cs sl w pc lv (.int x :: rest) := by
  subst hv
  exact fun H locs ls hw hz hS hl => lv_istore_n h.1 h.2.1 hd rfl hl (by rw [h.2.2.1]; exact hn) rfl (fun ls2 hl2 => k H locs ls2 hw hz hS (lset1_has hl2))
theorem h_iinc (h : Hx K E A cc nL own) {q : Nat} {y : Int} {x v : Int32} (j : Nat) (lv' : List (Nat × Value)) (hd : decode cc pc = .ok (.iinc q y, 3)) (hk : lv[j]? = some (q, .int x)) (hx : x + Int32.ofInt y = v) (hn : q < nL) (hv : lset1 lv q (.int v) = lv') (k : HH K E A z cs sl w (pc + 3) lv' rest) : HH K E A z cs sl w pc lv rest := by
  subst hv
  exact fun H locs ls hw hz hS hl => lv_iinc h.1 h.2.1 hd hl hk hx (by rw [h.2.2.1]; exact hn) rfl (fun ls2 hl2 => k H locs ls2 hw hz hS (lset1_has hl2))
theorem h_ncmp_ge (h : Hx K E A cc nL own) {a b : Nat} {off : Int} (tgt : Nat) (hd : decode cc pc = .ok (.if_icmp .ge off, 3)) (ht : (pc : Int) + off = (tgt : Int)) (ha : a < 2 ^ 31) (hb : b < 2 ^ 31) (kt : b ≤ a → HH K E A z cs sl w tgt lv rest) (kf : a < b → HH K E A z cs sl w (pc + 3) lv rest) : HH K E A z cs sl w pc lv (.int (nI b) :: .int (nI a) :: rest) := fun H locs ls hw hz hS hl =>
  lv_icmp_ge h.1 h.2.1 hd ht (fun q => kt ((nI_leI hb ha).mp q) H locs ls hw hz hS hl) (fun q => kf (Nat.not_le.mp (fun e => q ((nI_leI hb ha).mpr e))) H locs ls hw hz hS hl)
theorem h_goto (h : Hx K E A cc nL own) {off : Int} (tgt : Nat) (hd : decode cc pc = .ok (.goto off, 3)) (ht : (pc : Int) + off = (tgt : Int)) (k : HH K E A z cs sl w tgt lv rest) : HH K E A z cs sl w pc lv rest := fun H locs ls hw hz hS hl => lv_goto h.1 h.2.1 hd ht (k H locs ls hw hz hS hl)
theorem h_obj (h : Hx K E A cc nL own) {idx a : Nat} (hl0 : Cond.methodLink own idx objectInit ∈ gtb) (hf : 1 ≤ (kR K).frames) (hn : 12 ≤ (kR K).locals) (hd : decode cc pc = .ok (.invokespecial idx, 3)) (k : HH K E A z cs sl w (pc + 3) lv []) : HH K E A z cs sl w pc lv [.ref a] := fun H locs ls hw hz hS hl => by
  refine W.objInit h.1 h.2.1 h.2.2.2.1 (h.2.2.2.2.1 _ hl0) (h.2.2.2.2.1 _ im_objectInit) (h.2.2.2.2.1 _ co_objectInit) rfl hl.1 rfl hd hf hn ?_
  exact k H locs ls hw hz hS hl
theorem h_put (h : Hx K E A cc nL own) {a : Nat} {ci : Nat} {fs : List Value} (he : w a = some (.inr (ci, fs))) {C : String} {T : u_T} {N : Nat} (hc : vwCl[ci]? = some (C, T, N)) (hin : ∀ w ∈ u_ws C T N, w ∈ gtb) (ty0 : Nat → FieldType) (hty : ∀ k, k < N → parseFieldDescriptor (T k).2.2.1 = some (ty0 k)) (hnm : ∀ a, a < N → ∀ b, b < N → a ≠ b → (T a).2.1 ≠ (T b).2.1)
    (hA : A a) (q : Nat) (hq : q < N) {index : Nat} (hl : Cond.fieldLink own index (T q).1 (T q).2.1 (T q).2.2.1 ∈ gtb) (hfin : (T q).2.2.2 = true) (hdecl : (T q).1 = own) {ty : FieldType} {v : Value} (hd0 : parseFieldDescriptor (T q).2.2.1 = some ty) (hn : narrow ty v = v) (hfit : fits ty v = true) (hlen : q < fs.length)
    (hd : decode cc pc = .ok (.putfield index, 3)) (kk : HH K E A z cs sl (va_up w a (some (.inr (ci, fs.set q v)))) (pc + 3) lv rest) : HH K E A z cs sl w pc lv (v :: .ref a :: rest) := by
  intro H locs ls hw hz hS hl2
  have hap := va_apart (own := own) h.2.2.2.2.1 hin ty0 hty hnm h.2.2.2.2.2.1 hc
  obtain ⟨r, h1, cell, q1, q2, q3, q4⟩ := hw a _ he
  have hr : r = (C, T, N) := Option.some.inj (h1.symm.trans hc)
  subst hr
  obtain ⟨hSl, hfc, kC, hkC, hkind⟩ := h.2.2.2.2.2.1.1 ci _ hc
  obtain ⟨cf, kf, fi, fd, hi, hsl⟩ := hSl q hq
  have hlay := h.2.2.2.2.1 _ (hin _ (u_in_lay hq))
  unfold u_lay at hlay
  rw [if_pos hfin] at hlay
  have hst := (u_facts hfc hkC (u_lays h.2.2.2.2.1 hin hq) hi).1
  have hcf : (km K).cls = cf := by
    obtain ⟨_, _, c', _, _, _, -, -, hf', -, -, -, hown2, -⟩ := Cond.laysFinal_spec hlay
    have e1 : c' = cf := by have := hi.symm.trans hf'; simp at this; exact this.1.symm
    rw [hdecl] at hown2
    rw [← e1]; exact Option.some.inj (h.2.2.2.1.symm.trans hown2)
  have h6 := u_fits hfc hkC hkind (Or.inr hlay) hi hd0 hn hfit
  refine W.putFinK h.1 h.2.1 h.2.2.2.1 (h.2.2.2.2.1 _ hl) hi hst hcf h.2.2.2.2.2.2.2 (by rw [q2]; exact h6) q1 q3 (by rw [hsl]; exact k2_hasslot (q4 q hq)) rfl rfl hd fun H' e1 e2 e3 => ?_
  rw [hsl] at e1 ⊢
  refine kk H' _ ls (fun x e hx => ?_) (e2.trans hz) (hS.put e2 e3 hA) hl2
  by_cases c : x = a
  · subst c
    rw [up_s] at hx
    cases hx
    exact ⟨_, hc, t_OB.to (V := updV (vp_V fs) q v) ⟨_, e1, q2, q3, t_set q4 hap hq v⟩ (fun j _ => vp_updV_set hlen v j)⟩
  · rw [up_n c] at hx
    exact (hw x e hx).kept (e3 x c)
theorem h_putI (h : Hx K E A cc nL own) {a : Nat} {ci : Nat} {fs : List Value} (he : w a = some (.inr (ci, fs))) {C : String} {T : u_T} {N : Nat} (hc : vwCl[ci]? = some (C, T, N)) (hin : ∀ w ∈ u_ws C T N, w ∈ gtb) (ty0 : Nat → FieldType) (hty : ∀ k, k < N → parseFieldDescriptor (T k).2.2.1 = some (ty0 k)) (hnm : ∀ a, a < N → ∀ b, b < N → a ≠ b → (T a).2.1 ≠ (T b).2.1)
    (hA : A a) (q : Nat) (hq : q < N) {index : Nat} (hl : Cond.fieldLink own index (T q).1 (T q).2.1 (T q).2.2.1 ∈ gtb) (hfin : (T q).2.2.2 = false) (hd0 : parseFieldDescriptor (T q).2.2.1 = some .int) {x : Int32} (hlen : q < fs.length)
    (hd : decode cc pc = .ok (.putfield index, 3)) (kk : HH K E A z cs sl (va_up w a (some (.inr (ci, fs.set q (.int x))))) (pc + 3) lv rest) : HH K E A z cs sl w pc lv (.int x :: .ref a :: rest) := by
  intro H locs ls hw hz hS hl2
  have hap := va_apart (own := own) h.2.2.2.2.1 hin ty0 hty hnm h.2.2.2.2.2.1 hc
  obtain ⟨r, g1, cell, q1, q2, q3, q4⟩ := hw a _ he
  have hr : r = (C, T, N) := Option.some.inj (g1.symm.trans hc)
  subst hr
  obtain ⟨hSl, hfc, kC, hkC, hkind⟩ := h.2.2.2.2.2.1.1 ci _ hc
  obtain ⟨cf, kf, fi, fd, hi, hsl⟩ := hSl q hq
  have hlay := h.2.2.2.2.1 _ (hin _ (u_in_lay hq))
  unfold u_lay at hlay
  rw [if_neg (by rw [hfin]; decide)] at hlay
  have hst := (u_facts hfc hkC (u_lays h.2.2.2.2.1 hin hq) hi).1
  have h6 := u_store hfc hkC hkind hlay hi hd0 (v := .int x) rfl rfl
  refine W.putK h.1 h.2.1 (f := fd) ⟨h.2.2.2.1, h.2.2.2.2.1 _ hl, ⟨_, _, _, hi⟩, hst⟩ (by rw [q2]; exact h6) q1 q3 (by rw [hsl]; exact k2_hasslot (q4 q hq)) rfl rfl hd fun H' e1 e2 e3 => ?_
  rw [hsl] at e1 ⊢
  refine kk H' _ ls (fun y e hx => ?_) (e2.trans hz) (hS.put e2 e3 hA) hl2
  by_cases c : y = a
  · subst c
    rw [up_s] at hx
    cases hx
    exact ⟨_, hc, t_OB.to (V := updV (vp_V fs) q (.int x)) ⟨_, e1, q2, q3, t_set q4 hap hq (.int x)⟩ (fun j _ => vp_updV_set hlen (.int x) j)⟩
  · rw [up_n c] at hx
    exact (hw y e hx).kept (e3 y c)
theorem h_new (h : Hx K E A cc nL own) {C : String} {T : u_T} {N ci index : Nat} (hin : ∀ w ∈ u_ws C T N, w ∈ gtb) (ty : Nat → FieldType) (hty : ∀ k, k < N → parseFieldDescriptor (T k).2.2.1 = some (ty k)) (hcl : Cond.classLink own index C ∈ gtb) (hinst : Cond.instantiable C N ∈ gtb) (hini : Cond.initialized C ∈ gtb) (hc : vwCl[ci]? = some (C, T, N))
    {fs : List Value} (hfs : ∀ j, j < N → defaultValue (ty j) = vp_V fs j) (hcs : cs + 1 ≤ (kR K).cells) (hsl : sl + N ≤ (kR K).slots) (hd : decode cc pc = .ok (.new index, 3)) (kk : HH K E A (z + 1) (cs + 1) (sl + N) (va_up w z (some (.inr (ci, fs)))) (pc + 3) lv (.ref z :: rest)) : HH K E A z cs sl w pc lv rest := by
  intro H locs ls hw hz hS hl
  have hKn := h.2.2.2.2.2.1.1 ci _ hc
  refine W.newcK h.1 h.2.1 h.2.2.2.1 (h.2.2.2.2.1 _ hcl) (h.2.2.2.2.1 _ hinst) (h.2.2.2.2.1 _ hini) rfl hd hcs hsl hKn.2.1 rfl fun H1 kC hkC e1 z1 o1 => ?_
  have hb := u_born ty h.2.2.2.2.1 hin hKn hkC e1 hty
  rw [hz] at e1 z1 o1 hb
  subst hz
  refine kk H1 locs ls (fun q e hq => ?_) z1 ⟨Nat.le_trans hS.1 (by omega), fun x h1 h2 => (o1 x (Nat.lt_of_lt_of_le h1 hS.1)).trans (hS.2.1 x h1 h2), hS.2.2⟩ hl
  by_cases c : q = H.size
  · subst c
    rw [up_s] at hq
    cases hq
    exact ⟨_, hc, hb.to hfs⟩
  · rw [up_n c] at hq
    have hv := hw q e hq
    exact hv.kept (o1 q hv.lt)
theorem h_newa (h : Hx K E A cc nL own) {atype : ArrayType} {ty : FieldType} (hty : newarray.typeOf atype = ty) (harr : Cond.arrayClass ty ∈ gtb) (t0 : Nat) {cA : ClassId} (ht : (tysE E)[t0]? = some (cA, ty)) {N : Nat} (hN : N < 2 ^ 31) {a0 : vp_A} (ha : vp_cell cA a0 = arrV cA N (fun _ => defaultValue ty)) (hbytes : N * componentBytes ty ≤ 536870912)
    (hcs : cs + 1 ≤ (kR K).cells) (hsl : sl + N ≤ (kR K).slots) (hra : ∀ U cB, va_RA U cA ty → U.vm.findClass ("[" ++ ty.toString) = some cB → cB = cA) (hd : decode cc pc = .ok (.newarray atype, 2)) (kk : HH K E A (z + 1) (cs + 1) (sl + N) (va_up w z (some (.inl (cA, a0)))) (pc + 2) lv (.ref z :: rest)) : HH K E A z cs sl w pc lv (.int (nI N) :: rest) := by
  intro H locs ls hw hz hS hl
  subst hty
  refine va_newaK h.1 h.2.1 (h.2.2.2.2.1 _ harr) rfl hd rfl (nI_pos hN) (nI_clamp hN) hbytes hcs hsl rfl fun H1 cB e1 z1 o1 hAr hNm => ?_
  have e : cB = cA := hra (ks K) cB (h.2.2.2.2.2.1.2 t0 _ ht).2 hNm
  subst e
  rw [hz] at e1 z1 o1
  subst hz
  refine kk H1 locs ls (fun q e hq => ?_) z1 ⟨Nat.le_trans hS.1 (by omega), fun x h1 h2 => (o1 x (Nat.lt_of_lt_of_le h1 hS.1)).trans (hS.2.1 x h1 h2), hS.2.2⟩ hl
  by_cases c : q = H.size
  · subst c
    rw [up_s] at hq
    cases hq
    show H1[H.size]? = some (vp_cell _ _)
    rw [ha]; exact e1
  · rw [up_n c] at hq
    have hv := hw q e hq
    exact hv.kept (o1 q hv.lt)
end CT0
