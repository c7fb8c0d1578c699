section RL
variable {K : KX} {E : EnvT} {cc : ByteArray} {nL : Nat} {own : String} {f n : Nat} {σ : ST} {pc : Nat} {lv : List (Nat × Value)} {rest : List Value}

theorem g_iadd (h : Cx K E cc nL own f n) {x y : Int32} (hd : decode cc pc = .ok (.iadd, 1)) (k : GG K E σ (pc + 1) lv (.int (x + y) :: rest)) : GG K E σ pc lv (.int y :: .int x :: rest) := fun H locs ls hW hS hl => lv_iadd h.1 h.2.1 hd (k H locs ls hW hS hl)
theorem g_isub (h : Cx K E cc nL own f n) {x y : Int32} (hd : decode cc pc = .ok (.isub, 1)) (k : GG K E σ (pc + 1) lv (.int (x - y) :: rest)) : GG K E σ pc lv (.int y :: .int x :: rest) := fun H locs ls hW hS hl => lv_isub h.1 h.2.1 hd (k H locs ls hW hS hl)
theorem g_imul (h : Cx K E cc nL own f n) {x y : Int32} (hd : decode cc pc = .ok (.imul, 1)) (k : GG K E σ (pc + 1) lv (.int (x * y) :: rest)) : GG K E σ pc lv (.int y :: .int x :: rest) := fun H locs ls hW hS hl => lv_imul h.1 h.2.1 hd (k H locs ls hW hS hl)
theorem g_iand (h : Cx K E cc nL own f n) {x y : Int32} (hd : decode cc pc = .ok (.iand, 1)) (k : GG K E σ (pc + 1) lv (.int (x &&& y) :: rest)) : GG K E σ pc lv (.int y :: .int x :: rest) := fun H locs ls hW hS hl => lv_iand h.1 h.2.1 hd (k H locs ls hW hS hl)
theorem g_ior (h : Cx K E cc nL own f n) {x y : Int32} (hd : decode cc pc = .ok (.ior, 1)) (k : GG K E σ (pc + 1) lv (.int (x ||| y) :: rest)) : GG K E σ pc lv (.int y :: .int x :: rest) := fun H locs ls hW hS hl => lv_ior h.1 h.2.1 hd (k H locs ls hW hS hl)
theorem g_ixor (h : Cx K E cc nL own f n) {x y : Int32} (hd : decode cc pc = .ok (.ixor, 1)) (k : GG K E σ (pc + 1) lv (.int (x ^^^ y) :: rest)) : GG K E σ pc lv (.int y :: .int x :: rest) := fun H locs ls hW hS hl => lv_ixor h.1 h.2.1 hd (k H locs ls hW hS hl)
theorem g_ishl (h : Cx K E cc nL own f n) {x y : Int32} (hd : decode cc pc = .ok (.ishl, 1)) (k : GG K E σ (pc + 1) lv (.int (x <<< (y &&& 31)) :: rest)) : GG K E σ pc lv (.int y :: .int x :: rest) := fun H locs ls hW hS hl => lv_ishl h.1 h.2.1 hd (k H locs ls hW hS hl)
theorem g_ishr (h : Cx K E cc nL own f n) {x y : Int32} (hd : decode cc pc = .ok (.ishr, 1)) (k : GG K E σ (pc + 1) lv (.int (x >>> (y &&& 31)) :: rest)) : GG K E σ pc lv (.int y :: .int x :: rest) := fun H locs ls hW hS hl => lv_ishr h.1 h.2.1 hd (k H locs ls hW hS hl)
theorem g_ladd (h : Cx K E cc nL own f n) {x y : Int64} (hd : decode cc pc = .ok (.ladd, 1)) (k : GG K E σ (pc + 1) lv (.long (x + y) :: rest)) : GG K E σ pc lv (.long y :: .long x :: rest) := fun H locs ls hW hS hl => lv_ladd h.1 h.2.1 hd (k H locs ls hW hS hl)
theorem g_lsub (h : Cx K E cc nL own f n) {x y : Int64} (hd : decode cc pc = .ok (.lsub, 1)) (k : GG K E σ (pc + 1) lv (.long (x - y) :: rest)) : GG K E σ pc lv (.long y :: .long x :: rest) := fun H locs ls hW hS hl => lv_lsub h.1 h.2.1 hd (k H locs ls hW hS hl)
theorem g_lmul (h : Cx K E cc nL own f n) {x y : Int64} (hd : decode cc pc = .ok (.lmul, 1)) (k : GG K E σ (pc + 1) lv (.long (x * y) :: rest)) : GG K E σ pc lv (.long y :: .long x :: rest) := fun H locs ls hW hS hl => lv_lmul h.1 h.2.1 hd (k H locs ls hW hS hl)
theorem g_ldiv (h : Cx K E cc nL own f n) {x y : Int64} (hd : decode cc pc = .ok (.ldiv, 1)) (hne : ¬ y = 0) (k : GG K E σ (pc + 1) lv (.long (x / y) :: rest)) : GG K E σ pc lv (.long y :: .long x :: rest) := fun H locs ls hW hS hl => lv_ldiv h.1 h.2.1 hd hne (k H locs ls hW hS hl)
theorem g_lrem (h : Cx K E cc nL own f n) {x y : Int64} (hd : decode cc pc = .ok (.lrem, 1)) (hne : ¬ y = 0) (k : GG K E σ (pc + 1) lv (.long (x - x / y * y) :: rest)) : GG K E σ pc lv (.long y :: .long x :: rest) := fun H locs ls hW hS hl => lv_lrem h.1 h.2.1 hd hne (k H locs ls hW hS hl)
theorem g_i2l (h : Cx K E cc nL own f n) {x : Int32} (hd : decode cc pc = .ok (.i2l, 1)) (k : GG K E σ (pc + 1) lv (.long x.toInt64 :: rest)) : GG K E σ pc lv (.int x :: rest) := fun H locs ls hW hS hl => lv_i2l h.1 h.2.1 hd rfl (k H locs ls hW hS hl)
theorem g_lcmp (h : Cx K E cc nL own f n) {x y : Int64} (hd : decode cc pc = .ok (.lcmp, 1)) (k : GG K E σ (pc + 1) lv (.int (lg_cmp x y) :: rest)) : GG K E σ pc lv (.long y :: .long x :: rest) := fun H locs ls hW hS hl => W.lcmp h.1 h.2.1 hd (k H locs ls hW hS hl)
theorem g_dup (h : Cx K E cc nL own f n) {va : Value} (hd : decode cc pc = .ok (.dup, 1)) (hva : va.category = 1) (k : GG K E σ (pc + 1) lv (va :: va :: rest)) : GG K E σ pc lv (va :: rest) := fun H locs ls hW hS hl => lv_dup h.1 h.2.1 hd hva (k H locs ls hW hS hl)
theorem g_pop (h : Cx K E cc nL own f n) {va : Value} (hd : decode cc pc = .ok (.pop, 1)) (hva : va.category = 1) (k : GG K E σ (pc + 1) lv (rest)) : GG K E σ pc lv (va :: rest) := fun H locs ls hW hS hl => lv_pop h.1 h.2.1 hd hva (k H locs ls hW hS hl)
theorem g_dup2 (h : Cx K E cc nL own f n) {va vb : Value} (hd : decode cc pc = .ok (.dup2, 1)) (hva : va.category = 1) (hvb : vb.category = 1) (k : GG K E σ (pc + 1) lv (va :: vb :: va :: vb :: rest)) : GG K E σ pc lv (va :: vb :: rest) := fun H locs ls hW hS hl => lv_dup2_11 h.1 h.2.1 hd hva hvb (k H locs ls hW hS hl)
theorem g_iconst (h : Cx K E cc nL own f n) {z : Int} {v : Int32} (hd : decode cc pc = .ok (.iconst z, 1)) (hv : Int32.ofInt z = v) (k : GG K E σ (pc + 1) lv (.int v :: rest)) : GG K E σ pc lv (rest) := fun H locs ls hW hS hl => lv_iconst h.1 h.2.1 hd hv (k H locs ls hW hS hl)
theorem g_bipush (h : Cx K E cc nL own f n) {z : Int} {v : Int32} (hd : decode cc pc = .ok (.bipush z, 2)) (hv : (Int8.ofInt z).toInt32 = v) (k : GG K E σ (pc + 2) lv (.int v :: rest)) : GG K E σ pc lv (rest) := fun H locs ls hW hS hl => lv_bipush h.1 h.2.1 hd hv (k H locs ls hW hS hl)
theorem g_sipush (h : Cx K E cc nL own f n) {z : Int} {v : Int32} (hd : decode cc pc = .ok (.sipush z, 3)) (hv : (Int16.ofInt z).toInt32 = v) (k : GG K E σ (pc + 3) lv (.int v :: rest)) : GG K E σ pc lv (rest) := fun H locs ls hW hS hl => lv_sipush h.1 h.2.1 hd hv (k H locs ls hW hS hl)
theorem g_lconst (h : Cx K E cc nL own f n) {z : Fin 2} {v : Int64} (hd : decode cc pc = .ok (.lconst z, 1)) (hv : Int64.ofNat (z : Nat) = v) (k : GG K E σ (pc + 1) lv (.long v :: rest)) : GG K E σ pc lv (rest) := fun H locs ls hW hS hl => lv_lconst h.1 h.2.1 hd hv (k H locs ls hW hS hl)
theorem g_iload_n (h : Cx K E cc nL own f n) {q : Fin 4} {x : Int32} (j : Nat) (hd : decode cc pc = .ok (.iload_n q, 1)) (hk : lv[j]? = some ((q : Nat), .int x)) (k : GG K E σ (pc + 1) lv (.int x :: rest)) : GG K E σ pc lv (rest) := fun H locs ls hW hS hl => lv_iload_n h.1 h.2.1 hd rfl (lv_at hl j hk) (k H locs ls hW hS hl)
theorem g_iload (h : Cx K E cc nL own f n) {q : Nat} {x : Int32} (j : Nat) (hd : decode cc pc = .ok (.iload q, 2)) (hk : lv[j]? = some (q, .int x)) (k : GG K E σ (pc + 2) lv (.int x :: rest)) : GG K E σ pc lv (rest) := fun H locs ls hW hS hl => lv_iload h.1 h.2.1 hd (lv_at hl j hk) (k H locs ls hW hS hl)
theorem g_lload_n (h : Cx K E cc nL own f n) {q : Fin 4} {x : Int64} (j : Nat) (hd : decode cc pc = .ok (.lload_n q, 1)) (hk : lv[j]? = some ((q : Nat), .long x)) (k : GG K E σ (pc + 1) lv (.long x :: rest)) : GG K E σ pc lv (rest) := fun H locs ls hW hS hl => lv_lload_n h.1 h.2.1 hd rfl (lv_at hl j hk) (k H locs ls hW hS hl)
theorem g_lload (h : Cx K E cc nL own f n) {q : Nat} {x : Int64} (j : Nat) (hd : decode cc pc = .ok (.lload q, 2)) (hk : lv[j]? = some (q, .long x)) (k : GG K E σ (pc + 2) lv (.long x :: rest)) : GG K E σ pc lv (rest) := fun H locs ls hW hS hl => lv_lload h.1 h.2.1 hd (lv_at hl j hk) (k H locs ls hW hS hl)
theorem g_aload_n (h : Cx K E cc nL own f n) {q : Fin 4} {x : Nat} (j : Nat) (hd : decode cc pc = .ok (.aload_n q, 1)) (hk : lv[j]? = some ((q : Nat), .ref x)) (k : GG K E σ (pc + 1) lv (.ref x :: rest)) : GG K E σ pc lv (rest) := fun H locs ls hW hS hl => lv_aload_n h.1 h.2.1 hd rfl (lv_at hl j hk) (k H locs ls hW hS hl)
theorem g_aload (h : Cx K E cc nL own f n) {q : Nat} {x : Nat} (j : Nat) (hd : decode cc pc = .ok (.aload q, 2)) (hk : lv[j]? = some (q, .ref x)) (k : GG K E σ (pc + 2) lv (.ref x :: rest)) : GG K E σ pc lv (rest) := fun H locs ls hW hS hl => lv_aload h.1 h.2.1 hd (lv_at hl j hk) (k H locs ls hW hS hl)
/-- a local is written; the list stays in the order of the places -/
def lset1 (lv : List (Nat × Value)) (i : Nat) (v : Value) : List (Nat × Value) := lv.filter (fun q => decide (q.1 < i) && !(q.1 + 1 == i && q.2.category == 2)) ++ (i, v) :: lv.filter (fun q => decide (i < q.1))
def lset2 (lv : List (Nat × Value)) (i : Nat) (v : Value) : List (Nat × Value) := lv.filter (fun q => decide (q.1 < i) && !(q.1 + 1 == i && q.2.category == 2)) ++ (i, v) :: lv.filter (fun q => decide (i + 1 < q.1))
theorem lset1_has {ls : Array Slot} {i : Nat} {v : Value} {m : Nat} (h : lv_has ls m ((i, v) :: lv.filter (fun q => !(q.1 == i) && !(q.1 + 1 == i && q.2.category == 2)))) : lv_has ls m (lset1 lv i v) := by
  refine ⟨h.1, h.2.1, fun q hq => h.2.2 q ?_⟩
  rcases List.mem_append.mp hq with hq | hq
  · obtain ⟨h1, h2⟩ := List.mem_filter.mp hq
    simp only [Bool.and_eq_true, decide_eq_true_eq] at h2
    refine List.mem_cons_of_mem _ (List.mem_filter.mpr ⟨h1, ?_⟩)
    rw [h2.2, Bool.and_true]
    have : ¬ q.1 = i := by omega
    simp [this]
  · rcases List.mem_cons.mp hq with hq | hq
    · rw [hq]; exact List.mem_cons_self
    · obtain ⟨h1, h2⟩ := List.mem_filter.mp hq
      simp only [decide_eq_true_eq] at h2
      refine List.mem_cons_of_mem _ (List.mem_filter.mpr ⟨h1, ?_⟩)
      have e1 : ¬ q.1 = i := by omega
      have e2 : ¬ q.1 + 1 = i := by omega
      simp [e1, e2]
theorem lset2_has {ls : Array Slot} {i : Nat} {v : Value} {m : Nat} (h : lv_has ls m ((i, v) :: lv.filter (fun q => !(q.1 == i) && (!(q.1 == i + 1) && !(q.1 + 1 == i && q.2.category == 2))))) : lv_has ls m (lset2 lv i v) := by
  refine ⟨h.1, h.2.1, fun q hq => h.2.2 q ?_⟩
  rcases List.mem_append.mp hq with hq | hq
  · obtain ⟨h1, h2⟩ := List.mem_filter.mp hq
    simp only [Bool.and_eq_true, decide_eq_true_eq] at h2
    refine List.mem_cons_of_mem _ (List.mem_filter.mpr ⟨h1, ?_⟩)
    rw [h2.2, Bool.and_true]
    have e1 : ¬ q.1 = i := by omega
    have e2 : ¬ q.1 = i + 1 := by omega
    simp [e1, e2]
  · rcases List.mem_cons.mp hq with hq | hq
    · rw [hq]; exact List.mem_cons_self
    · obtain ⟨h1, h2⟩ := List.mem_filter.mp hq
      simp only [decide_eq_true_eq] at h2
      refine List.mem_cons_of_mem _ (List.mem_filter.mpr ⟨h1, ?_⟩)
      have e1 : ¬ q.1 = i := by omega
      have e2 : ¬ q.1 + 1 = i := by omega
      have e3 : ¬ q.1 = i + 1 := by omega
      simp [e1, e2, e3]
theorem g_istore_n (h : Cx K E cc nL own f n) {q : Fin 4} {x : Int32} (lv' : List (Nat × Value)) (hd : decode cc pc = .ok (.istore_n q, 1)) (hn : (q : Nat) < nL) (hv : lset1 lv (q : Nat) (.int x) = lv') (k : GG K E σ (pc + 1) lv' rest) : GG K E σ pc lv (.int x :: rest) := by
  subst hv
  exact fun H locs ls hW hS hl => lv_istore_n h.1 h.2.1 hd rfl hl (by rw [h.2.2.1]; exact hn) rfl (fun ls2 hl2 => k H locs ls2 hW hS (lset1_has hl2))
theorem g_istore (h : Cx K E cc nL own f n) {q : Nat} {x : Int32} (lv' : List (Nat × Value)) (hd : decode cc pc = .ok (.istore q, 2)) (hn : q < nL) (hv : lset1 lv q (.int x) = lv') (k : GG K E σ (pc + 2) lv' rest) : GG K E σ pc lv (.int x :: rest) := by
  subst hv
  exact fun H locs ls hW hS hl => lv_istore h.1 h.2.1 hd hl (by rw [h.2.2.1]; exact hn) rfl (fun ls2 hl2 => k H locs ls2 hW hS (lset1_has hl2))
theorem g_lstore_n (h : Cx K E cc nL own f n) {q : Fin 4} {x : Int64} (lv' : List (Nat × Value)) (hd : decode cc pc = .ok (.lstore_n q, 1)) (hn : (q : Nat) + 1 < nL) (hv : lset2 lv (q : Nat) (.long x) = lv') (k : GG K E σ (pc + 1) lv' rest) : GG K E σ pc lv (.long x :: rest) := by
  subst hv
  exact fun H locs ls hW hS hl => lv_lstore_n h.1 h.2.1 hd rfl hl (by rw [h.2.2.1]; exact hn) rfl (fun ls2 hl2 => k H locs ls2 hW hS (lset2_has hl2))
theorem g_lstore (h : Cx K E cc nL own f n) {q : Nat} {x : Int64} (lv' : List (Nat × Value)) (hd : decode cc pc = .ok (.lstore q, 2)) (hn : q + 1 < nL) (hv : lset2 lv q (.long x) = lv') (k : GG K E σ (pc + 2) lv' rest) : GG K E σ pc lv (.long x :: rest) := by
  subst hv
  exact fun H locs ls hW hS hl => lv_lstore h.1 h.2.1 hd hl (by rw [h.2.2.1]; exact hn) rfl (fun ls2 hl2 => k H locs ls2 hW hS (lset2_has hl2))
theorem g_astore_n (h : Cx K E cc nL own f n) {q : Fin 4} {x : Nat} (lv' : List (Nat × Value)) (hd : decode cc pc = .ok (.astore_n q, 1)) (hn : (q : Nat) < nL) (hv : lset1 lv (q : Nat) (.ref x) = lv') (k : GG K E σ (pc + 1) lv' rest) : GG K E σ pc lv (.ref x :: rest) := by
  subst hv
  exact fun H locs ls hW hS hl => lv_astore_n h.1 h.2.1 hd rfl hl (by rw [h.2.2.1]; exact hn) rfl (fun ls2 hl2 => k H locs ls2 hW hS (lset1_has hl2))
theorem g_astore (h : Cx K E cc nL own f n) {q : Nat} {x : Nat} (lv' : List (Nat × Value)) (hd : decode cc pc = .ok (.astore q, 2)) (hn : q < nL) (hv : lset1 lv q (.ref x) = lv') (k : GG K E σ (pc + 2) lv' rest) : GG K E σ pc lv (.ref x :: rest) := by
  subst hv
  exact fun H locs ls hW hS hl => lv_astore h.1 h.2.1 hd hl (by rw [h.2.2.1]; exact hn) rfl (fun ls2 hl2 => k H locs ls2 hW hS (lset1_has hl2))
theorem g_iinc (h : Cx K E cc nL own f n) {q : Nat} {z : Int} {x v : Int32} (j : Nat) (lv' : List (Nat × Value)) (hd : decode cc pc = .ok (.iinc q z, 3)) (hk : lv[j]? = some (q, .int x)) (hx : x + Int32.ofInt z = v) (hn : q < nL) (hv : lset1 lv q (.int v) = lv') (k : GG K E σ (pc + 3) lv' rest) : GG K E σ pc lv rest := by
  subst hv
  exact fun H locs ls hW hS hl => lv_iinc h.1 h.2.1 hd hl hk hx (by rw [h.2.2.1]; exact hn) rfl (fun ls2 hl2 => k H locs ls2 hW hS (lset1_has hl2))
theorem g_if_eq (h : Cx K E cc nL own f n) {x : Int32} {off : Int} (tgt : Nat) (hd : decode cc pc = .ok (.ifCond .eq off, 3)) (ht : (pc : Int) + off = (tgt : Int)) (kt : x = 0 → GG K E σ tgt lv rest) (kf : ¬ x = 0 → GG K E σ (pc + 3) lv rest) : GG K E σ pc lv (.int x :: rest) := fun H locs ls hW hS hl => lv_if_eq h.1 h.2.1 hd ht (fun c => kt c H locs ls hW hS hl) (fun c => kf c H locs ls hW hS hl)
theorem g_if_ne (h : Cx K E cc nL own f n) {x : Int32} {off : Int} (tgt : Nat) (hd : decode cc pc = .ok (.ifCond .ne off, 3)) (ht : (pc : Int) + off = (tgt : Int)) (kt : ¬ x = 0 → GG K E σ tgt lv rest) (kf : x = 0 → GG K E σ (pc + 3) lv rest) : GG K E σ pc lv (.int x :: rest) := fun H locs ls hW hS hl => lv_if_ne h.1 h.2.1 hd ht (fun c => kt c H locs ls hW hS hl) (fun c => kf c H locs ls hW hS hl)
theorem g_if_lt (h : Cx K E cc nL own f n) {x : Int32} {off : Int} (tgt : Nat) (hd : decode cc pc = .ok (.ifCond .lt off, 3)) (ht : (pc : Int) + off = (tgt : Int)) (kt : x < 0 → GG K E σ tgt lv rest) (kf : ¬ x < 0 → GG K E σ (pc + 3) lv rest) : GG K E σ pc lv (.int x :: rest) := fun H locs ls hW hS hl => lv_if_lt h.1 h.2.1 hd ht (fun c => kt c H locs ls hW hS hl) (fun c => kf c H locs ls hW hS hl)
theorem g_if_ge (h : Cx K E cc nL own f n) {x : Int32} {off : Int} (tgt : Nat) (hd : decode cc pc = .ok (.ifCond .ge off, 3)) (ht : (pc : Int) + off = (tgt : Int)) (kt : 0 ≤ x → GG K E σ tgt lv rest) (kf : ¬ 0 ≤ x → GG K E σ (pc + 3) lv rest) : GG K E σ pc lv (.int x :: rest) := fun H locs ls hW hS hl => lv_if_ge h.1 h.2.1 hd ht (fun c => kt c H locs ls hW hS hl) (fun c => kf c H locs ls hW hS hl)
theorem g_if_gt (h : Cx K E cc nL own f n) {x : Int32} {off : Int} (tgt : Nat) (hd : decode cc pc = .ok (.ifCond .gt off, 3)) (ht : (pc : Int) + off = (tgt : Int)) (kt : 0 < x → GG K E σ tgt lv rest) (kf : ¬ 0 < x → GG K E σ (pc + 3) lv rest) : GG K E σ pc lv (.int x :: rest) := fun H locs ls hW hS hl => lv_if_gt h.1 h.2.1 hd ht (fun c => kt c H locs ls hW hS hl) (fun c => kf c H locs ls hW hS hl)
theorem g_if_le (h : Cx K E cc nL own f n) {x : Int32} {off : Int} (tgt : Nat) (hd : decode cc pc = .ok (.ifCond .le off, 3)) (ht : (pc : Int) + off = (tgt : Int)) (kt : x ≤ 0 → GG K E σ tgt lv rest) (kf : ¬ x ≤ 0 → GG K E σ (pc + 3) lv rest) : GG K E σ pc lv (.int x :: rest) := fun H locs ls hW hS hl => lv_if_le h.1 h.2.1 hd ht (fun c => kt c H locs ls hW hS hl) (fun c => kf c H locs ls hW hS hl)
theorem g_icmp_eq (h : Cx K E cc nL own f n) {x y : Int32} {off : Int} (tgt : Nat) (hd : decode cc pc = .ok (.if_icmp .eq off, 3)) (ht : (pc : Int) + off = (tgt : Int)) (kt : x = y → GG K E σ tgt lv rest) (kf : ¬ x = y → GG K E σ (pc + 3) lv rest) : GG K E σ pc lv (.int y :: .int x :: rest) := fun H locs ls hW hS hl => lv_icmp_eq h.1 h.2.1 hd ht (fun c => kt c H locs ls hW hS hl) (fun c => kf c H locs ls hW hS hl)
theorem g_ncmp_eq (h : Cx K E cc nL own f n) {a b : Nat} {off : Int} (tgt : Nat) (hd : decode cc pc = .ok (.if_icmp .eq off, 3)) (ht : (pc : Int) + off = (tgt : Int)) (ha : a < 2 ^ 31) (hb : b < 2 ^ 31) (kt : a = b → GG K E σ tgt lv rest) (kf : a ≠ b → GG K E σ (pc + 3) lv rest) : GG K E σ pc lv (.int (nI b) :: .int (nI a) :: rest) := g_icmp_eq h tgt hd ht (fun q => kt ((nI_eq ha hb).mp q)) (fun q => kf (fun e => q ((nI_eq ha hb).mpr e)))
theorem g_icmp_ne (h : Cx K E cc nL own f n) {x y : Int32} {off : Int} (tgt : Nat) (hd : decode cc pc = .ok (.if_icmp .ne off, 3)) (ht : (pc : Int) + off = (tgt : Int)) (kt : ¬ x = y → GG K E σ tgt lv rest) (kf : x = y → GG K E σ (pc + 3) lv rest) : GG K E σ pc lv (.int y :: .int x :: rest) := fun H locs ls hW hS hl => lv_icmp_ne h.1 h.2.1 hd ht (fun c => kt c H locs ls hW hS hl) (fun c => kf c H locs ls hW hS hl)
theorem g_ncmp_ne (h : Cx K E cc nL own f n) {a b : Nat} {off : Int} (tgt : Nat) (hd : decode cc pc = .ok (.if_icmp .ne off, 3)) (ht : (pc : Int) + off = (tgt : Int)) (ha : a < 2 ^ 31) (hb : b < 2 ^ 31) (kt : a ≠ b → GG K E σ tgt lv rest) (kf : a = b → GG K E σ (pc + 3) lv rest) : GG K E σ pc lv (.int (nI b) :: .int (nI a) :: rest) := g_icmp_ne h tgt hd ht (fun q => kt (fun e => q ((nI_eq ha hb).mpr e))) (fun q => kf ((nI_eq ha hb).mp q))
theorem g_icmp_lt (h : Cx K E cc nL own f n) {x y : Int32} {off : Int} (tgt : Nat) (hd : decode cc pc = .ok (.if_icmp .lt off, 3)) (ht : (pc : Int) + off = (tgt : Int)) (kt : x < y → GG K E σ tgt lv rest) (kf : ¬ x < y → GG K E σ (pc + 3) lv rest) : GG K E σ pc lv (.int y :: .int x :: rest) := fun H locs ls hW hS hl => lv_icmp_lt h.1 h.2.1 hd ht (fun c => kt c H locs ls hW hS hl) (fun c => kf c H locs ls hW hS hl)
theorem g_ncmp_lt (h : Cx K E cc nL own f n) {a b : Nat} {off : Int} (tgt : Nat) (hd : decode cc pc = .ok (.if_icmp .lt off, 3)) (ht : (pc : Int) + off = (tgt : Int)) (ha : a < 2 ^ 31) (hb : b < 2 ^ 31) (kt : a < b → GG K E σ tgt lv rest) (kf : b ≤ a → GG K E σ (pc + 3) lv rest) : GG K E σ pc lv (.int (nI b) :: .int (nI a) :: rest) := g_icmp_lt h tgt hd ht (fun q => kt ((nI_ltI ha hb).mp q)) (fun q => kf (Nat.not_lt.mp (fun e => q ((nI_ltI ha hb).mpr e))))
theorem g_icmp_ge (h : Cx K E cc nL own f n) {x y : Int32} {off : Int} (tgt : Nat) (hd : decode cc pc = .ok (.if_icmp .ge off, 3)) (ht : (pc : Int) + off = (tgt : Int)) (kt : y ≤ x → GG K E σ tgt lv rest) (kf : ¬ y ≤ x → GG K E σ (pc + 3) lv rest) : GG K E σ pc lv (.int y :: .int x :: rest) := fun H locs ls hW hS hl => lv_icmp_ge h.1 h.2.1 hd ht (fun c => kt c H locs ls hW hS hl) (fun c => kf c H locs ls hW hS hl)
theorem g_ncmp_ge (h : Cx K E cc nL own f n) {a b : Nat} {off : Int} (tgt : Nat) (hd : decode cc pc = .ok (.if_icmp .ge off, 3)) (ht : (pc : Int) + off = (tgt : Int)) (ha : a < 2 ^ 31) (hb : b < 2 ^ 31) (kt : b ≤ a → GG K E σ tgt lv rest) (kf : a < b → GG K E σ (pc + 3) lv rest) : GG K E σ pc lv (.int (nI b) :: .int (nI a) :: rest) := g_icmp_ge h tgt hd ht (fun q => kt ((nI_leI hb ha).mp q)) (fun q => kf (Nat.not_le.mp (fun e => q ((nI_leI hb ha).mpr e))))
theorem g_icmp_gt (h : Cx K E cc nL own f n) {x y : Int32} {off : Int} (tgt : Nat) (hd : decode cc pc = .ok (.if_icmp .gt off, 3)) (ht : (pc : Int) + off = (tgt : Int)) (kt : y < x → GG K E σ tgt lv rest) (kf : ¬ y < x → GG K E σ (pc + 3) lv rest) : GG K E σ pc lv (.int y :: .int x :: rest) := fun H locs ls hW hS hl => lv_icmp_gt h.1 h.2.1 hd ht (fun c => kt c H locs ls hW hS hl) (fun c => kf c H locs ls hW hS hl)
theorem g_ncmp_gt (h : Cx K E cc nL own f n) {a b : Nat} {off : Int} (tgt : Nat) (hd : decode cc pc = .ok (.if_icmp .gt off, 3)) (ht : (pc : Int) + off = (tgt : Int)) (ha : a < 2 ^ 31) (hb : b < 2 ^ 31) (kt : b < a → GG K E σ tgt lv rest) (kf : a ≤ b → GG K E σ (pc + 3) lv rest) : GG K E σ pc lv (.int (nI b) :: .int (nI a) :: rest) := g_icmp_gt h tgt hd ht (fun q => kt ((nI_ltI hb ha).mp q)) (fun q => kf (Nat.not_lt.mp (fun e => q ((nI_ltI hb ha).mpr e))))
theorem g_icmp_le (h : Cx K E cc nL own f n) {x y : Int32} {off : Int} (tgt : Nat) (hd : decode cc pc = .ok (.if_icmp .le off, 3)) (ht : (pc : Int) + off = (tgt : Int)) (kt : x ≤ y → GG K E σ tgt lv rest) (kf : ¬ x ≤ y → GG K E σ (pc + 3) lv rest) : GG K E σ pc lv (.int y :: .int x :: rest) := fun H locs ls hW hS hl => lv_icmp_le h.1 h.2.1 hd ht (fun c => kt c H locs ls hW hS hl) (fun c => kf c H locs ls hW hS hl)
theorem g_ncmp_le (h : Cx K E cc nL own f n) {a b : Nat} {off : Int} (tgt : Nat) (hd : decode cc pc = .ok (.if_icmp .le off, 3)) (ht : (pc : Int) + off = (tgt : Int)) (ha : a < 2 ^ 31) (hb : b < 2 ^ 31) (kt : a ≤ b → GG K E σ tgt lv rest) (kf : b < a → GG K E σ (pc + 3) lv rest) : GG K E σ pc lv (.int (nI b) :: .int (nI a) :: rest) := g_icmp_le h tgt hd ht (fun q => kt ((nI_leI ha hb).mp q)) (fun q => kf (Nat.not_le.mp (fun e => q ((nI_leI ha hb).mpr e))))
theorem g_goto (h : Cx K E cc nL own f n) {off : Int} (tgt : Nat) (hd : decode cc pc = .ok (.goto off, 3)) (ht : (pc : Int) + off = (tgt : Int)) (k : GG K E σ tgt lv rest) : GG K E σ pc lv rest := fun H locs ls hW hS hl => lv_goto h.1 h.2.1 hd ht (k H locs ls hW hS hl)
theorem g_tabIn (h : Cx K E cc nL own f n) {dflt lo hi : Int} {offs : Array Int} {len : Nat} {x : Int32} {off : Int} (tgt : Nat) (hd : decode cc pc = .ok (.tableswitch dflt lo hi offs, len)) (h1 : ¬ x.toInt < lo) (h2 : ¬ hi < x.toInt) (ho : offs[(x.toInt - lo).toNat]? = some off) (ht : (pc : Int) + off = (tgt : Int)) (k : GG K E σ tgt lv rest) : GG K E σ pc lv (.int x :: rest) := fun H locs ls hW hS hl => lv_tableIn h.1 h.2.1 hd h1 h2 ho ht (k H locs ls hW hS hl)
theorem g_tabOut (h : Cx K E cc nL own f n) {dflt lo hi : Int} {offs : Array Int} {len : Nat} {x : Int32} (tgt : Nat) (hd : decode cc pc = .ok (.tableswitch dflt lo hi offs, len)) (hx : x.toInt < lo ∨ hi < x.toInt) (ht : (pc : Int) + dflt = (tgt : Int)) (k : GG K E σ tgt lv rest) : GG K E σ pc lv (.int x :: rest) := fun H locs ls hW hS hl => lv_tableOut h.1 h.2.1 hd hx ht (k H locs ls hW hS hl)
theorem g_ldc2 (h : Cx K E cc nL own f n) {index : Nat} {v : Int64} (hw : Cond.constantLong own index v ∈ gtb) (hd : decode cc pc = .ok (.ldc2_w index, 3)) (k : GG K E σ (pc + 3) lv (.long v :: rest)) : GG K E σ pc lv rest := fun H locs ls hW hS hl => lv_ldc2 h.1 h.2.1 h.2.2.2.1 (h.2.2.2.2.1 _ hw) hd (k H locs ls hW hS hl)
theorem g_top {x : Int32} (k : ∀ y : Int32, y = x → GG K E σ pc lv (.int y :: rest)) : GG K E σ pc lv (.int x :: rest) := k x rfl
theorem g_is {x : Int32} (y : Int32) (e : x = y) (k : GG K E σ pc lv (.int y :: rest)) : GG K E σ pc lv (.int x :: rest) := e ▸ k
theorem g_isl {x : Int64} (y : Int64) (e : x = y) (k : GG K E σ pc lv (.long y :: rest)) : GG K E σ pc lv (.long x :: rest) := e ▸ k
theorem g_st (σ' : ST) (e : σ = σ') (k : GG K E σ' pc lv rest) : GG K E σ pc lv rest := e ▸ k
theorem g_sub (lv' : List (Nat × Value)) (is : List Nat) (e : lv_pick lv is = lv') (k : GG K E σ pc lv' rest) : GG K E σ pc lv rest := fun H locs ls hW hS hl => k H locs ls hW hS (lv_sub hl is e)
theorem g_get (h : Cx K E cc nL own f n) (k i j : Nat) (hok : okK k i j) {ci : Nat} {fs : List Value} (he : enc E σ k i j = .inr (ci, fs)) {C : String} {T : u_T} {N : Nat} (hc : vwCl[ci]? = some (C, T, N)) (hin : ∀ w ∈ u_ws C T N, w ∈ gtb) (q : Nat) (hq : q < N) {index : Nat} (hl : Cond.fieldLink own index (T q).1 (T q).2.1 (T q).2.2.1 ∈ gtb) {v : Value} (hv : fs[q]? = some v) (hd : decode cc pc = .ok (.getfield index, 3)) (kk : GG K E σ (pc + 3) lv (v :: rest)) : GG K E σ pc lv (.ref (ad E k i j) :: rest) := fun H locs ls hW hS hl2 =>
  va_get (D := eD E) (cl := vwCl) h.1 h.2.1 h.2.2.2.2.1 hin h.2.2.2.1 h.2.2.2.2.2.1 (hW.one hok he) 0 rfl hc q hq (h.2.2.2.2.1 _ hl) (fun _ z => z) hv hd (kk H locs ls hW hS hl2)
theorem g_put (h : Cx K E cc nL own f n) (k i j : Nat) (hok : okK k i j) {ci : Nat} {fs : List Value} (he : enc E σ k i j = .inr (ci, fs)) {C : String} {T : u_T} {N : Nat} (hc : vwCl[ci]? = some (C, T, N)) (hin : ∀ w ∈ u_ws C T N, w ∈ gtb) (ty0 : Nat → FieldType) (hty : ∀ k, k < N → parseFieldDescriptor (T k).2.2.1 = some (ty0 k)) (hnm : ∀ a, a < N → ∀ b, b < N → a ≠ b → (T a).2.1 ≠ (T b).2.1) (q : Nat) (hq : q < N) {index : Nat} (hl : Cond.fieldLink own index (T q).1 (T q).2.1 (T q).2.2.1 ∈ gtb) (hfin : (T q).2.2.2 = false) (hd0 : parseFieldDescriptor (T q).2.2.1 = some .int) {x : Int32} (hlen : q < fs.length)
    {σ' : ST} (h1 : enc E σ' k i j = .inr (ci, fs.set q (.int x))) (h2 : ∀ k' i' j', okK k' i' j' → ¬ (k' = k ∧ i' = i ∧ j' = j) → enc E σ' k' i' j' = enc E σ k' i' j') (hd : decode cc pc = .ok (.putfield index, 3)) (kk : GG K E σ' (pc + 3) lv rest) : GG K E σ pc lv (.int x :: .ref (ad E k i j) :: rest) := by
  intro H locs ls hW hS hl2
  have hP := hW.one hok he
  have hap := va_apart (own := own) h.2.2.2.2.1 hin ty0 hty hnm h.2.2.2.2.2.1 hc
  obtain ⟨r, g1, cell, q1, q2, q3, q4⟩ := hP 0 _ rfl
  have hr : r = (C, T, N) := Option.some.inj (g1.symm.trans hc)
  subst hr
  obtain ⟨hSl, hfc, kC, hkC, hkind⟩ := h.2.2.2.2.2.1.1 ci _ hc
  obtain ⟨cf, kf, fi, fd, hi, hsl⟩ := hSl q hq
  have hlay := h.2.2.2.2.1 _ (hin _ (u_in_lay hq))
  unfold u_lay at hlay
  rw [if_neg (by rw [hfin]; decide)] at hlay
  have hst := (u_facts hfc hkC (u_lays h.2.2.2.2.1 hin hq) hi).1
  have h6 := u_store hfc hkC hkind hlay hi hd0 (v := .int x) rfl rfl
  refine W.putK h.1 h.2.1 (f := fd) ⟨h.2.2.2.1, h.2.2.2.2.1 _ hl, ⟨_, _, _, hi⟩, hst⟩ (by rw [q2]; exact h6) q1 q3 (by rw [hsl]; exact k2_hasslot (q4 q hq)) rfl rfl hd fun H' e1 e2 e3 => ?_
  rw [hsl] at e1 ⊢
  exact kk H' _ ls (hW.put (e := .inr (ci, fs.set q (.int x))) h.2.2.2.2.2.2.1 hok ⟨_, hc, t_OB.to (V := updV (vp_V fs) q (.int x)) ⟨_, e1, q2, q3, t_set q4 hap hq (.int x)⟩ (fun j _ => vp_updV_set hlen (.int x) j)⟩ e3 h1 h2) (hS.put e2 e3 ⟨k, i, j, hok, rfl⟩) hl2
theorem g_iald (h : Cx K E cc nL own f n) (k i j : Nat) (hok : okK k i j) {N : Nat} {fn : Nat → Int32} (he : enc E σ k i j = .inl (eI E, N, .inl fn)) (t : Nat) (ht : t < N) (hN : N < 2 ^ 31) (hd : decode cc pc = .ok (.iaload, 1)) (kk : GG K E σ (pc + 1) lv (.int (fn t) :: rest)) : GG K E σ pc lv (.int (nI t) :: .ref (ad E k i j) :: rest) := fun H locs ls hW hS hl2 => by
  refine va_iald (D := eD E) (cl := vwCl) h.1 h.2.1 h.2.2.2.2.2.1 (hW.one hok he) 0 0 rfl rfl (vp_in_nI ht hN) hd ?_
  rw [nI_clamp (by omega)]
  exact kk H locs ls hW hS hl2
theorem g_zald (h : Cx K E cc nL own f n) (k i j : Nat) (hok : okK k i j) {N : Nat} {fn : Nat → Int32} (he : enc E σ k i j = .inl (eZ E, N, .inl fn)) (t : Nat) (ht : t < N) (hN : N < 2 ^ 31) (hd : decode cc pc = .ok (.baload, 1)) (kk : GG K E σ (pc + 1) lv (.int (fn t) :: rest)) : GG K E σ pc lv (.int (nI t) :: .ref (ad E k i j) :: rest) := fun H locs ls hW hS hl2 => by
  refine va_zald (D := eD E) (cl := vwCl) h.1 h.2.1 h.2.2.2.2.2.1 (hW.one hok he) 0 1 rfl rfl (vp_in_nI ht hN) hd ?_
  rw [nI_clamp (by omega)]
  exact kk H locs ls hW hS hl2
theorem g_aald (h : Cx K E cc nL own f n) (k i j : Nat) (hok : okK k i j) {N : Nat} {fn : Nat → Option Nat} (he : enc E σ k i j = .inl (eO E, N, .inr (.inr (.inr (.inr fn))))) (t : Nat) (ht : t < N) (hN : N < 2 ^ 31) (hd : decode cc pc = .ok (.aaload, 1)) (kk : GG K E σ (pc + 1) lv (va_rf (fn t) :: rest)) : GG K E σ pc lv (.int (nI t) :: .ref (ad E k i j) :: rest) := fun H locs ls hW hS hl2 => by
  refine va_aldq (D := eD E) (cl := vwCl) (C := "LetterFabric$Fabric") h.1 h.2.1 h.2.2.2.2.2.1 (hW.one hok he) 0 2 rfl rfl (vp_in_nI ht hN) hd ?_
  rw [nI_clamp (by omega)]
  exact kk H locs ls hW hS hl2
theorem g_iast (h : Cx K E cc nL own f n) (k i j : Nat) (hok : okK k i j) {N : Nat} {fn : Nat → Int32} (he : enc E σ k i j = .inl (eI E, N, .inl fn)) (t : Nat) (ht : t < N) (hN : N < 2 ^ 31) {x : Int32} {σ' : ST} (h1 : enc E σ' k i j = .inl (eI E, N, .inl (upd fn t x))) (h2 : ∀ k' i' j', okK k' i' j' → ¬ (k' = k ∧ i' = i ∧ j' = j) → enc E σ' k' i' j' = enc E σ k' i' j') (hd : decode cc pc = .ok (.iastore, 1)) (kk : GG K E σ' (pc + 1) lv rest) : GG K E σ pc lv (.int x :: .int (nI t) :: .ref (ad E k i j) :: rest) := by
  intro H locs ls hW hS hl2
  have hP := hW.one hok he
  refine W.iast h.1 h.2.1 (hP 0 _ rfl) ((h.2.2.2.2.2.1.2 0 _ rfl).1 N (fun j => .int (fn j))) (fun q => by cases q) (by show ¬ (nI t < 0 ∨ (arrV _ _ _).slots.size ≤ _); rw [arrV_size]; exact vp_in_nI ht hN) rfl rfl hd fun H1 e z oq => ?_
  refine kk H1 _ ls (hW.put h.2.2.2.2.2.2.1 hok ?_ oq h1 h2) (hS.put z oq ⟨k, i, j, hok, rfl⟩) hl2
  show H1[ad E k i j]? = some (vp_cell _ _)
  rw [e, nI_clamp (by omega), vp_cell_i, vp_cell_i, arrV_store]
  congr 2
  funext q
  by_cases hq : q = t
  · subst hq
    simp [updV, upd]
  · simp [updV, upd, hq]
theorem g_zast (h : Cx K E cc nL own f n) (k i j : Nat) (hok : okK k i j) {N : Nat} {fn : Nat → Int32} (he : enc E σ k i j = .inl (eZ E, N, .inl fn)) (t : Nat) (ht : t < N) (hN : N < 2 ^ 31) {x : Int32} (hx : narrow .boolean (.int x) = .int x) {σ' : ST} (h1 : enc E σ' k i j = .inl (eZ E, N, .inl (upd fn t x))) (h2 : ∀ k' i' j', okK k' i' j' → ¬ (k' = k ∧ i' = i ∧ j' = j) → enc E σ' k' i' j' = enc E σ k' i' j') (hd : decode cc pc = .ok (.bastore, 1)) (kk : GG K E σ' (pc + 1) lv rest) : GG K E σ pc lv (.int x :: .int (nI t) :: .ref (ad E k i j) :: rest) := by
  intro H locs ls hW hS hl2
  have hP := hW.one hok he
  refine W.zast h.1 h.2.1 (hP 0 _ rfl) ((h.2.2.2.2.2.1.2 1 _ rfl).1 N (fun j => .int (fn j))) (fun q => by cases q) (by show ¬ (nI t < 0 ∨ (arrV _ _ _).slots.size ≤ _); rw [arrV_size]; exact vp_in_nI ht hN) rfl rfl hd fun H1 e z oq => ?_
  refine kk H1 _ ls (hW.put h.2.2.2.2.2.2.1 hok ?_ oq h1 h2) (hS.put z oq ⟨k, i, j, hok, rfl⟩) hl2
  show H1[ad E k i j]? = some (vp_cell _ _)
  rw [e, nI_clamp (by omega), vp_cell_i, vp_cell_i, arrV_store]
  congr 2
  funext q
  by_cases hq : q = t
  · subst hq
    simp [updV, upd, hx]
  · simp [updV, upd, hq]
theorem va_cpy0 {α : Type} {fs gs : Nat → α} {m j : Nat} : va_cpy fs gs 0 0 m j = if j < m then fs j else gs j := by
  by_cases h : j < m
  · rw [if_pos h]; simp [va_cpy, h]
  · rw [if_neg h]; simp [va_cpy, h]
theorem g_copy (h : Cx K E cc nL own f n) (k i j k0 i0 j0 : Nat) (hok : okK k i j) (hok0 : okK k0 i0 j0) (hne : ¬ (k0 = k ∧ i0 = i ∧ j0 = j)) {N N0 : Nat} {fn f0 : Nat → Int32} (he : enc E σ k i j = .inl (eI E, N, .inl fn)) (he0 : enc E σ k0 i0 j0 = .inl (eI E, N0, .inl f0)) (t : Nat) (ht : t ≤ N) (ht0 : t ≤ N0) (hN : N < 2 ^ 31) {index : Nat} (hlk : Cond.methodLink own index arraycopyName ∈ gtb) (hfr : 1 ≤ f) (hlo : 40 ≤ n) (hnil : (rest.map fun v => v.category).sum ≤ 8) {σ' : ST} (h1 : enc E σ' k i j = .inl (eI E, N, .inl (fun m => if m < t then f0 m else fn m))) (h2 : ∀ k' i' j', okK k' i' j' → ¬ (k' = k ∧ i' = i ∧ j' = j) → enc E σ' k' i' j' = enc E σ k' i' j') (hd : decode cc pc = .ok (.invokestatic index, 3)) (kk : GG K E σ' (pc + 3) lv rest) : GG K E σ pc lv (.int (nI t) :: .int 0 :: .ref (ad E k i j) :: .int 0 :: .ref (ad E k0 i0 j0) :: rest) := by
  intro H locs ls hW hS hl2
  have had : ad E k0 i0 j0 ≠ ad E k i j := fun q => hne (h.2.2.2.2.2.2.1 _ _ _ _ _ _ hok0 hok q)
  have hP0 := hW.one hok0 he0
  have hP1 := hW.one hok he
  have hc0 : (0 : Int32).toNatClampNeg = 0 := by decide
  have hnn : ∀ z : Int32, ¬ z < 0 → z.toInt = (z.toNatClampNeg : Int) := by
    intro z hz
    have hz0 : (0 : Int) ≤ z.toInt := by
      have := Int32.not_lt.mp hz
      simpa using Int32.le_iff_toInt_le.mp this
    show z.toInt = ((z.toInt.toNat : Nat) : Int)
    omega
  have htc : (nI t).toNatClampNeg = t := nI_clamp (by omega)
  have htI : (nI t).toInt = (t : Int) := nI_toInt (by omega)
  have hroom : 2 * (F0 (km K) pc ls (.int (nI t) :: .int 0 :: .ref (ad E k i j) :: .int 0 :: .ref (ad E k0 i0 j0) :: rest)).monitorRoom + (rest.map fun v => v.category).sum + (nativeFrameWords "java/lang/System" "arraycopy" 5 + 11) ≤ (kR K).locals := by
    have e1 : nativeFrameWords "java/lang/System" "arraycopy" 5 + 11 ≤ 32 := by decide +kernel
    have e2 := h.2.2.2.2.2.2.2.2.1
    show 2 * 0 + _ + _ ≤ _
    omega
  intro T hT X
  have hc0' : H[ad E k0 i0 j0]? = some (vp_cell (eI E) (N0, .inl f0)) := hP0 0 _ rfl
  have hc1' : H[ad E k i j]? = some (vp_cell (eI E) (N, .inl fn)) := hP1 0 _ rfl
  obtain ⟨-, kA, hkA, cmA, hkkA⟩ := (h.2.2.2.2.2.1.2 0 _ rfl).1 N0 (fun j => .int (f0 j))
  obtain ⟨vm', X', step⟩ := X.arraycopy h.1 h.2.2.2.1 (h.2.2.2.2.1 _ hlk) (h.2.2.2.2.1 _ nat_arraycopy) (h.2.2.2.2.1 _ sm_arraycopy) (h.2.2.2.2.1 _ ini_J10) (src := ad E k0 i0 j0) (dst := ad E k i j) (cs := vp_cell (eI E) (N0, .inl f0)) (cd := vp_cell (eI E) (N, .inl fn)) (srcPos := 0) (destPos := 0) (n := nI t) (by rw [hT]; exact hc0') (by rw [hT]; exact hc1')
    (fun _ h => by cases h) (fun _ h => by cases h) (fun h => by cases h) (fun h => by cases h) hkA hkA hkkA hkkA (by simp [refKind]) (by decide) (by decide) (nI_pos (by omega))
    (by rw [htI]; show ¬ _ > ((arrV (eI E) N0 (fun j => .int (f0 j))).slots.size : Int); rw [arrV_size, show (0 : Int32).toInt = 0 from rfl]; omega)
    (by rw [htI]; show ¬ _ > ((arrV (eI E) N (fun j => .int (fn j))).slots.size : Int); rw [arrV_size, show (0 : Int32).toInt = 0 from rfl]; omega)
    (fun vm₁ _ i hi => by
      have e : (vp_cell (eI E) (N0, .inl f0)).slots.getD ((0 : Int32).toNatClampNeg + i) .null = .int (f0 ((0 : Int32).toNatClampNeg + i)) := by
        show (arrV (eI E) N0 (fun j => .int (f0 j))).slots.getD _ _ = _
        rw [Array.getD_eq_getD_getElem?, arrV_read _ _ (by rw [hc0]; omega)]
        rfl
      refine ⟨?_, ?_⟩
      · rw [e]; rfl
      · rw [e]; exact trivial)
    (g := F0 (km K) pc ls (.int (nI t) :: .int 0 :: .ref (ad E k i j) :: .int 0 :: .ref (ad E k0 i0 j0) :: rest)) rfl hl2.1 (rest := rest) rfl (by rw [h.2.1]; exact hd) (Nat.le_trans hfr h.2.2.2.2.2.2.2.1) hroom
  have e1 : copied (vp_cell (eI E) (N0, .inl f0)) (vp_cell (eI E) (N, .inl fn)) 0 0 (nI t) = vp_cell (eI E) (N, .inl (va_cpy f0 fn (0 : Int32).toNatClampNeg (0 : Int32).toNatClampNeg (nI t).toNatClampNeg)) := va_copied (fun z => .int z) (eI E) (eI E) f0 fn (by rw [hc0, htc]; omega)
  rw [hc0, htc] at e1
  have e2 : (va_cpy f0 fn 0 0 t) = fun m => if m < t then f0 m else fn m := funext fun m => va_cpy0
  rw [e2] at e1
  rw [e1] at X' step
  have hlt : ad E k i j < H.size := (Array.getElem?_eq_some_iff.mp hc1').1
  have hheap : ((T.setVm vm').setCell (ad E k i j) (vp_cell (eI E) (N, .inl (fun m => if m < t then f0 m else fn m)))).heap = H.setIfInBounds (ad E k i j) (vp_cell (eI E) (N, .inl (fun m => if m < t then f0 m else fn m))) := by rw [← hT]; rfl
  have oq : ∀ q : Nat, q ≠ ad E k i j → (H.setIfInBounds (ad E k i j) (vp_cell (eI E) (N, .inl (fun m => if m < t then f0 m else fn m))))[q]? = H[q]? := fun q hq => by simp [Array.getElem?_setIfInBounds, Ne.symm hq]
  obtain ⟨t2, a1, b1⟩ := kk _ _ ls (hW.put (e := .inl (eI E, N, .inl (fun m => if m < t then f0 m else fn m))) h.2.2.2.2.2.2.1 hok (show (H.setIfInBounds (ad E k i j) _)[ad E k i j]? = some _ by simp [Array.getElem?_setIfInBounds, hlt]) oq h1 h2) ⟨by simp; exact hS.1, fun q g1 g2 => by
      rw [oq q (fun e => g2 (by rw [e]; exact ⟨k, i, j, hok, rfl⟩))]
      exact hS.2.1 q g1 g2, fun q hq => by
      rcases List.mem_append.mp hq with h | h
      · exact hS.2.2 q h
      · obtain ⟨z, -, hz⟩ := List.mem_map.mp h
        rw [← hz]
        exact ⟨k, i, j, hok, rfl⟩⟩ hl2 _ hheap X'
  exact ⟨t2, step t2 a1, b1⟩

end RL
