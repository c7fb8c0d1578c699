section RN2
variable {K : KX} {E : EnvT} {cc : ByteArray} {nL : Nat} {own : String} {f n : Nat} {σ : ST} {pc : Nat} {lv : List (Nat × Value)} {rest : List Value}
theorem nI_z {a : Nat} (ha : a < 2 ^ 31) : nI a = 0 ↔ a = 0 := by
  have := nI_eq ha (b := 0) (by decide)
  exact this
theorem g_nif_eq (h : Cx K E cc nL own f n) {a : Nat} {off : Int} (tgt : Nat) (hd : decode cc pc = .ok (.ifCond .eq off, 3)) (ht : (pc : Int) + off = (tgt : Int)) (ha : a < 2 ^ 31) (kt : a = 0 → GG K E σ tgt lv rest) (kf : 0 < a → GG K E σ (pc + 3) lv rest) : GG K E σ pc lv (.int (nI a) :: rest) :=
  g_if_eq h tgt hd ht (fun q => kt ((nI_z ha).mp q)) (fun q => kf (Nat.pos_of_ne_zero (fun e => q ((nI_z ha).mpr e))))
theorem g_nif_ne (h : Cx K E cc nL own f n) {a : Nat} {off : Int} (tgt : Nat) (hd : decode cc pc = .ok (.ifCond .ne off, 3)) (ht : (pc : Int) + off = (tgt : Int)) (ha : a < 2 ^ 31) (kt : 0 < a → GG K E σ tgt lv rest) (kf : a = 0 → GG K E σ (pc + 3) lv rest) : GG K E σ pc lv (.int (nI a) :: rest) :=
  g_if_ne h tgt hd ht (fun q => kt (Nat.pos_of_ne_zero (fun e => q ((nI_z ha).mpr e)))) (fun q => kf ((nI_z ha).mp q))
theorem g_nif_le (h : Cx K E cc nL own f n) {a : Nat} {off : Int} (tgt : Nat) (hd : decode cc pc = .ok (.ifCond .le off, 3)) (ht : (pc : Int) + off = (tgt : Int)) (ha : a < 2 ^ 31) (kt : a = 0 → GG K E σ tgt lv rest) (kf : 0 < a → GG K E σ (pc + 3) lv rest) : GG K E σ pc lv (.int (nI a) :: rest) :=
  g_if_le h tgt hd ht (fun q => kt (by rcases Nat.eq_zero_or_pos a with e | e; exact e; exact absurd q (nI_nle e ha))) (fun q => kf (Nat.pos_of_ne_zero (fun e => q (by rw [e, nI_0]; decide))))
theorem g_nif_gt (h : Cx K E cc nL own f n) {a : Nat} {off : Int} (tgt : Nat) (hd : decode cc pc = .ok (.ifCond .gt off, 3)) (ht : (pc : Int) + off = (tgt : Int)) (ha : a < 2 ^ 31) (kt : 0 < a → GG K E σ tgt lv rest) (kf : a = 0 → GG K E σ (pc + 3) lv rest) : GG K E σ pc lv (.int (nI a) :: rest) :=
  g_if_gt h tgt hd ht (fun q => kt (Nat.pos_of_ne_zero (fun e => by rw [e, nI_0] at q; exact absurd q (by decide)))) (fun q => kf (by rcases Nat.eq_zero_or_pos a with e | e; exact e; exact absurd (i_le q) (nI_nle e ha)))
theorem g_nif_lt (h : Cx K E cc nL own f n) {a : Nat} {off : Int} (tgt : Nat) (hd : decode cc pc = .ok (.ifCond .lt off, 3)) (ht : (pc : Int) + off = (tgt : Int)) (ha : a < 2 ^ 31) (kt : False → GG K E σ tgt lv rest) (kf : True → GG K E σ (pc + 3) lv rest) : GG K E σ pc lv (.int (nI a) :: rest) :=
  g_if_lt h tgt hd ht (fun q => kt (nI_pos ha q)) (fun _ => kf trivial)
theorem g_nif_ge (h : Cx K E cc nL own f n) {a : Nat} {off : Int} (tgt : Nat) (hd : decode cc pc = .ok (.ifCond .ge off, 3)) (ht : (pc : Int) + off = (tgt : Int)) (ha : a < 2 ^ 31) (kt : True → GG K E σ tgt lv rest) (kf : False → GG K E σ (pc + 3) lv rest) : GG K E σ pc lv (.int (nI a) :: rest) :=
  g_if_ge h tgt hd ht (fun _ => kt trivial) (fun q => kf (q (nI_pos' ha)))
theorem g_cpyF (h : Cx K E cc nL own f n) (i j w : Nat) (hi : i < 14) (hj : j < 14) (hw : w < 8) (hne : j ≠ i) (t : Nat) (ht : t ≤ flen w) {index : Nat} (hlk : Cond.methodLink own index arraycopyName ∈ gtb) (hfr : 1 ≤ f) (hlo : 40 ≤ n) (hnil : (rest.map fun v => v.category).sum ≤ 8) (hd : decode cc pc = .ok (.invokestatic index, 3)) (kk : ∀ σ', σ' = sF σ i ((σ.1 i).1, (σ.1 i).2.1, va_up (σ.1 i).2.2 w (fun m => if m < t then (σ.1 j).2.2 w m else (σ.1 i).2.2 w m)) → GG K E σ' (pc + 3) lv rest) : GG K E σ pc lv (.int (nI t) :: .int 0 :: .ref (ad E 2 i w) :: .int 0 :: .ref (ad E 2 j w) :: rest) :=
  g_copy h 2 i w 2 j w (ok_A hi hw) (ok_A hj hw) (fun q => hne q.2.1) rfl rfl t ht ht (flen_lt w) hlk hfr hlo hnil (by simp [enc, sF, up_s]) enc_F_a hd (kk _ rfl)
theorem g_cpyR (h : Cx K E cc nL own f n) (r q : Nat) (hr : r < 16) (hq : q < 16) (hne : q ≠ r) (t : Nat) (ht : t ≤ 64) {index : Nat} (hlk : Cond.methodLink own index arraycopyName ∈ gtb) (hfr : 1 ≤ f) (hlo : 40 ≤ n) (hnil : (rest.map fun v => v.category).sum ≤ 8) (hd : decode cc pc = .ok (.invokestatic index, 3)) (kk : ∀ σ', σ' = sR σ r ((fun m => if m < t then (σ.2.1 q).1 m else (σ.2.1 r).1 m), (σ.2.1 r).2) → GG K E σ' (pc + 3) lv rest) : GG K E σ pc lv (.int (nI t) :: .int 0 :: .ref (ad E 4 r 0) :: .int 0 :: .ref (ad E 4 q 0) :: rest) := by
  refine g_copy h 4 r 0 4 q 0 (ok_N hr) (ok_N hq) (fun z => hne z.2.1) rfl rfl t ht ht (by decide) hlk hfr hlo hnil (σ' := sR σ r ((fun m => if m < t then (σ.2.1 q).1 m else (σ.2.1 r).1 m), (σ.2.1 r).2)) ?_ enc_R_n hd (kk _ rfl)
  simp only [enc, sR, up_s]
  congr 3
  congr 1
  funext z
  by_cases e : z < t <;> simp [e]
end RN2
def cpR (A B : RowT) : RowT := ((fun m => if m < B.2 then B.1 m else A.1 m), B.2)
set_option maxHeartbeats 4000000 in
theorem c_X2_becomes (l : Launch) {E : EnvT} (hE : EOK E) {σ : ST} (r q : Nat) (hr : r < 16) (hq : q < 16) (hne : q ≠ r) (hQ : (σ.2.1 q).2 ≤ 64) : Con l E yX2_becomes cX2_becomes 2 none 1 40 [.ref (ad E 3 r 0), .ref (ad E 3 q 0)] σ (rV (sR σ r (cpR (σ.2.1 r) (σ.2.1 q)))) := by
  refine con_intro hE (by decide) (Nat.le_of_ble_eq_true rfl) (fun K hkl h hR => ?_)
  subst hkl
  have h : Cx K E cX2_becomes 2 RX2 1 40 := h
  show GG K E σ 0 [(0, .ref (ad E 3 r 0)), (1, .ref (ad E 3 q 0))] []
  refine g_aload_n h (q := 1) 1 dX2_becomes_0 rfl ?_
  refine g_get h 3 q 0 (ok_R hq) rfl rfl uin_X2 0 (by decide) fl_X2_9 rfl dX2_becomes_1 ?_
  refine g_iconst h (v := 0) dX2_becomes_4 (by decide) ?_
  refine g_aload_n h (q := 0) 0 dX2_becomes_5 rfl ?_
  refine g_get h 3 r 0 (ok_R hr) rfl rfl uin_X2 0 (by decide) fl_X2_9 rfl dX2_becomes_6 ?_
  refine g_iconst h (v := 0) dX2_becomes_9 (by decide) ?_
  refine g_aload_n h (q := 1) 1 dX2_becomes_10 rfl ?_
  refine g_get h 3 q 0 (ok_R hq) rfl rfl uin_X2 1 (by decide) fl_X2_15 rfl dX2_becomes_11 ?_
  refine g_cpyR h r q hr hq hne ((σ.2.1 q).2) (by omega) ml_X2_19 (by decide) (by decide) (by decide) dX2_becomes_14 (fun σ1 hσ1 => ?_)
  refine g_aload_n h (q := 0) 0 dX2_becomes_17 rfl ?_
  refine g_aload_n h (q := 1) 1 dX2_becomes_18 rfl ?_
  refine g_get h 3 q 0 (ok_R hq) rfl rfl uin_X2 1 (by decide) fl_X2_15 rfl dX2_becomes_19 ?_
  refine g_putRs h r hr (m := (σ1.2.1 q).2) fl_X2_15 dX2_becomes_22 (fun σ2 hσ2 => ?_)
  exact g_vret h hR dX2_becomes_25 (show rV _ _ _ from ⟨rfl, by subst hσ2 hσ1; simp [sR, up_s, bx_uu, up_n hne, cpR]⟩)
def cpF (A B : FabT) : FabT := ((fun w => if w < 4 then B.1 w else A.1 w), B.2.1, fun w m => if (w < 7 ∧ m < B.2.1) ∨ (w = 7 ∧ m < 5) then B.2.2 w m else A.2.2 w m)
theorem up_app {α : Type} {g : Nat → α} {i j : Nat} {v : α} : va_up g i v j = if j = i then v else g j := rfl
/-- the first w arrays are B's up to n, the others A's -/
def mixA (A B : Nat → Nat → Int32) (n w : Nat) : Nat → Nat → Int32 := fun v m => if v < w ∧ m < n then B v m else A v m
theorem mix_0 (A B : Nat → Nat → Int32) (n : Nat) : A = mixA A B n 0 := by funext v m; simp [mixA]
theorem mix_s (A B : Nat → Nat → Int32) (n w : Nat) : va_up (mixA A B n w) w (fun m => if m < n then B w m else mixA A B n w w m) = mixA A B n (w + 1) := by
  funext v m
  by_cases h : v = w
  · subst h; simp [va_up, mixA]
  · have e : (v < w + 1) = (v < w) := by apply propext; omega
    simp [va_up, mixA, h, e]
theorem sF_sF {σ : ST} {i : Nat} {A B : FabT} : sF (sF σ i A) i B = sF σ i B := by simp [sF, bx_uu]
theorem sF_at {σ : ST} {i : Nat} {A : FabT} : (sF σ i A).1 i = A := by simp [sF, up_s]
theorem sF_ne {σ : ST} {i j : Nat} {A : FabT} (h : j ≠ i) : (sF σ i A).1 j = σ.1 j := by simp [sF, up_n h]
theorem sR_sR {σ : ST} {i : Nat} {A B : RowT} : sR (sR σ i A) i B = sR σ i B := by simp [sR, bx_uu]
theorem sR_at {σ : ST} {i : Nat} {A : RowT} : (sR σ i A).2.1 i = A := by simp [sR, up_s]
theorem sR_ne {σ : ST} {i j : Nat} {A : RowT} (h : j ≠ i) : (sR σ i A).2.1 j = σ.2.1 j := by simp [sR, up_n h]
set_option maxHeartbeats 4000000 in
theorem c_X0_becomes (l : Launch) {E : EnvT} (hE : EOK E) {σ : ST} (i j : Nat) (hi : i < 14) (hj : j < 14) (hne : j ≠ i) (hF : (σ.1 j).2.1 ≤ 64) (hQ : (σ.2.1 j).2 ≤ 64) : Con l E yX0_becomes cX0_becomes 2 none 2 61 [.ref (ad E 1 i 0), .ref (ad E 1 j 0)] σ (rV (sR (sF σ i (cpF (σ.1 i) (σ.1 j))) i (cpR (σ.2.1 i) (σ.2.1 j)))) := by
  refine con_intro hE (by decide) (Nat.le_of_ble_eq_true rfl) (fun K hkl h hR => ?_)
  subst hkl
  have h : Cx K E cX0_becomes 2 RX0 2 61 := h
  show GG K E σ 0 [(0, .ref (ad E 1 i 0)), (1, .ref (ad E 1 j 0))] []
  refine g_aload_n h (q := 0) 0 dX0_becomes_0 rfl ?_
  refine g_aload_n h (q := 1) 1 dX0_becomes_1 rfl ?_
  refine g_get h 1 j 0 (ok_F hj) rfl rfl uin_X0 0 (by decide) fl_X0_9 rfl dX0_becomes_2 ?_
  refine g_putFc h i hi 0 (by decide) fl_X0_9 dX0_becomes_5 (fun σ1 hσ1 => ?_)
  refine g_aload_n h (q := 0) 0 dX0_becomes_8 rfl ?_
  refine g_aload_n h (q := 1) 1 dX0_becomes_9 rfl ?_
  refine g_get h 1 j 0 (ok_F hj) rfl rfl uin_X0 1 (by decide) fl_X0_15 rfl dX0_becomes_10 ?_
  refine g_putFc h i hi 1 (by decide) fl_X0_15 dX0_becomes_13 (fun σ2 hσ2 => ?_)
  simp only [hσ1, sF_sF, sF_at, sF_ne hne] at hσ2
  refine g_aload_n h (q := 0) 0 dX0_becomes_16 rfl ?_
  refine g_aload_n h (q := 1) 1 dX0_becomes_17 rfl ?_
  refine g_get h 1 j 0 (ok_F hj) rfl rfl uin_X0 2 (by decide) fl_X0_18 rfl dX0_becomes_18 ?_
  refine g_putFc h i hi 2 (by decide) fl_X0_18 dX0_becomes_21 (fun σ3 hσ3 => ?_)
  simp only [hσ2, sF_sF, sF_at, sF_ne hne] at hσ3
  refine g_aload_n h (q := 0) 0 dX0_becomes_24 rfl ?_
  refine g_aload_n h (q := 1) 1 dX0_becomes_25 rfl ?_
  refine g_get h 1 j 0 (ok_F hj) rfl rfl uin_X0 3 (by decide) fl_X0_53 rfl dX0_becomes_26 ?_
  refine g_putFc h i hi 3 (by decide) fl_X0_53 dX0_becomes_29 (fun σ4 hσ4 => ?_)
  simp only [hσ3, sF_sF, sF_at, sF_ne hne] at hσ4
  refine g_aload_n h (q := 0) 0 dX0_becomes_32 rfl ?_
  refine g_aload_n h (q := 1) 1 dX0_becomes_33 rfl ?_
  refine g_get h 1 j 0 (ok_F hj) rfl rfl uin_X0 4 (by decide) fl_X0_56 rfl dX0_becomes_34 ?_
  refine g_putFl h i hi (m := (σ4.1 j).2.1) fl_X0_56 dX0_becomes_37 (fun σ5 hσ5 => ?_)
  simp only [hσ4, sF_sF, sF_at, sF_ne hne] at hσ5
  obtain ⟨C, hC⟩ : ∃ C, C = va_up (va_up (va_up (va_up (σ.1 i).1 0 ((σ.1 j).1 0)) 1 ((σ.1 j).1 1)) 2 ((σ.1 j).1 2)) 3 ((σ.1 j).1 3) := ⟨_, rfl⟩
  have hσ5 : σ5 = sF σ i (C, (σ.1 j).2.1, mixA (σ.1 i).2.2 (σ.1 j).2.2 (σ.1 j).2.1 0) := by rw [hσ5, hC, ← mix_0]
  refine g_aload_n h (q := 1) 1 dX0_becomes_40 rfl ?_
  refine g_get h 1 j 0 (ok_F hj) rfl rfl uin_X0 5 (by decide) fl_X0_21 rfl dX0_becomes_41 ?_
  refine g_iconst h (v := 0) dX0_becomes_44 (by decide) ?_
  refine g_aload_n h (q := 0) 0 dX0_becomes_45 rfl ?_
  refine g_get h 1 i 0 (ok_F hi) rfl rfl uin_X0 5 (by decide) fl_X0_21 rfl dX0_becomes_46 ?_
  refine g_iconst h (v := 0) dX0_becomes_49 (by decide) ?_
  refine g_aload_n h (q := 0) 0 dX0_becomes_50 rfl ?_
  refine g_get h 1 i 0 (ok_F hi) rfl rfl uin_X0 4 (by decide) fl_X0_56 rfl dX0_becomes_51 ?_
  refine g_is (nI ((σ.1 j).2.1)) (by rw [hσ5, sF_at]) ?_
  refine g_cpyF h i j 0 hi hj (by decide) hne ((σ.1 j).2.1) (show (σ.1 j).2.1 ≤ 64 by omega) ml_X0_62 (by decide) (by decide) (by decide) dX0_becomes_54 (fun σ6 hσ6 => ?_)
  have hσ6 : σ6 = sF σ i (C, (σ.1 j).2.1, mixA (σ.1 i).2.2 (σ.1 j).2.2 (σ.1 j).2.1 1) := by
    rw [hσ6, hσ5, sF_sF, sF_at, sF_ne hne]
    exact congrArg (fun a => sF σ i (C, (σ.1 j).2.1, a)) (mix_s _ _ _ 0)
  refine g_aload_n h (q := 1) 1 dX0_becomes_57 rfl ?_
  refine g_get h 1 j 0 (ok_F hj) rfl rfl uin_X0 6 (by decide) fl_X0_25 rfl dX0_becomes_58 ?_
  refine g_iconst h (v := 0) dX0_becomes_61 (by decide) ?_
  refine g_aload_n h (q := 0) 0 dX0_becomes_62 rfl ?_
  refine g_get h 1 i 0 (ok_F hi) rfl rfl uin_X0 6 (by decide) fl_X0_25 rfl dX0_becomes_63 ?_
  refine g_iconst h (v := 0) dX0_becomes_66 (by decide) ?_
  refine g_aload_n h (q := 0) 0 dX0_becomes_67 rfl ?_
  refine g_get h 1 i 0 (ok_F hi) rfl rfl uin_X0 4 (by decide) fl_X0_56 rfl dX0_becomes_68 ?_
  refine g_is (nI ((σ.1 j).2.1)) (by rw [hσ6, sF_at]) ?_
  refine g_cpyF h i j 1 hi hj (by decide) hne ((σ.1 j).2.1) (show (σ.1 j).2.1 ≤ 64 by omega) ml_X0_62 (by decide) (by decide) (by decide) dX0_becomes_71 (fun σ7 hσ7 => ?_)
  have hσ7 : σ7 = sF σ i (C, (σ.1 j).2.1, mixA (σ.1 i).2.2 (σ.1 j).2.2 (σ.1 j).2.1 2) := by
    rw [hσ7, hσ6, sF_sF, sF_at, sF_ne hne]
    exact congrArg (fun a => sF σ i (C, (σ.1 j).2.1, a)) (mix_s _ _ _ 1)
  refine g_aload_n h (q := 1) 1 dX0_becomes_74 rfl ?_
  refine g_get h 1 j 0 (ok_F hj) rfl rfl uin_X0 7 (by decide) fl_X0_28 rfl dX0_becomes_75 ?_
  refine g_iconst h (v := 0) dX0_becomes_78 (by decide) ?_
  refine g_aload_n h (q := 0) 0 dX0_becomes_79 rfl ?_
  refine g_get h 1 i 0 (ok_F hi) rfl rfl uin_X0 7 (by decide) fl_X0_28 rfl dX0_becomes_80 ?_
  refine g_iconst h (v := 0) dX0_becomes_83 (by decide) ?_
  refine g_aload_n h (q := 0) 0 dX0_becomes_84 rfl ?_
  refine g_get h 1 i 0 (ok_F hi) rfl rfl uin_X0 4 (by decide) fl_X0_56 rfl dX0_becomes_85 ?_
  refine g_is (nI ((σ.1 j).2.1)) (by rw [hσ7, sF_at]) ?_
  refine g_cpyF h i j 2 hi hj (by decide) hne ((σ.1 j).2.1) (show (σ.1 j).2.1 ≤ 64 by omega) ml_X0_62 (by decide) (by decide) (by decide) dX0_becomes_88 (fun σ8 hσ8 => ?_)
  have hσ8 : σ8 = sF σ i (C, (σ.1 j).2.1, mixA (σ.1 i).2.2 (σ.1 j).2.2 (σ.1 j).2.1 3) := by
    rw [hσ8, hσ7, sF_sF, sF_at, sF_ne hne]
    exact congrArg (fun a => sF σ i (C, (σ.1 j).2.1, a)) (mix_s _ _ _ 2)
  refine g_aload_n h (q := 1) 1 dX0_becomes_91 rfl ?_
  refine g_get h 1 j 0 (ok_F hj) rfl rfl uin_X0 8 (by decide) fl_X0_31 rfl dX0_becomes_92 ?_
  refine g_iconst h (v := 0) dX0_becomes_95 (by decide) ?_
  refine g_aload_n h (q := 0) 0 dX0_becomes_96 rfl ?_
  refine g_get h 1 i 0 (ok_F hi) rfl rfl uin_X0 8 (by decide) fl_X0_31 rfl dX0_becomes_97 ?_
  refine g_iconst h (v := 0) dX0_becomes_100 (by decide) ?_
  refine g_aload_n h (q := 0) 0 dX0_becomes_101 rfl ?_
  refine g_get h 1 i 0 (ok_F hi) rfl rfl uin_X0 4 (by decide) fl_X0_56 rfl dX0_becomes_102 ?_
  refine g_is (nI ((σ.1 j).2.1)) (by rw [hσ8, sF_at]) ?_
  refine g_cpyF h i j 3 hi hj (by decide) hne ((σ.1 j).2.1) (show (σ.1 j).2.1 ≤ 64 by omega) ml_X0_62 (by decide) (by decide) (by decide) dX0_becomes_105 (fun σ9 hσ9 => ?_)
  have hσ9 : σ9 = sF σ i (C, (σ.1 j).2.1, mixA (σ.1 i).2.2 (σ.1 j).2.2 (σ.1 j).2.1 4) := by
    rw [hσ9, hσ8, sF_sF, sF_at, sF_ne hne]
    exact congrArg (fun a => sF σ i (C, (σ.1 j).2.1, a)) (mix_s _ _ _ 3)
  refine g_aload_n h (q := 1) 1 dX0_becomes_108 rfl ?_
  refine g_get h 1 j 0 (ok_F hj) rfl rfl uin_X0 9 (by decide) fl_X0_34 rfl dX0_becomes_109 ?_
  refine g_iconst h (v := 0) dX0_becomes_112 (by decide) ?_
  refine g_aload_n h (q := 0) 0 dX0_becomes_113 rfl ?_
  refine g_get h 1 i 0 (ok_F hi) rfl rfl uin_X0 9 (by decide) fl_X0_34 rfl dX0_becomes_114 ?_
  refine g_iconst h (v := 0) dX0_becomes_117 (by decide) ?_
  refine g_aload_n h (q := 0) 0 dX0_becomes_118 rfl ?_
  refine g_get h 1 i 0 (ok_F hi) rfl rfl uin_X0 4 (by decide) fl_X0_56 rfl dX0_becomes_119 ?_
  refine g_is (nI ((σ.1 j).2.1)) (by rw [hσ9, sF_at]) ?_
  refine g_cpyF h i j 4 hi hj (by decide) hne ((σ.1 j).2.1) (show (σ.1 j).2.1 ≤ 64 by omega) ml_X0_62 (by decide) (by decide) (by decide) dX0_becomes_122 (fun σ10 hσ10 => ?_)
  have hσ10 : σ10 = sF σ i (C, (σ.1 j).2.1, mixA (σ.1 i).2.2 (σ.1 j).2.2 (σ.1 j).2.1 5) := by
    rw [hσ10, hσ9, sF_sF, sF_at, sF_ne hne]
    exact congrArg (fun a => sF σ i (C, (σ.1 j).2.1, a)) (mix_s _ _ _ 4)
  refine g_aload_n h (q := 1) 1 dX0_becomes_125 rfl ?_
  refine g_get h 1 j 0 (ok_F hj) rfl rfl uin_X0 10 (by decide) fl_X0_37 rfl dX0_becomes_126 ?_
  refine g_iconst h (v := 0) dX0_becomes_129 (by decide) ?_
  refine g_aload_n h (q := 0) 0 dX0_becomes_130 rfl ?_
  refine g_get h 1 i 0 (ok_F hi) rfl rfl uin_X0 10 (by decide) fl_X0_37 rfl dX0_becomes_131 ?_
  refine g_iconst h (v := 0) dX0_becomes_134 (by decide) ?_
  refine g_aload_n h (q := 0) 0 dX0_becomes_135 rfl ?_
  refine g_get h 1 i 0 (ok_F hi) rfl rfl uin_X0 4 (by decide) fl_X0_56 rfl dX0_becomes_136 ?_
  refine g_is (nI ((σ.1 j).2.1)) (by rw [hσ10, sF_at]) ?_
  refine g_cpyF h i j 5 hi hj (by decide) hne ((σ.1 j).2.1) (show (σ.1 j).2.1 ≤ 64 by omega) ml_X0_62 (by decide) (by decide) (by decide) dX0_becomes_139 (fun σ11 hσ11 => ?_)
  have hσ11 : σ11 = sF σ i (C, (σ.1 j).2.1, mixA (σ.1 i).2.2 (σ.1 j).2.2 (σ.1 j).2.1 6) := by
    rw [hσ11, hσ10, sF_sF, sF_at, sF_ne hne]
    exact congrArg (fun a => sF σ i (C, (σ.1 j).2.1, a)) (mix_s _ _ _ 5)
  refine g_aload_n h (q := 1) 1 dX0_becomes_142 rfl ?_
  refine g_get h 1 j 0 (ok_F hj) rfl rfl uin_X0 11 (by decide) fl_X0_40 rfl dX0_becomes_143 ?_
  refine g_iconst h (v := 0) dX0_becomes_146 (by decide) ?_
  refine g_aload_n h (q := 0) 0 dX0_becomes_147 rfl ?_
  refine g_get h 1 i 0 (ok_F hi) rfl rfl uin_X0 11 (by decide) fl_X0_40 rfl dX0_becomes_148 ?_
  refine g_iconst h (v := 0) dX0_becomes_151 (by decide) ?_
  refine g_aload_n h (q := 0) 0 dX0_becomes_152 rfl ?_
  refine g_get h 1 i 0 (ok_F hi) rfl rfl uin_X0 4 (by decide) fl_X0_56 rfl dX0_becomes_153 ?_
  refine g_is (nI ((σ.1 j).2.1)) (by rw [hσ11, sF_at]) ?_
  refine g_cpyF h i j 6 hi hj (by decide) hne ((σ.1 j).2.1) (show (σ.1 j).2.1 ≤ 64 by omega) ml_X0_62 (by decide) (by decide) (by decide) dX0_becomes_156 (fun σ12 hσ12 => ?_)
  have hσ12 : σ12 = sF σ i (C, (σ.1 j).2.1, mixA (σ.1 i).2.2 (σ.1 j).2.2 (σ.1 j).2.1 7) := by
    rw [hσ12, hσ11, sF_sF, sF_at, sF_ne hne]
    exact congrArg (fun a => sF σ i (C, (σ.1 j).2.1, a)) (mix_s _ _ _ 6)
  refine g_aload_n h (q := 1) 1 dX0_becomes_159 rfl ?_
  refine g_get h 1 j 0 (ok_F hj) rfl rfl uin_X0 12 (by decide) fl_X0_43 rfl dX0_becomes_160 ?_
  refine g_iconst h (v := 0) dX0_becomes_163 (by decide) ?_
  refine g_aload_n h (q := 0) 0 dX0_becomes_164 rfl ?_
  refine g_get h 1 i 0 (ok_F hi) rfl rfl uin_X0 12 (by decide) fl_X0_43 rfl dX0_becomes_165 ?_
  refine g_iconst h (v := 0) dX0_becomes_168 (by decide) ?_
  refine g_iconst h (v := 5) dX0_becomes_169 (by decide) ?_
  refine g_cpyF h i j 7 hi hj (by decide) hne (5) (show 5 ≤ 5 by omega) ml_X0_62 (by decide) (by decide) (by decide) dX0_becomes_170 (fun σ13 hσ13 => ?_)
  rw [hσ12, sF_sF, sF_at, sF_ne hne] at hσ13
  refine g_aload_n h (q := 0) 0 dX0_becomes_173 rfl ?_
  refine g_get h 1 i 0 (ok_F hi) rfl rfl uin_X0 13 (by decide) fl_X0_49 rfl dX0_becomes_174 ?_
  refine g_aload_n h (q := 1) 1 dX0_becomes_177 rfl ?_
  refine g_get h 1 j 0 (ok_F hj) rfl rfl uin_X0 13 (by decide) fl_X0_49 rfl dX0_becomes_178 ?_
  refine g_callV h mv_X2_becomes 3 i 0 (ok_R (by omega)) rfl rfl (As := [.ref (ad E 3 j 0)]) (c_X2_becomes (kl K) hE (σ := σ13) i j (by omega) (by omega) hne (by rw [hσ13]; exact hQ)) ml_X0_68 rfl (by decide) (by decide) rfl (Nat.le_of_ble_eq_true rfl) dX0_becomes_181 (fun v σ9 h9 => ?_)
  rw [h9.1, h9.2]; clear h9
  exact g_vret h hR dX0_becomes_184 (show rV _ _ _ from ⟨rfl, by
    rw [hσ13]
    refine congrArg (fun F => sR (sF σ i F) i (cpR (σ.2.1 i) (σ.2.1 j))) (Prod.ext ?_ (Prod.ext rfl ?_))
    · funext w
      rw [hC]
      match w with
      | 0 => rfl
      | 1 => rfl
      | 2 => rfl
      | 3 => rfl
      | w + 4 => simp [va_up, cpF]; omega
    · funext w m
      by_cases e : w = 7
      · subst e; simp [va_up, cpF, mixA]
      · simp [va_up, cpF, mixA, e]⟩)
