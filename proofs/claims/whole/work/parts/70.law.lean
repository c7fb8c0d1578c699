section LAW
variable {K : KX} {E : EnvT} {cc : ByteArray} {nL : Nat} {own : String} {f n : Nat} {σ : ST} {pc : Nat} {lv : List (Nat × Value)} {rest : List Value}
theorem g_sld (h : Cx K E cc nL own f n) {b L : Nat} {xs : Nat → Int32} (hX : va_X b L xs (ks K) (ks K).heap) (hbl : b < (ks K).heap.size) (hbA : ¬ AE E b) (t : Nat) (ht : t < L) (hL : L ≤ 2048) (hd : decode cc pc = .ok (.iaload, 1)) (kk : GG K E σ (pc + 1) lv (.int (xs t) :: rest)) : GG K E σ pc lv (.int (nI t) :: .ref b :: rest) := fun H locs ls hW hS hl => by
  refine va_sld h.1 h.2.1 hX hbl hbA hS (vp_in_nI ht (by omega)) hd ?_
  rw [nI_clamp (by omega)]
  exact kk H locs ls hW hS hl
theorem g_slen (h : Cx K E cc nL own f n) {b L : Nat} {xs : Nat → Int32} (hX : va_X b L xs (ks K) (ks K).heap) (hbl : b < (ks K).heap.size) (hbA : ¬ AE E b) (hd : decode cc pc = .ok (.arraylength, 1)) (kk : GG K E σ (pc + 1) lv (.int (nI L) :: rest)) : GG K E σ pc lv (.ref b :: rest) := fun H locs ls hW hS hl =>
  va_slen h.1 h.2.1 hX hbl hbA hS hd (kk H locs ls hW hS hl)
theorem g_stE {τ : ST} (e : σ = τ) (k : GG K E τ pc lv rest) : GG K E σ pc lv rest := e ▸ k
end LAW
theorem st_eq {τ : ST} {M : MT} (e : τ.2.2.2 = M) : τ = sM τ M := by subst e; rfl
theorem CP.b {σ : ST} {M : MT} (h : CP σ M) : M.2.1 0 ≤ 64 ∧ M.2.1 2 ≤ 10 ∧ M.2.1 4 ≤ 6 := ⟨by rw [← h.2.1.1.2.2.1]; exact h.2.1.1.1.1, by rw [← h.2.2.1]; exact h.1.2.2.2.2.1, by rw [← h.2.2.2.2.2.1]; exact h.1.2.2.2.2.2.1⟩
set_option maxHeartbeats 4000000 in
theorem w_tells {K : KX} {E : EnvT} (hE : EOK E) (h : Cx K E cL_law 4 RL 7 161) {aw : Nat} (hw : SW E aw (ks K)) {b L : Nat} {xs : Nat → Int32} (hX : va_X b L xs (ks K) (ks K).heap) (hbl : b < (ks K).heap.size) (hbA : ¬ AE E b) (hL : L ≤ 2048) {σ : ST} (hc : CP σ σ.2.2.2) (i : Nat) (hi : i + 4 ≤ L) (hk : ∀ τ, CP τ τ.2.2.2 → GG K E τ 646 [(0, .ref b), (1, .ref (ad E 0 0 0)), (2, .ref (ad E 11 0 0)), (3, .int (nI i))] []) : GG K E σ 132 [(0, .ref b), (1, .ref (ad E 0 0 0)), (2, .ref (ad E 11 0 0)), (3, .int (nI i))] [] := by
  have hok := ok_tells hc (xs (i + 1)) (xs (i + 2)) (xs (i + 3))
  obtain ⟨PX, hPX⟩ : ∃ z, z = xTells σ (xs (i + 1)) (xs (i + 2)) (xs (i + 3)) := ⟨_, rfl⟩
  obtain ⟨PY, hPY⟩ : ∃ z, z = yTells σ.2.2.2 (xs (i + 1)) (xs (i + 2)) (xs (i + 3)) := ⟨_, rfl⟩
  rw [← hPX, ← hPY] at hok
  obtain ⟨o1, o2, o3⟩ := hok
  refine g_aload_n h (q := 1) 1 dL_law_132 rfl ?_
  refine g_aload_n h (q := 0) 0 dL_law_133 rfl ?_
  refine g_iload_n h (q := 3) 3 dL_law_134 rfl ?_
  refine g_iconst h (v := 1) dL_law_135 (by decide) ?_
  refine g_iadd h dL_law_136 ?_
  refine g_is (nI (i + 1)) (nI_add i 1) ?_
  refine g_sld h hX hbl hbA (i + 1) (by omega) hL dL_law_137 ?_
  refine g_aload_n h (q := 0) 0 dL_law_138 rfl ?_
  refine g_iload_n h (q := 3) 3 dL_law_139 rfl ?_
  refine g_iconst h (v := 2) dL_law_140 (by decide) ?_
  refine g_iadd h dL_law_141 ?_
  refine g_is (nI (i + 2)) (nI_add i 2) ?_
  refine g_sld h hX hbl hbA (i + 2) (by omega) hL dL_law_142 ?_
  refine g_aload_n h (q := 0) 0 dL_law_143 rfl ?_
  refine g_iload_n h (q := 3) 3 dL_law_144 rfl ?_
  refine g_iconst h (v := 3) dL_law_145 (by decide) ?_
  refine g_iadd h dL_law_146 ?_
  refine g_is (nI (i + 3)) (nI_add i 3) ?_
  refine g_sld h hX hbl hbA (i + 3) (by omega) hL dL_law_147 ?_
  refine g_callV h mv_X5_tells 0 0 0 ⟨rfl, rfl⟩ rfl rfl (As := [.int (xs (i + 1)), .int (xs (i + 2)), .int (xs (i + 3))]) (c_X5_tells (kl K) hE (σ := σ) hc.1 (xs (i + 1)) (xs (i + 2)) (xs (i + 3))) ml_L_13 rfl (by decide) (by decide) rfl (Nat.le_of_ble_eq_true rfl) dL_law_148 (fun v σ9 h9 => ?_)
  rw [h9.1, h9.2, ← hPX]; clear h9
  refine g_stE (st_eq o3) ?_
  refine g_aload_n h (q := 2) 2 dL_law_151 rfl ?_
  refine g_aload_n h (q := 0) 0 dL_law_152 rfl ?_
  refine g_iload_n h (q := 3) 3 dL_law_153 rfl ?_
  refine g_iconst h (v := 1) dL_law_154 (by decide) ?_
  refine g_iadd h dL_law_155 ?_
  refine g_is (nI (i + 1)) (nI_add i 1) ?_
  refine g_sld h hX hbl hbA (i + 1) (by omega) hL dL_law_156 ?_
  refine g_aload_n h (q := 0) 0 dL_law_157 rfl ?_
  refine g_iload_n h (q := 3) 3 dL_law_158 rfl ?_
  refine g_iconst h (v := 2) dL_law_159 (by decide) ?_
  refine g_iadd h dL_law_160 ?_
  refine g_is (nI (i + 2)) (nI_add i 2) ?_
  refine g_sld h hX hbl hbA (i + 2) (by omega) hL dL_law_161 ?_
  refine g_aload_n h (q := 0) 0 dL_law_162 rfl ?_
  refine g_iload_n h (q := 3) 3 dL_law_163 rfl ?_
  refine g_iconst h (v := 3) dL_law_164 (by decide) ?_
  refine g_iadd h dL_law_165 ?_
  refine g_is (nI (i + 3)) (nI_add i 3) ?_
  refine g_sld h hX hbl hbA (i + 3) (by omega) hL dL_law_166 ?_
  refine g_callV h mv_X6_tells 11 0 0 ⟨rfl, rfl⟩ rfl rfl (As := [.int (xs (i + 1)), .int (xs (i + 2)), .int (xs (i + 3))]) (c_X6_tells (kl K) hE (σ := PX.2) (M := σ.2.2.2) hc.b.2.1 (xs (i + 1)) (xs (i + 2)) (xs (i + 3))) ml_L_17 rfl (by decide) (by decide) rfl (Nat.le_of_ble_eq_true rfl) dL_law_167 (fun v σ9 h9 => ?_)
  rw [h9.1, h9.2, ← hPY]; clear h9
  refine g_icmp_eq h 646 dL_law_170 (by decide) (fun c1 => ?_) (fun c1 => ?_)
  · exact hk _ o2
  · exact absurd o1 c1
set_option maxHeartbeats 4000000 in
theorem w_puts {K : KX} {E : EnvT} (hE : EOK E) (h : Cx K E cL_law 4 RL 7 161) {aw : Nat} (hw : SW E aw (ks K)) {b L : Nat} {xs : Nat → Int32} (hX : va_X b L xs (ks K) (ks K).heap) (hbl : b < (ks K).heap.size) (hbA : ¬ AE E b) (hL : L ≤ 2048) {σ : ST} (hc : CP σ σ.2.2.2) (i : Nat) (hi : i + 4 ≤ L) (hk : ∀ τ, CP τ τ.2.2.2 → GG K E τ 646 [(0, .ref b), (1, .ref (ad E 0 0 0)), (2, .ref (ad E 11 0 0)), (3, .int (nI i))] []) : GG K E σ 175 [(0, .ref b), (1, .ref (ad E 0 0 0)), (2, .ref (ad E 11 0 0)), (3, .int (nI i))] [] := by
  have hok := ok_puts hc (xs (i + 1)) (xs (i + 2)) (xs (i + 3))
  obtain ⟨PX, hPX⟩ : ∃ z, z = xPuts σ (xs (i + 1)) (xs (i + 2)) (xs (i + 3)) := ⟨_, rfl⟩
  obtain ⟨PY, hPY⟩ : ∃ z, z = yPuts σ.2.2.2 (xs (i + 1)) (xs (i + 2)) (xs (i + 3)) := ⟨_, rfl⟩
  rw [← hPX, ← hPY] at hok
  obtain ⟨o1, o2, o3⟩ := hok
  refine g_aload_n h (q := 1) 1 dL_law_175 rfl ?_
  refine g_aload_n h (q := 0) 0 dL_law_176 rfl ?_
  refine g_iload_n h (q := 3) 3 dL_law_177 rfl ?_
  refine g_iconst h (v := 1) dL_law_178 (by decide) ?_
  refine g_iadd h dL_law_179 ?_
  refine g_is (nI (i + 1)) (nI_add i 1) ?_
  refine g_sld h hX hbl hbA (i + 1) (by omega) hL dL_law_180 ?_
  refine g_aload_n h (q := 0) 0 dL_law_181 rfl ?_
  refine g_iload_n h (q := 3) 3 dL_law_182 rfl ?_
  refine g_iconst h (v := 2) dL_law_183 (by decide) ?_
  refine g_iadd h dL_law_184 ?_
  refine g_is (nI (i + 2)) (nI_add i 2) ?_
  refine g_sld h hX hbl hbA (i + 2) (by omega) hL dL_law_185 ?_
  refine g_aload_n h (q := 0) 0 dL_law_186 rfl ?_
  refine g_iload_n h (q := 3) 3 dL_law_187 rfl ?_
  refine g_iconst h (v := 3) dL_law_188 (by decide) ?_
  refine g_iadd h dL_law_189 ?_
  refine g_is (nI (i + 3)) (nI_add i 3) ?_
  refine g_sld h hX hbl hbA (i + 3) (by omega) hL dL_law_190 ?_
  refine g_callV h mv_X5_puts 0 0 0 ⟨rfl, rfl⟩ rfl rfl (As := [.int (xs (i + 1)), .int (xs (i + 2)), .int (xs (i + 3))]) (c_X5_puts (kl K) hE (σ := σ) hc.1 (xs (i + 1)) (xs (i + 2)) (xs (i + 3))) ml_L_18 rfl (by decide) (by decide) rfl (Nat.le_of_ble_eq_true rfl) dL_law_191 (fun v σ9 h9 => ?_)
  rw [h9.1, h9.2, ← hPX]; clear h9
  refine g_stE (st_eq o3) ?_
  refine g_aload_n h (q := 2) 2 dL_law_194 rfl ?_
  refine g_aload_n h (q := 0) 0 dL_law_195 rfl ?_
  refine g_iload_n h (q := 3) 3 dL_law_196 rfl ?_
  refine g_iconst h (v := 1) dL_law_197 (by decide) ?_
  refine g_iadd h dL_law_198 ?_
  refine g_is (nI (i + 1)) (nI_add i 1) ?_
  refine g_sld h hX hbl hbA (i + 1) (by omega) hL dL_law_199 ?_
  refine g_aload_n h (q := 0) 0 dL_law_200 rfl ?_
  refine g_iload_n h (q := 3) 3 dL_law_201 rfl ?_
  refine g_iconst h (v := 2) dL_law_202 (by decide) ?_
  refine g_iadd h dL_law_203 ?_
  refine g_is (nI (i + 2)) (nI_add i 2) ?_
  refine g_sld h hX hbl hbA (i + 2) (by omega) hL dL_law_204 ?_
  refine g_aload_n h (q := 0) 0 dL_law_205 rfl ?_
  refine g_iload_n h (q := 3) 3 dL_law_206 rfl ?_
  refine g_iconst h (v := 3) dL_law_207 (by decide) ?_
  refine g_iadd h dL_law_208 ?_
  refine g_is (nI (i + 3)) (nI_add i 3) ?_
  refine g_sld h hX hbl hbA (i + 3) (by omega) hL dL_law_209 ?_
  refine g_callV h mv_X6_puts 11 0 0 ⟨rfl, rfl⟩ rfl rfl (As := [.int (xs (i + 1)), .int (xs (i + 2)), .int (xs (i + 3))]) (c_X6_puts (kl K) hE (σ := PX.2) (M := σ.2.2.2) hc.b.1 hc.b.2.1 (xs (i + 1)) (xs (i + 2)) (xs (i + 3))) ml_L_21 rfl (by decide) (by decide) rfl (Nat.le_of_ble_eq_true rfl) dL_law_210 (fun v σ9 h9 => ?_)
  rw [h9.1, h9.2, ← hPY]; clear h9
  refine g_icmp_eq h 646 dL_law_213 (by decide) (fun c1 => ?_) (fun c1 => ?_)
  · exact hk _ o2
  · exact absurd o1 c1
set_option maxHeartbeats 4000000 in
theorem w_slot {K : KX} {E : EnvT} (hE : EOK E) (h : Cx K E cL_law 4 RL 7 161) {aw : Nat} (hw : SW E aw (ks K)) {b L : Nat} {xs : Nat → Int32} (hX : va_X b L xs (ks K) (ks K).heap) (hbl : b < (ks K).heap.size) (hbA : ¬ AE E b) (hL : L ≤ 2048) {σ : ST} (hc : CP σ σ.2.2.2) (i : Nat) (hi : i + 4 ≤ L) (hk : ∀ τ, CP τ τ.2.2.2 → GG K E τ 646 [(0, .ref b), (1, .ref (ad E 0 0 0)), (2, .ref (ad E 11 0 0)), (3, .int (nI i))] []) : GG K E σ 218 [(0, .ref b), (1, .ref (ad E 0 0 0)), (2, .ref (ad E 11 0 0)), (3, .int (nI i))] [] := by
  have hok := ok_slot hc 
  obtain ⟨PX, hPX⟩ : ∃ z, z = xSlot σ := ⟨_, rfl⟩
  obtain ⟨PY, hPY⟩ : ∃ z, z = ySlot σ.2.2.2 := ⟨_, rfl⟩
  rw [← hPX, ← hPY] at hok
  obtain ⟨o1, o2, o3⟩ := hok
  refine g_aload_n h (q := 1) 1 dL_law_218 rfl ?_
  refine g_callV h mv_X5_slot 0 0 0 ⟨rfl, rfl⟩ rfl rfl (As := []) (c_X5_slot (kl K) hE (σ := σ) hc.1 ) ml_L_22 rfl (by decide) (by decide) rfl (Nat.le_of_ble_eq_true rfl) dL_law_219 (fun v σ9 h9 => ?_)
  rw [h9.1, h9.2, ← hPX]; clear h9
  refine g_stE (st_eq o3) ?_
  refine g_aload_n h (q := 2) 2 dL_law_222 rfl ?_
  refine g_callV h mv_X6_slot 11 0 0 ⟨rfl, rfl⟩ rfl rfl (As := []) (c_X6_slot (kl K) hE (σ := PX.2) (M := σ.2.2.2) hc.b.1 hc.b.2.1 ) ml_L_26 rfl (by decide) (by decide) rfl (Nat.le_of_ble_eq_true rfl) dL_law_223 (fun v σ9 h9 => ?_)
  rw [h9.1, h9.2, ← hPY]; clear h9
  refine g_icmp_eq h 646 dL_law_226 (by decide) (fun c1 => ?_) (fun c1 => ?_)
  · exact hk _ o2
  · exact absurd o1 c1
set_option maxHeartbeats 4000000 in
theorem w_undo {K : KX} {E : EnvT} (hE : EOK E) (h : Cx K E cL_law 4 RL 7 161) {aw : Nat} (hw : SW E aw (ks K)) {b L : Nat} {xs : Nat → Int32} (hX : va_X b L xs (ks K) (ks K).heap) (hbl : b < (ks K).heap.size) (hbA : ¬ AE E b) (hL : L ≤ 2048) {σ : ST} (hc : CP σ σ.2.2.2) (i : Nat) (hi : i + 4 ≤ L) (hk : ∀ τ, CP τ τ.2.2.2 → GG K E τ 646 [(0, .ref b), (1, .ref (ad E 0 0 0)), (2, .ref (ad E 11 0 0)), (3, .int (nI i))] []) : GG K E σ 231 [(0, .ref b), (1, .ref (ad E 0 0 0)), (2, .ref (ad E 11 0 0)), (3, .int (nI i))] [] := by
  obtain ⟨p, q, hp, hq, hok⟩ := ok_undo hc
  obtain ⟨PX, hPX⟩ : ∃ z, z = xUndo σ := ⟨_, rfl⟩
  obtain ⟨PY, hPY⟩ : ∃ z, z = yUndo σ.2.2.2 p q := ⟨_, rfl⟩
  rw [← hPX, ← hPY] at hok
  obtain ⟨o1, o2, o3⟩ := hok
  refine g_aload_n h (q := 1) 1 dL_law_231 rfl ?_
  refine g_callV h mv_X5_undo 0 0 0 ⟨rfl, rfl⟩ rfl rfl (As := []) (c_X5_undo (kl K) hE (σ := σ) hc.1 ) ml_L_27 rfl (by decide) (by decide) rfl (Nat.le_of_ble_eq_true rfl) dL_law_232 (fun v σ9 h9 => ?_)
  rw [h9.1, h9.2, ← hPX]; clear h9
  refine g_stE (st_eq o3) ?_
  refine g_aload_n h (q := 2) 2 dL_law_235 rfl ?_
  refine g_callV h mv_X6_undo 11 0 0 ⟨rfl, rfl⟩ rfl rfl (As := []) (c_X6_undo (kl K) hE (σ := PX.2) (M := σ.2.2.2) hc.b.2.1 p q hp hq ) ml_L_30 rfl (by decide) (by decide) rfl (Nat.le_of_ble_eq_true rfl) dL_law_236 (fun v σ9 h9 => ?_)
  rw [h9.1, h9.2, ← hPY]; clear h9
  refine g_icmp_eq h 646 dL_law_239 (by decide) (fun c1 => ?_) (fun c1 => ?_)
  · exact hk _ o2
  · exact absurd o1 c1
set_option maxHeartbeats 4000000 in
theorem w_clear {K : KX} {E : EnvT} (hE : EOK E) (h : Cx K E cL_law 4 RL 7 161) {aw : Nat} (hw : SW E aw (ks K)) {b L : Nat} {xs : Nat → Int32} (hX : va_X b L xs (ks K) (ks K).heap) (hbl : b < (ks K).heap.size) (hbA : ¬ AE E b) (hL : L ≤ 2048) {σ : ST} (hc : CP σ σ.2.2.2) (i : Nat) (hi : i + 4 ≤ L) (hk : ∀ τ, CP τ τ.2.2.2 → GG K E τ 646 [(0, .ref b), (1, .ref (ad E 0 0 0)), (2, .ref (ad E 11 0 0)), (3, .int (nI i))] []) : GG K E σ 244 [(0, .ref b), (1, .ref (ad E 0 0 0)), (2, .ref (ad E 11 0 0)), (3, .int (nI i))] [] := by
  have hok := ok_clear hc 
  obtain ⟨PX, hPX⟩ : ∃ z, z = xClear σ := ⟨_, rfl⟩
  obtain ⟨PY, hPY⟩ : ∃ z, z = yClear σ.2.2.2 := ⟨_, rfl⟩
  rw [← hPX, ← hPY] at hok
  obtain ⟨o1, o2, o3⟩ := hok
  refine g_aload_n h (q := 1) 1 dL_law_244 rfl ?_
  refine g_callV h mv_X5_clear 0 0 0 ⟨rfl, rfl⟩ rfl rfl (As := []) (c_X5_clear (kl K) hE (σ := σ) ) ml_L_31 rfl (by decide) (by decide) rfl (Nat.le_of_ble_eq_true rfl) dL_law_245 (fun v σ9 h9 => ?_)
  rw [h9.1, h9.2, ← hPX]; clear h9
  refine g_stE (st_eq o3) ?_
  refine g_aload_n h (q := 2) 2 dL_law_248 rfl ?_
  refine g_callV h mv_X6_clear 11 0 0 ⟨rfl, rfl⟩ rfl rfl (As := []) (c_X6_clear (kl K) hE (σ := PX.2) (M := σ.2.2.2)  ) ml_L_34 rfl (by decide) (by decide) rfl (Nat.le_of_ble_eq_true rfl) dL_law_249 (fun v σ9 h9 => ?_)
  rw [h9.1, h9.2, ← hPY]; clear h9
  refine g_icmp_eq h 646 dL_law_252 (by decide) (fun c1 => ?_) (fun c1 => ?_)
  · exact hk _ o2
  · exact absurd o1 c1
set_option maxHeartbeats 4000000 in
theorem w_letter {K : KX} {E : EnvT} (hE : EOK E) (h : Cx K E cL_law 4 RL 7 161) {aw : Nat} (hw : SW E aw (ks K)) {b L : Nat} {xs : Nat → Int32} (hX : va_X b L xs (ks K) (ks K).heap) (hbl : b < (ks K).heap.size) (hbA : ¬ AE E b) (hL : L ≤ 2048) {σ : ST} (hc : CP σ σ.2.2.2) (i : Nat) (hi : i + 4 ≤ L) (hk : ∀ τ, CP τ τ.2.2.2 → GG K E τ 646 [(0, .ref b), (1, .ref (ad E 0 0 0)), (2, .ref (ad E 11 0 0)), (3, .int (nI i))] []) : GG K E σ 257 [(0, .ref b), (1, .ref (ad E 0 0 0)), (2, .ref (ad E 11 0 0)), (3, .int (nI i))] [] := by
  have hok := ok_letter hc (xs (i + 1)) (xs (i + 2))
  obtain ⟨PX, hPX⟩ : ∃ z, z = xLetter σ (xs (i + 1)) (xs (i + 2)) := ⟨_, rfl⟩
  obtain ⟨PY, hPY⟩ : ∃ z, z = yLetter σ.2.2.2 (xs (i + 1)) (xs (i + 2)) := ⟨_, rfl⟩
  rw [← hPX, ← hPY] at hok
  obtain ⟨o1, o2, o3⟩ := hok
  refine g_aload_n h (q := 1) 1 dL_law_257 rfl ?_
  refine g_aload_n h (q := 0) 0 dL_law_258 rfl ?_
  refine g_iload_n h (q := 3) 3 dL_law_259 rfl ?_
  refine g_iconst h (v := 1) dL_law_260 (by decide) ?_
  refine g_iadd h dL_law_261 ?_
  refine g_is (nI (i + 1)) (nI_add i 1) ?_
  refine g_sld h hX hbl hbA (i + 1) (by omega) hL dL_law_262 ?_
  refine g_aload_n h (q := 0) 0 dL_law_263 rfl ?_
  refine g_iload_n h (q := 3) 3 dL_law_264 rfl ?_
  refine g_iconst h (v := 2) dL_law_265 (by decide) ?_
  refine g_iadd h dL_law_266 ?_
  refine g_is (nI (i + 2)) (nI_add i 2) ?_
  refine g_sld h hX hbl hbA (i + 2) (by omega) hL dL_law_267 ?_
  refine g_callV h mv_X5_letter 0 0 0 ⟨rfl, rfl⟩ rfl rfl (As := [.int (xs (i + 1)), .int (xs (i + 2))]) (c_X5_letter (kl K) hE (σ := σ) hc.1 (xs (i + 1)) (xs (i + 2))) ml_L_35 rfl (by decide) (by decide) rfl (Nat.le_of_ble_eq_true rfl) dL_law_268 (fun v σ9 h9 => ?_)
  rw [h9.1, h9.2, ← hPX]; clear h9
  refine g_stE (st_eq o3) ?_
  refine g_aload_n h (q := 2) 2 dL_law_271 rfl ?_
  refine g_aload_n h (q := 0) 0 dL_law_272 rfl ?_
  refine g_iload_n h (q := 3) 3 dL_law_273 rfl ?_
  refine g_iconst h (v := 1) dL_law_274 (by decide) ?_
  refine g_iadd h dL_law_275 ?_
  refine g_is (nI (i + 1)) (nI_add i 1) ?_
  refine g_sld h hX hbl hbA (i + 1) (by omega) hL dL_law_276 ?_
  refine g_aload_n h (q := 0) 0 dL_law_277 rfl ?_
  refine g_iload_n h (q := 3) 3 dL_law_278 rfl ?_
  refine g_iconst h (v := 2) dL_law_279 (by decide) ?_
  refine g_iadd h dL_law_280 ?_
  refine g_is (nI (i + 2)) (nI_add i 2) ?_
  refine g_sld h hX hbl hbA (i + 2) (by omega) hL dL_law_281 ?_
  refine g_callV h mv_X6_letter 11 0 0 ⟨rfl, rfl⟩ rfl rfl (As := [.int (xs (i + 1)), .int (xs (i + 2))]) (c_X6_letter (kl K) hE (σ := PX.2) (M := σ.2.2.2) hc.b.1 (xs (i + 1)) (xs (i + 2))) ml_L_39 rfl (by decide) (by decide) rfl (Nat.le_of_ble_eq_true rfl) dL_law_282 (fun v σ9 h9 => ?_)
  rw [h9.1, h9.2, ← hPY]; clear h9
  refine g_icmp_eq h 646 dL_law_285 (by decide) (fun c1 => ?_) (fun c1 => ?_)
  · exact hk _ o2
  · exact absurd o1 c1
set_option maxHeartbeats 4000000 in
theorem w_line {K : KX} {E : EnvT} (hE : EOK E) (h : Cx K E cL_law 4 RL 7 161) {aw : Nat} (hw : SW E aw (ks K)) {b L : Nat} {xs : Nat → Int32} (hX : va_X b L xs (ks K) (ks K).heap) (hbl : b < (ks K).heap.size) (hbA : ¬ AE E b) (hL : L ≤ 2048) {σ : ST} (hc : CP σ σ.2.2.2) (i : Nat) (hi : i + 4 ≤ L) (hk : ∀ τ, CP τ τ.2.2.2 → GG K E τ 646 [(0, .ref b), (1, .ref (ad E 0 0 0)), (2, .ref (ad E 11 0 0)), (3, .int (nI i))] []) : GG K E σ 290 [(0, .ref b), (1, .ref (ad E 0 0 0)), (2, .ref (ad E 11 0 0)), (3, .int (nI i))] [] := by
  have hok := ok_line hc (xs (i + 1))
  obtain ⟨PX, hPX⟩ : ∃ z, z = xLine σ (xs (i + 1)) := ⟨_, rfl⟩
  obtain ⟨PY, hPY⟩ : ∃ z, z = yLine σ.2.2.2 (xs (i + 1)) := ⟨_, rfl⟩
  rw [← hPX, ← hPY] at hok
  obtain ⟨o1, o2, o3⟩ := hok
  refine g_aload_n h (q := 1) 1 dL_law_290 rfl ?_
  refine g_aload_n h (q := 0) 0 dL_law_291 rfl ?_
  refine g_iload_n h (q := 3) 3 dL_law_292 rfl ?_
  refine g_iconst h (v := 1) dL_law_293 (by decide) ?_
  refine g_iadd h dL_law_294 ?_
  refine g_is (nI (i + 1)) (nI_add i 1) ?_
  refine g_sld h hX hbl hbA (i + 1) (by omega) hL dL_law_295 ?_
  refine g_callV h mv_X5_line 0 0 0 ⟨rfl, rfl⟩ rfl rfl (As := [.int (xs (i + 1))]) (c_X5_line (kl K) hE (σ := σ) hc.1 (xs (i + 1))) ml_L_40 rfl (by decide) (by decide) rfl (Nat.le_of_ble_eq_true rfl) dL_law_296 (fun v σ9 h9 => ?_)
  rw [h9.1, h9.2, ← hPX]; clear h9
  refine g_stE (st_eq o3) ?_
  refine g_aload_n h (q := 2) 2 dL_law_299 rfl ?_
  refine g_aload_n h (q := 0) 0 dL_law_300 rfl ?_
  refine g_iload_n h (q := 3) 3 dL_law_301 rfl ?_
  refine g_iconst h (v := 1) dL_law_302 (by decide) ?_
  refine g_iadd h dL_law_303 ?_
  refine g_is (nI (i + 1)) (nI_add i 1) ?_
  refine g_sld h hX hbl hbA (i + 1) (by omega) hL dL_law_304 ?_
  refine g_callV h mv_X6_line 11 0 0 ⟨rfl, rfl⟩ rfl rfl (As := [.int (xs (i + 1))]) (c_X6_line (kl K) hE (σ := PX.2) (M := σ.2.2.2) hc.b.1 (xs (i + 1))) ml_L_44 rfl (by decide) (by decide) rfl (Nat.le_of_ble_eq_true rfl) dL_law_305 (fun v σ9 h9 => ?_)
  rw [h9.1, h9.2, ← hPY]; clear h9
  refine g_icmp_eq h 646 dL_law_308 (by decide) (fun c1 => ?_) (fun c1 => ?_)
  · exact hk _ o2
  · exact absurd o1 c1
set_option maxHeartbeats 4000000 in
theorem w_queue {K : KX} {E : EnvT} (hE : EOK E) (h : Cx K E cL_law 4 RL 7 161) {aw : Nat} (hw : SW E aw (ks K)) {b L : Nat} {xs : Nat → Int32} (hX : va_X b L xs (ks K) (ks K).heap) (hbl : b < (ks K).heap.size) (hbA : ¬ AE E b) (hL : L ≤ 2048) {σ : ST} (hc : CP σ σ.2.2.2) (i : Nat) (hi : i + 4 ≤ L) (hk : ∀ τ, CP τ τ.2.2.2 → GG K E τ 646 [(0, .ref b), (1, .ref (ad E 0 0 0)), (2, .ref (ad E 11 0 0)), (3, .int (nI i))] []) : GG K E σ 313 [(0, .ref b), (1, .ref (ad E 0 0 0)), (2, .ref (ad E 11 0 0)), (3, .int (nI i))] [] := by
  have hok := ok_queue hc (xs (i + 1)) (xs (i + 2))
  obtain ⟨PX, hPX⟩ : ∃ z, z = xQueue σ (xs (i + 1)) (xs (i + 2)) := ⟨_, rfl⟩
  obtain ⟨PY, hPY⟩ : ∃ z, z = yQueue σ.2.2.2 (xs (i + 1)) (xs (i + 2)) := ⟨_, rfl⟩
  rw [← hPX, ← hPY] at hok
  obtain ⟨o1, o2, o3⟩ := hok
  refine g_aload_n h (q := 1) 1 dL_law_313 rfl ?_
  refine g_aload_n h (q := 0) 0 dL_law_314 rfl ?_
  refine g_iload_n h (q := 3) 3 dL_law_315 rfl ?_
  refine g_iconst h (v := 1) dL_law_316 (by decide) ?_
  refine g_iadd h dL_law_317 ?_
  refine g_is (nI (i + 1)) (nI_add i 1) ?_
  refine g_sld h hX hbl hbA (i + 1) (by omega) hL dL_law_318 ?_
  refine g_aload_n h (q := 0) 0 dL_law_319 rfl ?_
  refine g_iload_n h (q := 3) 3 dL_law_320 rfl ?_
  refine g_iconst h (v := 2) dL_law_321 (by decide) ?_
  refine g_iadd h dL_law_322 ?_
  refine g_is (nI (i + 2)) (nI_add i 2) ?_
  refine g_sld h hX hbl hbA (i + 2) (by omega) hL dL_law_323 ?_
  refine g_callV h mv_X5_queue 0 0 0 ⟨rfl, rfl⟩ rfl rfl (As := [.int (xs (i + 1)), .int (xs (i + 2))]) (c_X5_queue (kl K) hE (σ := σ) hc.1 (xs (i + 1)) (xs (i + 2))) ml_L_45 rfl (by decide) (by decide) rfl (Nat.le_of_ble_eq_true rfl) dL_law_324 (fun v σ9 h9 => ?_)
  rw [h9.1, h9.2, ← hPX]; clear h9
  refine g_stE (st_eq o3) ?_
  refine g_aload_n h (q := 2) 2 dL_law_327 rfl ?_
  refine g_aload_n h (q := 0) 0 dL_law_328 rfl ?_
  refine g_iload_n h (q := 3) 3 dL_law_329 rfl ?_
  refine g_iconst h (v := 1) dL_law_330 (by decide) ?_
  refine g_iadd h dL_law_331 ?_
  refine g_is (nI (i + 1)) (nI_add i 1) ?_
  refine g_sld h hX hbl hbA (i + 1) (by omega) hL dL_law_332 ?_
  refine g_aload_n h (q := 0) 0 dL_law_333 rfl ?_
  refine g_iload_n h (q := 3) 3 dL_law_334 rfl ?_
  refine g_iconst h (v := 2) dL_law_335 (by decide) ?_
  refine g_iadd h dL_law_336 ?_
  refine g_is (nI (i + 2)) (nI_add i 2) ?_
  refine g_sld h hX hbl hbA (i + 2) (by omega) hL dL_law_337 ?_
  refine g_callV h mv_X6_queue 11 0 0 ⟨rfl, rfl⟩ rfl rfl (As := [.int (xs (i + 1)), .int (xs (i + 2))]) (c_X6_queue (kl K) hE (σ := PX.2) (M := σ.2.2.2) hc.b.1 (xs (i + 1)) (xs (i + 2))) ml_L_48 rfl (by decide) (by decide) rfl (Nat.le_of_ble_eq_true rfl) dL_law_338 (fun v σ9 h9 => ?_)
  rw [h9.1, h9.2, ← hPY]; clear h9
  refine g_icmp_eq h 646 dL_law_341 (by decide) (fun c1 => ?_) (fun c1 => ?_)
  · exact hk _ o2
  · exact absurd o1 c1
set_option maxHeartbeats 4000000 in
theorem w_turned {K : KX} {E : EnvT} (hE : EOK E) (h : Cx K E cL_law 4 RL 7 161) {aw : Nat} (hw : SW E aw (ks K)) {b L : Nat} {xs : Nat → Int32} (hX : va_X b L xs (ks K) (ks K).heap) (hbl : b < (ks K).heap.size) (hbA : ¬ AE E b) (hL : L ≤ 2048) {σ : ST} (hc : CP σ σ.2.2.2) (i : Nat) (hi : i + 4 ≤ L) (hk : ∀ τ, CP τ τ.2.2.2 → GG K E τ 646 [(0, .ref b), (1, .ref (ad E 0 0 0)), (2, .ref (ad E 11 0 0)), (3, .int (nI i))] []) : GG K E σ 346 [(0, .ref b), (1, .ref (ad E 0 0 0)), (2, .ref (ad E 11 0 0)), (3, .int (nI i))] [] := by
  have hok := ok_turned hc (xs (i + 1))
  obtain ⟨PX, hPX⟩ : ∃ z, z = xTurned σ (xs (i + 1)) := ⟨_, rfl⟩
  obtain ⟨PY, hPY⟩ : ∃ z, z = yTurned σ.2.2.2 (xs (i + 1)) := ⟨_, rfl⟩
  rw [← hPX, ← hPY] at hok
  obtain ⟨o1, o2, o3⟩ := hok
  refine g_aload_n h (q := 1) 1 dL_law_346 rfl ?_
  refine g_aload_n h (q := 0) 0 dL_law_347 rfl ?_
  refine g_iload_n h (q := 3) 3 dL_law_348 rfl ?_
  refine g_iconst h (v := 1) dL_law_349 (by decide) ?_
  refine g_iadd h dL_law_350 ?_
  refine g_is (nI (i + 1)) (nI_add i 1) ?_
  refine g_sld h hX hbl hbA (i + 1) (by omega) hL dL_law_351 ?_
  refine g_callV h mv_X5_turned 0 0 0 ⟨rfl, rfl⟩ rfl rfl (As := [.int (xs (i + 1))]) (c_X5_turned (kl K) hE (σ := σ) hc.1 (xs (i + 1))) ml_L_49 rfl (by decide) (by decide) rfl (Nat.le_of_ble_eq_true rfl) dL_law_352 (fun v σ9 h9 => ?_)
  rw [h9.1, h9.2, ← hPX]; clear h9
  refine g_stE (st_eq o3) ?_
  refine g_aload_n h (q := 2) 2 dL_law_355 rfl ?_
  refine g_aload_n h (q := 0) 0 dL_law_356 rfl ?_
  refine g_iload_n h (q := 3) 3 dL_law_357 rfl ?_
  refine g_iconst h (v := 1) dL_law_358 (by decide) ?_
  refine g_iadd h dL_law_359 ?_
  refine g_is (nI (i + 1)) (nI_add i 1) ?_
  refine g_sld h hX hbl hbA (i + 1) (by omega) hL dL_law_360 ?_
  refine g_callV h mv_X6_turned 11 0 0 ⟨rfl, rfl⟩ rfl rfl (As := [.int (xs (i + 1))]) (c_X6_turned (kl K) hE (σ := PX.2) (M := σ.2.2.2) hc.b.1 (xs (i + 1))) ml_L_52 rfl (by decide) (by decide) rfl (Nat.le_of_ble_eq_true rfl) dL_law_361 (fun v σ9 h9 => ?_)
  rw [h9.1, h9.2, ← hPY]; clear h9
  refine g_icmp_eq h 646 dL_law_364 (by decide) (fun c1 => ?_) (fun c1 => ?_)
  · exact hk _ o2
  · exact absurd o1 c1
set_option maxHeartbeats 4000000 in
theorem w_sorted {K : KX} {E : EnvT} (hE : EOK E) (h : Cx K E cL_law 4 RL 7 161) {aw : Nat} (hw : SW E aw (ks K)) {b L : Nat} {xs : Nat → Int32} (hX : va_X b L xs (ks K) (ks K).heap) (hbl : b < (ks K).heap.size) (hbA : ¬ AE E b) (hL : L ≤ 2048) {σ : ST} (hc : CP σ σ.2.2.2) (i : Nat) (hi : i + 4 ≤ L) (hk : ∀ τ, CP τ τ.2.2.2 → GG K E τ 646 [(0, .ref b), (1, .ref (ad E 0 0 0)), (2, .ref (ad E 11 0 0)), (3, .int (nI i))] []) : GG K E σ 369 [(0, .ref b), (1, .ref (ad E 0 0 0)), (2, .ref (ad E 11 0 0)), (3, .int (nI i))] [] := by
  have hok := ok_sorted hc (xs (i + 1))
  obtain ⟨PX, hPX⟩ : ∃ z, z = xSorted σ (xs (i + 1)) := ⟨_, rfl⟩
  obtain ⟨PY, hPY⟩ : ∃ z, z = ySorted σ.2.2.2 (xs (i + 1)) := ⟨_, rfl⟩
  rw [← hPX, ← hPY] at hok
  obtain ⟨o1, o2, o3⟩ := hok
  refine g_aload_n h (q := 1) 1 dL_law_369 rfl ?_
  refine g_aload_n h (q := 0) 0 dL_law_370 rfl ?_
  refine g_iload_n h (q := 3) 3 dL_law_371 rfl ?_
  refine g_iconst h (v := 1) dL_law_372 (by decide) ?_
  refine g_iadd h dL_law_373 ?_
  refine g_is (nI (i + 1)) (nI_add i 1) ?_
  refine g_sld h hX hbl hbA (i + 1) (by omega) hL dL_law_374 ?_
  refine g_callV h mv_X5_sorted 0 0 0 ⟨rfl, rfl⟩ rfl rfl (As := [.int (xs (i + 1))]) (c_X5_sorted (kl K) hE (σ := σ) hc.1 (xs (i + 1))) ml_L_53 rfl (by decide) (by decide) rfl (Nat.le_of_ble_eq_true rfl) dL_law_375 (fun v σ9 h9 => ?_)
  rw [h9.1, h9.2, ← hPX]; clear h9
  refine g_stE (st_eq o3) ?_
  refine g_aload_n h (q := 2) 2 dL_law_378 rfl ?_
  refine g_aload_n h (q := 0) 0 dL_law_379 rfl ?_
  refine g_iload_n h (q := 3) 3 dL_law_380 rfl ?_
  refine g_iconst h (v := 1) dL_law_381 (by decide) ?_
  refine g_iadd h dL_law_382 ?_
  refine g_is (nI (i + 1)) (nI_add i 1) ?_
  refine g_sld h hX hbl hbA (i + 1) (by omega) hL dL_law_383 ?_
  refine g_callV h mv_X6_sorted 11 0 0 ⟨rfl, rfl⟩ rfl rfl (As := [.int (xs (i + 1))]) (c_X6_sorted (kl K) hE (σ := PX.2) (M := σ.2.2.2) hc.b.1 (xs (i + 1))) ml_L_56 rfl (by decide) (by decide) rfl (Nat.le_of_ble_eq_true rfl) dL_law_384 (fun v σ9 h9 => ?_)
  rw [h9.1, h9.2, ← hPY]; clear h9
  refine g_icmp_eq h 646 dL_law_387 (by decide) (fun c1 => ?_) (fun c1 => ?_)
  · exact hk _ o2
  · exact absurd o1 c1
set_option maxHeartbeats 4000000 in
theorem w_straight {K : KX} {E : EnvT} (hE : EOK E) (h : Cx K E cL_law 4 RL 7 161) {aw : Nat} (hw : SW E aw (ks K)) {b L : Nat} {xs : Nat → Int32} (hX : va_X b L xs (ks K) (ks K).heap) (hbl : b < (ks K).heap.size) (hbA : ¬ AE E b) (hL : L ≤ 2048) {σ : ST} (hc : CP σ σ.2.2.2) (i : Nat) (hi : i + 4 ≤ L) (hk : ∀ τ, CP τ τ.2.2.2 → GG K E τ 646 [(0, .ref b), (1, .ref (ad E 0 0 0)), (2, .ref (ad E 11 0 0)), (3, .int (nI i))] []) : GG K E σ 392 [(0, .ref b), (1, .ref (ad E 0 0 0)), (2, .ref (ad E 11 0 0)), (3, .int (nI i))] [] := by
  have hok := ok_straight hc (xs (i + 1))
  obtain ⟨PX, hPX⟩ : ∃ z, z = xStraight σ (xs (i + 1)) := ⟨_, rfl⟩
  obtain ⟨PY, hPY⟩ : ∃ z, z = yStraight σ.2.2.2 (xs (i + 1)) := ⟨_, rfl⟩
  rw [← hPX, ← hPY] at hok
  obtain ⟨o1, o2, o3⟩ := hok
  refine g_aload_n h (q := 1) 1 dL_law_392 rfl ?_
  refine g_aload_n h (q := 0) 0 dL_law_393 rfl ?_
  refine g_iload_n h (q := 3) 3 dL_law_394 rfl ?_
  refine g_iconst h (v := 1) dL_law_395 (by decide) ?_
  refine g_iadd h dL_law_396 ?_
  refine g_is (nI (i + 1)) (nI_add i 1) ?_
  refine g_sld h hX hbl hbA (i + 1) (by omega) hL dL_law_397 ?_
  refine g_callV h mv_X5_straight 0 0 0 ⟨rfl, rfl⟩ rfl rfl (As := [.int (xs (i + 1))]) (c_X5_straight (kl K) hE (σ := σ) hc.1 (xs (i + 1))) ml_L_57 rfl (by decide) (by decide) rfl (Nat.le_of_ble_eq_true rfl) dL_law_398 (fun v σ9 h9 => ?_)
  rw [h9.1, h9.2, ← hPX]; clear h9
  refine g_stE (st_eq o3) ?_
  refine g_aload_n h (q := 2) 2 dL_law_401 rfl ?_
  refine g_aload_n h (q := 0) 0 dL_law_402 rfl ?_
  refine g_iload_n h (q := 3) 3 dL_law_403 rfl ?_
  refine g_iconst h (v := 1) dL_law_404 (by decide) ?_
  refine g_iadd h dL_law_405 ?_
  refine g_is (nI (i + 1)) (nI_add i 1) ?_
  refine g_sld h hX hbl hbA (i + 1) (by omega) hL dL_law_406 ?_
  refine g_callV h mv_X6_straight 11 0 0 ⟨rfl, rfl⟩ rfl rfl (As := [.int (xs (i + 1))]) (c_X6_straight (kl K) hE (σ := PX.2) (M := σ.2.2.2) hc.b.1 (xs (i + 1))) ml_L_60 rfl (by decide) (by decide) rfl (Nat.le_of_ble_eq_true rfl) dL_law_407 (fun v σ9 h9 => ?_)
  rw [h9.1, h9.2, ← hPY]; clear h9
  refine g_icmp_eq h 646 dL_law_410 (by decide) (fun c1 => ?_) (fun c1 => ?_)
  · exact hk _ o2
  · exact absurd o1 c1
set_option maxHeartbeats 4000000 in
theorem w_drain {K : KX} {E : EnvT} (hE : EOK E) (h : Cx K E cL_law 4 RL 7 161) {aw : Nat} (hw : SW E aw (ks K)) {b L : Nat} {xs : Nat → Int32} (hX : va_X b L xs (ks K) (ks K).heap) (hbl : b < (ks K).heap.size) (hbA : ¬ AE E b) (hL : L ≤ 2048) {σ : ST} (hc : CP σ σ.2.2.2) (i : Nat) (hi : i + 4 ≤ L) (hk : ∀ τ, CP τ τ.2.2.2 → GG K E τ 646 [(0, .ref b), (1, .ref (ad E 0 0 0)), (2, .ref (ad E 11 0 0)), (3, .int (nI i))] []) : GG K E σ 415 [(0, .ref b), (1, .ref (ad E 0 0 0)), (2, .ref (ad E 11 0 0)), (3, .int (nI i))] [] := by
  have hok := ok_drain hc
  obtain ⟨PX, hPX⟩ : ∃ z, z = xDrain σ := ⟨_, rfl⟩
  obtain ⟨PY, hPY⟩ : ∃ z, z = yDrain σ.2.2.2 (σ.2.2.2.2.1 0) (σ.2.2.2.2.1 1) := ⟨_, rfl⟩
  rw [← hPX, ← hPY] at hok
  obtain ⟨o1, o2, o3⟩ := hok
  refine g_aload_n h (q := 1) 1 dL_law_415 rfl ?_
  refine g_callV h mv_X5_drain 0 0 0 ⟨rfl, rfl⟩ rfl rfl (As := []) (c_X5_drain (kl K) hE (σ := σ) hc.1 ) ml_L_61 rfl (by decide) (by decide) rfl (Nat.le_of_ble_eq_true rfl) dL_law_416 (fun v σ9 h9 => ?_)
  rw [h9.1, h9.2, ← hPX]; clear h9
  refine g_stE (st_eq o3) ?_
  refine g_aload_n h (q := 2) 2 dL_law_419 rfl ?_
  refine g_callV h mv_X6_drain 11 0 0 ⟨rfl, rfl⟩ rfl rfl (As := []) (c_X6_drain (kl K) hE (σ := PX.2) (M := σ.2.2.2) hc.b.1 ) ml_L_64 rfl (by decide) (by decide) rfl (Nat.le_of_ble_eq_true rfl) dL_law_420 (fun v σ9 h9 => ?_)
  rw [h9.1, h9.2, ← hPY]; clear h9
  refine g_icmp_eq h 646 dL_law_423 (by decide) (fun c1 => ?_) (fun c1 => ?_)
  · exact hk _ o2
  · exact absurd o1 c1
set_option maxHeartbeats 4000000 in
theorem w_lost {K : KX} {E : EnvT} (hE : EOK E) (h : Cx K E cL_law 4 RL 7 161) {aw : Nat} (hw : SW E aw (ks K)) {b L : Nat} {xs : Nat → Int32} (hX : va_X b L xs (ks K) (ks K).heap) (hbl : b < (ks K).heap.size) (hbA : ¬ AE E b) (hL : L ≤ 2048) {σ : ST} (hc : CP σ σ.2.2.2) (i : Nat) (hi : i + 4 ≤ L) (hk : ∀ τ, CP τ τ.2.2.2 → GG K E τ 646 [(0, .ref b), (1, .ref (ad E 0 0 0)), (2, .ref (ad E 11 0 0)), (3, .int (nI i))] []) : GG K E σ 428 [(0, .ref b), (1, .ref (ad E 0 0 0)), (2, .ref (ad E 11 0 0)), (3, .int (nI i))] [] := by
  have hok := ok_lost hc (xs (i + 1))
  obtain ⟨PX, hPX⟩ : ∃ z, z = xLost σ (xs (i + 1)) := ⟨_, rfl⟩
  obtain ⟨PY, hPY⟩ : ∃ z, z = yLost σ.2.2.2 (xs (i + 1)) := ⟨_, rfl⟩
  rw [← hPX, ← hPY] at hok
  obtain ⟨o1, o2, o3⟩ := hok
  refine g_aload_n h (q := 1) 1 dL_law_428 rfl ?_
  refine g_aload_n h (q := 0) 0 dL_law_429 rfl ?_
  refine g_iload_n h (q := 3) 3 dL_law_430 rfl ?_
  refine g_iconst h (v := 1) dL_law_431 (by decide) ?_
  refine g_iadd h dL_law_432 ?_
  refine g_is (nI (i + 1)) (nI_add i 1) ?_
  refine g_sld h hX hbl hbA (i + 1) (by omega) hL dL_law_433 ?_
  refine g_callV h mv_X5_lost 0 0 0 ⟨rfl, rfl⟩ rfl rfl (As := [.int (xs (i + 1))]) (c_X5_lost (kl K) hE (σ := σ) hc.1 (xs (i + 1))) ml_L_65 rfl (by decide) (by decide) rfl (Nat.le_of_ble_eq_true rfl) dL_law_434 (fun v σ9 h9 => ?_)
  rw [h9.1, h9.2, ← hPX]; clear h9
  refine g_stE (st_eq o3) ?_
  refine g_aload_n h (q := 2) 2 dL_law_437 rfl ?_
  refine g_aload_n h (q := 0) 0 dL_law_438 rfl ?_
  refine g_iload_n h (q := 3) 3 dL_law_439 rfl ?_
  refine g_iconst h (v := 1) dL_law_440 (by decide) ?_
  refine g_iadd h dL_law_441 ?_
  refine g_is (nI (i + 1)) (nI_add i 1) ?_
  refine g_sld h hX hbl hbA (i + 1) (by omega) hL dL_law_442 ?_
  refine g_callV h mv_X6_lost 11 0 0 ⟨rfl, rfl⟩ rfl rfl (As := [.int (xs (i + 1))]) (c_X6_lost (kl K) hE (σ := PX.2) (M := σ.2.2.2) hc.b.1 (xs (i + 1))) ml_L_68 rfl (by decide) (by decide) rfl (Nat.le_of_ble_eq_true rfl) dL_law_443 (fun v σ9 h9 => ?_)
  rw [h9.1, h9.2, ← hPY]; clear h9
  refine g_icmp_eq h 646 dL_law_446 (by decide) (fun c1 => ?_) (fun c1 => ?_)
  · exact hk _ o2
  · exact absurd o1 c1
set_option maxHeartbeats 4000000 in
theorem w_fewest {K : KX} {E : EnvT} (hE : EOK E) (h : Cx K E cL_law 4 RL 7 161) {aw : Nat} (hw : SW E aw (ks K)) {b L : Nat} {xs : Nat → Int32} (hX : va_X b L xs (ks K) (ks K).heap) (hbl : b < (ks K).heap.size) (hbA : ¬ AE E b) (hL : L ≤ 2048) {σ : ST} (hc : CP σ σ.2.2.2) (i : Nat) (hi : i + 4 ≤ L) (hk : ∀ τ, CP τ τ.2.2.2 → GG K E τ 646 [(0, .ref b), (1, .ref (ad E 0 0 0)), (2, .ref (ad E 11 0 0)), (3, .int (nI i))] []) : GG K E σ 451 [(0, .ref b), (1, .ref (ad E 0 0 0)), (2, .ref (ad E 11 0 0)), (3, .int (nI i))] [] := by
  have hok := ok_fewest hc (xs (i + 1))
  obtain ⟨PX, hPX⟩ : ∃ z, z = xFewest σ (xs (i + 1)) := ⟨_, rfl⟩
  obtain ⟨PY, hPY⟩ : ∃ z, z = yFewest σ.2.2.2 (xs (i + 1)) := ⟨_, rfl⟩
  rw [← hPX, ← hPY] at hok
  obtain ⟨o1, o2, o3⟩ := hok
  refine g_aload_n h (q := 1) 1 dL_law_451 rfl ?_
  refine g_aload_n h (q := 0) 0 dL_law_452 rfl ?_
  refine g_iload_n h (q := 3) 3 dL_law_453 rfl ?_
  refine g_iconst h (v := 1) dL_law_454 (by decide) ?_
  refine g_iadd h dL_law_455 ?_
  refine g_is (nI (i + 1)) (nI_add i 1) ?_
  refine g_sld h hX hbl hbA (i + 1) (by omega) hL dL_law_456 ?_
  refine g_callV h mv_X5_fewest 0 0 0 ⟨rfl, rfl⟩ rfl rfl (As := [.int (xs (i + 1))]) (c_X5_fewest (kl K) hE (σ := σ) hc.1 (xs (i + 1))) ml_L_69 rfl (by decide) (by decide) rfl (Nat.le_of_ble_eq_true rfl) dL_law_457 (fun v σ9 h9 => ?_)
  rw [h9.1, h9.2, ← hPX]; clear h9
  refine g_stE (st_eq o3) ?_
  refine g_aload_n h (q := 2) 2 dL_law_460 rfl ?_
  refine g_aload_n h (q := 0) 0 dL_law_461 rfl ?_
  refine g_iload_n h (q := 3) 3 dL_law_462 rfl ?_
  refine g_iconst h (v := 1) dL_law_463 (by decide) ?_
  refine g_iadd h dL_law_464 ?_
  refine g_is (nI (i + 1)) (nI_add i 1) ?_
  refine g_sld h hX hbl hbA (i + 1) (by omega) hL dL_law_465 ?_
  refine g_callV h mv_X6_fewest 11 0 0 ⟨rfl, rfl⟩ rfl rfl (As := [.int (xs (i + 1))]) (c_X6_fewest (kl K) hE (σ := PX.2) (M := σ.2.2.2) hc.b.1 (xs (i + 1))) ml_L_72 rfl (by decide) (by decide) rfl (Nat.le_of_ble_eq_true rfl) dL_law_466 (fun v σ9 h9 => ?_)
  rw [h9.1, h9.2, ← hPY]; clear h9
  refine g_icmp_eq h 646 dL_law_469 (by decide) (fun c1 => ?_) (fun c1 => ?_)
  · exact hk _ o2
  · exact absurd o1 c1
set_option maxHeartbeats 4000000 in
theorem w_share {K : KX} {E : EnvT} (hE : EOK E) (h : Cx K E cL_law 4 RL 7 161) {aw : Nat} (hw : SW E aw (ks K)) {b L : Nat} {xs : Nat → Int32} (hX : va_X b L xs (ks K) (ks K).heap) (hbl : b < (ks K).heap.size) (hbA : ¬ AE E b) (hL : L ≤ 2048) {σ : ST} (hc : CP σ σ.2.2.2) (i : Nat) (hi : i + 4 ≤ L) (hk : ∀ τ, CP τ τ.2.2.2 → GG K E τ 646 [(0, .ref b), (1, .ref (ad E 0 0 0)), (2, .ref (ad E 11 0 0)), (3, .int (nI i))] []) : GG K E σ 474 [(0, .ref b), (1, .ref (ad E 0 0 0)), (2, .ref (ad E 11 0 0)), (3, .int (nI i))] [] := by
  refine g_aload_n h (q := 1) 1 dL_law_474 rfl ?_
  refine g_aload_n h (q := 0) 0 dL_law_475 rfl ?_
  refine g_iload_n h (q := 3) 3 dL_law_476 rfl ?_
  refine g_iconst h (v := 1) dL_law_477 (by decide) ?_
  refine g_iadd h dL_law_478 ?_
  refine g_is (nI (i + 1)) (nI_add i 1) ?_
  refine g_sld h hX hbl hbA (i + 1) (by omega) hL dL_law_479 ?_
  refine g_aload_n h (q := 0) 0 dL_law_480 rfl ?_
  refine g_iload_n h (q := 3) 3 dL_law_481 rfl ?_
  refine g_iconst h (v := 2) dL_law_482 (by decide) ?_
  refine g_iadd h dL_law_483 ?_
  refine g_is (nI (i + 2)) (nI_add i 2) ?_
  refine g_sld h hX hbl hbA (i + 2) (by omega) hL dL_law_484 ?_
  refine g_aload_n h (q := 0) 0 dL_law_485 rfl ?_
  refine g_iload_n h (q := 3) 3 dL_law_486 rfl ?_
  refine g_iconst h (v := 3) dL_law_487 (by decide) ?_
  refine g_iadd h dL_law_488 ?_
  refine g_is (nI (i + 3)) (nI_add i 3) ?_
  refine g_sld h hX hbl hbA (i + 3) (by omega) hL dL_law_489 ?_
  refine g_callVW h hw mv_X5_share 0 0 0 ⟨rfl, rfl⟩ rfl rfl (As := [.int (xs (i + 1)), .int (xs (i + 2)), .int (xs (i + 3))]) (c_X5_share aw (kl K) hE (σ := σ) (xs (i + 1)) (xs (i + 2)) (xs (i + 3))) ml_L_73 rfl (by decide) (by decide) rfl (Nat.le_of_ble_eq_true rfl) dL_law_490 (fun v σ9 h9 => ?_)
  rw [h9.1, h9.2]; clear h9
  refine g_stE (st_eq (M := σ.2.2.2) rfl) ?_
  refine g_aload_n h (q := 2) 2 dL_law_493 rfl ?_
  refine g_aload_n h (q := 0) 0 dL_law_494 rfl ?_
  refine g_iload_n h (q := 3) 3 dL_law_495 rfl ?_
  refine g_iconst h (v := 1) dL_law_496 (by decide) ?_
  refine g_iadd h dL_law_497 ?_
  refine g_is (nI (i + 1)) (nI_add i 1) ?_
  refine g_sld h hX hbl hbA (i + 1) (by omega) hL dL_law_498 ?_
  refine g_aload_n h (q := 0) 0 dL_law_499 rfl ?_
  refine g_iload_n h (q := 3) 3 dL_law_500 rfl ?_
  refine g_iconst h (v := 2) dL_law_501 (by decide) ?_
  refine g_iadd h dL_law_502 ?_
  refine g_is (nI (i + 2)) (nI_add i 2) ?_
  refine g_sld h hX hbl hbA (i + 2) (by omega) hL dL_law_503 ?_
  refine g_aload_n h (q := 0) 0 dL_law_504 rfl ?_
  refine g_iload_n h (q := 3) 3 dL_law_505 rfl ?_
  refine g_iconst h (v := 3) dL_law_506 (by decide) ?_
  refine g_iadd h dL_law_507 ?_
  refine g_is (nI (i + 3)) (nI_add i 3) ?_
  refine g_sld h hX hbl hbA (i + 3) (by omega) hL dL_law_508 ?_
  refine g_callV h mv_X6_share 11 0 0 ⟨rfl, rfl⟩ rfl rfl (As := [.int (xs (i + 1)), .int (xs (i + 2)), .int (xs (i + 3))]) (c_X6_share (kl K) hE (σ := σ) (M := σ.2.2.2) (xs (i + 1)) (xs (i + 2)) (xs (i + 3))) ml_L_77 rfl (by decide) (by decide) rfl (Nat.le_of_ble_eq_true rfl) dL_law_509 (fun v σ9 h9 => ?_)
  rw [h9.1, h9.2]; clear h9
  refine g_lcmp h dL_law_512 ?_
  refine g_if_eq h 646 dL_law_513 (by decide) (fun c1 => ?_) (fun c1 => ?_)
  · exact hk _ hc
  · exact absurd (cmp_0.mpr rfl) c1
set_option maxHeartbeats 4000000 in
theorem w_sees {K : KX} {E : EnvT} (hE : EOK E) (h : Cx K E cL_law 4 RL 7 161) {aw : Nat} (hw : SW E aw (ks K)) {b L : Nat} {xs : Nat → Int32} (hX : va_X b L xs (ks K) (ks K).heap) (hbl : b < (ks K).heap.size) (hbA : ¬ AE E b) (hL : L ≤ 2048) {σ : ST} (hc : CP σ σ.2.2.2) (i : Nat) (hi : i + 4 ≤ L) (hk : ∀ τ, CP τ τ.2.2.2 → GG K E τ 646 [(0, .ref b), (1, .ref (ad E 0 0 0)), (2, .ref (ad E 11 0 0)), (3, .int (nI i))] []) : GG K E σ 518 [(0, .ref b), (1, .ref (ad E 0 0 0)), (2, .ref (ad E 11 0 0)), (3, .int (nI i))] [] := by
  have hok := ok_sees hc (xs (i + 1)) (xs (i + 2))
  obtain ⟨PX, hPX⟩ : ∃ z, z = xSees σ (xs (i + 1)) (xs (i + 2)) := ⟨_, rfl⟩
  obtain ⟨PY, hPY⟩ : ∃ z, z = ySees σ.2.2.2 (xs (i + 1)) (xs (i + 2)) := ⟨_, rfl⟩
  rw [← hPX, ← hPY] at hok
  obtain ⟨o1, o2, o3⟩ := hok
  refine g_aload_n h (q := 1) 1 dL_law_518 rfl ?_
  refine g_aload_n h (q := 0) 0 dL_law_519 rfl ?_
  refine g_iload_n h (q := 3) 3 dL_law_520 rfl ?_
  refine g_iconst h (v := 1) dL_law_521 (by decide) ?_
  refine g_iadd h dL_law_522 ?_
  refine g_is (nI (i + 1)) (nI_add i 1) ?_
  refine g_sld h hX hbl hbA (i + 1) (by omega) hL dL_law_523 ?_
  refine g_aload_n h (q := 0) 0 dL_law_524 rfl ?_
  refine g_iload_n h (q := 3) 3 dL_law_525 rfl ?_
  refine g_iconst h (v := 2) dL_law_526 (by decide) ?_
  refine g_iadd h dL_law_527 ?_
  refine g_is (nI (i + 2)) (nI_add i 2) ?_
  refine g_sld h hX hbl hbA (i + 2) (by omega) hL dL_law_528 ?_
  refine g_callV h mv_X5_sees 0 0 0 ⟨rfl, rfl⟩ rfl rfl (As := [.int (xs (i + 1)), .int (xs (i + 2))]) (c_X5_sees (kl K) hE (σ := σ) hc.1 (xs (i + 1)) (xs (i + 2))) ml_L_78 rfl (by decide) (by decide) rfl (Nat.le_of_ble_eq_true rfl) dL_law_529 (fun v σ9 h9 => ?_)
  rw [h9.1, h9.2, ← hPX]; clear h9
  refine g_stE (st_eq o3) ?_
  refine g_aload_n h (q := 2) 2 dL_law_532 rfl ?_
  refine g_aload_n h (q := 0) 0 dL_law_533 rfl ?_
  refine g_iload_n h (q := 3) 3 dL_law_534 rfl ?_
  refine g_iconst h (v := 1) dL_law_535 (by decide) ?_
  refine g_iadd h dL_law_536 ?_
  refine g_is (nI (i + 1)) (nI_add i 1) ?_
  refine g_sld h hX hbl hbA (i + 1) (by omega) hL dL_law_537 ?_
  refine g_aload_n h (q := 0) 0 dL_law_538 rfl ?_
  refine g_iload_n h (q := 3) 3 dL_law_539 rfl ?_
  refine g_iconst h (v := 2) dL_law_540 (by decide) ?_
  refine g_iadd h dL_law_541 ?_
  refine g_is (nI (i + 2)) (nI_add i 2) ?_
  refine g_sld h hX hbl hbA (i + 2) (by omega) hL dL_law_542 ?_
  refine g_callV h mv_X6_sees 11 0 0 ⟨rfl, rfl⟩ rfl rfl (As := [.int (xs (i + 1)), .int (xs (i + 2))]) (c_X6_sees (kl K) hE (σ := PX.2) (M := σ.2.2.2) hc.b.2.2 (xs (i + 1)) (xs (i + 2))) ml_L_81 rfl (by decide) (by decide) rfl (Nat.le_of_ble_eq_true rfl) dL_law_543 (fun v σ9 h9 => ?_)
  rw [h9.1, h9.2, ← hPY]; clear h9
  refine g_icmp_eq h 646 dL_law_546 (by decide) (fun c1 => ?_) (fun c1 => ?_)
  · exact hk _ o2
  · exact absurd o1 c1
set_option maxHeartbeats 4000000 in
theorem w_forget {K : KX} {E : EnvT} (hE : EOK E) (h : Cx K E cL_law 4 RL 7 161) {aw : Nat} (hw : SW E aw (ks K)) {b L : Nat} {xs : Nat → Int32} (hX : va_X b L xs (ks K) (ks K).heap) (hbl : b < (ks K).heap.size) (hbA : ¬ AE E b) (hL : L ≤ 2048) {σ : ST} (hc : CP σ σ.2.2.2) (i : Nat) (hi : i + 4 ≤ L) (hk : ∀ τ, CP τ τ.2.2.2 → GG K E τ 646 [(0, .ref b), (1, .ref (ad E 0 0 0)), (2, .ref (ad E 11 0 0)), (3, .int (nI i))] []) : GG K E σ 551 [(0, .ref b), (1, .ref (ad E 0 0 0)), (2, .ref (ad E 11 0 0)), (3, .int (nI i))] [] := by
  have hok := ok_forget hc 
  obtain ⟨PX, hPX⟩ : ∃ z, z = xForget σ := ⟨_, rfl⟩
  obtain ⟨PY, hPY⟩ : ∃ z, z = yForget σ.2.2.2 := ⟨_, rfl⟩
  rw [← hPX, ← hPY] at hok
  obtain ⟨o1, o2, o3⟩ := hok
  refine g_aload_n h (q := 1) 1 dL_law_551 rfl ?_
  refine g_callV h mv_X5_forget 0 0 0 ⟨rfl, rfl⟩ rfl rfl (As := []) (c_X5_forget (kl K) hE (σ := σ) ) ml_L_82 rfl (by decide) (by decide) rfl (Nat.le_of_ble_eq_true rfl) dL_law_552 (fun v σ9 h9 => ?_)
  rw [h9.1, h9.2, ← hPX]; clear h9
  refine g_stE (st_eq o3) ?_
  refine g_aload_n h (q := 2) 2 dL_law_555 rfl ?_
  refine g_callV h mv_X6_forget 11 0 0 ⟨rfl, rfl⟩ rfl rfl (As := []) (c_X6_forget (kl K) hE (σ := PX.2) (M := σ.2.2.2)  ) ml_L_85 rfl (by decide) (by decide) rfl (Nat.le_of_ble_eq_true rfl) dL_law_556 (fun v σ9 h9 => ?_)
  rw [h9.1, h9.2, ← hPY]; clear h9
  refine g_icmp_eq h 646 dL_law_559 (by decide) (fun c1 => ?_) (fun c1 => ?_)
  · exact hk _ o2
  · exact absurd o1 c1
set_option maxHeartbeats 4000000 in
theorem w_unseen {K : KX} {E : EnvT} (hE : EOK E) (h : Cx K E cL_law 4 RL 7 161) {aw : Nat} (hw : SW E aw (ks K)) {b L : Nat} {xs : Nat → Int32} (hX : va_X b L xs (ks K) (ks K).heap) (hbl : b < (ks K).heap.size) (hbA : ¬ AE E b) (hL : L ≤ 2048) {σ : ST} (hc : CP σ σ.2.2.2) (i : Nat) (hi : i + 4 ≤ L) (hk : ∀ τ, CP τ τ.2.2.2 → GG K E τ 646 [(0, .ref b), (1, .ref (ad E 0 0 0)), (2, .ref (ad E 11 0 0)), (3, .int (nI i))] []) : GG K E σ 564 [(0, .ref b), (1, .ref (ad E 0 0 0)), (2, .ref (ad E 11 0 0)), (3, .int (nI i))] [] := by
  obtain ⟨ks0, hU, hok⟩ := ok_unseen hc
  obtain ⟨PX, hPX⟩ : ∃ z, z = xUnseen σ := ⟨_, rfl⟩
  obtain ⟨PY, hPY⟩ : ∃ z, z = yUnseen ks0 σ.2.2.2 := ⟨_, rfl⟩
  rw [← hPX, ← hPY] at hok
  obtain ⟨o1, o2, o3⟩ := hok
  refine g_aload_n h (q := 1) 1 dL_law_564 rfl ?_
  refine g_callV h mv_X5_unseen 0 0 0 ⟨rfl, rfl⟩ rfl rfl (As := []) (c_X5_unseen (kl K) hE (σ := σ) hc.1 ) ml_L_86 rfl (by decide) (by decide) rfl (Nat.le_of_ble_eq_true rfl) dL_law_565 (fun v σ9 h9 => ?_)
  rw [h9.1, h9.2, ← hPX]; clear h9
  refine g_stE (st_eq o3) ?_
  refine g_aload_n h (q := 2) 2 dL_law_568 rfl ?_
  refine g_callV h mv_X6_unseen 11 0 0 ⟨rfl, rfl⟩ rfl rfl (As := []) (c_X6_unseen (kl K) hE (σ := PX.2) (M := σ.2.2.2) ks0 hU ) ml_L_89 rfl (by decide) (by decide) rfl (Nat.le_of_ble_eq_true rfl) dL_law_569 (fun v σ9 h9 => ?_)
  rw [h9.1, h9.2, ← hPY]; clear h9
  refine g_icmp_eq h 646 dL_law_572 (by decide) (fun c1 => ?_) (fun c1 => ?_)
  · exact hk _ o2
  · exact absurd o1 c1
set_option maxHeartbeats 4000000 in
theorem w_keep {K : KX} {E : EnvT} (hE : EOK E) (h : Cx K E cL_law 4 RL 7 161) {aw : Nat} (hw : SW E aw (ks K)) {b L : Nat} {xs : Nat → Int32} (hX : va_X b L xs (ks K) (ks K).heap) (hbl : b < (ks K).heap.size) (hbA : ¬ AE E b) (hL : L ≤ 2048) {σ : ST} (hc : CP σ σ.2.2.2) (i : Nat) (hi : i + 4 ≤ L) (hk : ∀ τ, CP τ τ.2.2.2 → GG K E τ 646 [(0, .ref b), (1, .ref (ad E 0 0 0)), (2, .ref (ad E 11 0 0)), (3, .int (nI i))] []) : GG K E σ 577 [(0, .ref b), (1, .ref (ad E 0 0 0)), (2, .ref (ad E 11 0 0)), (3, .int (nI i))] [] := by
  have hok := ok_keep hc (xs (i + 1))
  obtain ⟨PX, hPX⟩ : ∃ z, z = xKeep σ (xs (i + 1)) := ⟨_, rfl⟩
  obtain ⟨PY, hPY⟩ : ∃ z, z = yKeep σ.2.2.2 (xs (i + 1)) := ⟨_, rfl⟩
  rw [← hPX, ← hPY] at hok
  obtain ⟨o1, o2, o3⟩ := hok
  refine g_aload_n h (q := 1) 1 dL_law_577 rfl ?_
  refine g_aload_n h (q := 0) 0 dL_law_578 rfl ?_
  refine g_iload_n h (q := 3) 3 dL_law_579 rfl ?_
  refine g_iconst h (v := 1) dL_law_580 (by decide) ?_
  refine g_iadd h dL_law_581 ?_
  refine g_is (nI (i + 1)) (nI_add i 1) ?_
  refine g_sld h hX hbl hbA (i + 1) (by omega) hL dL_law_582 ?_
  refine g_callV h mv_X5_keep 0 0 0 ⟨rfl, rfl⟩ rfl rfl (As := [.int (xs (i + 1))]) (c_X5_keep (kl K) hE (σ := σ) hc.1 (xs (i + 1))) ml_L_90 rfl (by decide) (by decide) rfl (Nat.le_of_ble_eq_true rfl) dL_law_583 (fun v σ9 h9 => ?_)
  rw [h9.1, h9.2, ← hPX]; clear h9
  refine g_stE (st_eq o3) ?_
  refine g_aload_n h (q := 2) 2 dL_law_586 rfl ?_
  refine g_aload_n h (q := 0) 0 dL_law_587 rfl ?_
  refine g_iload_n h (q := 3) 3 dL_law_588 rfl ?_
  refine g_iconst h (v := 1) dL_law_589 (by decide) ?_
  refine g_iadd h dL_law_590 ?_
  refine g_is (nI (i + 1)) (nI_add i 1) ?_
  refine g_sld h hX hbl hbA (i + 1) (by omega) hL dL_law_591 ?_
  refine g_callV h mv_X6_keep 11 0 0 ⟨rfl, rfl⟩ rfl rfl (As := [.int (xs (i + 1))]) (c_X6_keep (kl K) hE (σ := PX.2) (M := σ.2.2.2)  (xs (i + 1))) ml_L_93 rfl (by decide) (by decide) rfl (Nat.le_of_ble_eq_true rfl) dL_law_592 (fun v σ9 h9 => ?_)
  rw [h9.1, h9.2, ← hPY]; clear h9
  refine g_icmp_eq h 646 dL_law_595 (by decide) (fun c1 => ?_) (fun c1 => ?_)
  · exact hk _ o2
  · exact absurd o1 c1
set_option maxHeartbeats 4000000 in
theorem w_back {K : KX} {E : EnvT} (hE : EOK E) (h : Cx K E cL_law 4 RL 7 161) {aw : Nat} (hw : SW E aw (ks K)) {b L : Nat} {xs : Nat → Int32} (hX : va_X b L xs (ks K) (ks K).heap) (hbl : b < (ks K).heap.size) (hbA : ¬ AE E b) (hL : L ≤ 2048) {σ : ST} (hc : CP σ σ.2.2.2) (i : Nat) (hi : i + 4 ≤ L) (hk : ∀ τ, CP τ τ.2.2.2 → GG K E τ 646 [(0, .ref b), (1, .ref (ad E 0 0 0)), (2, .ref (ad E 11 0 0)), (3, .int (nI i))] []) : GG K E σ 600 [(0, .ref b), (1, .ref (ad E 0 0 0)), (2, .ref (ad E 11 0 0)), (3, .int (nI i))] [] := by
  obtain ⟨p, q, hpq, hok⟩ := ok_back hc (xs (i + 1))
  obtain ⟨PX, hPX⟩ : ∃ z, z = xBack σ (xs (i + 1)) := ⟨_, rfl⟩
  obtain ⟨PY, hPY⟩ : ∃ z, z = yBack σ.2.2.2 (xs (i + 1)) p q := ⟨_, rfl⟩
  rw [← hPX, ← hPY] at hok
  obtain ⟨o1, o2, o3⟩ := hok
  refine g_aload_n h (q := 1) 1 dL_law_600 rfl ?_
  refine g_aload_n h (q := 0) 0 dL_law_601 rfl ?_
  refine g_iload_n h (q := 3) 3 dL_law_602 rfl ?_
  refine g_iconst h (v := 1) dL_law_603 (by decide) ?_
  refine g_iadd h dL_law_604 ?_
  refine g_is (nI (i + 1)) (nI_add i 1) ?_
  refine g_sld h hX hbl hbA (i + 1) (by omega) hL dL_law_605 ?_
  refine g_callV h mv_X5_back 0 0 0 ⟨rfl, rfl⟩ rfl rfl (As := [.int (xs (i + 1))]) (c_X5_back (kl K) hE (σ := σ) hc.1 (xs (i + 1))) ml_L_94 rfl (by decide) (by decide) rfl (Nat.le_of_ble_eq_true rfl) dL_law_606 (fun v σ9 h9 => ?_)
  rw [h9.1, h9.2, ← hPX]; clear h9
  refine g_stE (st_eq o3) ?_
  refine g_aload_n h (q := 2) 2 dL_law_609 rfl ?_
  refine g_aload_n h (q := 0) 0 dL_law_610 rfl ?_
  refine g_iload_n h (q := 3) 3 dL_law_611 rfl ?_
  refine g_iconst h (v := 1) dL_law_612 (by decide) ?_
  refine g_iadd h dL_law_613 ?_
  refine g_is (nI (i + 1)) (nI_add i 1) ?_
  refine g_sld h hX hbl hbA (i + 1) (by omega) hL dL_law_614 ?_
  refine g_callV h mv_X6_back 11 0 0 ⟨rfl, rfl⟩ rfl rfl (As := [.int (xs (i + 1))]) (c_X6_back (kl K) hE (σ := PX.2) (M := σ.2.2.2)  (xs (i + 1)) p q hpq) ml_L_97 rfl (by decide) (by decide) rfl (Nat.le_of_ble_eq_true rfl) dL_law_615 (fun v σ9 h9 => ?_)
  rw [h9.1, h9.2, ← hPY]; clear h9
  refine g_icmp_eq h 646 dL_law_618 (by decide) (fun c1 => ?_) (fun c1 => ?_)
  · exact hk _ o2
  · exact absurd o1 c1
set_option maxHeartbeats 4000000 in
theorem w_count {K : KX} {E : EnvT} (hE : EOK E) (h : Cx K E cL_law 4 RL 7 161) {aw : Nat} (hw : SW E aw (ks K)) {b L : Nat} {xs : Nat → Int32} (hX : va_X b L xs (ks K) (ks K).heap) (hbl : b < (ks K).heap.size) (hbA : ¬ AE E b) (hL : L ≤ 2048) {σ : ST} (hc : CP σ σ.2.2.2) (i : Nat) (hi : i + 4 ≤ L) (hk : ∀ τ, CP τ τ.2.2.2 → GG K E τ 646 [(0, .ref b), (1, .ref (ad E 0 0 0)), (2, .ref (ad E 11 0 0)), (3, .int (nI i))] []) : GG K E σ 623 [(0, .ref b), (1, .ref (ad E 0 0 0)), (2, .ref (ad E 11 0 0)), (3, .int (nI i))] [] := by
  have hok := ok_count hc (xs (i + 1))
  obtain ⟨PX, hPX⟩ : ∃ z, z = xCount σ (xs (i + 1)) := ⟨_, rfl⟩
  obtain ⟨PY, hPY⟩ : ∃ z, z = yCount σ.2.2.2 (xs (i + 1)) := ⟨_, rfl⟩
  rw [← hPX, ← hPY] at hok
  obtain ⟨o1, o2, o3⟩ := hok
  refine g_aload_n h (q := 1) 1 dL_law_623 rfl ?_
  refine g_aload_n h (q := 0) 0 dL_law_624 rfl ?_
  refine g_iload_n h (q := 3) 3 dL_law_625 rfl ?_
  refine g_iconst h (v := 1) dL_law_626 (by decide) ?_
  refine g_iadd h dL_law_627 ?_
  refine g_is (nI (i + 1)) (nI_add i 1) ?_
  refine g_sld h hX hbl hbA (i + 1) (by omega) hL dL_law_628 ?_
  refine g_callV h mv_X5_count 0 0 0 ⟨rfl, rfl⟩ rfl rfl (As := [.int (xs (i + 1))]) (c_X5_count (kl K) hE (σ := σ) (xs (i + 1))) ml_L_98 rfl (by decide) (by decide) rfl (Nat.le_of_ble_eq_true rfl) dL_law_629 (fun v σ9 h9 => ?_)
  rw [h9.1, h9.2, ← hPX]; clear h9
  refine g_stE (st_eq o3) ?_
  refine g_aload_n h (q := 2) 2 dL_law_632 rfl ?_
  refine g_aload_n h (q := 0) 0 dL_law_633 rfl ?_
  refine g_iload_n h (q := 3) 3 dL_law_634 rfl ?_
  refine g_iconst h (v := 1) dL_law_635 (by decide) ?_
  refine g_iadd h dL_law_636 ?_
  refine g_is (nI (i + 1)) (nI_add i 1) ?_
  refine g_sld h hX hbl hbA (i + 1) (by omega) hL dL_law_637 ?_
  refine g_callV h mv_X6_count 11 0 0 ⟨rfl, rfl⟩ rfl rfl (As := [.int (xs (i + 1))]) (c_X6_count (kl K) hE (σ := PX.2) (M := σ.2.2.2) hc.b.1 (xs (i + 1))) ml_L_101 rfl (by decide) (by decide) rfl (Nat.le_of_ble_eq_true rfl) dL_law_638 (fun v σ9 h9 => ?_)
  rw [h9.1, h9.2, ← hPY]; clear h9
  refine g_icmp_eq h 646 dL_law_641 (by decide) (fun c1 => ?_) (fun c1 => ?_)
  · exact hk _ o2
  · exact absurd o1 c1
set_option maxHeartbeats 4000000 in
theorem l_law {K : KX} {E : EnvT} (hE : EOK E) (h : Cx K E cL_law 4 RL 7 161) {aw : Nat} (hw : SW E aw (ks K)) {b L : Nat} {xs : Nat → Int32} (hX : va_X b L xs (ks K) (ks K).heap) (hbl : b < (ks K).heap.size) (hbA : ¬ AE E b) (hL : L ≤ 2048) (hend : ∀ σ lv, GG K E σ 652 lv []) : ∀ m i σ, L ≤ i + m → i ≤ 2048 → CP σ σ.2.2.2 → GG K E σ 18 [(0, .ref b), (1, .ref (ad E 0 0 0)), (2, .ref (ad E 11 0 0)), (3, .int (nI i))] [] := by
  intro m
  induction m with
  | zero =>
    intro i σ hm hi hc
    refine g_iload_n h (q := 3) 3 dL_law_18 rfl ?_
    refine g_aload_n h (q := 0) 0 dL_law_19 rfl ?_
    refine g_slen h hX hbl hbA dL_law_20 ?_
    refine g_iconst h (v := 4) dL_law_21 (by decide) ?_
    refine g_isub h dL_law_22 ?_
    refine g_icmp_gt h 652 dL_law_23 (by decide) (fun c => ?_) (fun c => ?_)
    · exact hend _ _
    · have hi4 : i + 4 ≤ L := by
        have c2 := Int32.le_iff_toInt_le.mp (Int32.not_lt.mp c)
        have c3 := pk_sub_toInt (a := L) (b := 4) (by omega) (by decide)
        rw [nI_toInt (by omega)] at c2
        have c4 : (nI L - 4 : Int32).toInt = (L : Int) - 4 := c3
        omega
      exfalso; omega
  | succ m ih =>
    intro i σ hm hi hc
    refine g_iload_n h (q := 3) 3 dL_law_18 rfl ?_
    refine g_aload_n h (q := 0) 0 dL_law_19 rfl ?_
    refine g_slen h hX hbl hbA dL_law_20 ?_
    refine g_iconst h (v := 4) dL_law_21 (by decide) ?_
    refine g_isub h dL_law_22 ?_
    refine g_icmp_gt h 652 dL_law_23 (by decide) (fun c => ?_) (fun c => ?_)
    · exact hend _ _
    · have hi4 : i + 4 ≤ L := by
        have c2 := Int32.le_iff_toInt_le.mp (Int32.not_lt.mp c)
        have c3 := pk_sub_toInt (a := L) (b := 4) (by omega) (by decide)
        rw [nI_toInt (by omega)] at c2
        have c4 : (nI L - 4 : Int32).toInt = (L : Int) - 4 := c3
        omega
      refine g_aload_n h (q := 0) 0 dL_law_26 rfl ?_
      refine g_iload_n h (q := 3) 3 dL_law_27 rfl ?_
      refine g_sld h hX hbl hbA i (by omega) hL dL_law_28 ?_
      refine g_bipush h (v := 31) dL_law_29 (by decide) ?_
      refine g_iand h dL_law_31 ?_
      suffices hk : ∀ τ, CP τ τ.2.2.2 → GG K E τ 646 [(0, .ref b), (1, .ref (ad E 0 0 0)), (2, .ref (ad E 11 0 0)), (3, .int (nI i))] [] by
        rcases tab_cases ((xs i) &&& 31) 21 (by decide) with ⟨kw, hkw, hwe⟩ | hout
        · rw [hwe]
          rcases (show kw = 0 ∨ kw = 1 ∨ kw = 2 ∨ kw = 3 ∨ kw = 4 ∨ kw = 5 ∨ kw = 6 ∨ kw = 7 ∨ kw = 8 ∨ kw = 9 ∨ kw = 10 ∨ kw = 11 ∨ kw = 12 ∨ kw = 13 ∨ kw = 14 ∨ kw = 15 ∨ kw = 16 ∨ kw = 17 ∨ kw = 18 ∨ kw = 19 ∨ kw = 20 by omega) with rfl | rfl | rfl | rfl | rfl | rfl | rfl | rfl | rfl | rfl | rfl | rfl | rfl | rfl | rfl | rfl | rfl | rfl | rfl | rfl | rfl
          · exact g_tabIn h 132 dL_law_32 (by decide) (by decide) rfl (by decide) (w_tells hE h hw hX hbl hbA hL hc i hi4 hk)
          · exact g_tabIn h 175 dL_law_32 (by decide) (by decide) rfl (by decide) (w_puts hE h hw hX hbl hbA hL hc i hi4 hk)
          · exact g_tabIn h 218 dL_law_32 (by decide) (by decide) rfl (by decide) (w_slot hE h hw hX hbl hbA hL hc i hi4 hk)
          · exact g_tabIn h 231 dL_law_32 (by decide) (by decide) rfl (by decide) (w_undo hE h hw hX hbl hbA hL hc i hi4 hk)
          · exact g_tabIn h 244 dL_law_32 (by decide) (by decide) rfl (by decide) (w_clear hE h hw hX hbl hbA hL hc i hi4 hk)
          · exact g_tabIn h 257 dL_law_32 (by decide) (by decide) rfl (by decide) (w_letter hE h hw hX hbl hbA hL hc i hi4 hk)
          · exact g_tabIn h 290 dL_law_32 (by decide) (by decide) rfl (by decide) (w_line hE h hw hX hbl hbA hL hc i hi4 hk)
          · exact g_tabIn h 313 dL_law_32 (by decide) (by decide) rfl (by decide) (w_queue hE h hw hX hbl hbA hL hc i hi4 hk)
          · exact g_tabIn h 346 dL_law_32 (by decide) (by decide) rfl (by decide) (w_turned hE h hw hX hbl hbA hL hc i hi4 hk)
          · exact g_tabIn h 369 dL_law_32 (by decide) (by decide) rfl (by decide) (w_sorted hE h hw hX hbl hbA hL hc i hi4 hk)
          · exact g_tabIn h 392 dL_law_32 (by decide) (by decide) rfl (by decide) (w_straight hE h hw hX hbl hbA hL hc i hi4 hk)
          · exact g_tabIn h 415 dL_law_32 (by decide) (by decide) rfl (by decide) (w_drain hE h hw hX hbl hbA hL hc i hi4 hk)
          · exact g_tabIn h 428 dL_law_32 (by decide) (by decide) rfl (by decide) (w_lost hE h hw hX hbl hbA hL hc i hi4 hk)
          · exact g_tabIn h 451 dL_law_32 (by decide) (by decide) rfl (by decide) (w_fewest hE h hw hX hbl hbA hL hc i hi4 hk)
          · exact g_tabIn h 474 dL_law_32 (by decide) (by decide) rfl (by decide) (w_share hE h hw hX hbl hbA hL hc i hi4 hk)
          · exact g_tabIn h 518 dL_law_32 (by decide) (by decide) rfl (by decide) (w_sees hE h hw hX hbl hbA hL hc i hi4 hk)
          · exact g_tabIn h 551 dL_law_32 (by decide) (by decide) rfl (by decide) (w_forget hE h hw hX hbl hbA hL hc i hi4 hk)
          · exact g_tabIn h 564 dL_law_32 (by decide) (by decide) rfl (by decide) (w_unseen hE h hw hX hbl hbA hL hc i hi4 hk)
          · exact g_tabIn h 577 dL_law_32 (by decide) (by decide) rfl (by decide) (w_keep hE h hw hX hbl hbA hL hc i hi4 hk)
          · exact g_tabIn h 600 dL_law_32 (by decide) (by decide) rfl (by decide) (w_back hE h hw hX hbl hbA hL hc i hi4 hk)
          · exact g_tabIn h 623 dL_law_32 (by decide) (by decide) rfl (by decide) (w_count hE h hw hX hbl hbA hL hc i hi4 hk)
        · exact g_tabOut h 646 dL_law_32 (by omega) (by decide) (hk σ hc)
      intro τ hτ
      refine g_iinc h (q := 3) (v := nI (i + 4)) 3 [(0, .ref b), (1, .ref (ad E 0 0 0)), (2, .ref (ad E 11 0 0)), (3, .int (nI (i + 4)))] dL_law_646 rfl (nI_inc i 4) (by decide) rfl ?_
      refine g_goto h 18 dL_law_649 (by decide) ?_
      exact ih (i + 4) τ (by omega) (by omega) hτ
