theorem dm_ne2 {x : Int32} (h : dm x = 0 ∨ dm x = 1) : ¬ x = 2 := by
  intro e; subst e; exact absurd h (by decide)
theorem turn_val {o : Nat → Nat} {z : Nat} {F0 : FabT} {M0 : MT} {F : FabT} {Q B : RowT} {M : MT} (h : LE o z F0 M0 (F, Q, B) M) {j : Nat} (hj : j < B.2) : mTv M o z (B.1 j) = if nI j < M.1 1 then 1 else 4 := by
  obtain ⟨hR, hQ, hL, hw, hc, ho, h3, Wn, hp, hWn, hB, hPw⟩ := h
  have hR : RF F M := hR
  have hL : F.2.1 = F0.2.1 := hL
  have hw : ∀ w, w ≠ 0 → w ≠ 7 → F.2.2 w = F0.2.2 w := hw
  have hp : (rr B ++ Wn).Perm (rv o z) := hp
  have hWn : ∀ x, x ∈ Wn → x < F0.2.1 ∧ F.2.2 0 x = 2 := hWn
  have hB : ∀ x, x ∈ rr B → x < F0.2.1 ∧ selW F x = true := hB
  have hPw : (rr B).Pairwise (fun y z => ah (F0.2.2 3) z y = true) := hPw
  have hm : B.1 j ∈ rr B := rv_mem.mpr ⟨j, hj, rfl⟩
  obtain ⟨hn, hs⟩ := hB _ hm
  obtain ⟨n, hne⟩ : ∃ n, n = B.1 j := ⟨_, rfl⟩
  have hidx := ah_idx (F0.2.2 3) B.1 B.2 hPw j hj
  rw [← hne] at hm hn hs hidx ⊢
  have hnF : n < F.2.1 := by rw [hL]; exact hn
  have hpl : ∀ x, x ∈ rr B → ¬ mOf M x 0 = 2 := fun x hx => by
    obtain ⟨h1, h2⟩ := hB x hx
    rw [← hL] at h1
    have h2 : F.2.2 0 x = 0 ∨ F.2.2 0 x = 1 := by simpa [selW] using h2
    rw [hR.2.2.2.1 x h1] at h2
    exact dm_ne2 h2
  have hin : mIn M n = true := by rw [← selW_mIn hR hnF]; exact hs
  have hcnt : ahL M o n z 0 0 = j := by
    have h0 := ahL_c M o n z 0 0
    have e0 : (rv o 0).countP (fun x => decide (x ≠ n ∧ mOf M x 0 ≠ 2 ∧ mAh M x n = true)) = 0 := rfl
    rw [e0, Nat.add_zero, Nat.zero_add, Nat.zero_add] at h0
    rw [h0, ← hp.countP_eq, List.countP_append]
    have e1 : Wn.countP (fun x => decide (x ≠ n ∧ mOf M x 0 ≠ 2 ∧ mAh M x n = true)) = 0 := by
      rw [List.countP_eq_zero]
      intro x hx
      rw [decide_eq_true_iff]
      intro q
      obtain ⟨hxl, hx2⟩ := hWn x hx
      rw [← hL] at hxl
      rw [hR.2.2.2.1 x hxl, dm_2] at hx2
      exact q.2.1 hx2
    rw [e1, Nat.add_zero, ← hidx]
    refine List.countP_congr (fun x hx => ?_)
    rw [decide_eq_true_iff]
    have hxl : x < F.2.1 := by rw [hL]; exact (hB x hx).1
    have ea : mAh M x n = ah (F0.2.2 3) x n := by
      rw [mAh_ah]; unfold ah
      rw [← hw 3 (by decide) (by decide), hR.2.2.2.2.1 x 3 hxl (by decide) (by decide), hR.2.2.2.2.1 n 3 hnF (by decide) (by decide)]
    rw [ea]
    refine ⟨fun q => q.2.2, fun q => ⟨fun e => ?_, hpl x hx, q⟩⟩
    rw [e, ah_irr] at q; exact absurd q (by decide)
  unfold mTv mAhd
  rw [if_neg (hpl n hm), if_pos hin, hcnt]
theorem turn_key {o : Nat → Nat} {z : Nat} (hnd : (rv o z).Nodup) {F0 : FabT} {M0 : MT} {F : FabT} {Q B : RowT} {M : MT} (h : LE o z F0 M0 (F, Q, B) M) (ho : M.2.2.2 = o) (h3 : M.2.1 3 = z) :
    (tbL B B.2 0 F).1 = F.1 ∧ (tbL B B.2 0 F).2.1 = F.2.1 ∧ PK (tbL B B.2 0 F) ∧ TL (tbL B B.2 0 F) ∧ (mTurns M).1 = M.1 ∧ (mTurns M).2.1 = M.2.1 ∧ (mTurns M).2.2.2 = o ∧
    ∀ n, n < F.2.1 → (∃ j, j < B.2 ∧ B.1 j = n ∧ selW F n = true ∧ (∀ w, w < 7 → (tbL B B.2 0 F).2.2 w n = tbV F j n w) ∧ ∀ u, u < 8 → mOf (mTurns M) n u = t2V M n (if nI j < M.1 1 then 1 else 4) u) ∨
      ((∀ w, w < 7 → (tbL B B.2 0 F).2.2 w n = F.2.2 w n) ∧ ∀ u, u < 8 → mOf (mTurns M) n u = mOf M n u) := by
  have hv := fun j hj => turn_val (j := j) h hj
  obtain ⟨hR, hQ, hL, hw, hc, ho', h3', Wn, hp, hWn, hB, hPw⟩ := h
  have hR : RF F M := hR
  have hL : F.2.1 = F0.2.1 := hL
  have hp : (rr B ++ Wn).Perm (rv o z) := hp
  have hWn : ∀ x, x ∈ Wn → x < F0.2.1 ∧ F.2.2 0 x = 2 := hWn
  have hB : ∀ x, x ∈ rr B → x < F0.2.1 ∧ selW F x = true := hB
  have hBnd : (rr B).Nodup := (List.nodup_append.mp (hp.nodup_iff.mpr hnd)).1
  have hBin : ∀ j, j < B.2 → B.1 j ∈ rr B := fun j hj => rv_mem.mpr ⟨j, hj, rfl⟩
  obtain ⟨a1, a2, a3, a4, a5, a6⟩ := tbL_at B B.2 0 F hR.1 hR.2.2.2.2.2.2 (fun j _ h2 => by rw [hL]; exact (hB _ (hBin j (by omega))).1) (fun a b _ q2 _ q4 e => rv_nd hBnd a b (by omega) (by omega) e)
  obtain ⟨G, hG⟩ : ∃ G, G = tnG M o z (M.2.2.1 3) z := ⟨_, rfl⟩
  have hGt : ∀ t, t < z → G t = mTv M o z (o t) := fun t ht => by rw [hG, tnG, if_pos ht]
  have hT : mTurns M = t2L o G z 0 (mTn M G) := by rw [mTurns, ho, h3, hG]
  obtain ⟨b1, b2, b3, b5, b6⟩ := t2L_at o G z 0 (mTn M G) (fun a b _ q2 _ q4 e => rv_nd hnd a b (by omega) (by omega) e)
  have hof : ∀ n u, mOf (mTn M G) n u = mOf M n u := fun n u => rfl
  have hV : ∀ n t u, t2V (mTn M G) n t u = t2V M n t u := fun n t u => rfl
  rw [hT]
  refine ⟨a1, a2, a3, a4, b1, b2, b3.trans ho, fun n hn => ?_⟩
  by_cases hin : n ∈ rv o z
  · obtain ⟨k, hk, hke⟩ := rv_mem.mp hin
    rcases List.mem_append.mp (hp.mem_iff.mpr hin) with hb | hb
    · obtain ⟨j, hj, hje⟩ := rv_mem.mp hb
      refine Or.inl ⟨j, hj, hje, (hB n hb).2, fun w hw7 => ?_, fun u hu => ?_⟩
      · rw [← hje]; exact a5 j (Nat.zero_le _) (by omega) w hw7
      · have := b5 k (Nat.zero_le _) (by omega) u hu
        rw [hke, hGt k hk, hke, ← hje, hv j hj, hV] at this
        rw [hje] at this; exact this
    · have h2 := (hWn n hb).2
      have h2m : mOf M n 0 = 2 := by rw [hR.2.2.2.1 n hn, dm_2] at h2; exact h2
      refine Or.inr ⟨fun w hw7 => a6 n (fun j _ q2 e => ?_) w hw7, fun u hu => ?_⟩
      · have := (hB _ (hBin j (by omega))).2
        rw [e] at this
        have : F.2.2 0 n = 0 ∨ F.2.2 0 n = 1 := by simpa [selW] using this
        rw [h2] at this
        exact absurd this (by decide)
      · have := b5 k (Nat.zero_le _) (by omega) u hu
        rw [hke, hGt k hk, hke, hV] at this
        rw [this, show mTv M o z n = 2 by rw [mTv, if_pos h2m]]
        unfold t2V
        by_cases u0 : u = 0
        · subst u0; rw [if_pos rfl, h2m]
        · rw [if_neg u0]
          by_cases u6 : u = 6
          · subst u6; rw [if_pos rfl, if_neg (by decide), Int32.add_zero]
          · rw [if_neg u6]
            by_cases u5 : u = 5
            · subst u5; rw [if_pos rfl, if_neg (by decide)]
            · rw [if_neg u5]
  · refine Or.inr ⟨fun w hw7 => a6 n (fun j _ q2 e => hin (hp.mem_iff.mp (List.mem_append_left _ (by rw [← e]; exact hBin j (by omega))))) w hw7, fun u hu => ?_⟩
    exact b6 n (fun j _ q2 e => hin (rv_mem.mpr ⟨j, by omega, e⟩)) u hu
theorem turn_RF {o : Nat → Nat} {z : Nat} (hnd : (rv o z).Nodup) {F0 : FabT} {M0 : MT} {F : FabT} {Q B : RowT} {M : MT} (h : LE o z F0 M0 (F, Q, B) M) (ho : M.2.2.2 = o) (h3 : M.2.1 3 = z) :
    RF (tbL B B.2 0 F) (mTurns M) ∧ RQ (tbL B B.2 0 F) Q (mTurns M) := by
  obtain ⟨a1, a2, a3, a4, b1, b2, b3, key⟩ := turn_key hnd h ho h3
  have hR : RF F M := h.1
  have hQ : RQ F Q M := h.2.1
  have h11 : F.1 1 = M.1 1 := hR.2.1 1 (by decide)
  have h13 : F.1 3 = M.1 3 := hR.2.1 3 (by decide)
  obtain ⟨G, hG⟩ : ∃ G, G = tbL B B.2 0 F := ⟨_, rfl⟩
  obtain ⟨N, hN⟩ : ∃ N, N = mTurns M := ⟨_, rfl⟩
  rw [← hG] at a1 a2 a3 a4 key ⊢
  rw [← hN] at b1 b2 b3 key ⊢
  have pl2 : ∀ n, n < F.2.1 → ∀ p, p = 2 ∨ p = 3 → (G.2.2 0 n = nI p ↔ F.2.2 0 n = nI p) := fun n hn p hp => by
    rcases key n hn with ⟨j, hj, hje, hs, k1, k2⟩ | ⟨k1, k2⟩
    · have hs : F.2.2 0 n = 0 ∨ F.2.2 0 n = 1 := by simpa [selW] using hs
      rw [k1 0 (by decide), tbV]
      have e1 : ¬ F.2.2 0 n = nI p := by rcases hs with e | e <;> rcases hp with q | q <;> rw [e, q] <;> decide
      constructor
      · intro q
        by_cases c : nI j < F.1 1
        · rw [if_pos c, if_pos rfl] at q; rcases hp with r | r <;> rw [r] at q <;> exact absurd q (by decide)
        · rw [if_neg c, if_pos rfl] at q; rcases hp with r | r <;> rw [r] at q <;> exact absurd q (by decide)
      · intro q; exact absurd q e1
    · rw [k1 0 (by decide)]
  have ca2 : ∀ p, p = 2 ∨ p = 3 → ca G p = ca F p := fun p hp => by
    unfold ca
    rw [a2]
    exact cn_congr _ (fun k hk => by rw [decide_eq_decide]; exact pl2 k hk p hp)
  have c7 : ∀ n, n < F.2.1 → mOf N n 7 = mOf M n 7 := fun n hn => by
    rcases key n hn with ⟨j, hj, hje, hs, k1, k2⟩ | ⟨k1, k2⟩
    · rw [k2 7 (by decide)]; rfl
    · exact k2 7 (by decide)
  refine ⟨⟨a3, fun w hw => ?_, ?_, fun n hn => ?_, fun n w hn h0 hw => ?_, fun n hn => ?_, a4⟩, fun n => ?_, fun n hn => ?_, ?_, ?_⟩
  · rw [a1, b1]; exact hR.2.1 w hw
  · rw [a2, b2]; exact hR.2.2.1
  · rw [a2] at hn
    rcases key n hn with ⟨j, hj, hje, hs, k1, k2⟩ | ⟨k1, k2⟩
    · rw [k1 0 (by decide), k2 0 (by decide), tbV, t2V, h11, if_pos rfl, if_pos rfl, if_pos rfl]
      by_cases c : nI j < M.1 1
      · rw [if_pos c]; rfl
      · rw [if_neg c]; rfl
    · rw [k1 0 (by decide), k2 0 (by decide)]; exact hR.2.2.2.1 n hn
  · rw [a2] at hn
    rcases key n hn with ⟨j, hj, hje, hs, k1, k2⟩ | ⟨k1, k2⟩
    · rw [k1 w hw, k2 w (by omega), tbV, t2V, h11]
      have f6 := hR.2.2.2.2.1 n 6 hn (by decide) (by decide)
      have fw := hR.2.2.2.2.1 n w hn h0 hw
      have w0 : ¬ w = 0 := by omega
      by_cases c : nI j < M.1 1
      · simp only [if_pos c, if_neg w0]
        by_cases w6 : w = 6
        · simp only [if_pos w6, if_true]; rw [f6]
        · simp only [if_neg w6]
          by_cases w5 : w = 5
          · simp only [if_pos w5, if_neg (show ¬ (1 : Int32) = 4 by decide)]; rw [fw, w5]
          · simp only [if_neg w5]; rw [fw]
      · simp only [if_neg c, if_neg w0]
        by_cases w5 : w = 5
        · simp only [if_pos w5, if_neg (show ¬ w = 6 by omega), if_true]; rw [h13]
        · simp only [if_neg w5]
          by_cases w6 : w = 6
          · simp only [if_pos w6, if_neg (show ¬ (4 : Int32) = 1 by decide)]; rw [Int32.add_zero, fw, w6]
          · simp only [if_neg w6]; rw [fw]
    · rw [k1 w hw, k2 w (by omega)]; exact hR.2.2.2.2.1 n w hn h0 hw
  · rw [a2] at hn
    rcases key n hn with ⟨j, hj, hje, hs, k1, k2⟩ | ⟨k1, k2⟩
    · rw [k1 2 (by decide), tbV]
      obtain ⟨a, ha, he⟩ := hR.2.2.2.2.2.1 n hn
      refine ⟨a, ha, ?_⟩
      by_cases c : nI j < F.1 1
      · rw [if_pos c, if_neg (by decide), if_neg (by decide), he]
      · rw [if_neg c, if_neg (by decide), if_neg (by decide), he]
    · rw [k1 2 (by decide)]; exact hR.2.2.2.2.2.1 n hn
  · rw [hQ.1, a2]
    constructor
    · intro q; exact ⟨q.1, (pl2 n q.1 2 (Or.inl rfl)).mpr q.2⟩
    · intro q; exact ⟨q.1, (pl2 n q.1 2 (Or.inl rfl)).mp q.2⟩
  · rw [c7 n ((hQ.1 n).mp hn).1, b2]; exact hQ.2.1 n hn
  · exact hQ.2.2.1.imp_of_mem (fun {a b} ha hb q => by rw [c7 a ((hQ.1 a).mp ha).1, c7 b ((hQ.1 b).mp hb).1]; exact q)
  · rw [b2, ca2 2 (Or.inl rfl), ca2 3 (Or.inr rfl)]; exact hQ.2.2.2
