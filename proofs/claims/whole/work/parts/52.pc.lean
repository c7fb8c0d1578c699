def LE (o : Nat → Nat) (z : Nat) (F0 : FabT) (M0 : MT) (D : FabT × RowT × RowT) (M : MT) : Prop :=
  RF D.1 M ∧ RQ D.1 D.2.1 M ∧ D.1.2.1 = F0.2.1 ∧ (∀ w, w ≠ 0 → w ≠ 7 → D.1.2.2 w = F0.2.2 w) ∧ D.1.1 = F0.1 ∧ M.2.2.2 = M0.2.2.2 ∧ M.2.1 3 = M0.2.1 3 ∧
  ∃ Wn : List Nat, (rr D.2.2 ++ Wn).Perm (rv o z) ∧ (∀ x, x ∈ Wn → x < F0.2.1 ∧ D.1.2.2 0 x = 2) ∧ (∀ x, x ∈ rr D.2.2 → x < F0.2.1 ∧ selW D.1 x = true) ∧ (rr D.2.2).Pairwise (fun y z => ah (F0.2.2 3) z y = true)
theorem selW_mv {F : FabT} {n q x : Nat} (h : x ≠ n) : selW (mvL F n q) x = selW F x := by unfold selW; rw [mvL_0, if_neg h]
theorem lock (o : Nat → Nat) (z : Nat) (hz : z ≤ 64) (W : RowT) (hW : ∀ t, t < z → W.1 t = o t) (hnd : (rv o z).Nodup) (F0 : FabT) (M0 : MT) : ∀ (m t : Nat) (a : Int32) (s : Nat) (F : FabT) (Q B : RowT) (M : MT), t + m = z →
    (∀ t', t ≤ t' → t' < z → o t' < F0.2.1 ∧ selW F (o t') = true) → ((t = 0 ∧ a = -9) ∨ (0 < t ∧ a = F.2.2 2 (o (t - 1)) ∧ o (t - 1) < F.2.1)) →
    LE o t F0 M0 (F, Q, B) M → LE o z F0 M0 (lwL W m t a s F Q B) (mwL o m t Q.2 s M) := by
  intro m
  induction m with
  | zero => intro t a s F Q B M ht _ _ h; have e : t = z := by omega
            subst e; exact h
  | succ m ih =>
    intro t a s F Q B M ht hsel hprev h
    obtain ⟨hR, hQ, hL, hw, hc, ho, h3, Wn, hp, hWn, hB, hPw⟩ := h
    have hR : RF F M := hR
    have hQ : RQ F Q M := hQ
    have hL : F.2.1 = F0.2.1 := hL
    have hw : ∀ w, w ≠ 0 → w ≠ 7 → F.2.2 w = F0.2.2 w := hw
    have hc : F.1 = F0.1 := hc
    have hp : (rr B ++ Wn).Perm (rv o t) := hp
    have hWn : ∀ x, x ∈ Wn → x < F0.2.1 ∧ F.2.2 0 x = 2 := hWn
    have hB : ∀ x, x ∈ rr B → x < F0.2.1 ∧ selW F x = true := hB
    have hPw : (rr B).Pairwise (fun y z => ah (F0.2.2 3) z y = true) := hPw
    obtain ⟨hn, hs⟩ := hsel t (Nat.le_refl _) (by omega)
    have hWt := hW t (by omega)
    obtain ⟨n, hne⟩ : ∃ n, n = o t := ⟨_, rfl⟩
    rw [← hne] at hn hs hWt
    have hnF : n < F.2.1 := by rw [hL]; exact hn
    have hfresh : ∀ t', t' < z → t' ≠ t → o t' ≠ n := fun t' h1 h2 e => h2 (rv_nd hnd t' t h1 (by omega) (by rw [e, hne]))
    have hnot : ∀ x, x ∈ rv o t → x ≠ n := fun x hx => by
      obtain ⟨t', h1, h2⟩ := rv_mem.mp hx
      rw [← h2]; exact hfresh t' (by omega) (by omega)
    have hBn : ∀ x, x ∈ rr B → x ≠ n := fun x hx => hnot x (hp.mem_iff.mp (List.mem_append_left _ hx))
    have hBlt : B.2 < 64 := by
      have := hp.length_eq
      rw [List.length_append, rv_len, rr, rv_len] at this
      omega
    have hsame : (F.2.2 2 (W.1 t) = a) = (0 < t ∧ mOf M (o (t - 1)) 2 = mOf M (o t) 2) := by
      apply propext
      rw [hWt, ← hne, ← hR.2.2.2.2.1 n 2 hnF (by decide) (by decide)]
      rcases hprev with ⟨h0, ha⟩ | ⟨h0, ha, hl⟩
      · obtain ⟨b, hb, he⟩ := hR.2.2.2.2.2.1 n hnF
        rw [ha, he]
        constructor
        · intro e
          have := congrArg Int32.toInt e
          rw [nI_toInt (by omega)] at this
          exact absurd this (by have : (-9 : Int32).toInt = -9 := rfl
                                omega)
        · intro q; omega
      · rw [ha, ← hR.2.2.2.2.1 (o (t - 1)) 2 hl (by decide) (by decide)]
        exact ⟨fun e => ⟨h0, e.symm⟩, fun e => e.2.symm⟩
    have hM0 : F.1 0 = M.1 0 := hR.2.1 0 (by decide)
    have hM2 : F.1 2 = M.1 2 := hR.2.1 2 (by decide)
    obtain ⟨s', hs'⟩ : ∃ s', s' = (if 0 < t ∧ mOf M (o (t - 1)) 2 = mOf M (o t) 2 then s + 1 else 0) := ⟨_, rfl⟩
    rw [lwL, mwL]
    simp only [hsame]
    rw [← hs', hM0, hM2, hWt, ← hne]
    by_cases hcond : nI s' < M.1 0 ∧ nI Q.2 < M.1 2
    · rw [if_pos hcond, if_pos hcond]
      obtain ⟨hq64, hRQ⟩ := RQ_win hR hQ hnF hs
      have e2 : (rAdd Q n).2 = Q.2 + 1 := by rw [rAdd, if_pos hq64]
      rw [← e2]
      refine ih (t + 1) _ s' (mvL F n 2) (rAdd Q n) B (mWin M n) (by omega) (fun t' h1 h2 => ?_) (Or.inr ⟨by omega, ?_, ?_⟩) ⟨RF_win hR hnF, hRQ, hL, fun w h1 h2 => ?_, hc, ho, ?_, n :: Wn, ?_, fun x hx => ?_, fun x hx => ?_, hPw⟩
      · have := hsel t' (by omega) h2
        exact ⟨this.1, by rw [selW_mv (hfresh t' h2 (by omega))]; exact this.2⟩
      · rw [Nat.add_sub_cancel, ← hne, mvL_w F n 2 (by decide) (by decide)]
      · rw [Nat.add_sub_cancel, ← hne]; exact hnF
      · show (mvL F n 2).2.2 w = _
        rw [mvL_w F n 2 h1 h2]; exact hw w h1 h2
      · rw [mWin_n.2.2.2.1]; exact h3
      · show (rr B ++ n :: Wn).Perm (o t :: rv o t)
        rw [← hne]
        exact List.perm_middle.trans (List.Perm.cons n hp)
      · show x < F0.2.1 ∧ (mvL F n 2).2.2 0 x = 2
        rw [mvL_0]
        rcases List.mem_cons.mp hx with e | e
        · rw [if_pos e, e]; exact ⟨hn, rfl⟩
        · by_cases e2 : x = n
          · rw [if_pos e2, e2]; exact ⟨hn, rfl⟩
          · rw [if_neg e2]; exact hWn x e
      · have := hB x hx
        exact ⟨this.1, by rw [selW_mv (hBn x hx)]; exact this.2⟩
    · rw [if_neg hcond, if_neg hcond]
      have hri : rr (rIns (fun y => gB F n y false) B n) = oin (fun y => ah (F0.2.2 3) n y) n (rr B) := by
        rw [rr_ins _ _ hBlt]
        exact oin_congr n _ (fun y _ => by rw [gB_ah, hw 3 (by decide) (by decide)])
      refine ih (t + 1) _ s' F Q (rIns (fun y => gB F n y false) B n) M (by omega) (fun t' h1 h2 => hsel t' (by omega) h2) (Or.inr ⟨by omega, by rw [Nat.add_sub_cancel, ← hne], by rw [Nat.add_sub_cancel, ← hne]; exact hnF⟩) ⟨hR, hQ, hL, hw, hc, ho, h3, Wn, ?_, hWn, fun x hx => ?_, ?_⟩
      · show (rr (rIns (fun y => gB F n y false) B n) ++ Wn).Perm (o t :: rv o t)
        rw [hri, ← hne]
        exact ((oin_perm _ n (rr B)).append_right Wn).trans (List.Perm.cons n hp)
      · have hx : x ∈ rr (rIns (fun y => gB F n y false) B n) := hx
        rw [hri] at hx
        rcases List.mem_cons.mp ((oin_perm _ _ _).mem_iff.mp hx) with e | e
        · rw [e]; exact ⟨hn, hs⟩
        · exact hB x e
      · show (rr (rIns (fun y => gB F n y false) B n)).Pairwise _
        rw [hri]
        exact oin_sorted (F0.2.2 3) n (rr B) (fun q => hBn n q rfl) hPw
