def FR (M : Mem) (c : Nat) : Prop := mK M 11 = 12 ∧ mR M 11 0 = some 12 ∧ mK M 12 = 8 ∧ mR M 12 0 = some 13 ∧ mK M 13 = 14 ∧ mL M 13 = 8000 ∧ mI M 12 1 = nI c
def FM (M : Mem) (c : Nat) : Prop := mK M 198 = 13 ∧ mR M 198 0 = some 199 ∧ mK M 199 = 14 ∧ mL M 199 = 8000 ∧ mI M 198 1 = nI c
theorem fr_step {M : Mem} {c : Nat} {w : Int32} (h : FR M c) : FR (sI (sI M 13 c w) 12 1 (nI (c + 1))) (c + 1) := by
  obtain ⟨h1, h2, h3, h4, h5, h6, h7⟩ := h
  exact ⟨h1, h2, h3, h4, h5, h6, by simp [mI_sI]⟩
theorem fm_keep {M : Mem} {c d : Nat} {w u : Int32} (h : FM M d) : FM (sI (sI M 13 c w) 12 1 u) d := by
  obtain ⟨h1, h2, h3, h4, h5⟩ := h
  exact ⟨h1, h2, h3, h4, by simp [mI_sI, h5]⟩
theorem fm_step {M : Mem} {c : Nat} {w : Int32} (h : FM M c) : FM (sI (sI M 199 c w) 198 1 (nI (c + 1))) (c + 1) := by
  obtain ⟨h1, h2, h3, h4, h5⟩ := h
  exact ⟨h1, h2, h3, h4, by simp [mI_sI]⟩
theorem m1_eq (k : Nat) : nI k + (-1) = nI k - 1 := by
  rw [Int32.sub_eq_add_neg]
theorem m1_neg : nI 0 - 1 < 0 := by decide
theorem feedX_step {M : Mem} {c k : Nat} {v : Int64} (g : Option Nat × Int64 × Int32 → Mem → Option (Int32 × Mem)) (h : FR M c) (hc : c < 8000) (hk : k < 2 ^ 31) : ∃ w : Int32, fX12_feed_B48 g (some 11) v (nI (k + 1) - 1) M = g (some 11, v, nI k - 1) (sI (sI M 13 c w) 12 1 (nI (c + 1))) := by
  obtain ⟨h1, h2, h3, h4, h5, h6, h7⟩ := h
  have g1 : ¬ nI k < 0 := nI_pos hk
  refine ⟨(i2b ((ushJ v (8 * nI k)).toInt32)).toInt8.toInt32, ?_⟩
  simp only [fX12_feed_B48, nI_pred, g1, if_false, gR, chk, h1, h2, h3, if_true, bo, bd, bn, feed_add h3 h4 h5 h7 (by omega) (by omega), m1_eq]
theorem feedX_exit {M : Mem} {c : Nat} {v : Int64} (g : Option Nat × Int64 × Int32 → Mem → Option (Int32 × Mem)) (h : FR M c) : fX12_feed_B48 g (some 11) v (nI 0 - 1) M = some (nI c, M) := by
  obtain ⟨h1, h2, h3, h4, h5, h6, h7⟩ := h
  simp only [fX12_feed_B48, m1_neg, if_true, gR, gI, h1, h2, h3, h7, bo]
theorem feedX_loop {v : Int64} {d : Nat} : ∀ (k f c : Nat) (M : Mem), k < f → c + k ≤ 8000 → FR M c → FM M d → ∃ N, lp (fun k48 (a : Option Nat × Int64 × Int32) M => fX12_feed_B48 k48 a.1 a.2.1 a.2.2 M) f (some 11, v, nI k - 1) M = some (nI (c + k), N) ∧ FM N d := by
  intro k
  induction k with
  | zero =>
    intro f c M hf hc h hm
    obtain ⟨f, rfl⟩ : ∃ g, f = g + 1 := ⟨f - 1, by omega⟩
    exact ⟨M, feedX_exit _ h, hm⟩
  | succ k ih =>
    intro f c M hf hc h hm
    obtain ⟨f, rfl⟩ : ∃ g, f = g + 1 := ⟨f - 1, by omega⟩
    obtain ⟨w, e⟩ := feedX_step (v := v) (k := k) (lp (fun k48 (a : Option Nat × Int64 × Int32) M => fX12_feed_B48 k48 a.1 a.2.1 a.2.2 M) f) h (by omega) (by omega)
    obtain ⟨N, e2, e3⟩ := ih f (c + 1) _ (by omega) (by omega) (fr_step (w := w) h) (fm_keep hm)
    refine ⟨N, ?_, e3⟩
    rw [show c + (k + 1) = c + 1 + k by omega]
    exact e.trans e2
theorem feedM_step {M : Mem} {c k : Nat} {v : Int64} (g : Option Nat × Int64 × Int32 → Mem → Option (Int32 × Mem)) (h : FM M c) (hc : c < 8000) (hk : k < 2 ^ 31) : ∃ w : Int32, fX13_feed_B44 g (some 198) v (nI (k + 1) - 1) M = g (some 198, v, nI k - 1) (sI (sI M 199 c w) 198 1 (nI (c + 1))) := by
  obtain ⟨h1, h2, h3, h4, h5⟩ := h
  have g1 : ¬ nI k < 0 := nI_pos hk
  have g3 : ∀ u : Int32, wB M (some 199) (nI c) u = some (sI M 199 c u.toInt8.toInt32) := fun u => by
    simp only [wB]
    rw [if_pos ⟨h3, by rw [h4]; exact nI_in hc (by omega)⟩, nI_clamp (by omega)]
  refine ⟨(i2b ((shrJ v (8 * nI k)).toInt32)).toInt8.toInt32, ?_⟩
  simp only [fX13_feed_B44, nI_pred, g1, if_false, gR, gI, pI, h1, h2, h5, if_true, bo, bn, g3, mK_sI, mI_sI, m1_eq, nI_1, Nat.reduceEqDiff, false_and]
theorem feedM_exit {M : Mem} {c : Nat} {v : Int64} (g : Option Nat × Int64 × Int32 → Mem → Option (Int32 × Mem)) (h : FM M c) : fX13_feed_B44 g (some 198) v (nI 0 - 1) M = some (nI c, M) := by
  obtain ⟨h1, h2, h3, h4, h5⟩ := h
  simp only [fX13_feed_B44, m1_neg, if_true, gI, h1, h5, bo]
theorem feedM_loop {v : Int64} : ∀ (k f c : Nat) (M : Mem), k < f → c + k ≤ 8000 → FM M c → ∃ N, lp (fun k44 (a : Option Nat × Int64 × Int32) M => fX13_feed_B44 k44 a.1 a.2.1 a.2.2 M) f (some 198, v, nI k - 1) M = some (nI (c + k), N) := by
  intro k
  induction k with
  | zero =>
    intro f c M hf hc h
    obtain ⟨f, rfl⟩ : ∃ g, f = g + 1 := ⟨f - 1, by omega⟩
    exact ⟨M, feedM_exit _ h⟩
  | succ k ih =>
    intro f c M hf hc h
    obtain ⟨f, rfl⟩ : ∃ g, f = g + 1 := ⟨f - 1, by omega⟩
    obtain ⟨w, e⟩ := feedM_step (v := v) (k := k) (lp (fun k44 (a : Option Nat × Int64 × Int32) M => fX13_feed_B44 k44 a.1 a.2.1 a.2.2 M) f) h (by omega) (by omega)
    obtain ⟨N, e2⟩ := ih f (c + 1) _ (by omega) (by omega) (fm_step (w := w) h)
    refine ⟨N, ?_⟩
    rw [show c + (k + 1) = c + 1 + k by omega]
    exact e.trans e2
/-- both calls come to an end, with the same answer -/
def OK2 (f g : Mem → Option (Int32 × Mem)) (M : Mem) : Prop := ∃ v M1 M2, f M = some (v, M1) ∧ mK M1 198 = 13 ∧ g M1 = some (v, M2)
theorem ok_feed {M : Mem} (h : FR M 0) (hm : FM M 0) (v : Int64) (n : Int32) : OK2 (fX12_feed (some 11) v n) (fX13_feed (some 198) v n) M := by
  by_cases h1 : n < 0
  · exact ⟨-2, M, M, by simp only [fX12_feed, h1, if_true, fX12_feed_L10], hm.1, by simp only [fX13_feed, h1, if_true, fX13_feed_L10]⟩
  by_cases h2 : n ≤ 8
  · obtain ⟨k, hk, rfl⟩ := nI_of2 (n := 8) (by decide) h1 h2
    obtain ⟨x1, x2, x3, x4, x5, x6, x7⟩ := h
    have h0 : ((8000 : Int32) - nI 0) = nI 8000 := by decide
    have h3 : nI k ≤ nI 8000 := nI_le (by omega) (by omega)
    by_cases hk0 : k = 0
    · subst hk0
      obtain ⟨N, e1, e2⟩ := feedX_loop (v := v) 0 FU 0 (sI M 12 1 0) (by unfold FU; omega) (by omega) ⟨x1, x2, x3, x4, x5, x6, by simp [mI_sI]; rfl⟩ (d := 0) ⟨hm.1, hm.2.1, hm.2.2.1, hm.2.2.2.1, by simp [mI_sI, hm.2.2.2.2]⟩
      refine ⟨0, N, sI N 198 1 0, ?_, e2.1, ?_⟩
      · simp only [fX12_feed, h1, h2, if_true, if_false, gR, gI, pI, x1, x2, x3, x7, bo, bn, h0, h3, nI_0, fX12_feed_L43, fX12_feed_L48]
        exact e1
      · simp only [fX13_feed, h1, h2, if_true, if_false, nI_0, pI, e2.1, bo]
        rfl
    · have hk1 : ¬ nI k = 0 := nI_ne0 (by omega) (by omega)
      obtain ⟨N, e1, e2⟩ := feedX_loop (v := v) k FU 0 M (by unfold FU; omega) (by omega) ⟨x1, x2, x3, x4, x5, x6, x7⟩ hm
      obtain ⟨N2, e3⟩ := feedM_loop (v := v) k FU 0 N (by unfold FU; omega) (by omega) e2
      refine ⟨nI (0 + k), N, N2, ?_, e2.1, ?_⟩
      · simp only [fX12_feed, h1, h2, if_true, if_false, gR, gI, pI, x1, x2, x3, x7, bo, bn, h0, h3, hk1, fX12_feed_L43, fX12_feed_L48]
        exact e1
      · have h5 : nI 0 + nI k ≤ 8000 := by
          rw [nI_add, show (8000 : Int32) = nI 8000 from rfl]
          exact nI_le (by omega) (by omega)
        simp only [fX13_feed, h1, h2, if_true, if_false, hk1, gI, e2.1, e2.2.2.2.2, bo, bn, h5, fX13_feed_L44]
        exact e3
  · exact ⟨-2, M, M, by simp only [fX12_feed, h1, h2, if_false, fX12_feed_L10], hm.1, by simp only [fX13_feed, h1, h2, if_false, fX13_feed_L10]⟩
