theorem fillX_step {M : Mem} {c i n : Nat} {b z : Int32} (g : Option Nat × Int32 × Int32 × Int32 × Int32 → Mem → Option (Int32 × Mem)) (h : FR M c) (hc : c < 8000) (hi : i < n) (hn : n < 2 ^ 31) : ∃ w z2 : Int32, fX12_fill_B41 g (some 11) (nI n) b z (nI i) M = g (some 11, nI n, b, z2, nI (i + 1)) (sI (sI M 13 c w) 12 1 (nI (c + 1))) := by
  obtain ⟨h1, h2, h3, h4, h5, h6, h7⟩ := h
  have g1 : ¬ nI n ≤ nI i := nI_ge hi hn
  refine ⟨(i2b (ushI (ushI ((z * 1664525) + 1013904223) 24) b)).toInt8.toInt32, (z * 1664525) + 1013904223, ?_⟩
  simp only [fX12_fill_B41, g1, if_false, gR, chk, h1, h2, h3, if_true, bo, bd, bn, feed_add h3 h4 h5 h7 (by omega) (by omega), nI_1]
theorem fillX_exit {M : Mem} {c n : Nat} {b z : Int32} (g : Option Nat × Int32 × Int32 × Int32 × Int32 → Mem → Option (Int32 × Mem)) (h : FR M c) (hn : n < 2 ^ 31) : fX12_fill_B41 g (some 11) (nI n) b z (nI n) M = some (nI c, M) := by
  obtain ⟨h1, h2, h3, h4, h5, h6, h7⟩ := h
  simp only [fX12_fill_B41, nI_leI hn hn, Nat.le_refl, if_true, gR, gI, h1, h2, h3, h7, bo]
theorem fillX_loop {b : Int32} {n d : Nat} (hn : n < 2 ^ 31) : ∀ (k f c i : Nat) (z : Int32) (M : Mem), k < f → c + k ≤ 8000 → i + k = n → FR M c → FM M d → ∃ N, lp (fun k41 (a : Option Nat × Int32 × Int32 × Int32 × Int32) M => fX12_fill_B41 k41 a.1 a.2.1 a.2.2.1 a.2.2.2.1 a.2.2.2.2 M) f (some 11, nI n, b, z, nI i) M = some (nI (c + k), N) ∧ FM N d := by
  intro k
  induction k with
  | zero =>
    intro f c i z M hf hc hi h hm
    obtain ⟨f, rfl⟩ : ∃ g, f = g + 1 := ⟨f - 1, by omega⟩
    have : i = n := by omega
    subst this
    exact ⟨M, fillX_exit _ h hn, hm⟩
  | succ k ih =>
    intro f c i z M hf hc hi h hm
    obtain ⟨f, rfl⟩ : ∃ g, f = g + 1 := ⟨f - 1, by omega⟩
    obtain ⟨w, z2, e⟩ := fillX_step (b := b) (z := z) (i := i) (n := n) (lp (fun k41 (a : Option Nat × Int32 × Int32 × Int32 × Int32) M => fX12_fill_B41 k41 a.1 a.2.1 a.2.2.1 a.2.2.2.1 a.2.2.2.2 M) f) h (by omega) (by omega) hn
    obtain ⟨N, e2, e3⟩ := ih f (c + 1) (i + 1) z2 _ (by omega) (by omega) (by omega) (fr_step (w := w) h) (fm_keep hm)
    refine ⟨N, ?_, e3⟩
    rw [show c + (k + 1) = c + 1 + k by omega]
    exact e.trans e2
theorem fillM_step {M : Mem} {c i n : Nat} {b z : Int32} (g : Option Nat × Int32 × Int32 × Int32 × Int32 → Mem → Option (Int32 × Mem)) (h : FM M c) (hc : c < 8000) (hi : i < n) (hn : n < 2 ^ 31) : ∃ w z2 : Int32, fX13_fill_B38 g (some 198) (nI n) b z (nI i) M = g (some 198, nI n, b, z2, nI (i + 1)) (sI (sI M 199 c w) 198 1 (nI (c + 1))) := by
  obtain ⟨h1, h2, h3, h4, h5⟩ := h
  have g1 : ¬ nI n ≤ nI i := nI_ge hi hn
  have g3 : ∀ u : Int32, wB M (some 199) (nI c) u = some (sI M 199 c u.toInt8.toInt32) := fun u => by
    simp only [wB]
    rw [if_pos ⟨h3, by rw [h4]; exact nI_in hc (by omega)⟩, nI_clamp (by omega)]
  refine ⟨(i2b (ushI (ushI ((z * 1664525) + 1013904223) 24) b)).toInt8.toInt32, (z * 1664525) + 1013904223, ?_⟩
  simp only [fX13_fill_B38, g1, if_false, gR, gI, pI, h1, h2, h5, if_true, bo, bn, g3, mK_sI, mI_sI, nI_1, Nat.reduceEqDiff, false_and]
theorem fillM_exit {M : Mem} {c n : Nat} {b z : Int32} (g : Option Nat × Int32 × Int32 × Int32 × Int32 → Mem → Option (Int32 × Mem)) (h : FM M c) (hn : n < 2 ^ 31) : fX13_fill_B38 g (some 198) (nI n) b z (nI n) M = some (nI c, M) := by
  obtain ⟨h1, h2, h3, h4, h5⟩ := h
  simp only [fX13_fill_B38, nI_leI hn hn, Nat.le_refl, if_true, gI, h1, h5, bo]
theorem fillM_loop {b : Int32} {n : Nat} (hn : n < 2 ^ 31) : ∀ (k f c i : Nat) (z : Int32) (M : Mem), k < f → c + k ≤ 8000 → i + k = n → FM M c → ∃ N, lp (fun k38 (a : Option Nat × Int32 × Int32 × Int32 × Int32) M => fX13_fill_B38 k38 a.1 a.2.1 a.2.2.1 a.2.2.2.1 a.2.2.2.2 M) f (some 198, nI n, b, z, nI i) M = some (nI (c + k), N) := by
  intro k
  induction k with
  | zero =>
    intro f c i z M hf hc hi h
    obtain ⟨f, rfl⟩ : ∃ g, f = g + 1 := ⟨f - 1, by omega⟩
    have : i = n := by omega
    subst this
    exact ⟨M, fillM_exit _ h hn⟩
  | succ k ih =>
    intro f c i z M hf hc hi h
    obtain ⟨f, rfl⟩ : ∃ g, f = g + 1 := ⟨f - 1, by omega⟩
    obtain ⟨w, z2, e⟩ := fillM_step (b := b) (z := z) (i := i) (n := n) (lp (fun k38 (a : Option Nat × Int32 × Int32 × Int32 × Int32) M => fX13_fill_B38 k38 a.1 a.2.1 a.2.2.1 a.2.2.2.1 a.2.2.2.2 M) f) h (by omega) (by omega) hn
    obtain ⟨N, e2⟩ := ih f (c + 1) (i + 1) z2 _ (by omega) (by omega) (by omega) (fm_step (w := w) h)
    refine ⟨N, ?_⟩
    rw [show c + (k + 1) = c + 1 + k by omega]
    exact e.trans e2
theorem ok_fill {M : Mem} (h : FR M 0) (hm : FM M 0) (n z b : Int32) : OK2 (fX12_fill (some 11) n z b) (fX13_fill (some 198) n z b) M := by
  have h0 : ((8000 : Int32) - nI 0) = nI 8000 := by decide
  by_cases h1 : n < 0
  · exact ⟨-2, M, M, by simp only [fX12_fill, h1, if_true, fX12_fill_L14], hm.1, by simp only [fX13_fill, h1, if_true, fX13_fill_L14]⟩
  by_cases h2 : b < 0
  · exact ⟨-2, M, M, by simp only [fX12_fill, h1, h2, if_true, if_false, fX12_fill_L14], hm.1, by simp only [fX13_fill, h1, h2, if_true, if_false, fX13_fill_L14]⟩
  by_cases h3 : b ≤ 7
  · obtain ⟨x1, x2, x3, x4, x5, x6, x7⟩ := h
    by_cases h4 : n ≤ nI 8000
    · obtain ⟨k, hk, rfl⟩ := nI_of2 (n := 8000) (by decide) h1 h4
      obtain ⟨N, e1, e2⟩ := fillX_loop (b := b) (n := k) (by omega) k FU 0 0 z M (by unfold FU; omega) (by omega) (by omega) ⟨x1, x2, x3, x4, x5, x6, x7⟩ hm
      obtain ⟨N2, e3⟩ := fillM_loop (b := b) (n := k) (by omega) k FU 0 0 z N (by unfold FU; omega) (by omega) (by omega) e2
      refine ⟨nI (0 + k), N, N2, ?_, e2.1, ?_⟩
      · simp only [fX12_fill, h1, h2, h3, h4, if_true, if_false, gR, gI, x1, x2, x3, x7, bo, bn, h0, fX12_fill_L41]
        exact e1
      · simp only [fX13_fill, h1, h2, h3, h4, if_true, if_false, gI, e2.1, e2.2.2.2.2, bo, bn, h0, fX13_fill_L38]
        exact e3
    · exact ⟨-4, M, M, by simp only [fX12_fill, h1, h2, h3, h4, if_true, if_false, gR, gI, x1, x2, x3, x7, bo, h0], hm.1, by simp only [fX13_fill, h1, h2, h3, h4, if_true, if_false, gI, hm.1, hm.2.2.2.2, bo, h0]⟩
  · exact ⟨-2, M, M, by simp only [fX12_fill, h1, h2, h3, if_false, fX12_fill_L14], hm.1, by simp only [fX13_fill, h1, h2, h3, if_false, fX13_fill_L14]⟩
theorem ok_set {M : Mem} (h : FR M 0) (hm : FM M 0) (i b : Int32) : OK2 (fX12_set (some 11) i b) (fX13_set (some 198) i b) M := by
  obtain ⟨x1, x2, x3, x4, x5, x6, x7⟩ := h
  obtain ⟨y1, y2, y3, y4, y5⟩ := hm
  by_cases h1 : i < 0
  · exact ⟨-2, M, M, by simp only [fX12_set, h1, if_true, fX12_set_L26], y1, by simp only [fX13_set, h1, if_true, fX13_set_L23]⟩
  · have h2 : nI 0 ≤ i := Int32.not_lt.mp h1
    exact ⟨-2, M, M, by simp only [fX12_set, h1, h2, if_true, if_false, gR, gI, x1, x2, x3, x7, bo, fX12_set_L26], y1, by simp only [fX13_set, h1, h2, if_true, if_false, gI, y1, y5, bo, fX13_set_L23]⟩
theorem ok_cut {M : Mem} (h : FR M 0) (hm : FM M 0) (n : Int32) : OK2 (fX12_cut (some 11) n) (fX13_cut (some 198) n) M := by
  obtain ⟨x1, x2, x3, x4, x5, x6, x7⟩ := h
  obtain ⟨y1, y2, y3, y4, y5⟩ := hm
  by_cases h1 : n < 0
  · exact ⟨-2, M, M, by simp only [fX12_cut, h1, if_true, fX12_cut_L15], y1, by simp only [fX13_cut, h1, if_true, fX13_cut_L12]⟩
  by_cases h2 : n ≤ nI 0
  · refine ⟨nI 0, sI M 12 1 n, sI (sI M 12 1 n) 198 1 n, ?_, y1, ?_⟩
    · simp only [fX12_cut, h1, h2, if_true, if_false, gR, gI, pI, x1, x2, x3, x7, bo, bn]
    · have y6 : mI (sI M 12 1 n) 198 1 = nI 0 := by simp [mI_sI, y5]
      simp only [fX13_cut, h1, h2, if_true, if_false, gI, pI, mK_sI, y1, y6, bo, bn]
  · exact ⟨-2, M, M, by simp only [fX12_cut, h1, h2, if_false, gR, gI, x1, x2, x3, x7, bo, if_true, fX12_cut_L15], y1, by simp only [fX13_cut, h1, h2, if_false, gI, y1, y5, bo, if_true, fX13_cut_L12]⟩
theorem ok_out {M : Mem} (h1 : mK M 11 = 12) (h2 : mR M 11 1 = some 14) (h3 : mK M 14 = 8) (h4 : mI M 14 1 = 0) (y1 : mK M 198 = 13) (y2 : mI M 198 3 = 0) (i : Int32) : OK2 (fX12_out (some 11) i) (fX13_out (some 198) i) M := by
  by_cases hi : i < 0
  · exact ⟨-2, M, M, by simp only [fX12_out, hi, if_true, fX12_out_L15, fX12_out_L28], y1, by simp only [fX13_out, hi, if_true, fX13_out_L12, fX13_out_L27]⟩
  · exact ⟨-2, M, M, by simp only [fX12_out, hi, if_true, if_false, gR, gI, h1, h2, h3, h4, bo, fX12_out_L15, fX12_out_L28], y1, by simp only [fX13_out, hi, if_true, if_false, gI, y1, y2, bo, fX13_out_L12, fX13_out_L27]⟩
