def eqOp (f g : Mem → Option (Int32 × Mem)) (M : Mem) : Bool := match f M with
  | none => false
  | some q => Nat.beq (mK q.2 198) 13 && (match g q.2 with
    | none => false
    | some r => q.1 == r.1)
theorem eqOp_ok {f g : Mem → Option (Int32 × Mem)} {M : Mem} (h : eqOp f g M = true) : OK2 f g M := by
  unfold eqOp at h
  cases hf : f M with
  | none => rw [hf] at h; cases h
  | some q =>
    rw [hf] at h
    obtain ⟨v, M1⟩ := q
    simp only [Bool.and_eq_true] at h
    obtain ⟨h1, h2⟩ := h
    cases hg : g M1 with
    | none => rw [hg] at h2; cases h2
    | some r =>
      rw [hg] at h2
      obtain ⟨w, M2⟩ := r
      have h3 : v = w := by simpa using h2
      subst h3
      exact ⟨v, M1, M2, hf, Nat.eq_of_beq_eq_true h1, hg⟩
theorem ok_again {M : Mem} (h : FR M 0) (hm : FM M 0) (hc : OK2 (fX12_again (some 11) 0 0) (fX13_again (some 198) 0 0) M) (i n : Int32) : OK2 (fX12_again (some 11) i n) (fX13_again (some 198) i n) M := by
  obtain ⟨x1, x2, x3, x4, x5, x6, x7⟩ := h
  obtain ⟨y1, y2, y3, y4, y5⟩ := hm
  by_cases h1 : i < 0
  · exact ⟨-2, M, M, by simp only [fX12_again, h1, if_true, fX12_again_L32], y1, by simp only [fX13_again, h1, if_true, fX13_again_L26]⟩
  by_cases h2 : n < 0
  · exact ⟨-2, M, M, by simp only [fX12_again, h1, h2, if_true, if_false, fX12_again_L32], y1, by simp only [fX13_again, h1, h2, if_true, if_false, fX13_again_L26]⟩
  by_cases h3 : nI 0 < i
  · exact ⟨-2, M, M, by simp only [fX12_again, h1, h2, h3, if_true, if_false, gR, gI, x1, x2, x3, x7, bo, fX12_again_L32], y1, by simp only [fX13_again, h1, h2, h3, if_true, if_false, gI, y1, y5, bo, fX13_again_L26]⟩
  have hi : i = 0 := by
    apply Int32.le_antisymm
    · exact Int32.not_lt.mp h3
    · exact Int32.not_lt.mp h1
  subst hi
  by_cases h4 : n ≤ nI 0 - 0
  · have hn : n = 0 := by
      apply Int32.le_antisymm
      · exact h4
      · exact Int32.not_lt.mp h2
    subst hn
    exact hc
  · exact ⟨-2, M, M, by simp only [fX12_again, h1, h2, h3, h4, if_true, if_false, gR, gI, x1, x2, x3, x7, bo, fX12_again_L32], y1, by simp only [fX13_again, h1, h2, h3, h4, if_true, if_false, gI, y1, y5, bo, fX13_again_L26]⟩
theorem ok_told {M : Mem} (h1 : mK M 11 = 12) (h2 : mR M 11 4 = some 30) (h3 : mK M 30 = 7) (h4 : mR M 30 2 = some 31) (h5 : mK M 31 = 15) (h6 : mL M 31 = 12) (h7 : ∀ j, j < 12 → mI M 31 j = 0) (y1 : mK M 198 = 13) (y2 : mR M 198 45 = some 221) (y3 : mK M 221 = 15) (y4 : mL M 221 = 12) (y5 : ∀ j, j < 12 → mI M 221 j = 0) (i : Int32) : OK2 (fX12_told (some 11) i) (fX13_told (some 198) i) M := by
  by_cases hi : i < 0
  · exact ⟨-2, M, M, by simp only [fX12_told, hi, if_true, fX12_told_L16, fX12_told_L30], y1, by simp only [fX13_told, hi, if_true, fX13_told_L10, fX13_told_L21]⟩
  have hl : aL M (some 31) = some 12 := by simp only [aL, h5, h6]; rfl
  by_cases hj : i ≤ 11
  · obtain ⟨k, hk, rfl⟩ := nI_of2 (n := 11) (by decide) hi hj
    have g1 : nI k < 12 := by rw [show (12 : Int32) = nI 12 from rfl]; exact nI_lt (by omega) (by omega)
    have g2 : aI M (some 31) 15 (nI k) = some 0 := by
      simp only [aI]
      rw [if_pos ⟨Or.inl h5, by rw [h6]; exact nI_in (by omega) (by omega)⟩, nI_clamp (by omega), h7 k (by omega)]
    have g3 : aI M (some 221) 15 (nI k) = some 0 := by
      simp only [aI]
      rw [if_pos ⟨Or.inl y3, by rw [y4]; exact nI_in (by omega) (by omega)⟩, nI_clamp (by omega), y5 k (by omega)]
    exact ⟨0, M, M, by simp only [fX12_told, hi, g1, if_true, if_false, gR, h1, h2, h3, h4, hl, g2, bo, fX12_told_L30], y1, by simp only [fX13_told, hi, hj, if_true, if_false, gR, y1, y2, g3, bo, fX13_told_L21]⟩
  · have g1 : ¬ i < 12 := fun q => hj (by
      rw [Int32.lt_iff_toInt_lt] at q
      rw [Int32.le_iff_toInt_le]
      have e1 : (12 : Int32).toInt = 12 := by decide
      have e2 : (11 : Int32).toInt = 11 := by decide
      omega)
    exact ⟨-2, M, M, by simp only [fX12_told, hi, g1, if_true, if_false, gR, h1, h2, h3, h4, hl, bo, fX12_told_L16, fX12_told_L30], y1, by simp only [fX13_told, hi, hj, if_false, fX13_told_L10, fX13_told_L21]⟩
theorem ok_sequence {M : Mem} (h1 : mK M 11 = 12) (h2 : mR M 11 4 = some 30) (h3 : mK M 30 = 7) (h4 : mR M 30 2 = some 31) (h5 : mK M 31 = 15) (h6 : mL M 31 = 12) (h7 : mI M 31 4 = 0) (y1 : mK M 198 = 13) (y2 : mI M 198 46 = 0) (i w : Int32) : OK2 (fX12_sequence (some 11) i w) (fX13_sequence_ (some 198) i w) M := by
  by_cases hi : i < 0
  · exact ⟨-2, M, M, by simp only [fX12_sequence, hi, if_true, fX12_sequence_L33], y1, by simp only [fX13_sequence_, hi, if_true, fX13_sequence__L21]⟩
  have hz : (0 : Int32) ≤ i := Int32.not_lt.mp hi
  have e : ∃ M1, fX13_sequence_ (some 198) i w M = some (-2, M1) := ⟨M, by simp only [fX13_sequence_, hi, hz, if_true, if_false, gI, y1, y2, bo, fX13_sequence__L21]⟩
  obtain ⟨M1, e⟩ := e
  by_cases hj : 2000 ≤ i
  · exact ⟨-2, M, M1, by simp only [fX12_sequence, hi, hj, if_true, if_false, fX12_sequence_L33], y1, e⟩
  · have g2 : aI M (some 31) 15 4 = some 0 := by
      simp only [aI]
      rw [if_pos ⟨Or.inl h5, by rw [h6]; decide⟩]
      exact congrArg some h7
    exact ⟨-2, M, M1, by simp only [fX12_sequence, hi, hj, hz, if_true, if_false, gR, h1, h2, h3, h4, g2, bo, fX12_sequence_L33], y1, e⟩
theorem ok_table {M : Mem} (h1 : mK M 11 = 12) (h2 : mR M 11 6 = some 122) (h3 : mK M 122 = 5) (h4 : mR M 122 1 = some 134) (h5 : mK M 134 = 9) (h6 : mR M 134 1 = some 136) (h7 : mK M 136 = 18) (h8 : mL M 136 = 3) (h9 : ∀ j, j < 3 → mI M 136 j = 0) (y1 : mK M 198 = 13) (y2 : mR M 198 18 = some 206) (y3 : mK M 206 = 18) (y4 : mL M 206 = 10) (y5 : ∀ j, j < 3 → mI M 206 j = 0) (kd i w : Int32) : OK2 (fX12_table (some 11) kd i w) (fX13_table_ (some 198) kd i w) M := by
  by_cases hi : kd < 0
  · exact ⟨-2, M, M, by simp only [fX12_table, hi, if_true, fX12_table_L18], y1, by simp only [fX13_table_, hi, if_true, fX13_table__L18]⟩
  by_cases hj : 3 ≤ kd
  · have g : 2 < kd := Int32.lt_of_lt_of_le (by decide) hj
    exact ⟨-2, M, M, by simp only [fX12_table, hi, hj, if_true, if_false, fX12_table_L18], y1, by simp only [fX13_table_, hi, g, if_true, if_false, fX13_table__L18]⟩
  have hk2 : kd ≤ 2 := by
    rw [Int32.le_iff_toInt_le]
    have q := Int32.not_le.mp hj
    rw [Int32.lt_iff_toInt_lt] at q
    have e1 : (3 : Int32).toInt = 3 := by decide
    have e2 : (2 : Int32).toInt = 2 := by decide
    omega
  have g0 : ¬ 2 < kd := Int32.not_lt.mpr hk2
  by_cases hw : w < 0
  · exact ⟨-2, M, M, by simp only [fX12_table, hi, hj, hw, if_true, if_false, fX12_table_L18], y1, by simp only [fX13_table_, hi, g0, hw, if_true, if_false, fX13_table__L18]⟩
  by_cases hv : w ≤ 2
  · obtain ⟨k, hk, rfl⟩ := nI_of2 (n := 2) (by decide) hi hk2
    have g2 : aI M (some 136) 18 (nI k) = some 0 := by
      simp only [aI]
      rw [if_pos ⟨Or.inl h7, by rw [h8]; exact nI_in (by omega) (by omega)⟩, nI_clamp (by omega), h9 k (by omega)]
    have g3 : aI M (some 206) 18 (nI k) = some 0 := by
      simp only [aI]
      rw [if_pos ⟨Or.inl y3, by rw [y4]; exact nI_in (by omega) (by omega)⟩, nI_clamp (by omega), y5 k (by omega)]
    exact ⟨-3, M, M, by simp only [fX12_table, hi, hj, hw, hv, if_true, if_false, gR, h1, h2, h3, h4, h5, h6, g2, bo], y1, by simp only [fX13_table_, hi, g0, hw, hv, if_true, if_false, gR, y1, y2, g3, bo]⟩
  · exact ⟨-2, M, M, by simp only [fX12_table, hi, hj, hw, hv, if_false, fX12_table_L18], y1, by simp only [fX13_table_, hi, g0, hw, hv, if_false, fX13_table__L18]⟩
theorem ok_bits {M : Mem} (h1 : mK M 11 = 12) (h2 : mR M 11 6 = some 122) (h3 : mK M 122 = 5) (h4 : mR M 122 0 = some 125) (h5 : mK M 125 = 4) (h6 : mI M 125 2 = 0) (y1 : mK M 198 = 13) (y2 : mR M 198 21 = some 209) (y3 : mK M 209 = 18) (y4 : mL M 209 = 3) (y5 : mI M 209 0 = 0) (i : Int32) : OK2 (fX12_bits (some 11) i) (fX13_bits (some 198) i) M := by
  by_cases hi : i < 0
  · exact ⟨-2, M, M, by simp only [fX12_bits, hi, if_true, fX12_bits_L11, fX12_bits_L47], y1, by simp only [fX13_bits, hi, if_true, fX13_bits_L11, fX13_bits_L36]⟩
  have g3 : aI M (some 209) 18 0 = some 0 := by
    simp only [aI]
    rw [if_pos ⟨Or.inl y3, by rw [y4]; decide⟩]
    exact congrArg some y5
  by_cases hj : i ≤ 255
  · have g1 : i < 256 := Int32.lt_of_le_of_lt hj (by decide)
    exact ⟨-3, M, M, by simp only [fX12_bits, hi, g1, if_true, if_false, gR, gI, h1, h2, h3, h4, h5, h6, bo, fX12_bits_L47], y1, by simp only [fX13_bits, hi, hj, if_true, if_false, gR, y1, y2, g3, bo, fX13_bits_L36]⟩
  · have g1 : ¬ i < 256 := fun q => hj (by
      rw [Int32.lt_iff_toInt_lt] at q
      rw [Int32.le_iff_toInt_le]
      have e1 : (256 : Int32).toInt = 256 := by decide
      have e2 : (255 : Int32).toInt = 255 := by decide
      omega)
    exact ⟨-2, M, M, by simp only [fX12_bits, hi, g1, if_false, fX12_bits_L11, fX12_bits_L47], y1, by simp only [fX13_bits, hi, hj, if_false, fX13_bits_L11, fX13_bits_L36]⟩
