/-! what the class's fresh object and the reference's hold -/
def factsX (M : Mem) : Prop := mK M 11 = 12 ∧ mR M 11 0 = some 12 ∧ mR M 11 1 = some 14 ∧ mR M 11 2 = some 16 ∧ mR M 11 4 = some 30 ∧ mR M 11 6 = some 122 ∧ mR M 11 8 = none ∧ mK M 12 = 8 ∧ mI M 12 1 = 0 ∧ mR M 12 0 = some 13 ∧ mK M 13 = 14 ∧ mL M 13 = 8000 ∧ mK M 14 = 8 ∧ mI M 14 1 = 0 ∧ mK M 16 = 8 ∧ mI M 16 1 = 0 ∧ mK M 30 = 7 ∧ mR M 30 2 = some 31 ∧ mK M 31 = 15 ∧ mL M 31 = 12 ∧ mI M 31 4 = 0 ∧ mK M 122 = 5 ∧ mR M 122 0 = some 125 ∧ mR M 122 1 = some 134 ∧ mR M 122 2 = some 30 ∧ mK M 125 = 4 ∧ mI M 125 2 = 0 ∧ mK M 134 = 9 ∧ mR M 134 1 = some 136 ∧ mK M 136 = 18 ∧ mL M 136 = 3 ∧ mI M 136 0 = 0 ∧ mI M 136 1 = 0 ∧ mI M 136 2 = 0
def factsM (M : Mem) : Prop := mK M 198 = 13 ∧ mI M 198 1 = 0 ∧ mI M 198 3 = 0 ∧ mI M 198 46 = 0 ∧ mR M 198 0 = some 199 ∧ mK M 199 = 14 ∧ mL M 199 = 8000 ∧ mR M 198 18 = some 206 ∧ mK M 206 = 18 ∧ mL M 206 = 10 ∧ mI M 206 0 = 0 ∧ mI M 206 1 = 0 ∧ mI M 206 2 = 0 ∧ mR M 198 21 = some 209 ∧ mK M 209 = 18 ∧ mL M 209 = 3 ∧ mI M 209 0 = 0 ∧ mR M 198 45 = some 221 ∧ mK M 221 = 15 ∧ mL M 221 = 12 ∧ mR M 198 44 = some 220 ∧ mK M 220 = 16 ∧ mL M 220 = 3 ∧ mR M 198 2 = some 200 ∧ mR M 198 32 = some 216
theorem feed_add {M : Mem} {r c b : Nat} {v : Int32} (h1 : mK M r = 8) (h2 : mR M r 0 = some b) (h3 : mK M b = 14) (h4 : mI M r 1 = nI c) (h5 : c < mL M b) (h6 : mL M b < 2 ^ 31) : fX8_add (some r) v M = some ((), sI (sI M b c (i2b v).toInt8.toInt32) r 1 (nI (c + 1))) := by
  have hbr : r ≠ b := by intro q; subst q; omega
  have g1 : ¬ nI c < 0 := nI_pos (by omega)
  have g2 : ¬ Int32.ofNat (mL M b) ≤ nI c := nI_ge h5 h6
  have g3 : wB M (some b) (nI c) (i2b v) = some (sI M b c (i2b v).toInt8.toInt32) := by
    simp only [wB]
    rw [if_pos ⟨h3, nI_in h5 h6⟩, nI_clamp (by omega)]
  simp only [fX8_add, fX8_add_L30, gI, gR, pI, aL, bo, h1, h2, h3, h4, g1, g2, g3, mK_sI, mI_sI, if_true, if_false, hbr, false_and, nI_1, Nat.le_refl, and_self, true_and, Nat.reduceLeDiff]
