/-! the bits of one SEQUENCE: the reference's -/
section MDEC
variable {M : Mem}
theorem mcb_ok {s : Nat} (hs : s < 53) : fX13_copyBase (iI s) M = some (iI (cbK s : Nat), M) := by
  have e1 := shl_n (a := 256) (k := s - 44) (by omega)
  by_cases c1 : 44 ≤ s
  · rw [show ((s - 44 : Nat) : Int) = (s : Int) - 44 by omega, show ((256 : Nat) : Int) = 256 from rfl] at e1
    have ec : cbK s = 256 * 2 ^ (s - 44) + 3 := by unfold cbK; rw [if_neg (by omega), if_neg (by omega), if_neg (by omega)]
    rw [ec]
    simp -implicitDefEqProofs (disch := omega) only [fX13_copyBase, e1, bo_s, bd_s, bn_s, gI_s, gJ_s, gR_s, pI_s, pZ_s, pJ_s, pR_s, chk_s, chN_s, chN_n, aL_s, aI_c, aJ_c, aR_c, wI_c, wB_c, wS_c, wZ_c, wJ_c, wR_c, mK_sI, mK_sJ, mK_sR, mK_cpI, mL_sI, mL_sJ, mL_sR, mL_cpI, mI_sI, mI_sJ, mI_sR, mI_cpI, mJ_sI, mJ_sJ, mJ_sR, mJ_cpI, mR_sI, mR_sJ, mR_sR, mR_cpI, i2b_i2b, i2b_sb, iI_lit, iI_add, iI_sub, iI_mul, iI_neg, iI_lt, iI_le, iI_eq, iI_J, lt_T, lt_F, le_T, le_F, eq_T, eq_F, eqN_T, eqN_F, leN_T, leN_F, ltN_T, ltN_F, if_true, if_false, and_true, true_and, and_false, false_and, or_true, true_or, or_false, false_or, not_true_eq_false, not_false_eq_true, and_self, or_self, tn_c, ne_eq, dite_true, dite_false]
    refine congrArg (fun x => some (iI x, M)) ?_
    omega
  · clear e1
    by_cases c2 : s < 32
    · have ec : cbK s = 3 + s := by unfold cbK; rw [if_pos c2]
      rw [ec]
      simp -implicitDefEqProofs (disch := omega) only [fX13_copyBase, bo_s, bd_s, bn_s, gI_s, gJ_s, gR_s, pI_s, pZ_s, pJ_s, pR_s, chk_s, chN_s, chN_n, aL_s, aI_c, aJ_c, aR_c, wI_c, wB_c, wS_c, wZ_c, wJ_c, wR_c, mK_sI, mK_sJ, mK_sR, mK_cpI, mL_sI, mL_sJ, mL_sR, mL_cpI, mI_sI, mI_sJ, mI_sR, mI_cpI, mJ_sI, mJ_sJ, mJ_sR, mJ_cpI, mR_sI, mR_sJ, mR_sR, mR_cpI, i2b_i2b, i2b_sb, iI_lit, iI_add, iI_sub, iI_mul, iI_neg, iI_lt, iI_le, iI_eq, iI_J, lt_T, lt_F, le_T, le_F, eq_T, eq_F, eqN_T, eqN_F, leN_T, leN_F, ltN_T, ltN_F, if_true, if_false, and_true, true_and, and_false, false_and, or_true, true_or, or_false, false_or, not_true_eq_false, not_false_eq_true, and_self, or_self, tn_c, ne_eq, dite_true, dite_false]
      refine congrArg (fun x => some (iI x, M)) ?_
      omega
    · by_cases c3 : s < 36
      · have ec : cbK s = 35 + 2 * (s - 32) := by unfold cbK; rw [if_neg c2, if_pos c3]
        rw [ec]
        simp -implicitDefEqProofs (disch := omega) only [fX13_copyBase, bo_s, bd_s, bn_s, gI_s, gJ_s, gR_s, pI_s, pZ_s, pJ_s, pR_s, chk_s, chN_s, chN_n, aL_s, aI_c, aJ_c, aR_c, wI_c, wB_c, wS_c, wZ_c, wJ_c, wR_c, mK_sI, mK_sJ, mK_sR, mK_cpI, mL_sI, mL_sJ, mL_sR, mL_cpI, mI_sI, mI_sJ, mI_sR, mI_cpI, mJ_sI, mJ_sJ, mJ_sR, mJ_cpI, mR_sI, mR_sJ, mR_sR, mR_cpI, i2b_i2b, i2b_sb, iI_lit, iI_add, iI_sub, iI_mul, iI_neg, iI_lt, iI_le, iI_eq, iI_J, lt_T, lt_F, le_T, le_F, eq_T, eq_F, eqN_T, eqN_F, leN_T, leN_F, ltN_T, ltN_F, if_true, if_false, and_true, true_and, and_false, false_and, or_true, true_or, or_false, false_or, not_true_eq_false, not_false_eq_true, and_self, or_self, tn_c, ne_eq, dite_true, dite_false]
        refine congrArg (fun x => some (iI x, M)) ?_
        omega
      · have : s = 36 ∨ s = 37 ∨ s = 38 ∨ s = 39 ∨ s = 40 ∨ s = 41 ∨ s = 42 ∨ s = 43 := by omega
        rcases this with rfl | rfl | rfl | rfl | rfl | rfl | rfl | rfl <;> simp -implicitDefEqProofs (disch := omega) only [fX13_copyBase, fX13_copyBase_L112, bo_s, bd_s, bn_s, gI_s, gJ_s, gR_s, pI_s, pZ_s, pJ_s, pR_s, chk_s, chN_s, chN_n, aL_s, aI_c, aJ_c, aR_c, wI_c, wB_c, wS_c, wZ_c, wJ_c, wR_c, mK_sI, mK_sJ, mK_sR, mK_cpI, mL_sI, mL_sJ, mL_sR, mL_cpI, mI_sI, mI_sJ, mI_sR, mI_cpI, mJ_sI, mJ_sJ, mJ_sR, mJ_cpI, mR_sI, mR_sJ, mR_sR, mR_cpI, i2b_i2b, i2b_sb, iI_lit, iI_add, iI_sub, iI_mul, iI_neg, iI_lt, iI_le, iI_eq, iI_J, lt_T, lt_F, le_T, le_F, eq_T, eq_F, eqN_T, eqN_F, leN_T, leN_F, ltN_T, ltN_F, if_true, if_false, and_true, true_and, and_false, false_and, or_true, true_or, or_false, false_or, not_true_eq_false, not_false_eq_true, and_self, or_self, tn_c, ne_eq, dite_true, dite_false] <;> rfl
theorem mcx_ok {s : Nat} (hs : s < 53) : fX13_copyBits (iI s) M = some (iI (cxK s : Nat), M) := by
  by_cases c1 : 42 < s
  · have ec : cxK s = s - 36 := by unfold cxK; rw [if_neg (by omega), if_neg (by omega), if_neg (by omega), if_neg (by omega), if_neg (by omega), if_neg (by omega)]
    rw [ec]
    simp -implicitDefEqProofs (disch := omega) only [fX13_copyBits, fX13_copyBits_L64, bo_s, bd_s, bn_s, gI_s, gJ_s, gR_s, pI_s, pZ_s, pJ_s, pR_s, chk_s, chN_s, chN_n, aL_s, aI_c, aJ_c, aR_c, wI_c, wB_c, wS_c, wZ_c, wJ_c, wR_c, mK_sI, mK_sJ, mK_sR, mK_cpI, mL_sI, mL_sJ, mL_sR, mL_cpI, mI_sI, mI_sJ, mI_sR, mI_cpI, mJ_sI, mJ_sJ, mJ_sR, mJ_cpI, mR_sI, mR_sJ, mR_sR, mR_cpI, i2b_i2b, i2b_sb, iI_lit, iI_add, iI_sub, iI_mul, iI_neg, iI_lt, iI_le, iI_eq, iI_J, lt_T, lt_F, le_T, le_F, eq_T, eq_F, eqN_T, eqN_F, leN_T, leN_F, ltN_T, ltN_F, if_true, if_false, and_true, true_and, and_false, false_and, or_true, true_or, or_false, false_or, not_true_eq_false, not_false_eq_true, and_self, or_self, tn_c, ne_eq, dite_true, dite_false]
    refine congrArg (fun x => some (iI x, M)) ?_
    omega
  · unfold cxK
    by_cases c2 : s < 32
    · rw [if_pos c2]
      simp -implicitDefEqProofs (disch := omega) only [fX13_copyBits, fX13_copyBits_L64, bo_s, bd_s, bn_s, gI_s, gJ_s, gR_s, pI_s, pZ_s, pJ_s, pR_s, chk_s, chN_s, chN_n, aL_s, aI_c, aJ_c, aR_c, wI_c, wB_c, wS_c, wZ_c, wJ_c, wR_c, mK_sI, mK_sJ, mK_sR, mK_cpI, mL_sI, mL_sJ, mL_sR, mL_cpI, mI_sI, mI_sJ, mI_sR, mI_cpI, mJ_sI, mJ_sJ, mJ_sR, mJ_cpI, mR_sI, mR_sJ, mR_sR, mR_cpI, i2b_i2b, i2b_sb, iI_lit, iI_add, iI_sub, iI_mul, iI_neg, iI_lt, iI_le, iI_eq, iI_J, lt_T, lt_F, le_T, le_F, eq_T, eq_F, eqN_T, eqN_F, leN_T, leN_F, ltN_T, ltN_F, if_true, if_false, and_true, true_and, and_false, false_and, or_true, true_or, or_false, false_or, not_true_eq_false, not_false_eq_true, and_self, or_self, tn_c, ne_eq, dite_true, dite_false]
      rfl
    · rw [if_neg c2]
      by_cases c3 : s < 36
      · rw [if_pos c3]
        simp -implicitDefEqProofs (disch := omega) only [fX13_copyBits, fX13_copyBits_L64, bo_s, bd_s, bn_s, gI_s, gJ_s, gR_s, pI_s, pZ_s, pJ_s, pR_s, chk_s, chN_s, chN_n, aL_s, aI_c, aJ_c, aR_c, wI_c, wB_c, wS_c, wZ_c, wJ_c, wR_c, mK_sI, mK_sJ, mK_sR, mK_cpI, mL_sI, mL_sJ, mL_sR, mL_cpI, mI_sI, mI_sJ, mI_sR, mI_cpI, mJ_sI, mJ_sJ, mJ_sR, mJ_cpI, mR_sI, mR_sJ, mR_sR, mR_cpI, i2b_i2b, i2b_sb, iI_lit, iI_add, iI_sub, iI_mul, iI_neg, iI_lt, iI_le, iI_eq, iI_J, lt_T, lt_F, le_T, le_F, eq_T, eq_F, eqN_T, eqN_F, leN_T, leN_F, ltN_T, ltN_F, if_true, if_false, and_true, true_and, and_false, false_and, or_true, true_or, or_false, false_or, not_true_eq_false, not_false_eq_true, and_self, or_self, tn_c, ne_eq, dite_true, dite_false]
        rfl
      · rw [if_neg c3]
        have : s = 36 ∨ s = 37 ∨ s = 38 ∨ s = 39 ∨ s = 40 ∨ s = 41 ∨ s = 42 := by omega
        rcases this with rfl | rfl | rfl | rfl | rfl | rfl | rfl <;> simp -implicitDefEqProofs (disch := omega) only [fX13_copyBits, fX13_copyBits_L64, bo_s, bd_s, bn_s, gI_s, gJ_s, gR_s, pI_s, pZ_s, pJ_s, pR_s, chk_s, chN_s, chN_n, aL_s, aI_c, aJ_c, aR_c, wI_c, wB_c, wS_c, wZ_c, wJ_c, wR_c, mK_sI, mK_sJ, mK_sR, mK_cpI, mL_sI, mL_sJ, mL_sR, mL_cpI, mI_sI, mI_sJ, mI_sR, mI_cpI, mJ_sI, mJ_sJ, mJ_sR, mJ_cpI, mR_sI, mR_sJ, mR_sR, mR_cpI, i2b_i2b, i2b_sb, iI_lit, iI_add, iI_sub, iI_mul, iI_neg, iI_lt, iI_le, iI_eq, iI_J, lt_T, lt_F, le_T, le_F, eq_T, eq_F, eqN_T, eqN_F, leN_T, leN_F, ltN_T, ltN_F, if_true, if_false, and_true, true_and, and_false, false_and, or_true, true_or, or_false, false_or, not_true_eq_false, not_false_eq_true, and_self, or_self, tn_c, ne_eq, dite_true, dite_false] <;> rfl
theorem mlb_ok {s : Nat} (hs : s < 36) : fX13_letterBase (iI s) M = some (iI (lbK s : Nat), M) := by
  have e1 := shl_n (a := 64) (k := s - 25) (by omega)
  by_cases c1 : 24 < s
  · rw [show ((s - 25 : Nat) : Int) = (s : Int) - 25 by omega, show ((64 : Nat) : Int) = 64 from rfl] at e1
    have ec : lbK s = 64 * 2 ^ (s - 25) := by unfold lbK; rw [if_neg (by omega), if_neg (by omega), if_neg (by omega), if_neg (by omega), if_neg (by omega), if_neg (by omega), if_neg (by omega)]
    rw [ec]
    simp -implicitDefEqProofs (disch := omega) only [fX13_letterBase, fX13_letterBase_L86, e1, bo_s, bd_s, bn_s, gI_s, gJ_s, gR_s, pI_s, pZ_s, pJ_s, pR_s, chk_s, chN_s, chN_n, aL_s, aI_c, aJ_c, aR_c, wI_c, wB_c, wS_c, wZ_c, wJ_c, wR_c, mK_sI, mK_sJ, mK_sR, mK_cpI, mL_sI, mL_sJ, mL_sR, mL_cpI, mI_sI, mI_sJ, mI_sR, mI_cpI, mJ_sI, mJ_sJ, mJ_sR, mJ_cpI, mR_sI, mR_sJ, mR_sR, mR_cpI, i2b_i2b, i2b_sb, iI_lit, iI_add, iI_sub, iI_mul, iI_neg, iI_lt, iI_le, iI_eq, iI_J, lt_T, lt_F, le_T, le_F, eq_T, eq_F, eqN_T, eqN_F, leN_T, leN_F, ltN_T, ltN_F, if_true, if_false, and_true, true_and, and_false, false_and, or_true, true_or, or_false, false_or, not_true_eq_false, not_false_eq_true, and_self, or_self, tn_c, ne_eq, dite_true, dite_false]
  · clear e1
    by_cases c2 : s < 16
    · have ec : lbK s = s := by unfold lbK; rw [if_pos c2]
      rw [ec]
      simp -implicitDefEqProofs (disch := omega) only [fX13_letterBase, bo_s, bd_s, bn_s, gI_s, gJ_s, gR_s, pI_s, pZ_s, pJ_s, pR_s, chk_s, chN_s, chN_n, aL_s, aI_c, aJ_c, aR_c, wI_c, wB_c, wS_c, wZ_c, wJ_c, wR_c, mK_sI, mK_sJ, mK_sR, mK_cpI, mL_sI, mL_sJ, mL_sR, mL_cpI, mI_sI, mI_sJ, mI_sR, mI_cpI, mJ_sI, mJ_sJ, mJ_sR, mJ_cpI, mR_sI, mR_sJ, mR_sR, mR_cpI, i2b_i2b, i2b_sb, iI_lit, iI_add, iI_sub, iI_mul, iI_neg, iI_lt, iI_le, iI_eq, iI_J, lt_T, lt_F, le_T, le_F, eq_T, eq_F, eqN_T, eqN_F, leN_T, leN_F, ltN_T, ltN_F, if_true, if_false, and_true, true_and, and_false, false_and, or_true, true_or, or_false, false_or, not_true_eq_false, not_false_eq_true, and_self, or_self, tn_c, ne_eq, dite_true, dite_false]
    · by_cases c3 : s < 20
      · have ec : lbK s = 16 + 2 * (s - 16) := by unfold lbK; rw [if_neg c2, if_pos c3]
        rw [ec]
        simp -implicitDefEqProofs (disch := omega) only [fX13_letterBase, bo_s, bd_s, bn_s, gI_s, gJ_s, gR_s, pI_s, pZ_s, pJ_s, pR_s, chk_s, chN_s, chN_n, aL_s, aI_c, aJ_c, aR_c, wI_c, wB_c, wS_c, wZ_c, wJ_c, wR_c, mK_sI, mK_sJ, mK_sR, mK_cpI, mL_sI, mL_sJ, mL_sR, mL_cpI, mI_sI, mI_sJ, mI_sR, mI_cpI, mJ_sI, mJ_sJ, mJ_sR, mJ_cpI, mR_sI, mR_sJ, mR_sR, mR_cpI, i2b_i2b, i2b_sb, iI_lit, iI_add, iI_sub, iI_mul, iI_neg, iI_lt, iI_le, iI_eq, iI_J, lt_T, lt_F, le_T, le_F, eq_T, eq_F, eqN_T, eqN_F, leN_T, leN_F, ltN_T, ltN_F, if_true, if_false, and_true, true_and, and_false, false_and, or_true, true_or, or_false, false_or, not_true_eq_false, not_false_eq_true, and_self, or_self, tn_c, ne_eq, dite_true, dite_false]
        refine congrArg (fun x => some (iI x, M)) ?_
        omega
      · have : s = 20 ∨ s = 21 ∨ s = 22 ∨ s = 23 ∨ s = 24 := by omega
        rcases this with rfl | rfl | rfl | rfl | rfl <;> simp -implicitDefEqProofs (disch := omega) only [fX13_letterBase, fX13_letterBase_L86, bo_s, bd_s, bn_s, gI_s, gJ_s, gR_s, pI_s, pZ_s, pJ_s, pR_s, chk_s, chN_s, chN_n, aL_s, aI_c, aJ_c, aR_c, wI_c, wB_c, wS_c, wZ_c, wJ_c, wR_c, mK_sI, mK_sJ, mK_sR, mK_cpI, mL_sI, mL_sJ, mL_sR, mL_cpI, mI_sI, mI_sJ, mI_sR, mI_cpI, mJ_sI, mJ_sJ, mJ_sR, mJ_cpI, mR_sI, mR_sJ, mR_sR, mR_cpI, i2b_i2b, i2b_sb, iI_lit, iI_add, iI_sub, iI_mul, iI_neg, iI_lt, iI_le, iI_eq, iI_J, lt_T, lt_F, le_T, le_F, eq_T, eq_F, eqN_T, eqN_F, leN_T, leN_F, ltN_T, ltN_F, if_true, if_false, and_true, true_and, and_false, false_and, or_true, true_or, or_false, false_or, not_true_eq_false, not_false_eq_true, and_self, or_self, tn_c, ne_eq, dite_true, dite_false] <;> rfl
theorem mlx_ok {s : Nat} (hs : s < 36) : fX13_letterBits (iI s) M = some (iI (lxK s : Nat), M) := by
  by_cases c1 : 24 < s
  · have ec : lxK s = s - 19 := by unfold lxK; rw [if_neg (by omega), if_neg (by omega), if_neg (by omega), if_neg (by omega), if_neg (by omega)]
    rw [ec]
    simp -implicitDefEqProofs (disch := omega) only [fX13_letterBits, fX13_letterBits_L54, bo_s, bd_s, bn_s, gI_s, gJ_s, gR_s, pI_s, pZ_s, pJ_s, pR_s, chk_s, chN_s, chN_n, aL_s, aI_c, aJ_c, aR_c, wI_c, wB_c, wS_c, wZ_c, wJ_c, wR_c, mK_sI, mK_sJ, mK_sR, mK_cpI, mL_sI, mL_sJ, mL_sR, mL_cpI, mI_sI, mI_sJ, mI_sR, mI_cpI, mJ_sI, mJ_sJ, mJ_sR, mJ_cpI, mR_sI, mR_sJ, mR_sR, mR_cpI, i2b_i2b, i2b_sb, iI_lit, iI_add, iI_sub, iI_mul, iI_neg, iI_lt, iI_le, iI_eq, iI_J, lt_T, lt_F, le_T, le_F, eq_T, eq_F, eqN_T, eqN_F, leN_T, leN_F, ltN_T, ltN_F, if_true, if_false, and_true, true_and, and_false, false_and, or_true, true_or, or_false, false_or, not_true_eq_false, not_false_eq_true, and_self, or_self, tn_c, ne_eq, dite_true, dite_false]
    refine congrArg (fun x => some (iI x, M)) ?_
    omega
  · unfold lxK
    by_cases c2 : s < 16
    · rw [if_pos c2]
      simp -implicitDefEqProofs (disch := omega) only [fX13_letterBits, fX13_letterBits_L54, bo_s, bd_s, bn_s, gI_s, gJ_s, gR_s, pI_s, pZ_s, pJ_s, pR_s, chk_s, chN_s, chN_n, aL_s, aI_c, aJ_c, aR_c, wI_c, wB_c, wS_c, wZ_c, wJ_c, wR_c, mK_sI, mK_sJ, mK_sR, mK_cpI, mL_sI, mL_sJ, mL_sR, mL_cpI, mI_sI, mI_sJ, mI_sR, mI_cpI, mJ_sI, mJ_sJ, mJ_sR, mJ_cpI, mR_sI, mR_sJ, mR_sR, mR_cpI, i2b_i2b, i2b_sb, iI_lit, iI_add, iI_sub, iI_mul, iI_neg, iI_lt, iI_le, iI_eq, iI_J, lt_T, lt_F, le_T, le_F, eq_T, eq_F, eqN_T, eqN_F, leN_T, leN_F, ltN_T, ltN_F, if_true, if_false, and_true, true_and, and_false, false_and, or_true, true_or, or_false, false_or, not_true_eq_false, not_false_eq_true, and_self, or_self, tn_c, ne_eq, dite_true, dite_false]
      rfl
    · rw [if_neg c2]
      by_cases c3 : s < 20
      · rw [if_pos c3]
        simp -implicitDefEqProofs (disch := omega) only [fX13_letterBits, fX13_letterBits_L54, bo_s, bd_s, bn_s, gI_s, gJ_s, gR_s, pI_s, pZ_s, pJ_s, pR_s, chk_s, chN_s, chN_n, aL_s, aI_c, aJ_c, aR_c, wI_c, wB_c, wS_c, wZ_c, wJ_c, wR_c, mK_sI, mK_sJ, mK_sR, mK_cpI, mL_sI, mL_sJ, mL_sR, mL_cpI, mI_sI, mI_sJ, mI_sR, mI_cpI, mJ_sI, mJ_sJ, mJ_sR, mJ_cpI, mR_sI, mR_sJ, mR_sR, mR_cpI, i2b_i2b, i2b_sb, iI_lit, iI_add, iI_sub, iI_mul, iI_neg, iI_lt, iI_le, iI_eq, iI_J, lt_T, lt_F, le_T, le_F, eq_T, eq_F, eqN_T, eqN_F, leN_T, leN_F, ltN_T, ltN_F, if_true, if_false, and_true, true_and, and_false, false_and, or_true, true_or, or_false, false_or, not_true_eq_false, not_false_eq_true, and_self, or_self, tn_c, ne_eq, dite_true, dite_false]
        rfl
      · rw [if_neg c3]
        have : s = 20 ∨ s = 21 ∨ s = 22 ∨ s = 23 ∨ s = 24 := by omega
        rcases this with rfl | rfl | rfl | rfl | rfl <;> simp -implicitDefEqProofs (disch := omega) only [fX13_letterBits, fX13_letterBits_L54, bo_s, bd_s, bn_s, gI_s, gJ_s, gR_s, pI_s, pZ_s, pJ_s, pR_s, chk_s, chN_s, chN_n, aL_s, aI_c, aJ_c, aR_c, wI_c, wB_c, wS_c, wZ_c, wJ_c, wR_c, mK_sI, mK_sJ, mK_sR, mK_cpI, mL_sI, mL_sJ, mL_sR, mL_cpI, mI_sI, mI_sJ, mI_sR, mI_cpI, mJ_sI, mJ_sJ, mJ_sR, mJ_cpI, mR_sI, mR_sJ, mR_sR, mR_cpI, i2b_i2b, i2b_sb, iI_lit, iI_add, iI_sub, iI_mul, iI_neg, iI_lt, iI_le, iI_eq, iI_J, lt_T, lt_F, le_T, le_F, eq_T, eq_F, eqN_T, eqN_F, leN_T, leN_F, ltN_T, ltN_F, if_true, if_false, and_true, true_and, and_false, false_and, or_true, true_or, or_false, false_or, not_true_eq_false, not_false_eq_true, and_self, or_self, tn_c, ne_eq, dite_true, dite_false] <;> rfl
def MSd (M : Mem) (Ts : Nat → Tb) : Prop := ∀ k, k < 3 → TG k (Ts k) ∧ TbM M k (Ts k)
variable {Ts : Nat → Tb} {e F : Nat} {u : Nat → Nat}
theorem MSd.sq {N : Mem} {S : Nat → Nat → Prop} (h : MSd M Ts) (s : Sq S M N) (h1 : ∀ k, k < 3 → ¬ S 205 k ∧ ¬ S 206 k) (h2 : ∀ j, ¬ S 202 j ∧ ¬ S 203 j ∧ ¬ S 204 j) : MSd N Ts := fun k hk => ⟨(h k hk).1, (h k hk).2.sq s ⟨(h1 k hk).1, (h1 k hk).2, fun q _ => h2 _⟩⟩
abbrev WMd (a j : Nat) : Prop := a = 198 ∧ (j = 9 ∨ j = 11)
theorem b76a {N1 N2 N3 : Mem} {l o c many k sl so sc z : Nat} {pl cb cx lb lx C Nn : Int32} {t1 t2 t3 V : Int64} {g : Option Nat × Int32 × Int32 × Int32 × Int32 × Int32 × Int32 → Mem → Option (Unit × Mem)} (k198 : mK M 198 = 13) (r14 : mR M 198 14 = some 202) (k202 : mK M 202 = 17) (l202 : mL M 202 = 5120) (h4 : mI M 198 4 = iI 0) (hl : l < 512) (ho : o < 512) (hc : c < 512) (hk : k < many) (hm : many < 1000000)
    (y0 : mI M 202 l = iI sl) (y1 : mI M 202 (512 + o) = iI so) (y2 : mI M 202 (1024 + c) = iI sc) (e1 : fX13_back (some 198) (iI so) M = some (t1, N1)) (eV : shlJ (1 : Int64) (iI so) + t1 = V) (a1 : mK N1 198 = 13)
    (w1 : fX13_copyBase (iI sc) N1 = some (cb, N1)) (w2 : fX13_copyBits (iI sc) N1 = some (cx, N1)) (e2 : fX13_back (some 198) cx N1 = some (t2, N2)) (eC : cb + t2.toInt32 = C) (a2 : mK N2 198 = 13)
    (w3 : fX13_letterBase (iI sl) N2 = some (lb, N2)) (w4 : fX13_letterBits (iI sl) N2 = some (lx, N2)) (e3 : fX13_back (some 198) lx N2 = some (t3, N3)) (eN : lb + t3.toInt32 = Nn) (a3 : mK N3 198 = 13) (z9 : mI N3 198 9 = iI z) (hz : z < 2) (hz2 : z = 1 ∨ many = k + 1) :
    fX13_all_B76 g (some 198) (iI many) pl (iI l) (iI o) (iI c) (iI k) M = fX13_all_L270 g (some 198) (iI many) pl (iI l) (iI o) (iI c) (iI k) V C Nn N3 := by
  have i1 : ((512 : Int) + (o : Int)).toNat = 512 + o := by omega
  have i2 : ((1024 : Int) + (c : Int)).toNat = 1024 + c := by omega
  by_cases q : z = 0
  · subst q
    have hz3 : many = k + 1 := by omega
    clear hz2 hz
    rw [show ((0 : Nat) : Int) = 0 from rfl] at z9
    ((repeat' (first | (with_reducible apply bo_t; · ((try (simp -implicitDefEqProofs (disch := omega) only [k198, h4, r14, k202, l202, i1, i2, y0, y1, y2, e1, eV, a1, w1, w2, e2, eC, a2, w3, w4, e3, eN, a3, z9, bo_s, bd_s, bn_s, gI_s, gJ_s, gR_s, pI_s, pZ_s, pJ_s, pR_s, chk_s, chN_s, chN_n, aL_s, aI_c, aJ_c, aR_c, wI_c, wB_c, wS_c, wZ_c, wJ_c, wR_c, mK_sI, mK_sJ, mK_sR, mK_cpI, mL_sI, mL_sJ, mL_sR, mL_cpI, mI_sI, mI_sJ, mI_sR, mI_cpI, mJ_sI, mJ_sJ, mJ_sR, mJ_cpI, mR_sI, mR_sJ, mR_sR, mR_cpI, i2b_i2b, i2b_sb, iI_lit, iI_add, iI_sub, iI_mul, iI_neg, iI_lt, iI_le, iI_eq, iI_J, lt_T, lt_F, le_T, le_F, eq_T, eq_F, eqN_T, eqN_F, leN_T, leN_F, ltN_T, ltN_F, if_true, if_false, and_true, true_and, and_false, false_and, or_true, true_or, or_false, false_or, not_true_eq_false, not_false_eq_true, and_self, or_self, tn_c, ne_eq, dite_true, dite_false])); (with_reducible exact rfl))) | (with_reducible apply bd_t; · ((try (simp -implicitDefEqProofs (disch := omega) only [k198, h4, r14, k202, l202, i1, i2, y0, y1, y2, e1, eV, a1, w1, w2, e2, eC, a2, w3, w4, e3, eN, a3, z9, bo_s, bd_s, bn_s, gI_s, gJ_s, gR_s, pI_s, pZ_s, pJ_s, pR_s, chk_s, chN_s, chN_n, aL_s, aI_c, aJ_c, aR_c, wI_c, wB_c, wS_c, wZ_c, wJ_c, wR_c, mK_sI, mK_sJ, mK_sR, mK_cpI, mL_sI, mL_sJ, mL_sR, mL_cpI, mI_sI, mI_sJ, mI_sR, mI_cpI, mJ_sI, mJ_sJ, mJ_sR, mJ_cpI, mR_sI, mR_sJ, mR_sR, mR_cpI, i2b_i2b, i2b_sb, iI_lit, iI_add, iI_sub, iI_mul, iI_neg, iI_lt, iI_le, iI_eq, iI_J, lt_T, lt_F, le_T, le_F, eq_T, eq_F, eqN_T, eqN_F, leN_T, leN_F, ltN_T, ltN_F, if_true, if_false, and_true, true_and, and_false, false_and, or_true, true_or, or_false, false_or, not_true_eq_false, not_false_eq_true, and_self, or_self, tn_c, ne_eq, dite_true, dite_false])); (with_reducible exact rfl))) | (with_reducible apply bn_t; · ((try (simp -implicitDefEqProofs (disch := omega) only [k198, h4, r14, k202, l202, i1, i2, y0, y1, y2, e1, eV, a1, w1, w2, e2, eC, a2, w3, w4, e3, eN, a3, z9, bo_s, bd_s, bn_s, gI_s, gJ_s, gR_s, pI_s, pZ_s, pJ_s, pR_s, chk_s, chN_s, chN_n, aL_s, aI_c, aJ_c, aR_c, wI_c, wB_c, wS_c, wZ_c, wJ_c, wR_c, mK_sI, mK_sJ, mK_sR, mK_cpI, mL_sI, mL_sJ, mL_sR, mL_cpI, mI_sI, mI_sJ, mI_sR, mI_cpI, mJ_sI, mJ_sJ, mJ_sR, mJ_cpI, mR_sI, mR_sJ, mR_sR, mR_cpI, i2b_i2b, i2b_sb, iI_lit, iI_add, iI_sub, iI_mul, iI_neg, iI_lt, iI_le, iI_eq, iI_J, lt_T, lt_F, le_T, le_F, eq_T, eq_F, eqN_T, eqN_F, leN_T, leN_F, ltN_T, ltN_F, if_true, if_false, and_true, true_and, and_false, false_and, or_true, true_or, or_false, false_or, not_true_eq_false, not_false_eq_true, and_self, or_self, tn_c, ne_eq, dite_true, dite_false])); (with_reducible exact rfl))) | (with_reducible apply if_t; · (simp -implicitDefEqProofs (disch := omega) only [k198, h4, r14, k202, l202, i1, i2, y0, y1, y2, e1, eV, a1, w1, w2, e2, eC, a2, w3, w4, e3, eN, a3, z9, bo_s, bd_s, bn_s, gI_s, gJ_s, gR_s, pI_s, pZ_s, pJ_s, pR_s, chk_s, chN_s, chN_n, aL_s, aI_c, aJ_c, aR_c, wI_c, wB_c, wS_c, wZ_c, wJ_c, wR_c, mK_sI, mK_sJ, mK_sR, mK_cpI, mL_sI, mL_sJ, mL_sR, mL_cpI, mI_sI, mI_sJ, mI_sR, mI_cpI, mJ_sI, mJ_sJ, mJ_sR, mJ_cpI, mR_sI, mR_sJ, mR_sR, mR_cpI, i2b_i2b, i2b_sb, iI_lit, iI_add, iI_sub, iI_mul, iI_neg, iI_lt, iI_le, iI_eq, iI_J, lt_T, lt_F, le_T, le_F, eq_T, eq_F, eqN_T, eqN_F, leN_T, leN_F, ltN_T, ltN_F, if_true, if_false, and_true, true_and, and_false, false_and, or_true, true_or, or_false, false_or, not_true_eq_false, not_false_eq_true, and_self, or_self, tn_c, ne_eq, dite_true, dite_false]; done)) | (with_reducible apply if_f; · (simp -implicitDefEqProofs (disch := omega) only [k198, h4, r14, k202, l202, i1, i2, y0, y1, y2, e1, eV, a1, w1, w2, e2, eC, a2, w3, w4, e3, eN, a3, z9, bo_s, bd_s, bn_s, gI_s, gJ_s, gR_s, pI_s, pZ_s, pJ_s, pR_s, chk_s, chN_s, chN_n, aL_s, aI_c, aJ_c, aR_c, wI_c, wB_c, wS_c, wZ_c, wJ_c, wR_c, mK_sI, mK_sJ, mK_sR, mK_cpI, mL_sI, mL_sJ, mL_sR, mL_cpI, mI_sI, mI_sJ, mI_sR, mI_cpI, mJ_sI, mJ_sJ, mJ_sR, mJ_cpI, mR_sI, mR_sJ, mR_sR, mR_cpI, i2b_i2b, i2b_sb, iI_lit, iI_add, iI_sub, iI_mul, iI_neg, iI_lt, iI_le, iI_eq, iI_J, lt_T, lt_F, le_T, le_F, eq_T, eq_F, eqN_T, eqN_F, leN_T, leN_F, ltN_T, ltN_F, if_true, if_false, and_true, true_and, and_false, false_and, or_true, true_or, or_false, false_or, not_true_eq_false, not_false_eq_true, and_self, or_self, tn_c, ne_eq, dite_true, dite_false]; done)) | (with_reducible apply rz_t; · (simp -implicitDefEqProofs (disch := omega) only [k198, h4, r14, k202, l202, i1, i2, y0, y1, y2, e1, eV, a1, w1, w2, e2, eC, a2, w3, w4, e3, eN, a3, z9, bo_s, bd_s, bn_s, gI_s, gJ_s, gR_s, pI_s, pZ_s, pJ_s, pR_s, chk_s, chN_s, chN_n, aL_s, aI_c, aJ_c, aR_c, wI_c, wB_c, wS_c, wZ_c, wJ_c, wR_c, mK_sI, mK_sJ, mK_sR, mK_cpI, mL_sI, mL_sJ, mL_sR, mL_cpI, mI_sI, mI_sJ, mI_sR, mI_cpI, mJ_sI, mJ_sJ, mJ_sR, mJ_cpI, mR_sI, mR_sJ, mR_sR, mR_cpI, i2b_i2b, i2b_sb, iI_lit, iI_add, iI_sub, iI_mul, iI_neg, iI_lt, iI_le, iI_eq, iI_J, lt_T, lt_F, le_T, le_F, eq_T, eq_F, eqN_T, eqN_F, leN_T, leN_F, ltN_T, ltN_F, if_true, if_false, and_true, true_and, and_false, false_and, or_true, true_or, or_false, false_or, not_true_eq_false, not_false_eq_true, and_self, or_self, tn_c, ne_eq, dite_true, dite_false]; done)) | (unfold fX13_all_B76))); (try (simp -implicitDefEqProofs (disch := omega) only [k198, h4, r14, k202, l202, i1, i2, y0, y1, y2, e1, eV, a1, w1, w2, e2, eC, a2, w3, w4, e3, eN, a3, z9, bo_s, bd_s, bn_s, gI_s, gJ_s, gR_s, pI_s, pZ_s, pJ_s, pR_s, chk_s, chN_s, chN_n, aL_s, aI_c, aJ_c, aR_c, wI_c, wB_c, wS_c, wZ_c, wJ_c, wR_c, mK_sI, mK_sJ, mK_sR, mK_cpI, mL_sI, mL_sJ, mL_sR, mL_cpI, mI_sI, mI_sJ, mI_sR, mI_cpI, mJ_sI, mJ_sJ, mJ_sR, mJ_cpI, mR_sI, mR_sJ, mR_sR, mR_cpI, i2b_i2b, i2b_sb, iI_lit, iI_add, iI_sub, iI_mul, iI_neg, iI_lt, iI_le, iI_eq, iI_J, lt_T, lt_F, le_T, le_F, eq_T, eq_F, eqN_T, eqN_F, leN_T, leN_F, ltN_T, ltN_F, if_true, if_false, and_true, true_and, and_false, false_and, or_true, true_or, or_false, false_or, not_true_eq_false, not_false_eq_true, and_self, or_self, tn_c, ne_eq, dite_true, dite_false])); (try (with_reducible rfl)))
  · obtain rfl : z = 1 := by omega
    clear hz2 hz q
    rw [show ((1 : Nat) : Int) = 1 from rfl] at z9
    ((repeat' (first | (with_reducible apply bo_t; · ((try (simp -implicitDefEqProofs (disch := omega) only [k198, h4, r14, k202, l202, i1, i2, y0, y1, y2, e1, eV, a1, w1, w2, e2, eC, a2, w3, w4, e3, eN, a3, z9, bo_s, bd_s, bn_s, gI_s, gJ_s, gR_s, pI_s, pZ_s, pJ_s, pR_s, chk_s, chN_s, chN_n, aL_s, aI_c, aJ_c, aR_c, wI_c, wB_c, wS_c, wZ_c, wJ_c, wR_c, mK_sI, mK_sJ, mK_sR, mK_cpI, mL_sI, mL_sJ, mL_sR, mL_cpI, mI_sI, mI_sJ, mI_sR, mI_cpI, mJ_sI, mJ_sJ, mJ_sR, mJ_cpI, mR_sI, mR_sJ, mR_sR, mR_cpI, i2b_i2b, i2b_sb, iI_lit, iI_add, iI_sub, iI_mul, iI_neg, iI_lt, iI_le, iI_eq, iI_J, lt_T, lt_F, le_T, le_F, eq_T, eq_F, eqN_T, eqN_F, leN_T, leN_F, ltN_T, ltN_F, if_true, if_false, and_true, true_and, and_false, false_and, or_true, true_or, or_false, false_or, not_true_eq_false, not_false_eq_true, and_self, or_self, tn_c, ne_eq, dite_true, dite_false])); (with_reducible exact rfl))) | (with_reducible apply bd_t; · ((try (simp -implicitDefEqProofs (disch := omega) only [k198, h4, r14, k202, l202, i1, i2, y0, y1, y2, e1, eV, a1, w1, w2, e2, eC, a2, w3, w4, e3, eN, a3, z9, bo_s, bd_s, bn_s, gI_s, gJ_s, gR_s, pI_s, pZ_s, pJ_s, pR_s, chk_s, chN_s, chN_n, aL_s, aI_c, aJ_c, aR_c, wI_c, wB_c, wS_c, wZ_c, wJ_c, wR_c, mK_sI, mK_sJ, mK_sR, mK_cpI, mL_sI, mL_sJ, mL_sR, mL_cpI, mI_sI, mI_sJ, mI_sR, mI_cpI, mJ_sI, mJ_sJ, mJ_sR, mJ_cpI, mR_sI, mR_sJ, mR_sR, mR_cpI, i2b_i2b, i2b_sb, iI_lit, iI_add, iI_sub, iI_mul, iI_neg, iI_lt, iI_le, iI_eq, iI_J, lt_T, lt_F, le_T, le_F, eq_T, eq_F, eqN_T, eqN_F, leN_T, leN_F, ltN_T, ltN_F, if_true, if_false, and_true, true_and, and_false, false_and, or_true, true_or, or_false, false_or, not_true_eq_false, not_false_eq_true, and_self, or_self, tn_c, ne_eq, dite_true, dite_false])); (with_reducible exact rfl))) | (with_reducible apply bn_t; · ((try (simp -implicitDefEqProofs (disch := omega) only [k198, h4, r14, k202, l202, i1, i2, y0, y1, y2, e1, eV, a1, w1, w2, e2, eC, a2, w3, w4, e3, eN, a3, z9, bo_s, bd_s, bn_s, gI_s, gJ_s, gR_s, pI_s, pZ_s, pJ_s, pR_s, chk_s, chN_s, chN_n, aL_s, aI_c, aJ_c, aR_c, wI_c, wB_c, wS_c, wZ_c, wJ_c, wR_c, mK_sI, mK_sJ, mK_sR, mK_cpI, mL_sI, mL_sJ, mL_sR, mL_cpI, mI_sI, mI_sJ, mI_sR, mI_cpI, mJ_sI, mJ_sJ, mJ_sR, mJ_cpI, mR_sI, mR_sJ, mR_sR, mR_cpI, i2b_i2b, i2b_sb, iI_lit, iI_add, iI_sub, iI_mul, iI_neg, iI_lt, iI_le, iI_eq, iI_J, lt_T, lt_F, le_T, le_F, eq_T, eq_F, eqN_T, eqN_F, leN_T, leN_F, ltN_T, ltN_F, if_true, if_false, and_true, true_and, and_false, false_and, or_true, true_or, or_false, false_or, not_true_eq_false, not_false_eq_true, and_self, or_self, tn_c, ne_eq, dite_true, dite_false])); (with_reducible exact rfl))) | (with_reducible apply if_t; · (simp -implicitDefEqProofs (disch := omega) only [k198, h4, r14, k202, l202, i1, i2, y0, y1, y2, e1, eV, a1, w1, w2, e2, eC, a2, w3, w4, e3, eN, a3, z9, bo_s, bd_s, bn_s, gI_s, gJ_s, gR_s, pI_s, pZ_s, pJ_s, pR_s, chk_s, chN_s, chN_n, aL_s, aI_c, aJ_c, aR_c, wI_c, wB_c, wS_c, wZ_c, wJ_c, wR_c, mK_sI, mK_sJ, mK_sR, mK_cpI, mL_sI, mL_sJ, mL_sR, mL_cpI, mI_sI, mI_sJ, mI_sR, mI_cpI, mJ_sI, mJ_sJ, mJ_sR, mJ_cpI, mR_sI, mR_sJ, mR_sR, mR_cpI, i2b_i2b, i2b_sb, iI_lit, iI_add, iI_sub, iI_mul, iI_neg, iI_lt, iI_le, iI_eq, iI_J, lt_T, lt_F, le_T, le_F, eq_T, eq_F, eqN_T, eqN_F, leN_T, leN_F, ltN_T, ltN_F, if_true, if_false, and_true, true_and, and_false, false_and, or_true, true_or, or_false, false_or, not_true_eq_false, not_false_eq_true, and_self, or_self, tn_c, ne_eq, dite_true, dite_false]; done)) | (with_reducible apply if_f; · (simp -implicitDefEqProofs (disch := omega) only [k198, h4, r14, k202, l202, i1, i2, y0, y1, y2, e1, eV, a1, w1, w2, e2, eC, a2, w3, w4, e3, eN, a3, z9, bo_s, bd_s, bn_s, gI_s, gJ_s, gR_s, pI_s, pZ_s, pJ_s, pR_s, chk_s, chN_s, chN_n, aL_s, aI_c, aJ_c, aR_c, wI_c, wB_c, wS_c, wZ_c, wJ_c, wR_c, mK_sI, mK_sJ, mK_sR, mK_cpI, mL_sI, mL_sJ, mL_sR, mL_cpI, mI_sI, mI_sJ, mI_sR, mI_cpI, mJ_sI, mJ_sJ, mJ_sR, mJ_cpI, mR_sI, mR_sJ, mR_sR, mR_cpI, i2b_i2b, i2b_sb, iI_lit, iI_add, iI_sub, iI_mul, iI_neg, iI_lt, iI_le, iI_eq, iI_J, lt_T, lt_F, le_T, le_F, eq_T, eq_F, eqN_T, eqN_F, leN_T, leN_F, ltN_T, ltN_F, if_true, if_false, and_true, true_and, and_false, false_and, or_true, true_or, or_false, false_or, not_true_eq_false, not_false_eq_true, and_self, or_self, tn_c, ne_eq, dite_true, dite_false]; done)) | (with_reducible apply rz_t; · (simp -implicitDefEqProofs (disch := omega) only [k198, h4, r14, k202, l202, i1, i2, y0, y1, y2, e1, eV, a1, w1, w2, e2, eC, a2, w3, w4, e3, eN, a3, z9, bo_s, bd_s, bn_s, gI_s, gJ_s, gR_s, pI_s, pZ_s, pJ_s, pR_s, chk_s, chN_s, chN_n, aL_s, aI_c, aJ_c, aR_c, wI_c, wB_c, wS_c, wZ_c, wJ_c, wR_c, mK_sI, mK_sJ, mK_sR, mK_cpI, mL_sI, mL_sJ, mL_sR, mL_cpI, mI_sI, mI_sJ, mI_sR, mI_cpI, mJ_sI, mJ_sJ, mJ_sR, mJ_cpI, mR_sI, mR_sJ, mR_sR, mR_cpI, i2b_i2b, i2b_sb, iI_lit, iI_add, iI_sub, iI_mul, iI_neg, iI_lt, iI_le, iI_eq, iI_J, lt_T, lt_F, le_T, le_F, eq_T, eq_F, eqN_T, eqN_F, leN_T, leN_F, ltN_T, ltN_F, if_true, if_false, and_true, true_and, and_false, false_and, or_true, true_or, or_false, false_or, not_true_eq_false, not_false_eq_true, and_self, or_self, tn_c, ne_eq, dite_true, dite_false]; done)) | (unfold fX13_all_B76))); (try (simp -implicitDefEqProofs (disch := omega) only [k198, h4, r14, k202, l202, i1, i2, y0, y1, y2, e1, eV, a1, w1, w2, e2, eC, a2, w3, w4, e3, eN, a3, z9, bo_s, bd_s, bn_s, gI_s, gJ_s, gR_s, pI_s, pZ_s, pJ_s, pR_s, chk_s, chN_s, chN_n, aL_s, aI_c, aJ_c, aR_c, wI_c, wB_c, wS_c, wZ_c, wJ_c, wR_c, mK_sI, mK_sJ, mK_sR, mK_cpI, mL_sI, mL_sJ, mL_sR, mL_cpI, mI_sI, mI_sJ, mI_sR, mI_cpI, mJ_sI, mJ_sJ, mJ_sR, mJ_cpI, mR_sI, mR_sJ, mR_sR, mR_cpI, i2b_i2b, i2b_sb, iI_lit, iI_add, iI_sub, iI_mul, iI_neg, iI_lt, iI_le, iI_eq, iI_J, lt_T, lt_F, le_T, le_F, eq_T, eq_F, eqN_T, eqN_F, leN_T, leN_F, ltN_T, ltN_F, if_true, if_false, and_true, true_and, and_false, false_and, or_true, true_or, or_false, false_or, not_true_eq_false, not_false_eq_true, and_self, or_self, tn_c, ne_eq, dite_true, dite_false])); (try (with_reducible rfl)))
theorem b76b {N1 N2 N3 N4 N5 N6 : Mem} {l o c many k sl so sc g0 g1 g2 f0 f1 f2 : Nat} {pl cb cx lb lx C Nn L' O' C' : Int32} {t1 t2 t3 t4 t5 t6 V : Int64} {g : Option Nat × Int32 × Int32 × Int32 × Int32 × Int32 × Int32 → Mem → Option (Unit × Mem)} (k198 : mK M 198 = 13) (r14 : mR M 198 14 = some 202) (k202 : mK M 202 = 17) (l202 : mL M 202 = 5120) (h4 : mI M 198 4 = iI 0) (hl : l < 512) (ho : o < 512) (hc : c < 512) (hk : k + 1 < many) (hm : many < 1000000)
    (y0 : mI M 202 l = iI sl) (y1 : mI M 202 (512 + o) = iI so) (y2 : mI M 202 (1024 + c) = iI sc) (e1 : fX13_back (some 198) (iI so) M = some (t1, N1)) (eV : shlJ (1 : Int64) (iI so) + t1 = V) (a1 : mK N1 198 = 13)
    (w1 : fX13_copyBase (iI sc) N1 = some (cb, N1)) (w2 : fX13_copyBits (iI sc) N1 = some (cx, N1)) (e2 : fX13_back (some 198) cx N1 = some (t2, N2)) (eC : cb + t2.toInt32 = C) (a2 : mK N2 198 = 13)
    (w3 : fX13_letterBase (iI sl) N2 = some (lb, N2)) (w4 : fX13_letterBits (iI sl) N2 = some (lx, N2)) (e3 : fX13_back (some 198) lx N2 = some (t3, N3)) (eN : lb + t3.toInt32 = Nn) (a3 : mK N3 198 = 13) (z9 : mI N3 198 9 = iI 0)
    (b3a : mR N3 198 16 = some 204 ∧ mR N3 198 15 = some 203 ∧ mK N3 204 = 15 ∧ mK N3 203 = 14 ∧ mL N3 204 = 5120 ∧ mL N3 203 = 5120) (x1 : mI N3 204 l = iI f0) (x2 : mI N3 203 l = iI g0) (e4 : fX13_back (some 198) (iI g0) N3 = some (t4, N4)) (eL : iI f0 + t4.toInt32 = L')
    (b4a : mK N4 198 = 13 ∧ mR N4 198 16 = some 204 ∧ mR N4 198 15 = some 203 ∧ mK N4 204 = 15 ∧ mK N4 203 = 14 ∧ mL N4 204 = 5120 ∧ mL N4 203 = 5120) (x3 : mI N4 204 (1024 + c) = iI f2) (x4 : mI N4 203 (1024 + c) = iI g2) (e5 : fX13_back (some 198) (iI g2) N4 = some (t5, N5)) (eCC : iI f2 + t5.toInt32 = C')
    (b5a : mK N5 198 = 13 ∧ mR N5 198 16 = some 204 ∧ mR N5 198 15 = some 203 ∧ mK N5 204 = 15 ∧ mK N5 203 = 14 ∧ mL N5 204 = 5120 ∧ mL N5 203 = 5120) (x5 : mI N5 204 (512 + o) = iI f1) (x6 : mI N5 203 (512 + o) = iI g1) (e6 : fX13_back (some 198) (iI g1) N5 = some (t6, N6)) (eO : iI f1 + t6.toInt32 = O') :
    fX13_all_B76 g (some 198) (iI many) pl (iI l) (iI o) (iI c) (iI k) M = fX13_all_L270 g (some 198) (iI many) pl L' O' C' (iI k) V C Nn N6 := by
  have i1 : ((512 : Int) + (o : Int)).toNat = 512 + o := by omega
  have i2 : ((1024 : Int) + (c : Int)).toNat = 1024 + c := by omega
  obtain ⟨p1, p2, p3, p4, p5, p6⟩ := b3a
  obtain ⟨q0, q1, q2, q3, q4, q5, q6⟩ := b4a
  obtain ⟨s0, s1, s2, s3, s4, s5, s6⟩ := b5a
  ((repeat' (first | (with_reducible apply bo_t; · ((try (simp -implicitDefEqProofs (disch := omega) only [k198, h4, r14, k202, l202, i1, i2, y0, y1, y2, e1, eV, a1, w1, w2, e2, eC, a2, w3, w4, e3, eN, a3, z9, p1, p2, p3, p4, p5, p6, x1, x2, e4, eL, q0, q1, q2, q3, q4, q5, q6, x3, x4, e5, eCC, s0, s1, s2, s3, s4, s5, s6, x5, x6, e6, eO, bo_s, bd_s, bn_s, gI_s, gJ_s, gR_s, pI_s, pZ_s, pJ_s, pR_s, chk_s, chN_s, chN_n, aL_s, aI_c, aJ_c, aR_c, wI_c, wB_c, wS_c, wZ_c, wJ_c, wR_c, mK_sI, mK_sJ, mK_sR, mK_cpI, mL_sI, mL_sJ, mL_sR, mL_cpI, mI_sI, mI_sJ, mI_sR, mI_cpI, mJ_sI, mJ_sJ, mJ_sR, mJ_cpI, mR_sI, mR_sJ, mR_sR, mR_cpI, i2b_i2b, i2b_sb, iI_lit, iI_add, iI_sub, iI_mul, iI_neg, iI_lt, iI_le, iI_eq, iI_J, lt_T, lt_F, le_T, le_F, eq_T, eq_F, eqN_T, eqN_F, leN_T, leN_F, ltN_T, ltN_F, if_true, if_false, and_true, true_and, and_false, false_and, or_true, true_or, or_false, false_or, not_true_eq_false, not_false_eq_true, and_self, or_self, tn_c, ne_eq, dite_true, dite_false])); (with_reducible exact rfl))) | (with_reducible apply bd_t; · ((try (simp -implicitDefEqProofs (disch := omega) only [k198, h4, r14, k202, l202, i1, i2, y0, y1, y2, e1, eV, a1, w1, w2, e2, eC, a2, w3, w4, e3, eN, a3, z9, p1, p2, p3, p4, p5, p6, x1, x2, e4, eL, q0, q1, q2, q3, q4, q5, q6, x3, x4, e5, eCC, s0, s1, s2, s3, s4, s5, s6, x5, x6, e6, eO, bo_s, bd_s, bn_s, gI_s, gJ_s, gR_s, pI_s, pZ_s, pJ_s, pR_s, chk_s, chN_s, chN_n, aL_s, aI_c, aJ_c, aR_c, wI_c, wB_c, wS_c, wZ_c, wJ_c, wR_c, mK_sI, mK_sJ, mK_sR, mK_cpI, mL_sI, mL_sJ, mL_sR, mL_cpI, mI_sI, mI_sJ, mI_sR, mI_cpI, mJ_sI, mJ_sJ, mJ_sR, mJ_cpI, mR_sI, mR_sJ, mR_sR, mR_cpI, i2b_i2b, i2b_sb, iI_lit, iI_add, iI_sub, iI_mul, iI_neg, iI_lt, iI_le, iI_eq, iI_J, lt_T, lt_F, le_T, le_F, eq_T, eq_F, eqN_T, eqN_F, leN_T, leN_F, ltN_T, ltN_F, if_true, if_false, and_true, true_and, and_false, false_and, or_true, true_or, or_false, false_or, not_true_eq_false, not_false_eq_true, and_self, or_self, tn_c, ne_eq, dite_true, dite_false])); (with_reducible exact rfl))) | (with_reducible apply bn_t; · ((try (simp -implicitDefEqProofs (disch := omega) only [k198, h4, r14, k202, l202, i1, i2, y0, y1, y2, e1, eV, a1, w1, w2, e2, eC, a2, w3, w4, e3, eN, a3, z9, p1, p2, p3, p4, p5, p6, x1, x2, e4, eL, q0, q1, q2, q3, q4, q5, q6, x3, x4, e5, eCC, s0, s1, s2, s3, s4, s5, s6, x5, x6, e6, eO, bo_s, bd_s, bn_s, gI_s, gJ_s, gR_s, pI_s, pZ_s, pJ_s, pR_s, chk_s, chN_s, chN_n, aL_s, aI_c, aJ_c, aR_c, wI_c, wB_c, wS_c, wZ_c, wJ_c, wR_c, mK_sI, mK_sJ, mK_sR, mK_cpI, mL_sI, mL_sJ, mL_sR, mL_cpI, mI_sI, mI_sJ, mI_sR, mI_cpI, mJ_sI, mJ_sJ, mJ_sR, mJ_cpI, mR_sI, mR_sJ, mR_sR, mR_cpI, i2b_i2b, i2b_sb, iI_lit, iI_add, iI_sub, iI_mul, iI_neg, iI_lt, iI_le, iI_eq, iI_J, lt_T, lt_F, le_T, le_F, eq_T, eq_F, eqN_T, eqN_F, leN_T, leN_F, ltN_T, ltN_F, if_true, if_false, and_true, true_and, and_false, false_and, or_true, true_or, or_false, false_or, not_true_eq_false, not_false_eq_true, and_self, or_self, tn_c, ne_eq, dite_true, dite_false])); (with_reducible exact rfl))) | (with_reducible apply if_t; · (simp -implicitDefEqProofs (disch := omega) only [k198, h4, r14, k202, l202, i1, i2, y0, y1, y2, e1, eV, a1, w1, w2, e2, eC, a2, w3, w4, e3, eN, a3, z9, p1, p2, p3, p4, p5, p6, x1, x2, e4, eL, q0, q1, q2, q3, q4, q5, q6, x3, x4, e5, eCC, s0, s1, s2, s3, s4, s5, s6, x5, x6, e6, eO, bo_s, bd_s, bn_s, gI_s, gJ_s, gR_s, pI_s, pZ_s, pJ_s, pR_s, chk_s, chN_s, chN_n, aL_s, aI_c, aJ_c, aR_c, wI_c, wB_c, wS_c, wZ_c, wJ_c, wR_c, mK_sI, mK_sJ, mK_sR, mK_cpI, mL_sI, mL_sJ, mL_sR, mL_cpI, mI_sI, mI_sJ, mI_sR, mI_cpI, mJ_sI, mJ_sJ, mJ_sR, mJ_cpI, mR_sI, mR_sJ, mR_sR, mR_cpI, i2b_i2b, i2b_sb, iI_lit, iI_add, iI_sub, iI_mul, iI_neg, iI_lt, iI_le, iI_eq, iI_J, lt_T, lt_F, le_T, le_F, eq_T, eq_F, eqN_T, eqN_F, leN_T, leN_F, ltN_T, ltN_F, if_true, if_false, and_true, true_and, and_false, false_and, or_true, true_or, or_false, false_or, not_true_eq_false, not_false_eq_true, and_self, or_self, tn_c, ne_eq, dite_true, dite_false]; done)) | (with_reducible apply if_f; · (simp -implicitDefEqProofs (disch := omega) only [k198, h4, r14, k202, l202, i1, i2, y0, y1, y2, e1, eV, a1, w1, w2, e2, eC, a2, w3, w4, e3, eN, a3, z9, p1, p2, p3, p4, p5, p6, x1, x2, e4, eL, q0, q1, q2, q3, q4, q5, q6, x3, x4, e5, eCC, s0, s1, s2, s3, s4, s5, s6, x5, x6, e6, eO, bo_s, bd_s, bn_s, gI_s, gJ_s, gR_s, pI_s, pZ_s, pJ_s, pR_s, chk_s, chN_s, chN_n, aL_s, aI_c, aJ_c, aR_c, wI_c, wB_c, wS_c, wZ_c, wJ_c, wR_c, mK_sI, mK_sJ, mK_sR, mK_cpI, mL_sI, mL_sJ, mL_sR, mL_cpI, mI_sI, mI_sJ, mI_sR, mI_cpI, mJ_sI, mJ_sJ, mJ_sR, mJ_cpI, mR_sI, mR_sJ, mR_sR, mR_cpI, i2b_i2b, i2b_sb, iI_lit, iI_add, iI_sub, iI_mul, iI_neg, iI_lt, iI_le, iI_eq, iI_J, lt_T, lt_F, le_T, le_F, eq_T, eq_F, eqN_T, eqN_F, leN_T, leN_F, ltN_T, ltN_F, if_true, if_false, and_true, true_and, and_false, false_and, or_true, true_or, or_false, false_or, not_true_eq_false, not_false_eq_true, and_self, or_self, tn_c, ne_eq, dite_true, dite_false]; done)) | (with_reducible apply rz_t; · (simp -implicitDefEqProofs (disch := omega) only [k198, h4, r14, k202, l202, i1, i2, y0, y1, y2, e1, eV, a1, w1, w2, e2, eC, a2, w3, w4, e3, eN, a3, z9, p1, p2, p3, p4, p5, p6, x1, x2, e4, eL, q0, q1, q2, q3, q4, q5, q6, x3, x4, e5, eCC, s0, s1, s2, s3, s4, s5, s6, x5, x6, e6, eO, bo_s, bd_s, bn_s, gI_s, gJ_s, gR_s, pI_s, pZ_s, pJ_s, pR_s, chk_s, chN_s, chN_n, aL_s, aI_c, aJ_c, aR_c, wI_c, wB_c, wS_c, wZ_c, wJ_c, wR_c, mK_sI, mK_sJ, mK_sR, mK_cpI, mL_sI, mL_sJ, mL_sR, mL_cpI, mI_sI, mI_sJ, mI_sR, mI_cpI, mJ_sI, mJ_sJ, mJ_sR, mJ_cpI, mR_sI, mR_sJ, mR_sR, mR_cpI, i2b_i2b, i2b_sb, iI_lit, iI_add, iI_sub, iI_mul, iI_neg, iI_lt, iI_le, iI_eq, iI_J, lt_T, lt_F, le_T, le_F, eq_T, eq_F, eqN_T, eqN_F, leN_T, leN_F, ltN_T, ltN_F, if_true, if_false, and_true, true_and, and_false, false_and, or_true, true_or, or_false, false_or, not_true_eq_false, not_false_eq_true, and_self, or_self, tn_c, ne_eq, dite_true, dite_false]; done)) | (unfold fX13_all_B76))); (try (simp -implicitDefEqProofs (disch := omega) only [k198, h4, r14, k202, l202, i1, i2, y0, y1, y2, e1, eV, a1, w1, w2, e2, eC, a2, w3, w4, e3, eN, a3, z9, p1, p2, p3, p4, p5, p6, x1, x2, e4, eL, q0, q1, q2, q3, q4, q5, q6, x3, x4, e5, eCC, s0, s1, s2, s3, s4, s5, s6, x5, x6, e6, eO, bo_s, bd_s, bn_s, gI_s, gJ_s, gR_s, pI_s, pZ_s, pJ_s, pR_s, chk_s, chN_s, chN_n, aL_s, aI_c, aJ_c, aR_c, wI_c, wB_c, wS_c, wZ_c, wJ_c, wR_c, mK_sI, mK_sJ, mK_sR, mK_cpI, mL_sI, mL_sJ, mL_sR, mL_cpI, mI_sI, mI_sJ, mI_sR, mI_cpI, mJ_sI, mJ_sJ, mJ_sR, mJ_cpI, mR_sI, mR_sJ, mR_sR, mR_cpI, i2b_i2b, i2b_sb, iI_lit, iI_add, iI_sub, iI_mul, iI_neg, iI_lt, iI_le, iI_eq, iI_J, lt_T, lt_F, le_T, le_F, eq_T, eq_F, eqN_T, eqN_F, leN_T, leN_F, ltN_T, ltN_F, if_true, if_false, and_true, true_and, and_false, false_and, or_true, true_or, or_false, false_or, not_true_eq_false, not_false_eq_true, and_self, or_self, tn_c, ne_eq, dite_true, dite_false])); (try (with_reducible rfl)))
set_option maxHeartbeats 2000000 in
theorem mdec_ok {L l o c lst many k : Nat} {pl : Int32} {Q : Unit → Mem → Prop} {g : Option Nat × Int32 × Int32 × Int32 × Int32 × Int32 × Int32 → Mem → Option (Unit × Mem)} (hT : RSt M) (hM : MSd M Ts) (hb : BV M 199 8000 e u) (hu : ∀ i, u i < 256) (he : 8 * F + L ≤ 8 * e) (hK : RK M 198 199 F L (0 : Nat)) (hl : l < 2 ^ (Ts 0).1) (ho : o < 2 ^ (Ts 1).1) (hc : c < 2 ^ (Ts 2).1) (hlst : (lst = 1 ∧ k + 1 = many) ∨ (lst = 0 ∧ k + 1 < many)) (hmany : many < 1000000) (h4 : mI M 198 4 = iI 0)
    (hQ : ∀ (N : Mem) (z l' o' c' : Nat), Sq WMd M N → mI N 198 9 = iI z → z ≤ 1 → (z = 0 ↔ (if (lst == 1) then sZ3 Ts L l o c else sZ6 Ts L l o c) = 0) →
      (z = 0 → lst = 1 → RK N 198 199 F (sL3 Ts L l o c) (0 : Nat) ∧ l' = l ∧ o' = o ∧ c' = c) →
      (z = 0 → lst = 0 → RK N 198 199 F (sL6 Ts L l o c) (0 : Nat) ∧ l' = goK u F Ts 0 l (sL3 Ts L l o c) ∧ o' = goK u F Ts 1 o (sL5 Ts L l o c) ∧ c' = goK u F Ts 2 c (sL4 Ts L l o c)) →
      Wp (fX13_all_L270 g (some 198) (iI many) pl (iI l') (iI o') (iI c') (iI k) (iJ (sV u F Ts L o : Nat)) (iI (sC u F Ts L o c : Nat)) (iI (sN u F Ts L l o c : Nat)) N) Q) :
    Wp (fX13_all_B76 g (some 198) (iI many) pl (iI l) (iI o) (iI c) (iI k) M) Q := by
  obtain ⟨g0, t0⟩ := hM 0 (by omega)
  obtain ⟨g1, t1⟩ := hM 1 (by omega)
  obtain ⟨g2, t2⟩ := hM 2 (by omega)
  have y0 := (t0.2.2 l hl).1
  have y1 := (t1.2.2 o ho).1
  have y2 := (t2.2.2 c hc).1
  rw [show 512 * 0 + l = l by omega] at y0
  rw [show 512 * 1 + o = 512 + o by omega] at y1
  rw [show 512 * 2 + c = 1024 + c by omega] at y2
  have p0 : 2 ^ (Ts 0).1 ≤ 512 := pow_le2 (b := 9) g0.1.1
  have p1 : 2 ^ (Ts 1).1 ≤ 512 := pow_le2 (b := 9) g1.1.1
  have p2 : 2 ^ (Ts 2).1 ≤ 512 := pow_le2 (b := 9) g2.1.1
  obtain ⟨v1, v2, v3⟩ := sV_r (u := u) (F := F) (L := L) g1 ho
  have s0 : syK Ts 0 l ≤ 35 := g0.2 l hl
  have s2 : syK Ts 2 c ≤ 52 := g2.2 c hc
  obtain ⟨b0, x0⟩ := lb_r (syK Ts 0 l) (by omega)
  obtain ⟨b2, x2⟩ := cb_r (syK Ts 2 c) (by omega)
  have hc1 : sC u F Ts L o c < 200000 := ex_r (u := u) (F := F) (L := sL1 Ts L o) (Or.inr rfl) g2 hc
  have hn1 : sN u F Ts L l o c < 200000 := ex_r (u := u) (F := F) (L := sL2 Ts L o c) (Or.inl rfl) g0 hl
  have y0 : mI M 202 l = iI (syK Ts 0 l : Nat) := y0
  have y1 : mI M 202 (512 + o) = iI (syK Ts 1 o : Nat) := y1
  have y2 : mI M 202 (1024 + c) = iI (syK Ts 2 c : Nat) := y2
  obtain ⟨N1, e1, hK1, hS1⟩ := back_u (m := syK Ts 1 o) hK hb hu (by omega) he
  have q1 := tkL_le L (syK Ts 1 o)
  obtain ⟨N2, e2, hK2, hS2⟩ := back_u (m := cxK (syK Ts 2 c)) hK1 (hb.sm hS1.sm (by omega)) hu (by omega) (by omega)
  have q2 := tkL_le (tkL L (syK Ts 1 o)) (cxK (syK Ts 2 c))
  have sA := hS1.tr hS2
  obtain ⟨N3, e3, hK3, hS3⟩ := back_u (m := lxK (syK Ts 0 l)) hK2 (hb.sm sA.sm (by omega)) hu (by omega) (by omega)
  have q3 := tkL_le (tkL (tkL L (syK Ts 1 o)) (cxK (syK Ts 2 c))) (lxK (syK Ts 0 l))
  have sB : Sq WMd M N3 := (sA.tr hS3).weak fun a j h => h
  have w1 := mcb_ok (M := N1) (s := syK Ts 2 c) (by omega)
  have w2 := mcx_ok (M := N1) (s := syK Ts 2 c) (by omega)
  have w3 := mlb_ok (M := N2) (s := syK Ts 0 l) (by omega)
  have w4 := mlx_ok (M := N2) (s := syK Ts 0 l) (by omega)
  obtain ⟨k198, r14, k202, l202⟩ : mK M 198 = 13 ∧ mR M 198 14 = some 202 ∧ mK M 202 = 17 ∧ mL M 202 = 5120 := ⟨hT.k 198 (by omega) (by omega), hT.r 14, hT.k 202 (by omega) (by omega), hT.l 202 (by omega) (by omega)⟩
  have hT1 := hT.q hS1
  have hT2 := hT1.q hS2
  have hT3 := hT2.q hS3
  have ak198 : mK N1 198 = 13 := hT1.k 198 (by omega) (by omega)
  have bk198 : mK N2 198 = 13 := hT2.k 198 (by omega) (by omega)
  obtain ⟨ck198, cr15, cr16, ck203, ck204, cl203, cl204⟩ : mK N3 198 = 13 ∧ mR N3 198 15 = some 203 ∧ mR N3 198 16 = some 204 ∧ mK N3 203 = 14 ∧ mK N3 204 = 15 ∧ mL N3 203 = 5120 ∧ mL N3 204 = 5120 := ⟨hT3.k 198 (by omega) (by omega), hT3.r 15, hT3.r 16, hT3.k 203 (by omega) (by omega), hT3.k 204 (by omega) (by omega), hT3.l 203 (by omega) (by omega), hT3.l 204 (by omega) (by omega)⟩
  have eV : shlJ (1 : Int64) (iI (syK Ts 1 o : Nat)) + iJ (tkV u F L (syK Ts 1 o) : Nat) = iJ (sV u F Ts L o : Nat) := by
    have := shlJ_n (a := 1) (k := syK Ts 1 o) (by omega)
    rw [Nat.one_mul, show ((1 : Nat) : Int) = 1 from rfl] at this
    rw [show (1 : Int64) = iJ 1 from iJ_lit 1, this, iJ_add]
    rfl
  have eC : iI (cbK (syK Ts 2 c) : Nat) + (iJ (tkV u F (tkL L (syK Ts 1 o)) (cxK (syK Ts 2 c)) : Nat)).toInt32 = iI (sC u F Ts L o c : Nat) := by
    rw [iJ_I, iI_add]
    rfl
  have eN : iI (lbK (syK Ts 0 l) : Nat) + (iJ (tkV u F (tkL (tkL L (syK Ts 1 o)) (cxK (syK Ts 2 c))) (lxK (syK Ts 0 l)) : Nat)).toInt32 = iI (sN u F Ts L l o c : Nat) := by
    rw [iJ_I, iI_add]
    rfl
  have hK3 : RK N3 198 199 F (sL3 Ts L l o c) (sZ3 Ts L l o c : Nat) := hK3
  have z9 := hK3.2.2.2.2
  obtain ⟨zz1, zz2, zz3⟩ := sZ_le (Ts := Ts) L l o c
  by_cases z : lst = 1
  · subst z
    have := hQ N3 (sZ3 Ts L l o c) l o c sB z9 zz1 Iff.rfl (fun h _ => ⟨by rw [h] at hK3; exact hK3, rfl, rfl, rfl⟩) (fun _ h => by omega)
    rw [b76a k198 r14 k202 l202 h4 (by omega) (by omega) (by omega) (by omega) hmany y0 y1 y2 e1 eV ak198 w1 w2 e2 eC bk198 w3 w4 e3 eN ck198 z9 (by omega) (by omega)]
    exact this
  · obtain rfl : lst = 0 := by omega
    by_cases c3 : sZ3 Ts L l o c = 0
    · obtain ⟨h0a, h0b, h0c⟩ := g0.1.2 l hl
      obtain ⟨h1a, h1b, h1c⟩ := g1.1.2 o ho
      obtain ⟨h2a, h2b, h2c⟩ := g2.1.2 c hc
      obtain ⟨-, f2, f3⟩ := t0.2.2 l hl
      obtain ⟨-, f4, f5⟩ := t1.2.2 o ho
      obtain ⟨-, f6, f7⟩ := t2.2.2 c hc
      rw [show 512 * 0 + l = l by omega] at f2 f3
      rw [show 512 * 1 + o = 512 + o by omega] at f4 f5
      rw [show 512 * 2 + c = 1024 + c by omega] at f6 f7
      have hK3' : RK N3 198 199 F (sL3 Ts L l o c) (0 : Nat) := by rw [c3] at hK3; exact hK3
      have q4 := tkL_le (sL3 Ts L l o c) ((Ts 0).2.2.1 l)
      have q3' : sL3 Ts L l o c ≤ L := by show tkL (tkL (tkL L (syK Ts 1 o)) (cxK (syK Ts 2 c))) (lxK (syK Ts 0 l)) ≤ L; omega
      obtain ⟨N4, e4, hK4, hS4⟩ := back_u (m := (Ts 0).2.2.1 l) hK3' (hb.sm sB.sm (by omega)) hu (by omega) (by omega)
      have q5 := tkL_le (tkL (sL3 Ts L l o c) ((Ts 0).2.2.1 l)) ((Ts 2).2.2.1 c)
      obtain ⟨N5, e5, hK5, hS5⟩ := back_u (m := (Ts 2).2.2.1 c) hK4 (hb.sm (sB.tr hS4).sm (by omega)) hu (by omega) (by omega)
      have q6 := tkL_le (tkL (tkL (sL3 Ts L l o c) ((Ts 0).2.2.1 l)) ((Ts 2).2.2.1 c)) ((Ts 1).2.2.1 o)
      obtain ⟨N6, e6, hK6, hS6⟩ := back_u (m := (Ts 1).2.2.1 o) hK5 (hb.sm ((sB.tr hS4).tr hS5).sm (by omega)) hu (by omega) (by omega)
      have sC' : Sq WMd M N6 := ((sB.tr hS4).tr hS5).tr hS6
      have eq6 : sZ6 Ts L l o c = tkZ (tkL (tkL (sL3 Ts L l o c) ((Ts 0).2.2.1 l)) ((Ts 2).2.2.1 c)) ((Ts 1).2.2.1 o) (tkZ (tkL (sL3 Ts L l o c) ((Ts 0).2.2.1 l)) ((Ts 2).2.2.1 c) (tkZ (sL3 Ts L l o c) ((Ts 0).2.2.1 l) 0)) := by
        show tkZ _ _ (tkZ _ _ (tkZ _ _ (sZ3 Ts L l o c))) = _
        rw [c3]
        rfl
      rw [← eq6] at hK6
      have hK6 : RK N6 198 199 F (sL6 Ts L l o c) (sZ6 Ts L l o c : Nat) := hK6
      have := hQ N6 (sZ6 Ts L l o c) (goK u F Ts 0 l (sL3 Ts L l o c)) (goK u F Ts 1 o (sL5 Ts L l o c)) (goK u F Ts 2 c (sL4 Ts L l o c)) sC' hK6.2.2.2.2 zz2 Iff.rfl (fun _ h => by omega) (fun h _ => ⟨by rw [h] at hK6; exact hK6, rfl, rfl, rfl⟩)
      have hT4 := hT3.q hS4
      have hT5 := hT4.q hS5
      obtain ⟨dk198, dr16, dr15, dk204, dk203, dl204, dl203⟩ : mK N4 198 = 13 ∧ mR N4 198 16 = some 204 ∧ mR N4 198 15 = some 203 ∧ mK N4 204 = 15 ∧ mK N4 203 = 14 ∧ mL N4 204 = 5120 ∧ mL N4 203 = 5120 := ⟨hT4.k 198 (by omega) (by omega), hT4.r 16, hT4.r 15, hT4.k 204 (by omega) (by omega), hT4.k 203 (by omega) (by omega), hT4.l 204 (by omega) (by omega), hT4.l 203 (by omega) (by omega)⟩
      obtain ⟨ek198, er16, er15, ek204, ek203, el204, el203⟩ : mK N5 198 = 13 ∧ mR N5 198 16 = some 204 ∧ mR N5 198 15 = some 203 ∧ mK N5 204 = 15 ∧ mK N5 203 = 14 ∧ mL N5 204 = 5120 ∧ mL N5 203 = 5120 := ⟨hT5.k 198 (by omega) (by omega), hT5.r 16, hT5.r 15, hT5.k 204 (by omega) (by omega), hT5.k 203 (by omega) (by omega), hT5.l 204 (by omega) (by omega), hT5.l 203 (by omega) (by omega)⟩
      have f2 := (sB.I 203 l (by omega)).trans f2
      have f3 := (sB.I 204 l (by omega)).trans f3
      have f6 := ((sB.tr hS4).I 203 (1024 + c) (by omega)).trans f6
      have f7 := ((sB.tr hS4).I 204 (1024 + c) (by omega)).trans f7
      have f4 := (((sB.tr hS4).tr hS5).I 203 (512 + o) (by omega)).trans f4
      have f5 := (((sB.tr hS4).tr hS5).I 204 (512 + o) (by omega)).trans f5
      have eg0 : iI ((Ts 0).2.2.2 l : Nat) + (iJ (tkV u F (sL3 Ts L l o c) ((Ts 0).2.2.1 l) : Nat)).toInt32 = iI (goK u F Ts 0 l (sL3 Ts L l o c) : Nat) := by
        rw [iJ_I, iI_add]
        rfl
      have eg2 : iI ((Ts 2).2.2.2 c : Nat) + (iJ (tkV u F (tkL (sL3 Ts L l o c) ((Ts 0).2.2.1 l)) ((Ts 2).2.2.1 c) : Nat)).toInt32 = iI (goK u F Ts 2 c (sL4 Ts L l o c) : Nat) := by
        rw [iJ_I, iI_add]
        rfl
      have eg1 : iI ((Ts 1).2.2.2 o : Nat) + (iJ (tkV u F (tkL (tkL (sL3 Ts L l o c) ((Ts 0).2.2.1 l)) ((Ts 2).2.2.1 c)) ((Ts 1).2.2.1 o) : Nat)).toInt32 = iI (goK u F Ts 1 o (sL5 Ts L l o c) : Nat) := by
        rw [iJ_I, iI_add]
        rfl
      rw [c3, show ((0 : Nat) : Int) = 0 from rfl] at z9
      rw [b76b k198 r14 k202 l202 h4 (by omega) (by omega) (by omega) (by omega) hmany y0 y1 y2 e1 eV ak198 w1 w2 e2 eC bk198 w3 w4 e3 eN ck198 z9 ⟨cr16, cr15, ck204, ck203, cl204, cl203⟩ f3 f2 e4 eg0 ⟨dk198, dr16, dr15, dk204, dk203, dl204, dl203⟩ f7 f6 e5 eg2 ⟨ek198, er16, er15, ek204, ek203, el204, el203⟩ f5 f4 e6 eg1]
      exact this
    · have ez3 : sZ3 Ts L l o c = 1 := by omega
      have hz6 : sZ6 Ts L l o c ≠ 0 := fun h => c3 (zz3 h)
      have := hQ N3 1 l o c sB (by rw [z9, ez3]) (by omega) ⟨fun h => by omega, fun h => absurd h hz6⟩ (fun h _ => by omega) (fun h => by omega)
      rw [ez3] at z9
      rw [b76a k198 r14 k202 l202 h4 (by omega) (by omega) (by omega) (by omega) hmany y0 y1 y2 e1 eV ak198 w1 w2 e2 eC bk198 w3 w4 e3 eN ck198 z9 (by omega) (by omega)]
      exact this
end MDEC
