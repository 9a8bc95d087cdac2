/-! the SEQUENCES of a block, as numbers; the reference's -/
def mkL (u : Nat → Nat) (p g : Nat) : Nat := 8 * (g - 1 - p) + Nat.log2 (u (g - 1))
def iL1 (Ts : Nat → Tb) (L : Nat) : Nat := tkL L (Ts 0).1
def iL2 (Ts : Nat → Tb) (L : Nat) : Nat := tkL (iL1 Ts L) (Ts 1).1
def iL3 (Ts : Nat → Tb) (L : Nat) : Nat := tkL (iL2 Ts L) (Ts 2).1
def iZ3 (Ts : Nat → Tb) (L : Nat) : Nat := tkZ (iL2 Ts L) (Ts 2).1 (tkZ (iL1 Ts L) (Ts 1).1 (tkZ L (Ts 0).1 0))
def iSt (u : Nat → Nat) (p : Nat) (Ts : Nat → Tb) (L : Nat) : Nat × Nat × Nat × Nat := (iL3 Ts L, tkV u p L (Ts 0).1, tkV u p (iL1 Ts L) (Ts 1).1, tkV u p (iL2 Ts L) (Ts 2).1)
/-- what a run of SEQUENCES leaves: the bytes of the FRAME if it is fine, REMEMBERED, what is told -/
def sqS (u : Nat → Nat) (p g : Nat) (Ts : Nat → Tb) (ls : Nat → Nat) (cnt blk lim span cs : Nat) (ct : Nat → Nat) (many : Nat) (r : Nat → Nat) (t : Nat) (w : Nat → Nat) (ts : Nat) (nt : Nat → Nat → Int) : Option (Nat × (Nat → Nat)) × (Nat → Nat) × Nat × (Nat → Nat → Int) :=
  if g ≤ p ∨ u (g - 1) = 0 then (none, r, ts, nt) else
  if iZ3 Ts (mkL u p g) ≠ 0 then (none, r, ts, nt) else
  match rnK u p Ts ls cnt blk lim span cs ct many (iSt u p Ts (mkL u p g), r, 0, t, w, ts, nt) with
  | (ok, s) => (if (ok = true ∧ s.1.1 = 0) ∧ ¬ lim < s.2.2.2.1 + (cnt - s.2.2.1) - blk then some (s.2.2.2.1 + (cnt - s.2.2.1), ptL s.2.2.2.2.1 ls s.2.2.2.1 s.2.2.1 (cnt - s.2.2.1)) else none, s.2.1, s.2.2.2.2.2.1, s.2.2.2.2.2.2)
section MSEC
variable {M : Mem} {Ts : Nat → Tb} {e ff blk cnt lim span cs d us t ts many p g : Nat} {u ct ls old w r : Nat → Nat} {nt : Nat → Nat → Int} {pl : Int32}
abbrev WL268 (a j : Nat) : Prop := (a = 198 ∧ (j = 4 ∨ j = 5 ∨ j = 35 ∨ j = 38)) ∨ a = 217
set_option maxHeartbeats 2000000 in
theorem ms268 (hT : RSt M) (hB : MB M ff blk t cnt us old w ls) (h42 : mI M 198 42 = iI lim) (h4 : mI M 198 4 = iI 0) (hbt : blk ≤ t) (hlim : lim ≤ 131072) (htb : t - blk ≤ 131072) (hcnt : cnt ≤ 131072) (husc : us ≤ cnt) (hff : ff + blk ≤ 8000) :
    Wp (fX13_sections_L268 (some 198) M) fun _ N => Sq WL268 M N ∧ (lim < t + (cnt - us) - blk → ∃ z : Int, mI N 198 4 = iI z ∧ 0 < z ∧ z < 100) ∧ (¬ lim < t + (cnt - us) - blk → mI N 198 4 = iI 0 ∧ MB N ff blk (t + (cnt - us)) cnt cnt old (ptL w ls t us (cnt - us)) ls) := by
  have qk := hT.k
  have k0 : mK M 198 = 13 := qk 198 (by omega) (by omega)
  by_cases c : lim < t + (cnt - us) - blk
  · obtain ⟨m33, m39, m35, m37, m38, -⟩ := hB
    have e1 := fails_ok k0 h4 (iI 20) (mI M 198 52)
    simp -implicitDefEqProofs (disch := omega) only [fX13_sections_L268, qk, h4, m35, m37, m38, h42, e1, bo_s, bd_s, bn_s, gI_s, gJ_s, gR_s, pI_s, pZ_s, pJ_s, pR_s, chk_s, chN_s, chN_n, aL_s, aI_c, aJ_c, aR_c, wI_c, wB_c, wS_c, wZ_c, wJ_c, wR_c, mK_sI, mK_sJ, mK_sR, mK_cpI, mL_sI, mL_sJ, mL_sR, mL_cpI, mI_sI, mI_sJ, mI_sR, mI_cpI, mJ_sI, mJ_sJ, mJ_sR, mJ_cpI, mR_sI, mR_sJ, mR_sR, mR_cpI, i2b_i2b, i2b_sb, iI_lit, iI_add, iI_sub, iI_mul, iI_neg, iI_lt, iI_le, iI_eq, iI_J, lt_T, lt_F, le_T, le_F, eq_T, eq_F, eqN_T, eqN_F, leN_T, leN_F, ltN_T, ltN_F, if_true, if_false, and_true, true_and, and_false, false_and, or_true, true_or, or_false, false_or, not_true_eq_false, not_false_eq_true, and_self, or_self, tn_c, ne_eq, dite_true, dite_false, K0_198, K0_199, L0_199, K0_200, L0_200, K0_201, L0_201, K0_202, L0_202, K0_203, L0_203, K0_204, L0_204, K0_205, L0_205, K0_206, L0_206, K0_207, L0_207, K0_208, L0_208, K0_209, L0_209, K0_210, L0_210, K0_211, L0_211, K0_212, L0_212, K0_213, L0_213, K0_214, L0_214, K0_215, L0_215, K0_216, L0_216, K0_217, L0_217, K0_218, L0_218, K0_219, L0_219, K0_220, L0_220, K0_221, L0_221, K0_222, L0_222, K0_223, L0_223, K0_224, L0_224, K0_225, L0_225, K0_226, L0_226, K0_227, L0_227, K0_228, L0_228, K0_229, L0_229, K0_230, L0_230, K0_231, L0_231, K0_232, L0_232, K0_233, L0_233, K0_234, L0_234, K0_235, L0_235, K0_236, L0_236, K0_237, L0_237, K0_238, L0_238, K0_239, L0_239, K0_240, L0_240, R0_0, R0_2, R0_6, R0_12, R0_14, R0_15, R0_16, R0_17, R0_18, R0_19, R0_20, R0_21, R0_22, R0_23, R0_24, R0_25, R0_30, R0_31, R0_32, R0_34, R0_36, R0_43, R0_44, R0_45, R0_47, R0_48, R0_49, R0_50, R0_53, R0_55, R0_57, R0_59, R0_60, R0_62, R0_63, R0_64, R0_65, R0_66, R0_67, R0_69, R0_70, R0_71, R0_72]
    exact w_ret ⟨by refine Sq.sI (Sq.sI Sq.rf ?_) ?_ <;> omega, fun _ => ⟨20, by simp -implicitDefEqProofs (disch := omega) only [mK_sI, mK_sJ, mK_sR, mK_cpI, mL_sI, mL_sJ, mL_sR, mL_cpI, mI_sI, mI_sJ, mI_sR, mI_cpI, mJ_sI, mJ_sJ, mJ_sR, mJ_cpI, mR_sI, mR_sJ, mR_sR, mR_cpI, eqN_T, eqN_F, if_true, if_false, and_true, true_and, and_false, false_and, or_true, true_or, or_false, false_or, not_true_eq_false, not_false_eq_true, and_self, or_self, tn_c, ne_eq, dite_true, dite_false], by omega, by omega⟩, fun h => absurd c h⟩
  · have loop : Wp (fX13_sections_L309 (some 198) M) fun _ N => Sq WL268 M N ∧ (lim < t + (cnt - us) - blk → ∃ z : Int, mI N 198 4 = iI z ∧ 0 < z ∧ z < 100) ∧ (¬ lim < t + (cnt - us) - blk → mI N 198 4 = iI 0 ∧ MB N ff blk (t + (cnt - us)) cnt cnt old (ptL w ls t us (cnt - us)) ls) := by
      unfold fX13_sections_L309
      refine w_lpF (fun dd x O => ∃ i : Nat, i + dd = cnt - us ∧ Sq (fun a j => (a = 198 ∧ (j = 35 ∨ j = 38)) ∨ a = 217) M O ∧ MB O ff blk (t + i) cnt (us + i) old (ptL w ls t us i) ls ∧ x = some 198) (cnt - us) (by omega) ⟨0, by omega, Sq.rf, hB, rfl⟩ ?_
      rintro g dd x O ⟨i, hd, hS, hM, rfl⟩ ih
      have hq := hT.q hS
      have qk := hq.k
      have ql := hq.l
      have qr := hq.r
      by_cases z : dd = 0
      · obtain rfl : i = cnt - us := by omega
        obtain ⟨m33, m39, m35, m37, m38, m216, m217, m218⟩ := hM
        rw [show us + (cnt - us) = cnt by omega] at m38
        simp -implicitDefEqProofs (disch := omega) only [fX13_sections_B309, qk, m37, m38, bo_s, bd_s, bn_s, gI_s, gJ_s, gR_s, pI_s, pZ_s, pJ_s, pR_s, chk_s, chN_s, chN_n, aL_s, aI_c, aJ_c, aR_c, wI_c, wB_c, wS_c, wZ_c, wJ_c, wR_c, mK_sI, mK_sJ, mK_sR, mK_cpI, mL_sI, mL_sJ, mL_sR, mL_cpI, mI_sI, mI_sJ, mI_sR, mI_cpI, mJ_sI, mJ_sJ, mJ_sR, mJ_cpI, mR_sI, mR_sJ, mR_sR, mR_cpI, i2b_i2b, i2b_sb, iI_lit, iI_add, iI_sub, iI_mul, iI_neg, iI_lt, iI_le, iI_eq, iI_J, lt_T, lt_F, le_T, le_F, eq_T, eq_F, eqN_T, eqN_F, leN_T, leN_F, ltN_T, ltN_F, if_true, if_false, and_true, true_and, and_false, false_and, or_true, true_or, or_false, false_or, not_true_eq_false, not_false_eq_true, and_self, or_self, tn_c, ne_eq, dite_true, dite_false, K0_198, K0_199, L0_199, K0_200, L0_200, K0_201, L0_201, K0_202, L0_202, K0_203, L0_203, K0_204, L0_204, K0_205, L0_205, K0_206, L0_206, K0_207, L0_207, K0_208, L0_208, K0_209, L0_209, K0_210, L0_210, K0_211, L0_211, K0_212, L0_212, K0_213, L0_213, K0_214, L0_214, K0_215, L0_215, K0_216, L0_216, K0_217, L0_217, K0_218, L0_218, K0_219, L0_219, K0_220, L0_220, K0_221, L0_221, K0_222, L0_222, K0_223, L0_223, K0_224, L0_224, K0_225, L0_225, K0_226, L0_226, K0_227, L0_227, K0_228, L0_228, K0_229, L0_229, K0_230, L0_230, K0_231, L0_231, K0_232, L0_232, K0_233, L0_233, K0_234, L0_234, K0_235, L0_235, K0_236, L0_236, K0_237, L0_237, K0_238, L0_238, K0_239, L0_239, K0_240, L0_240, R0_0, R0_2, R0_6, R0_12, R0_14, R0_15, R0_16, R0_17, R0_18, R0_19, R0_20, R0_21, R0_22, R0_23, R0_24, R0_25, R0_30, R0_31, R0_32, R0_34, R0_36, R0_43, R0_44, R0_45, R0_47, R0_48, R0_49, R0_50, R0_53, R0_55, R0_57, R0_59, R0_60, R0_62, R0_63, R0_64, R0_65, R0_66, R0_67, R0_69, R0_70, R0_71, R0_72]
        exact w_ret ⟨hS.weak fun a j h => by omega, fun h => absurd h c, fun _ => ⟨(hS.I 198 4 (by omega)).trans h4, m33, m39, m35, m37, m38, m216, m217, m218⟩⟩
      · obtain ⟨m33, m39, m35, m37, m38, m216, m217, m218⟩ := hM
        have e1 := m218 (us + i) (by omega)
        simp -implicitDefEqProofs (disch := omega) only [fX13_sections_B309, qk, ql, qr, m35, m37, m38, e1, i2b_sb, bo_s, bd_s, bn_s, gI_s, gJ_s, gR_s, pI_s, pZ_s, pJ_s, pR_s, chk_s, chN_s, chN_n, aL_s, aI_c, aJ_c, aR_c, wI_c, wB_c, wS_c, wZ_c, wJ_c, wR_c, mK_sI, mK_sJ, mK_sR, mK_cpI, mL_sI, mL_sJ, mL_sR, mL_cpI, mI_sI, mI_sJ, mI_sR, mI_cpI, mJ_sI, mJ_sJ, mJ_sR, mJ_cpI, mR_sI, mR_sJ, mR_sR, mR_cpI, i2b_i2b, i2b_sb, iI_lit, iI_add, iI_sub, iI_mul, iI_neg, iI_lt, iI_le, iI_eq, iI_J, lt_T, lt_F, le_T, le_F, eq_T, eq_F, eqN_T, eqN_F, leN_T, leN_F, ltN_T, ltN_F, if_true, if_false, and_true, true_and, and_false, false_and, or_true, true_or, or_false, false_or, not_true_eq_false, not_false_eq_true, and_self, or_self, tn_c, ne_eq, dite_true, dite_false, K0_198, K0_199, L0_199, K0_200, L0_200, K0_201, L0_201, K0_202, L0_202, K0_203, L0_203, K0_204, L0_204, K0_205, L0_205, K0_206, L0_206, K0_207, L0_207, K0_208, L0_208, K0_209, L0_209, K0_210, L0_210, K0_211, L0_211, K0_212, L0_212, K0_213, L0_213, K0_214, L0_214, K0_215, L0_215, K0_216, L0_216, K0_217, L0_217, K0_218, L0_218, K0_219, L0_219, K0_220, L0_220, K0_221, L0_221, K0_222, L0_222, K0_223, L0_223, K0_224, L0_224, K0_225, L0_225, K0_226, L0_226, K0_227, L0_227, K0_228, L0_228, K0_229, L0_229, K0_230, L0_230, K0_231, L0_231, K0_232, L0_232, K0_233, L0_233, K0_234, L0_234, K0_235, L0_235, K0_236, L0_236, K0_237, L0_237, K0_238, L0_238, K0_239, L0_239, K0_240, L0_240, R0_0, R0_2, R0_6, R0_12, R0_14, R0_15, R0_16, R0_17, R0_18, R0_19, R0_20, R0_21, R0_22, R0_23, R0_24, R0_25, R0_30, R0_31, R0_32, R0_34, R0_36, R0_43, R0_44, R0_45, R0_47, R0_48, R0_49, R0_50, R0_53, R0_55, R0_57, R0_59, R0_60, R0_62, R0_63, R0_64, R0_65, R0_66, R0_67, R0_69, R0_70, R0_71, R0_72]
        refine ih (dd - 1) _ _ (by omega) ⟨i + 1, by omega, ?_, ⟨?_, ?_, ?_, ?_, ?_, fun j hj => ?_, fun j hj => ?_, fun j hj => ?_⟩, rfl⟩
        · refine Sq.sI (Sq.sI (Sq.sI hS ?_) ?_) ?_ <;> omega
        · simp -implicitDefEqProofs (disch := omega) only [mK_sI, mK_sJ, mK_sR, mK_cpI, mL_sI, mL_sJ, mL_sR, mL_cpI, mI_sI, mI_sJ, mI_sR, mI_cpI, mJ_sI, mJ_sJ, mJ_sR, mJ_cpI, mR_sI, mR_sJ, mR_sR, mR_cpI, eqN_T, eqN_F, if_true, if_false, and_true, true_and, and_false, false_and, or_true, true_or, or_false, false_or, not_true_eq_false, not_false_eq_true, and_self, or_self, tn_c, ne_eq, dite_true, dite_false]
          exact m33
        · simp -implicitDefEqProofs (disch := omega) only [mK_sI, mK_sJ, mK_sR, mK_cpI, mL_sI, mL_sJ, mL_sR, mL_cpI, mI_sI, mI_sJ, mI_sR, mI_cpI, mJ_sI, mJ_sJ, mJ_sR, mJ_cpI, mR_sI, mR_sJ, mR_sR, mR_cpI, eqN_T, eqN_F, if_true, if_false, and_true, true_and, and_false, false_and, or_true, true_or, or_false, false_or, not_true_eq_false, not_false_eq_true, and_self, or_self, tn_c, ne_eq, dite_true, dite_false]
          exact m39
        · simp -implicitDefEqProofs (disch := omega) only [mK_sI, mK_sJ, mK_sR, mK_cpI, mL_sI, mL_sJ, mL_sR, mL_cpI, mI_sI, mI_sJ, mI_sR, mI_cpI, mJ_sI, mJ_sJ, mJ_sR, mJ_cpI, mR_sI, mR_sJ, mR_sR, mR_cpI, eqN_T, eqN_F, if_true, if_false, and_true, true_and, and_false, false_and, or_true, true_or, or_false, false_or, not_true_eq_false, not_false_eq_true, and_self, or_self, tn_c, ne_eq, dite_true, dite_false]
          refine congrArg iI ?_
          omega
        · simp -implicitDefEqProofs (disch := omega) only [mK_sI, mK_sJ, mK_sR, mK_cpI, mL_sI, mL_sJ, mL_sR, mL_cpI, mI_sI, mI_sJ, mI_sR, mI_cpI, mJ_sI, mJ_sJ, mJ_sR, mJ_cpI, mR_sI, mR_sJ, mR_sR, mR_cpI, eqN_T, eqN_F, if_true, if_false, and_true, true_and, and_false, false_and, or_true, true_or, or_false, false_or, not_true_eq_false, not_false_eq_true, and_self, or_self, tn_c, ne_eq, dite_true, dite_false]
          exact m37
        · simp -implicitDefEqProofs (disch := omega) only [mK_sI, mK_sJ, mK_sR, mK_cpI, mL_sI, mL_sJ, mL_sR, mL_cpI, mI_sI, mI_sJ, mI_sR, mI_cpI, mJ_sI, mJ_sJ, mJ_sR, mJ_cpI, mR_sI, mR_sJ, mR_sR, mR_cpI, eqN_T, eqN_F, if_true, if_false, and_true, true_and, and_false, false_and, or_true, true_or, or_false, false_or, not_true_eq_false, not_false_eq_true, and_self, or_self, tn_c, ne_eq, dite_true, dite_false]
          refine congrArg iI ?_
          omega
        · simp -implicitDefEqProofs (disch := omega) only [mK_sI, mK_sJ, mK_sR, mK_cpI, mL_sI, mL_sJ, mL_sR, mL_cpI, mI_sI, mI_sJ, mI_sR, mI_cpI, mJ_sI, mJ_sJ, mJ_sR, mJ_cpI, mR_sI, mR_sJ, mR_sR, mR_cpI, eqN_T, eqN_F, if_true, if_false, and_true, true_and, and_false, false_and, or_true, true_or, or_false, false_or, not_true_eq_false, not_false_eq_true, and_self, or_self, tn_c, ne_eq, dite_true, dite_false]
          rw [m216 j hj]
          refine congrArg sb ?_
          unfold frW
          by_cases c : j < ff
          · rw [if_pos c, if_pos c]
          · rw [if_neg c, if_neg c, ptL_v, ptL_v, if_neg (by omega), if_neg (by omega)]
        · by_cases ej : j = t + i - blk
          · subst ej
            simp -implicitDefEqProofs (disch := omega) only [mK_sI, mK_sJ, mK_sR, mK_cpI, mL_sI, mL_sJ, mL_sR, mL_cpI, mI_sI, mI_sJ, mI_sR, mI_cpI, mJ_sI, mJ_sJ, mJ_sR, mJ_cpI, mR_sI, mR_sJ, mR_sR, mR_cpI, eqN_T, eqN_F, if_true, if_false, and_true, true_and, and_false, false_and, or_true, true_or, or_false, false_or, not_true_eq_false, not_false_eq_true, and_self, or_self, tn_c, ne_eq, dite_true, dite_false]
            rw [show blk + (t + i - blk) = t + i by omega, ptL_v, if_pos (by omega), show t + i - t = i by omega]
          · simp -implicitDefEqProofs (disch := omega) only [mK_sI, mK_sJ, mK_sR, mK_cpI, mL_sI, mL_sJ, mL_sR, mL_cpI, mI_sI, mI_sJ, mI_sR, mI_cpI, mJ_sI, mJ_sJ, mJ_sR, mJ_cpI, mR_sI, mR_sJ, mR_sR, mR_cpI, eqN_T, eqN_F, if_true, if_false, and_true, true_and, and_false, false_and, or_true, true_or, or_false, false_or, not_true_eq_false, not_false_eq_true, and_self, or_self, tn_c, ne_eq, dite_true, dite_false]
            rw [m217 j (by omega), ptL_v, ptL_v]
            by_cases c : t ≤ blk + j
            · rw [if_pos (by omega), if_pos (by omega)]
            · rw [if_neg (by omega), if_neg (by omega)]
        · simp -implicitDefEqProofs (disch := omega) only [mK_sI, mK_sJ, mK_sR, mK_cpI, mL_sI, mL_sJ, mL_sR, mL_cpI, mI_sI, mI_sJ, mI_sR, mI_cpI, mJ_sI, mJ_sJ, mJ_sR, mJ_cpI, mR_sI, mR_sJ, mR_sR, mR_cpI, eqN_T, eqN_F, if_true, if_false, and_true, true_and, and_false, false_and, or_true, true_or, or_false, false_or, not_true_eq_false, not_false_eq_true, and_self, or_self, tn_c, ne_eq, dite_true, dite_false]
          exact m218 j hj
    obtain ⟨m33, m39, m35, m37, m38, -⟩ := hB
    simp -implicitDefEqProofs (disch := omega) only [fX13_sections_L268, qk, h4, m35, m37, m38, h42, bo_s, bd_s, bn_s, gI_s, gJ_s, gR_s, pI_s, pZ_s, pJ_s, pR_s, chk_s, chN_s, chN_n, aL_s, aI_c, aJ_c, aR_c, wI_c, wB_c, wS_c, wZ_c, wJ_c, wR_c, mK_sI, mK_sJ, mK_sR, mK_cpI, mL_sI, mL_sJ, mL_sR, mL_cpI, mI_sI, mI_sJ, mI_sR, mI_cpI, mJ_sI, mJ_sJ, mJ_sR, mJ_cpI, mR_sI, mR_sJ, mR_sR, mR_cpI, i2b_i2b, i2b_sb, iI_lit, iI_add, iI_sub, iI_mul, iI_neg, iI_lt, iI_le, iI_eq, iI_J, lt_T, lt_F, le_T, le_F, eq_T, eq_F, eqN_T, eqN_F, leN_T, leN_F, ltN_T, ltN_F, if_true, if_false, and_true, true_and, and_false, false_and, or_true, true_or, or_false, false_or, not_true_eq_false, not_false_eq_true, and_self, or_self, tn_c, ne_eq, dite_true, dite_false, K0_198, K0_199, L0_199, K0_200, L0_200, K0_201, L0_201, K0_202, L0_202, K0_203, L0_203, K0_204, L0_204, K0_205, L0_205, K0_206, L0_206, K0_207, L0_207, K0_208, L0_208, K0_209, L0_209, K0_210, L0_210, K0_211, L0_211, K0_212, L0_212, K0_213, L0_213, K0_214, L0_214, K0_215, L0_215, K0_216, L0_216, K0_217, L0_217, K0_218, L0_218, K0_219, L0_219, K0_220, L0_220, K0_221, L0_221, K0_222, L0_222, K0_223, L0_223, K0_224, L0_224, K0_225, L0_225, K0_226, L0_226, K0_227, L0_227, K0_228, L0_228, K0_229, L0_229, K0_230, L0_230, K0_231, L0_231, K0_232, L0_232, K0_233, L0_233, K0_234, L0_234, K0_235, L0_235, K0_236, L0_236, K0_237, L0_237, K0_238, L0_238, K0_239, L0_239, K0_240, L0_240, R0_0, R0_2, R0_6, R0_12, R0_14, R0_15, R0_16, R0_17, R0_18, R0_19, R0_20, R0_21, R0_22, R0_23, R0_24, R0_25, R0_30, R0_31, R0_32, R0_34, R0_36, R0_43, R0_44, R0_45, R0_47, R0_48, R0_49, R0_50, R0_53, R0_55, R0_57, R0_59, R0_60, R0_62, R0_63, R0_64, R0_65, R0_66, R0_67, R0_69, R0_70, R0_71, R0_72]
    exact loop
theorem iZ_le (L : Nat) : iZ3 Ts L ≤ 1 := by unfold iZ3; exact tkZ_le (tkZ_le (tkZ_le (by omega)))
theorem iL_le (L : Nat) : iL3 Ts L ≤ L := by
  have h1 := tkL_le L (Ts 0).1
  have h2 := tkL_le (iL1 Ts L) (Ts 1).1
  have h3 := tkL_le (iL2 Ts L) (Ts 2).1
  unfold iL3
  unfold iL2 at *
  unfold iL1 at *
  omega
set_option maxHeartbeats 4000000 in
/-- all SEQUENCES of a block, then the letters that are left -/
theorem mall_ok (hT : RSt M) (hMS : MSd M Ts) (hb : BV M 199 8000 e u) (hu : ∀ i, u i < 256) (h6 : mR M 198 6 = some 199) (hg : g ≤ e) (hp : p < 900000) (hmany : many < 100000) (h4 : mI M 198 4 = iI 0)
    (hB : MB M ff blk blk cnt 0 old w ls) (hF : MF M lim span cs d ct) (hN : NTm M ts nt) (hR : RJ M 220 r) (hlim : lim ≤ 131072) (hcnt : cnt ≤ 131072) (hff : ff + blk ≤ 8000) (hcs : cs ≤ 3000) (hts : ts + many < 900000000) (hsp : span < 9223372036854775808) :
    Wp (bd (fX13_all (some 198) (iI many) (iI p) (iI g) M) fun _ N => fX13_sections_L268 (some 198) N) fun _ N => Sq WAl M N ∧ RJ N 220 (sqS u p g Ts ls cnt blk lim span cs ct many r blk w ts nt).2.1 ∧ NTm N (sqS u p g Ts ls cnt blk lim span cs ct many r blk w ts nt).2.2.1 (sqS u p g Ts ls cnt blk lim span cs ct many r blk w ts nt).2.2.2 ∧
      ((sqS u p g Ts ls cnt blk lim span cs ct many r blk w ts nt).1 = none → ∃ z : Int, mI N 198 4 = iI z ∧ 0 < z ∧ z < 100) ∧
      ∀ t' w', (sqS u p g Ts ls cnt blk lim span cs ct many r blk w ts nt).1 = some (t', w') → mI N 198 4 = iI 0 ∧ MB N ff blk t' cnt cnt old w' ls ∧ blk ≤ t' ∧ t' - blk ≤ lim := by
  have g3 := hb.2.2.1
  have qk := hT.k
  have ql := hT.l
  have qr := hT.r
  have k0 : mK M 198 = 13 := qk 198 (by omega) (by omega)
  have stop : ∀ {N : Mem} {z : Int}, mK N 198 = 13 → mI N 198 4 = iI z → 0 < z → z < 100 → fX13_sections_L268 (some 198) N = some ((), N) := by
    intro N z hk hz h1 h2
    simp -implicitDefEqProofs (disch := omega) only [fX13_sections_L268, hk, hz, bo_s, bd_s, bn_s, gI_s, gJ_s, gR_s, pI_s, pZ_s, pJ_s, pR_s, chk_s, chN_s, chN_n, aL_s, aI_c, aJ_c, aR_c, wI_c, wB_c, wS_c, wZ_c, wJ_c, wR_c, mK_sI, mK_sJ, mK_sR, mK_cpI, mL_sI, mL_sJ, mL_sR, mL_cpI, mI_sI, mI_sJ, mI_sR, mI_cpI, mJ_sI, mJ_sJ, mJ_sR, mJ_cpI, mR_sI, mR_sJ, mR_sR, mR_cpI, i2b_i2b, i2b_sb, iI_lit, iI_add, iI_sub, iI_mul, iI_neg, iI_lt, iI_le, iI_eq, iI_J, lt_T, lt_F, le_T, le_F, eq_T, eq_F, eqN_T, eqN_F, leN_T, leN_F, ltN_T, ltN_F, if_true, if_false, and_true, true_and, and_false, false_and, or_true, true_or, or_false, false_or, not_true_eq_false, not_false_eq_true, and_self, or_self, tn_c, ne_eq, dite_true, dite_false]
  by_cases c1 : g ≤ p ∨ u (g - 1) = 0
  · have eq : sqS u p g Ts ls cnt blk lim span cs ct many r blk w ts nt = (none, r, ts, nt) := by unfold sqS; rw [if_pos c1]
    rw [eq]
    obtain ⟨v, N, e1, rfl, hS, -⟩ := reversed_no (o := 198) (f := p) (g := g) k0 h6 hb hu hg (by omega) c1
    have n0 := (hS.K 198).trans k0
    have e2 := fails_ok n0 ((hS.I 198 4 (by omega)).trans h4) (iI 17) (iI p)
    have hs : Sq (fun a j => a = 198 ∧ (j = 4 ∨ j = 5)) N (sI (sI N 198 4 (iI 17)) 198 5 (iI p)) := by refine Sq.sI (Sq.sI Sq.rf ?_) ?_ <;> omega
    have e3 := stop (N := sI (sI N 198 4 (iI 17)) 198 5 (iI p)) (z := 17) n0 (by simp -implicitDefEqProofs (disch := omega) only [mK_sI, mK_sJ, mK_sR, mK_cpI, mL_sI, mL_sJ, mL_sR, mL_cpI, mI_sI, mI_sJ, mI_sR, mI_cpI, mJ_sI, mJ_sJ, mJ_sR, mJ_cpI, mR_sI, mR_sJ, mR_sR, mR_cpI, eqN_T, eqN_F, if_true, if_false, and_true, true_and, and_false, false_and, or_true, true_or, or_false, false_or, not_true_eq_false, not_false_eq_true, and_self, or_self, tn_c, ne_eq, dite_true, dite_false]) (by omega) (by omega)
    have hSs := hS.tr2 (U := fun a j => a = 198 ∧ (j = 4 ∨ j = 5 ∨ j = 9 ∨ j = 10 ∨ j = 11)) hs (by omega) (by omega)
    have fin : Sq WAl M (sI (sI N 198 4 (iI 17)) 198 5 (iI p)) := hSs.weak fun a j h => by unfold WAl WSq; omega
    have hR' := hR.sq hSs (by omega)
    have hN' := hN.sq hSs (by omega) (by omega)
    clear hB hF hMS hb
    simp -implicitDefEqProofs (disch := omega) only [fX13_all, qk, e1, n0, e2, e3, bo_s, bd_s, bn_s, gI_s, gJ_s, gR_s, pI_s, pZ_s, pJ_s, pR_s, chk_s, chN_s, chN_n, aL_s, aI_c, aJ_c, aR_c, wI_c, wB_c, wS_c, wZ_c, wJ_c, wR_c, mK_sI, mK_sJ, mK_sR, mK_cpI, mL_sI, mL_sJ, mL_sR, mL_cpI, mI_sI, mI_sJ, mI_sR, mI_cpI, mJ_sI, mJ_sJ, mJ_sR, mJ_cpI, mR_sI, mR_sJ, mR_sR, mR_cpI, i2b_i2b, i2b_sb, iI_lit, iI_add, iI_sub, iI_mul, iI_neg, iI_lt, iI_le, iI_eq, iI_J, lt_T, lt_F, le_T, le_F, eq_T, eq_F, eqN_T, eqN_F, leN_T, leN_F, ltN_T, ltN_F, if_true, if_false, and_true, true_and, and_false, false_and, or_true, true_or, or_false, false_or, not_true_eq_false, not_false_eq_true, and_self, or_self, tn_c, ne_eq, dite_true, dite_false, K0_198, K0_199, L0_199, K0_200, L0_200, K0_201, L0_201, K0_202, L0_202, K0_203, L0_203, K0_204, L0_204, K0_205, L0_205, K0_206, L0_206, K0_207, L0_207, K0_208, L0_208, K0_209, L0_209, K0_210, L0_210, K0_211, L0_211, K0_212, L0_212, K0_213, L0_213, K0_214, L0_214, K0_215, L0_215, K0_216, L0_216, K0_217, L0_217, K0_218, L0_218, K0_219, L0_219, K0_220, L0_220, K0_221, L0_221, K0_222, L0_222, K0_223, L0_223, K0_224, L0_224, K0_225, L0_225, K0_226, L0_226, K0_227, L0_227, K0_228, L0_228, K0_229, L0_229, K0_230, L0_230, K0_231, L0_231, K0_232, L0_232, K0_233, L0_233, K0_234, L0_234, K0_235, L0_235, K0_236, L0_236, K0_237, L0_237, K0_238, L0_238, K0_239, L0_239, K0_240, L0_240, R0_0, R0_2, R0_6, R0_12, R0_14, R0_15, R0_16, R0_17, R0_18, R0_19, R0_20, R0_21, R0_22, R0_23, R0_24, R0_25, R0_30, R0_31, R0_32, R0_34, R0_36, R0_43, R0_44, R0_45, R0_47, R0_48, R0_49, R0_50, R0_53, R0_55, R0_57, R0_59, R0_60, R0_62, R0_63, R0_64, R0_65, R0_66, R0_67, R0_69, R0_70, R0_71, R0_72]
    exact w_ret ⟨fin, hR', hN', fun _ => ⟨17, by simp -implicitDefEqProofs (disch := omega) only [mK_sI, mK_sJ, mK_sR, mK_cpI, mL_sI, mL_sJ, mL_sR, mL_cpI, mI_sI, mI_sJ, mI_sR, mI_cpI, mJ_sI, mJ_sJ, mJ_sR, mJ_cpI, mR_sI, mR_sJ, mR_sR, mR_cpI, eqN_T, eqN_F, if_true, if_false, and_true, true_and, and_false, false_and, or_true, true_or, or_false, false_or, not_true_eq_false, not_false_eq_true, and_self, or_self, tn_c, ne_eq, dite_true, dite_false], by omega, by omega⟩, fun t' w' h => by cases h⟩
  · have c2 : p < g ∧ u (g - 1) ≠ 0 := by omega
    obtain ⟨v, N, e1, rfl, hS, hK⟩ := reversed_ok (o := 198) (f := p) (g := g) k0 h6 hb hu hg c2.1 c2.2
    have hlg : Nat.log2 (u (g - 1)) < 8 := lg8 (hu _)
    have hKL : RK N 198 199 p (mkL u p g) (0 : Nat) := hK
    have heL : 8 * p + mkL u p g ≤ 8 * e := by unfold mkL; omega
    obtain ⟨G0, t0⟩ := hMS 0 (by omega)
    obtain ⟨G1, t1⟩ := hMS 1 (by omega)
    obtain ⟨G2, t2⟩ := hMS 2 (by omega)
    have hT1 := hT.q hS
    have bN := hb.sm hS.sm (by omega)
    have hm9 : ∀ k, k < 3 → (Ts k).1 ≤ 9 := fun k hk => (hMS k hk).1.1.1
    obtain ⟨N1, e2, hK1, hS1⟩ := back_u (m := (Ts 0).1) hKL bN hu (by have := hm9 0 (by omega); omega) heL
    have q1 := tkL_le (mkL u p g) (Ts 0).1
    obtain ⟨N2, e3, hK2, hS2⟩ := back_u (m := (Ts 1).1) hK1 (bN.sm hS1.sm (by omega)) hu (by have := hm9 1 (by omega); omega) (by omega)
    have q2 := tkL_le (tkL (mkL u p g) (Ts 0).1) (Ts 1).1
    obtain ⟨N3, e4, hK3, hS3⟩ := back_u (m := (Ts 2).1) hK2 (bN.sm (hS1.tr hS2).sm (by omega)) hu (by have := hm9 2 (by omega); omega) (by omega)
    have sA : Sq (fun a j => a = 198 ∧ (j = 9 ∨ j = 10 ∨ j = 11)) M N3 := hS.tr (((hS1.tr hS2).tr hS3).weak fun a j h => by omega)
    have hK3 : RK N3 198 199 p (iL3 Ts (mkL u p g)) (iZ3 Ts (mkL u p g) : Nat) := hK3
    have z9 := hK3.2.2.2.2
    have zle := iZ_le (Ts := Ts) (mkL u p g)
    have f0 := (hS.I 205 0 (by omega)).trans t0.1
    have f1 := ((hS.tr (hS1.weak (T := fun a j => a = 198 ∧ (j = 9 ∨ j = 10 ∨ j = 11)) fun a j h => by omega)).I 205 1 (by omega)).trans t1.1
    have f2 := ((hS.tr ((hS1.tr hS2).weak (T := fun a j => a = 198 ∧ (j = 9 ∨ j = 10 ∨ j = 11)) fun a j h => by omega)).I 205 2 (by omega)).trans t2.1
    have a0k := (hT.q hS).k
    have a0l := (hT.q hS).l
    have a0r := (hT.q hS).r
    have a1k := ((hT.q hS).q hS1).k
    have a1l := ((hT.q hS).q hS1).l
    have a1r := ((hT.q hS).q hS1).r
    have a2k := (((hT.q hS).q hS1).q hS2).k
    have a2l := (((hT.q hS).q hS1).q hS2).l
    have a2r := (((hT.q hS).q hS1).q hS2).r
    have a3 : mK N3 198 = 13 := (sA.K 198).trans k0
    have m0 : (0 : Int).toNat = 0 := rfl
    have m1 : (1 : Int).toNat = 1 := rfl
    have m2 : (2 : Int).toNat = 2 := rfl
    have hv0 := tkV_lt u p (mkL u p g) (Ts 0).1
    have hv1 := tkV_lt u p (tkL (mkL u p g) (Ts 0).1) (Ts 1).1
    have hv2 := tkV_lt u p (tkL (tkL (mkL u p g) (Ts 0).1) (Ts 1).1) (Ts 2).1
    by_cases cz : iZ3 Ts (mkL u p g) ≠ 0
    · have eq : sqS u p g Ts ls cnt blk lim span cs ct many r blk w ts nt = (none, r, ts, nt) := by unfold sqS; rw [if_neg c1, if_pos cz]
      rw [eq]
      have e5 := fails_ok a3 ((sA.I 198 4 (by omega)).trans h4) (iI 17) (iI p)
      have hs : Sq (fun a j => a = 198 ∧ (j = 4 ∨ j = 5)) N3 (sI (sI N3 198 4 (iI 17)) 198 5 (iI p)) := by refine Sq.sI (Sq.sI Sq.rf ?_) ?_ <;> omega
      have e6 := stop (N := sI (sI N3 198 4 (iI 17)) 198 5 (iI p)) (z := 17) a3 (by simp -implicitDefEqProofs (disch := omega) only [mK_sI, mK_sJ, mK_sR, mK_cpI, mL_sI, mL_sJ, mL_sR, mL_cpI, mI_sI, mI_sJ, mI_sR, mI_cpI, mJ_sI, mJ_sJ, mJ_sR, mJ_cpI, mR_sI, mR_sJ, mR_sR, mR_cpI, eqN_T, eqN_F, if_true, if_false, and_true, true_and, and_false, false_and, or_true, true_or, or_false, false_or, not_true_eq_false, not_false_eq_true, and_self, or_self, tn_c, ne_eq, dite_true, dite_false]) (by omega) (by omega)
      have hSs := sA.tr2 (U := fun a j => a = 198 ∧ (j = 4 ∨ j = 5 ∨ j = 9 ∨ j = 10 ∨ j = 11)) hs (by omega) (by omega)
      have fin : Sq WAl M (sI (sI N3 198 4 (iI 17)) 198 5 (iI p)) := hSs.weak fun a j h => by unfold WAl WSq; omega
      have hR' := hR.sq hSs (by omega)
      have hN' := hN.sq hSs (by omega) (by omega)
      rw [show iZ3 Ts (mkL u p g) = 1 by omega, show ((1 : Nat) : Int) = 1 from rfl] at z9
      clear hB hF hMS hb hS hS1 hS2 hS3 sA hK hK1 hK2 hK3 hKL t0 t1 t2 G0 G1 G2 hT1 bN hR hN hs hSs stop
      simp -implicitDefEqProofs (disch := omega) only [fX13_all, qk, e1, a0k, a0l, a0r, m0, f0, e2, iJ_I, a1k, a1l, a1r, m1, f1, e3, a2k, a2l, a2r, m2, f2, e4, a3, z9, e5, e6, bo_s, bd_s, bn_s, gI_s, gJ_s, gR_s, pI_s, pZ_s, pJ_s, pR_s, chk_s, chN_s, chN_n, aL_s, aI_c, aJ_c, aR_c, wI_c, wB_c, wS_c, wZ_c, wJ_c, wR_c, mK_sI, mK_sJ, mK_sR, mK_cpI, mL_sI, mL_sJ, mL_sR, mL_cpI, mI_sI, mI_sJ, mI_sR, mI_cpI, mJ_sI, mJ_sJ, mJ_sR, mJ_cpI, mR_sI, mR_sJ, mR_sR, mR_cpI, i2b_i2b, i2b_sb, iI_lit, iI_add, iI_sub, iI_mul, iI_neg, iI_lt, iI_le, iI_eq, iI_J, lt_T, lt_F, le_T, le_F, eq_T, eq_F, eqN_T, eqN_F, leN_T, leN_F, ltN_T, ltN_F, if_true, if_false, and_true, true_and, and_false, false_and, or_true, true_or, or_false, false_or, not_true_eq_false, not_false_eq_true, and_self, or_self, tn_c, ne_eq, dite_true, dite_false, K0_198, K0_199, L0_199, K0_200, L0_200, K0_201, L0_201, K0_202, L0_202, K0_203, L0_203, K0_204, L0_204, K0_205, L0_205, K0_206, L0_206, K0_207, L0_207, K0_208, L0_208, K0_209, L0_209, K0_210, L0_210, K0_211, L0_211, K0_212, L0_212, K0_213, L0_213, K0_214, L0_214, K0_215, L0_215, K0_216, L0_216, K0_217, L0_217, K0_218, L0_218, K0_219, L0_219, K0_220, L0_220, K0_221, L0_221, K0_222, L0_222, K0_223, L0_223, K0_224, L0_224, K0_225, L0_225, K0_226, L0_226, K0_227, L0_227, K0_228, L0_228, K0_229, L0_229, K0_230, L0_230, K0_231, L0_231, K0_232, L0_232, K0_233, L0_233, K0_234, L0_234, K0_235, L0_235, K0_236, L0_236, K0_237, L0_237, K0_238, L0_238, K0_239, L0_239, K0_240, L0_240, R0_0, R0_2, R0_6, R0_12, R0_14, R0_15, R0_16, R0_17, R0_18, R0_19, R0_20, R0_21, R0_22, R0_23, R0_24, R0_25, R0_30, R0_31, R0_32, R0_34, R0_36, R0_43, R0_44, R0_45, R0_47, R0_48, R0_49, R0_50, R0_53, R0_55, R0_57, R0_59, R0_60, R0_62, R0_63, R0_64, R0_65, R0_66, R0_67, R0_69, R0_70, R0_71, R0_72]
      exact w_ret ⟨fin, hR', hN', fun _ => ⟨17, by simp -implicitDefEqProofs (disch := omega) only [mK_sI, mK_sJ, mK_sR, mK_cpI, mL_sI, mL_sJ, mL_sR, mL_cpI, mI_sI, mI_sJ, mI_sR, mI_cpI, mJ_sI, mJ_sJ, mJ_sR, mJ_cpI, mR_sI, mR_sJ, mR_sR, mR_cpI, eqN_T, eqN_F, if_true, if_false, and_true, true_and, and_false, false_and, or_true, true_or, or_false, false_or, not_true_eq_false, not_false_eq_true, and_self, or_self, tn_c, ne_eq, dite_true, dite_false], by omega, by omega⟩, fun t' w' h => by cases h⟩
    · have cz0 : iZ3 Ts (mkL u p g) = 0 := by omega
      obtain ⟨ok, s', hrn⟩ : ∃ ok s', rnK u p Ts ls cnt blk lim span cs ct many (iSt u p Ts (mkL u p g), r, 0, blk, w, ts, nt) = (ok, s') := ⟨_, _, rfl⟩
      have eq : sqS u p g Ts ls cnt blk lim span cs ct many r blk w ts nt = (if (ok = true ∧ s'.1.1 = 0) ∧ ¬ lim < s'.2.2.2.1 + (cnt - s'.2.2.1) - blk then some (s'.2.2.2.1 + (cnt - s'.2.2.1), ptL s'.2.2.2.2.1 ls s'.2.2.2.1 s'.2.2.1 (cnt - s'.2.2.1)) else none, s'.2.1, s'.2.2.2.2.2.1, s'.2.2.2.2.2.2) := by unfold sqS; rw [if_neg c1, if_neg cz, hrn]
      rw [eq]
      rw [cz0] at hK3
      have n4 := (sA.I 198 4 (by omega)).trans h4
      obtain ⟨y, P, e5, hP1, hP2, hP3, hP4, hP5⟩ := mall_loop (d := d) (e := e) (pl := iI p) (hT.q sA) (hMS.sq sA (by omega) (by omega)) (hb.sm sA.sm (by omega)) hu (by have := iL_le (Ts := Ts) (mkL u p g); omega) hK3 hv0 hv1 hv2 hmany n4 (hB.sq sA (by omega) (by omega)) (hF.sq sA (by omega) (by omega)) (hN.sq sA (by omega) (by omega)) (hR.sq sA (by omega)) (by omega) hlim (by omega) hcnt (by omega) hff hcs hts hsp hrn
      have hSP : Sq WAl M P := (sA.weak fun a j h => Or.inr h).tr hP1
      have p0 : mK P 198 = 13 := (hSP.K 198).trans k0
      rw [cz0, show ((0 : Nat) : Int) = 0 from rfl] at z9
      have e5' : fX13_all_L76 (some 198) (iI many) (iI p) (iI (tkV u p (mkL u p g) (Ts 0).1 : Nat)) (iI (tkV u p (tkL (mkL u p g) (Ts 0).1) (Ts 1).1 : Nat)) (iI (tkV u p (tkL (tkL (mkL u p g) (Ts 0).1) (Ts 1).1) (Ts 2).1 : Nat)) (iI 0) N3 = some (y, P) := e5
      have ev : fX13_all (some 198) (iI many) (iI p) (iI g) M = some (y, P) := by
        clear hB hF hMS hb hS hS1 hS2 hS3 sA hK hK1 hK2 hK3 hKL t0 t1 t2 G0 G1 G2 hT1 bN hR hN stop hP1 hP2 hP3 hP4 hP5 hSP eq
        simp -implicitDefEqProofs (disch := omega) only [fX13_all, qk, e1, a0k, a0l, a0r, m0, f0, e2, iJ_I, a1k, a1l, a1r, m1, f1, e3, a2k, a2l, a2r, m2, f2, e4, a3, z9, e5', bo_s, bd_s, bn_s, gI_s, gJ_s, gR_s, pI_s, pZ_s, pJ_s, pR_s, chk_s, chN_s, chN_n, aL_s, aI_c, aJ_c, aR_c, wI_c, wB_c, wS_c, wZ_c, wJ_c, wR_c, mK_sI, mK_sJ, mK_sR, mK_cpI, mL_sI, mL_sJ, mL_sR, mL_cpI, mI_sI, mI_sJ, mI_sR, mI_cpI, mJ_sI, mJ_sJ, mJ_sR, mJ_cpI, mR_sI, mR_sJ, mR_sR, mR_cpI, i2b_i2b, i2b_sb, iI_lit, iI_add, iI_sub, iI_mul, iI_neg, iI_lt, iI_le, iI_eq, iI_J, lt_T, lt_F, le_T, le_F, eq_T, eq_F, eqN_T, eqN_F, leN_T, leN_F, ltN_T, ltN_F, if_true, if_false, and_true, true_and, and_false, false_and, or_true, true_or, or_false, false_or, not_true_eq_false, not_false_eq_true, and_self, or_self, tn_c, ne_eq, dite_true, dite_false, K0_198, K0_199, L0_199, K0_200, L0_200, K0_201, L0_201, K0_202, L0_202, K0_203, L0_203, K0_204, L0_204, K0_205, L0_205, K0_206, L0_206, K0_207, L0_207, K0_208, L0_208, K0_209, L0_209, K0_210, L0_210, K0_211, L0_211, K0_212, L0_212, K0_213, L0_213, K0_214, L0_214, K0_215, L0_215, K0_216, L0_216, K0_217, L0_217, K0_218, L0_218, K0_219, L0_219, K0_220, L0_220, K0_221, L0_221, K0_222, L0_222, K0_223, L0_223, K0_224, L0_224, K0_225, L0_225, K0_226, L0_226, K0_227, L0_227, K0_228, L0_228, K0_229, L0_229, K0_230, L0_230, K0_231, L0_231, K0_232, L0_232, K0_233, L0_233, K0_234, L0_234, K0_235, L0_235, K0_236, L0_236, K0_237, L0_237, K0_238, L0_238, K0_239, L0_239, K0_240, L0_240, R0_0, R0_2, R0_6, R0_12, R0_14, R0_15, R0_16, R0_17, R0_18, R0_19, R0_20, R0_21, R0_22, R0_23, R0_24, R0_25, R0_30, R0_31, R0_32, R0_34, R0_36, R0_43, R0_44, R0_45, R0_47, R0_48, R0_49, R0_50, R0_53, R0_55, R0_57, R0_59, R0_60, R0_62, R0_63, R0_64, R0_65, R0_66, R0_67, R0_69, R0_70, R0_71, R0_72]
      rw [ev, bd_s]
      by_cases co : ok = true ∧ s'.1.1 = 0
      · obtain ⟨p4, pB, pbt, pus, ctb⟩ := hP4 co
        have p42 := ((hF.sq sA (by omega) (by omega)).sq hP1 (by unfold WAl WSq; omega) (by unfold WAl WSq; omega)).1
        obtain ⟨y2, R, e6, hR1, hR2, hR3⟩ := ms268 (hT.q hSP) pB p42 p4 pbt hlim ctb hcnt pus hff
        refine ⟨y2, R, e6, hSP.tr (hR1.weak fun a j h => by unfold WAl WSq; omega), hP2.sq hR1 (by omega), hP3.sq hR1 (by omega) (by omega), fun h => ?_, fun t' w' h => ?_⟩
        · refine hR2 (Classical.byContradiction fun q => ?_)
          have h : (if (ok = true ∧ s'.1.1 = 0) ∧ ¬ lim < s'.2.2.2.1 + (cnt - s'.2.2.1) - blk then some (s'.2.2.2.1 + (cnt - s'.2.2.1), ptL s'.2.2.2.2.1 ls s'.2.2.2.1 s'.2.2.1 (cnt - s'.2.2.1)) else none) = none := h
          rw [if_pos ⟨co, q⟩] at h
          cases h
        · have h : (if (ok = true ∧ s'.1.1 = 0) ∧ ¬ lim < s'.2.2.2.1 + (cnt - s'.2.2.1) - blk then some (s'.2.2.2.1 + (cnt - s'.2.2.1), ptL s'.2.2.2.2.1 ls s'.2.2.2.1 s'.2.2.1 (cnt - s'.2.2.1)) else none) = some (t', w') := h
          by_cases q : lim < s'.2.2.2.1 + (cnt - s'.2.2.1) - blk
          · rw [if_neg (fun h => h.2 q)] at h
            cases h
          · rw [if_pos ⟨co, q⟩] at h
            cases h
            exact ⟨(hR3 q).1, (hR3 q).2, by omega, by omega⟩
      · obtain ⟨z, hz, hz1, hz2⟩ := hP5 co
        rw [stop p0 hz hz1 hz2]
        refine w_ret ⟨hSP, hP2, hP3, fun _ => ⟨z, hz, hz1, hz2⟩, fun t' w' h => ?_⟩
        have h : (if (ok = true ∧ s'.1.1 = 0) ∧ ¬ lim < s'.2.2.2.1 + (cnt - s'.2.2.1) - blk then some (s'.2.2.2.1 + (cnt - s'.2.2.1), ptL s'.2.2.2.2.1 ls s'.2.2.2.1 s'.2.2.1 (cnt - s'.2.2.1)) else none) = some (t', w') := h
        rw [if_neg (fun q => co q.1)] at h
        cases h
end MSEC
