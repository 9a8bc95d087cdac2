/-! STREAMS, the reference's -/
section MFOUR
variable {M : Mem} {e : Nat} {u : Nat → Nat} {C : Cd}
def rsS (u : Nat → Nat) (a g : Nat) (C : Cd) (cnt b4 : Nat) : Option (Nat → Nat) := if b4 = 0 then rdS u a g C cnt else rd4 u a g C cnt
theorem eightU {M : Mem} {e f k : Nat} {u : Nat → Nat} (hT : RSt M) (hb : BV M 199 8000 e u) (hu : ∀ i, u i < 256) (hk : k ≤ 8) (h : f + k ≤ e) : fX13_eight (some 199) (iI f) (iI k) M = some (iJ (num u f k : Nat), M) := by
  have g3 := hb.2.2.1
  have := eight_ok hb.1 hb.2.1 (by omega) f k hk (by omega)
  rwa [numU hb hu h] at this
theorem streams_ok {a g cnt b4 : Nat} (hT : RSt M) (hb : BV M 199 8000 e u) (hu : ∀ i, u i < 256) (hg : g ≤ e) (ha : a < 900000) (hcM : CdM M 0 C) (hcR : CdR C) (h37 : mI M 198 37 = iI cnt) (hn : cnt ≤ 131072) (h4 : b4 ≤ 1) :
    Wp (fX13_streams (some 198) (iI a) (iI g) (iI b4) M) fun v N => Sq (WSm 0 cnt) M N ∧ (rsS u a g C cnt b4 = none → v = iI 0) ∧ ∀ ls, rsS u a g C cnt b4 = some ls → v = iI 1 ∧ ∀ k, k < cnt → mI N 218 k = sb (ls k) := by
  have g3 := hb.2.2.1
  have qk := hT.k
  have ql := hT.l
  have qr := hT.r
  by_cases c0 : b4 = 0
  · subst c0
    have hR : rsS u a g C cnt 0 = rdS u a g C cnt := if_pos rfl
    rw [hR]
    obtain ⟨v, N, e1, hS, hA, hB⟩ := mstream_ok (f := a) (g := g) (first := 0) (n := cnt) hT hb hu hg (by omega) hcM hcR (by omega)
    rw [show ((0 : Nat) : Int) = 0 from rfl] at e1 ⊢
    cases hD : rdS u a g C cnt with
    | none =>
      have hv := hA hD
      subst hv
      simp -implicitDefEqProofs (disch := omega) only [fX13_streams, qk, h37, e1, rtZ, bo_s, bd_s, bn_s, gI_s, gJ_s, gR_s, pI_s, pZ_s, pJ_s, pR_s, chk_s, chN_s, chN_n, aL_s, aI_c, aJ_c, aR_c, wI_c, wB_c, wS_c, wZ_c, wJ_c, wR_c, mK_sI, mK_sJ, mK_sR, mK_cpI, mL_sI, mL_sJ, mL_sR, mL_cpI, mI_sI, mI_sJ, mI_sR, mI_cpI, mJ_sI, mJ_sJ, mJ_sR, mJ_cpI, mR_sI, mR_sJ, mR_sR, mR_cpI, i2b_i2b, i2b_sb, iI_lit, iI_add, iI_sub, iI_mul, iI_neg, iI_lt, iI_le, iI_eq, iI_J, lt_T, lt_F, le_T, le_F, eq_T, eq_F, eqN_T, eqN_F, leN_T, leN_F, ltN_T, ltN_F, if_true, if_false, and_true, true_and, and_false, false_and, or_true, true_or, or_false, false_or, not_true_eq_false, not_false_eq_true, and_self, or_self, tn_c, ne_eq, dite_true, dite_false, K0_198, K0_199, L0_199, K0_200, L0_200, K0_201, L0_201, K0_202, L0_202, K0_203, L0_203, K0_204, L0_204, K0_205, L0_205, K0_206, L0_206, K0_207, L0_207, K0_208, L0_208, K0_209, L0_209, K0_210, L0_210, K0_211, L0_211, K0_212, L0_212, K0_213, L0_213, K0_214, L0_214, K0_215, L0_215, K0_216, L0_216, K0_217, L0_217, K0_218, L0_218, K0_219, L0_219, K0_220, L0_220, K0_221, L0_221, K0_222, L0_222, K0_223, L0_223, K0_224, L0_224, K0_225, L0_225, K0_226, L0_226, K0_227, L0_227, K0_228, L0_228, K0_229, L0_229, K0_230, L0_230, K0_231, L0_231, K0_232, L0_232, K0_233, L0_233, K0_234, L0_234, K0_235, L0_235, K0_236, L0_236, K0_237, L0_237, K0_238, L0_238, K0_239, L0_239, K0_240, L0_240, R0_0, R0_2, R0_6, R0_12, R0_14, R0_15, R0_16, R0_17, R0_18, R0_19, R0_20, R0_21, R0_22, R0_23, R0_24, R0_25, R0_30, R0_31, R0_32, R0_34, R0_36, R0_43, R0_44, R0_45, R0_47, R0_48, R0_49, R0_50, R0_53, R0_55, R0_57, R0_59, R0_60, R0_62, R0_63, R0_64, R0_65, R0_66, R0_67, R0_69, R0_70, R0_71, R0_72]
      exact w_ret ⟨hS, fun _ => rfl, fun ls h => by cases h⟩
    | some m =>
      obtain ⟨hv, hV⟩ := hB _ hD
      subst hv
      simp -implicitDefEqProofs (disch := omega) only [fX13_streams, qk, h37, e1, rtZ, bo_s, bd_s, bn_s, gI_s, gJ_s, gR_s, pI_s, pZ_s, pJ_s, pR_s, chk_s, chN_s, chN_n, aL_s, aI_c, aJ_c, aR_c, wI_c, wB_c, wS_c, wZ_c, wJ_c, wR_c, mK_sI, mK_sJ, mK_sR, mK_cpI, mL_sI, mL_sJ, mL_sR, mL_cpI, mI_sI, mI_sJ, mI_sR, mI_cpI, mJ_sI, mJ_sJ, mJ_sR, mJ_cpI, mR_sI, mR_sJ, mR_sR, mR_cpI, i2b_i2b, i2b_sb, iI_lit, iI_add, iI_sub, iI_mul, iI_neg, iI_lt, iI_le, iI_eq, iI_J, lt_T, lt_F, le_T, le_F, eq_T, eq_F, eqN_T, eqN_F, leN_T, leN_F, ltN_T, ltN_F, if_true, if_false, and_true, true_and, and_false, false_and, or_true, true_or, or_false, false_or, not_true_eq_false, not_false_eq_true, and_self, or_self, tn_c, ne_eq, dite_true, dite_false, K0_198, K0_199, L0_199, K0_200, L0_200, K0_201, L0_201, K0_202, L0_202, K0_203, L0_203, K0_204, L0_204, K0_205, L0_205, K0_206, L0_206, K0_207, L0_207, K0_208, L0_208, K0_209, L0_209, K0_210, L0_210, K0_211, L0_211, K0_212, L0_212, K0_213, L0_213, K0_214, L0_214, K0_215, L0_215, K0_216, L0_216, K0_217, L0_217, K0_218, L0_218, K0_219, L0_219, K0_220, L0_220, K0_221, L0_221, K0_222, L0_222, K0_223, L0_223, K0_224, L0_224, K0_225, L0_225, K0_226, L0_226, K0_227, L0_227, K0_228, L0_228, K0_229, L0_229, K0_230, L0_230, K0_231, L0_231, K0_232, L0_232, K0_233, L0_233, K0_234, L0_234, K0_235, L0_235, K0_236, L0_236, K0_237, L0_237, K0_238, L0_238, K0_239, L0_239, K0_240, L0_240, R0_0, R0_2, R0_6, R0_12, R0_14, R0_15, R0_16, R0_17, R0_18, R0_19, R0_20, R0_21, R0_22, R0_23, R0_24, R0_25, R0_30, R0_31, R0_32, R0_34, R0_36, R0_43, R0_44, R0_45, R0_47, R0_48, R0_49, R0_50, R0_53, R0_55, R0_57, R0_59, R0_60, R0_62, R0_63, R0_64, R0_65, R0_66, R0_67, R0_69, R0_70, R0_71, R0_72]
      refine w_ret ⟨hS, fun h => (by cases h), fun ls h => ?_⟩
      cases h
      refine ⟨rfl, fun k hk => ?_⟩
      have := hV k hk
      rwa [Nat.zero_add] at this
  · obtain rfl : b4 = 1 := by omega
    have hR0 : rsS u a g C cnt 1 = rd4 u a g C cnt := if_neg (by omega)
    rw [hR0]
    by_cases c1 : g < a + 6
    · have hR : rd4 u a g C cnt = none := by unfold rd4; rw [if_pos c1]
      rw [show ((1 : Nat) : Int) = 1 from rfl]
      simp -implicitDefEqProofs (disch := omega) only [fX13_streams, rtZ, bo_s, bd_s, bn_s, gI_s, gJ_s, gR_s, pI_s, pZ_s, pJ_s, pR_s, chk_s, chN_s, chN_n, aL_s, aI_c, aJ_c, aR_c, wI_c, wB_c, wS_c, wZ_c, wJ_c, wR_c, mK_sI, mK_sJ, mK_sR, mK_cpI, mL_sI, mL_sJ, mL_sR, mL_cpI, mI_sI, mI_sJ, mI_sR, mI_cpI, mJ_sI, mJ_sJ, mJ_sR, mJ_cpI, mR_sI, mR_sJ, mR_sR, mR_cpI, i2b_i2b, i2b_sb, iI_lit, iI_add, iI_sub, iI_mul, iI_neg, iI_lt, iI_le, iI_eq, iI_J, lt_T, lt_F, le_T, le_F, eq_T, eq_F, eqN_T, eqN_F, leN_T, leN_F, ltN_T, ltN_F, if_true, if_false, and_true, true_and, and_false, false_and, or_true, true_or, or_false, false_or, not_true_eq_false, not_false_eq_true, and_self, or_self, tn_c, ne_eq, dite_true, dite_false, K0_198, K0_199, L0_199, K0_200, L0_200, K0_201, L0_201, K0_202, L0_202, K0_203, L0_203, K0_204, L0_204, K0_205, L0_205, K0_206, L0_206, K0_207, L0_207, K0_208, L0_208, K0_209, L0_209, K0_210, L0_210, K0_211, L0_211, K0_212, L0_212, K0_213, L0_213, K0_214, L0_214, K0_215, L0_215, K0_216, L0_216, K0_217, L0_217, K0_218, L0_218, K0_219, L0_219, K0_220, L0_220, K0_221, L0_221, K0_222, L0_222, K0_223, L0_223, K0_224, L0_224, K0_225, L0_225, K0_226, L0_226, K0_227, L0_227, K0_228, L0_228, K0_229, L0_229, K0_230, L0_230, K0_231, L0_231, K0_232, L0_232, K0_233, L0_233, K0_234, L0_234, K0_235, L0_235, K0_236, L0_236, K0_237, L0_237, K0_238, L0_238, K0_239, L0_239, K0_240, L0_240, R0_0, R0_2, R0_6, R0_12, R0_14, R0_15, R0_16, R0_17, R0_18, R0_19, R0_20, R0_21, R0_22, R0_23, R0_24, R0_25, R0_30, R0_31, R0_32, R0_34, R0_36, R0_43, R0_44, R0_45, R0_47, R0_48, R0_49, R0_50, R0_53, R0_55, R0_57, R0_59, R0_60, R0_62, R0_63, R0_64, R0_65, R0_66, R0_67, R0_69, R0_70, R0_71, R0_72]
      refine w_ret ⟨Sq.rf, fun _ => rfl, fun ls h => ?_⟩
      rw [hR] at h; cases h
    · obtain ⟨E, hE⟩ : ∃ E, (cnt + 3) / 4 = E := ⟨_, rfl⟩
      have hR : rd4 u a g C cnt = if g < pF u a 3 ∨ cnt < 3 * E then none else
          match rdF u a C E 3 with
          | none => none
          | some l => match rdS u (pF u a 3) g C (cnt - 3 * E) with
            | none => none
            | some m => some (fun i => if i < 3 * E then l i else m (i - 3 * E)) := by unfold rd4; rw [if_neg c1, hE]; rfl
      have eE : ((cnt : Int) + 3) / 4 = E := by omega
      have ep : (a : Int) + 6 = pF u a 0 := by show _ = ((a + 6 : Nat) : Int); omega
      have s1 := eightU (f := a) (k := 2) hT hb hu (by omega) (by omega)
      have s2 := eightU (f := a + 2) (k := 2) hT hb hu (by omega) (by omega)
      have s3 := eightU (f := a + 4) (k := 2) hT hb hu (by omega) (by omega)
      rw [show ((2 : Nat) : Int) = 2 from rfl] at s1 s2 s3
      rw [show ((a + 2 : Nat) : Int) = (a : Int) + 2 by omega] at s2
      rw [show ((a + 4 : Nat) : Int) = (a : Int) + 4 by omega] at s3
      have n1 := num2 hu a
      have n2 := num2 hu (a + 2)
      have n3 := num2 hu (a + 4)
      have hp3 : pF u a 3 = a + 6 + num u a 2 + num u (a + 2) 2 + num u (a + 4) 2 := rfl
      rw [show ((1 : Nat) : Int) = 1 from rfl]
      by_cases c2 : g < pF u a 3 ∨ cnt < 3 * E
      · rw [if_pos c2] at hR
        by_cases c3 : g < pF u a 3
        · simp -implicitDefEqProofs (disch := omega) only [fX13_streams, fX13_streams_L99, qk, ql, qr, h37, dv_i, eE, s1, s2, s3, iJ_add, iJ_I, rtZ, bo_s, bd_s, bn_s, gI_s, gJ_s, gR_s, pI_s, pZ_s, pJ_s, pR_s, chk_s, chN_s, chN_n, aL_s, aI_c, aJ_c, aR_c, wI_c, wB_c, wS_c, wZ_c, wJ_c, wR_c, mK_sI, mK_sJ, mK_sR, mK_cpI, mL_sI, mL_sJ, mL_sR, mL_cpI, mI_sI, mI_sJ, mI_sR, mI_cpI, mJ_sI, mJ_sJ, mJ_sR, mJ_cpI, mR_sI, mR_sJ, mR_sR, mR_cpI, i2b_i2b, i2b_sb, iI_lit, iI_add, iI_sub, iI_mul, iI_neg, iI_lt, iI_le, iI_eq, iI_J, lt_T, lt_F, le_T, le_F, eq_T, eq_F, eqN_T, eqN_F, leN_T, leN_F, ltN_T, ltN_F, if_true, if_false, and_true, true_and, and_false, false_and, or_true, true_or, or_false, false_or, not_true_eq_false, not_false_eq_true, and_self, or_self, tn_c, ne_eq, dite_true, dite_false, K0_198, K0_199, L0_199, K0_200, L0_200, K0_201, L0_201, K0_202, L0_202, K0_203, L0_203, K0_204, L0_204, K0_205, L0_205, K0_206, L0_206, K0_207, L0_207, K0_208, L0_208, K0_209, L0_209, K0_210, L0_210, K0_211, L0_211, K0_212, L0_212, K0_213, L0_213, K0_214, L0_214, K0_215, L0_215, K0_216, L0_216, K0_217, L0_217, K0_218, L0_218, K0_219, L0_219, K0_220, L0_220, K0_221, L0_221, K0_222, L0_222, K0_223, L0_223, K0_224, L0_224, K0_225, L0_225, K0_226, L0_226, K0_227, L0_227, K0_228, L0_228, K0_229, L0_229, K0_230, L0_230, K0_231, L0_231, K0_232, L0_232, K0_233, L0_233, K0_234, L0_234, K0_235, L0_235, K0_236, L0_236, K0_237, L0_237, K0_238, L0_238, K0_239, L0_239, K0_240, L0_240, R0_0, R0_2, R0_6, R0_12, R0_14, R0_15, R0_16, R0_17, R0_18, R0_19, R0_20, R0_21, R0_22, R0_23, R0_24, R0_25, R0_30, R0_31, R0_32, R0_34, R0_36, R0_43, R0_44, R0_45, R0_47, R0_48, R0_49, R0_50, R0_53, R0_55, R0_57, R0_59, R0_60, R0_62, R0_63, R0_64, R0_65, R0_66, R0_67, R0_69, R0_70, R0_71, R0_72]
          refine w_ret ⟨Sq.rf, fun _ => rfl, fun ls h => ?_⟩
          rw [hR] at h; cases h
        · simp -implicitDefEqProofs (disch := omega) only [fX13_streams, fX13_streams_L99, qk, ql, qr, h37, dv_i, eE, s1, s2, s3, iJ_add, iJ_I, rtZ, bo_s, bd_s, bn_s, gI_s, gJ_s, gR_s, pI_s, pZ_s, pJ_s, pR_s, chk_s, chN_s, chN_n, aL_s, aI_c, aJ_c, aR_c, wI_c, wB_c, wS_c, wZ_c, wJ_c, wR_c, mK_sI, mK_sJ, mK_sR, mK_cpI, mL_sI, mL_sJ, mL_sR, mL_cpI, mI_sI, mI_sJ, mI_sR, mI_cpI, mJ_sI, mJ_sJ, mJ_sR, mJ_cpI, mR_sI, mR_sJ, mR_sR, mR_cpI, i2b_i2b, i2b_sb, iI_lit, iI_add, iI_sub, iI_mul, iI_neg, iI_lt, iI_le, iI_eq, iI_J, lt_T, lt_F, le_T, le_F, eq_T, eq_F, eqN_T, eqN_F, leN_T, leN_F, ltN_T, ltN_F, if_true, if_false, and_true, true_and, and_false, false_and, or_true, true_or, or_false, false_or, not_true_eq_false, not_false_eq_true, and_self, or_self, tn_c, ne_eq, dite_true, dite_false, K0_198, K0_199, L0_199, K0_200, L0_200, K0_201, L0_201, K0_202, L0_202, K0_203, L0_203, K0_204, L0_204, K0_205, L0_205, K0_206, L0_206, K0_207, L0_207, K0_208, L0_208, K0_209, L0_209, K0_210, L0_210, K0_211, L0_211, K0_212, L0_212, K0_213, L0_213, K0_214, L0_214, K0_215, L0_215, K0_216, L0_216, K0_217, L0_217, K0_218, L0_218, K0_219, L0_219, K0_220, L0_220, K0_221, L0_221, K0_222, L0_222, K0_223, L0_223, K0_224, L0_224, K0_225, L0_225, K0_226, L0_226, K0_227, L0_227, K0_228, L0_228, K0_229, L0_229, K0_230, L0_230, K0_231, L0_231, K0_232, L0_232, K0_233, L0_233, K0_234, L0_234, K0_235, L0_235, K0_236, L0_236, K0_237, L0_237, K0_238, L0_238, K0_239, L0_239, K0_240, L0_240, R0_0, R0_2, R0_6, R0_12, R0_14, R0_15, R0_16, R0_17, R0_18, R0_19, R0_20, R0_21, R0_22, R0_23, R0_24, R0_25, R0_30, R0_31, R0_32, R0_34, R0_36, R0_43, R0_44, R0_45, R0_47, R0_48, R0_49, R0_50, R0_53, R0_55, R0_57, R0_59, R0_60, R0_62, R0_63, R0_64, R0_65, R0_66, R0_67, R0_69, R0_70, R0_71, R0_72]
          refine w_ret ⟨Sq.rf, fun _ => rfl, fun ls h => ?_⟩
          rw [hR] at h; cases h
      · rw [if_neg c2] at hR
        have m3 := mE_3 E
        simp -implicitDefEqProofs (disch := omega) only [fX13_streams, fX13_streams_L99, fX13_streams_L104, qk, ql, qr, h37, dv_i, eE, s1, s2, s3, iJ_add, iJ_I, bo_s, bd_s, bn_s, gI_s, gJ_s, gR_s, pI_s, pZ_s, pJ_s, pR_s, chk_s, chN_s, chN_n, aL_s, aI_c, aJ_c, aR_c, wI_c, wB_c, wS_c, wZ_c, wJ_c, wR_c, mK_sI, mK_sJ, mK_sR, mK_cpI, mL_sI, mL_sJ, mL_sR, mL_cpI, mI_sI, mI_sJ, mI_sR, mI_cpI, mJ_sI, mJ_sJ, mJ_sR, mJ_cpI, mR_sI, mR_sJ, mR_sR, mR_cpI, i2b_i2b, i2b_sb, iI_lit, iI_add, iI_sub, iI_mul, iI_neg, iI_lt, iI_le, iI_eq, iI_J, lt_T, lt_F, le_T, le_F, eq_T, eq_F, eqN_T, eqN_F, leN_T, leN_F, ltN_T, ltN_F, if_true, if_false, and_true, true_and, and_false, false_and, or_true, true_or, or_false, false_or, not_true_eq_false, not_false_eq_true, and_self, or_self, tn_c, ne_eq, dite_true, dite_false, K0_198, K0_199, L0_199, K0_200, L0_200, K0_201, L0_201, K0_202, L0_202, K0_203, L0_203, K0_204, L0_204, K0_205, L0_205, K0_206, L0_206, K0_207, L0_207, K0_208, L0_208, K0_209, L0_209, K0_210, L0_210, K0_211, L0_211, K0_212, L0_212, K0_213, L0_213, K0_214, L0_214, K0_215, L0_215, K0_216, L0_216, K0_217, L0_217, K0_218, L0_218, K0_219, L0_219, K0_220, L0_220, K0_221, L0_221, K0_222, L0_222, K0_223, L0_223, K0_224, L0_224, K0_225, L0_225, K0_226, L0_226, K0_227, L0_227, K0_228, L0_228, K0_229, L0_229, K0_230, L0_230, K0_231, L0_231, K0_232, L0_232, K0_233, L0_233, K0_234, L0_234, K0_235, L0_235, K0_236, L0_236, K0_237, L0_237, K0_238, L0_238, K0_239, L0_239, K0_240, L0_240, R0_0, R0_2, R0_6, R0_12, R0_14, R0_15, R0_16, R0_17, R0_18, R0_19, R0_20, R0_21, R0_22, R0_23, R0_24, R0_25, R0_30, R0_31, R0_32, R0_34, R0_36, R0_43, R0_44, R0_45, R0_47, R0_48, R0_49, R0_50, R0_53, R0_55, R0_57, R0_59, R0_60, R0_62, R0_63, R0_64, R0_65, R0_66, R0_67, R0_69, R0_70, R0_71, R0_72]
        rw [ep]
        refine w_lpF (fun d x O => Sq (WSm 0 cnt) M O ∧ ((∃ k l, k + d = 4 ∧ k ≤ 3 ∧ rdF u a C E k = some l ∧ (∀ i, i < mE E k → mI O 218 i = sb (l i)) ∧ x = (some 198, iI a, iI g, iI (E : Nat), iI (pF u a k : Nat), iI (k : Nat))) ∨ (d = 0 ∧ ∃ ls y, rd4 u a g C cnt = some ls ∧ (∀ i, i < cnt → mI O 218 i = sb (ls i)) ∧ x = (some 198, iI a, iI g, iI (E : Nat), y, iI 4)))) 4 (by omega) ⟨Sq.rf, Or.inl ⟨0, _, by omega, by omega, rfl, fun i hi => (by rw [mE] at hi; omega), rfl⟩⟩ ?_
        rintro q d x O ⟨hS, ⟨k, l, hd, hk, hF, hV, rfl⟩ | ⟨rfl, ls, y, hls, hV, rfl⟩⟩ ih
        · have hq := hT.q hS
          have qk := hq.k
          have ql := hq.l
          have qr := hq.r
          have hb' := hb.sm hS.sm (by unfold WSm; omega)
          have f37 := (hS.I 198 37 (by unfold WSm; omega)).trans h37
          have hcM' := hcM.sq hS ⟨by unfold WSm; omega, by unfold WSm; omega, by unfold WSm; omega⟩
          have pm := pF_m u a (show k ≤ 3 by omega)
          by_cases z : k = 3
          · subst z
            rw [hF] at hR
            dsimp only at hR
            obtain ⟨v, N, e1, hS2, hA, hB⟩ := mstream_ok (f := pF u a 3) (g := g) (first := 3 * E) (n := cnt - 3 * E) hq hb' hu hg (by omega) hcM' hcR (by omega)
            rw [show ((cnt - 3 * E : Nat) : Int) = (cnt : Int) - 3 * E by omega, show ((3 * E : Nat) : Int) = 3 * (E : Int) by omega] at e1
            have eg : (pF u a 3 : Int) + ((g : Int) - pF u a 3) = g := by omega
            have e3 : ((3 : Nat) : Int) = 3 := rfl
            have hSN : Sq (WSm 0 cnt) M N := hS.tr (hS2.weak (by unfold WSm; omega))
            cases hD : rdS u (pF u a 3) g C (cnt - 3 * E) with
            | none =>
              rw [hD] at hR
              have hv := hA hD
              subst hv
              simp -implicitDefEqProofs (disch := omega) only [fX13_streams_B104, fX13_streams_L138, fX13_streams_L173, e3, qk, f37, eg, e1, rtZ, bo_s, bd_s, bn_s, gI_s, gJ_s, gR_s, pI_s, pZ_s, pJ_s, pR_s, chk_s, chN_s, chN_n, aL_s, aI_c, aJ_c, aR_c, wI_c, wB_c, wS_c, wZ_c, wJ_c, wR_c, mK_sI, mK_sJ, mK_sR, mK_cpI, mL_sI, mL_sJ, mL_sR, mL_cpI, mI_sI, mI_sJ, mI_sR, mI_cpI, mJ_sI, mJ_sJ, mJ_sR, mJ_cpI, mR_sI, mR_sJ, mR_sR, mR_cpI, i2b_i2b, i2b_sb, iI_lit, iI_add, iI_sub, iI_mul, iI_neg, iI_lt, iI_le, iI_eq, iI_J, lt_T, lt_F, le_T, le_F, eq_T, eq_F, eqN_T, eqN_F, leN_T, leN_F, ltN_T, ltN_F, if_true, if_false, and_true, true_and, and_false, false_and, or_true, true_or, or_false, false_or, not_true_eq_false, not_false_eq_true, and_self, or_self, tn_c, ne_eq, dite_true, dite_false, K0_198, K0_199, L0_199, K0_200, L0_200, K0_201, L0_201, K0_202, L0_202, K0_203, L0_203, K0_204, L0_204, K0_205, L0_205, K0_206, L0_206, K0_207, L0_207, K0_208, L0_208, K0_209, L0_209, K0_210, L0_210, K0_211, L0_211, K0_212, L0_212, K0_213, L0_213, K0_214, L0_214, K0_215, L0_215, K0_216, L0_216, K0_217, L0_217, K0_218, L0_218, K0_219, L0_219, K0_220, L0_220, K0_221, L0_221, K0_222, L0_222, K0_223, L0_223, K0_224, L0_224, K0_225, L0_225, K0_226, L0_226, K0_227, L0_227, K0_228, L0_228, K0_229, L0_229, K0_230, L0_230, K0_231, L0_231, K0_232, L0_232, K0_233, L0_233, K0_234, L0_234, K0_235, L0_235, K0_236, L0_236, K0_237, L0_237, K0_238, L0_238, K0_239, L0_239, K0_240, L0_240, R0_0, R0_2, R0_6, R0_12, R0_14, R0_15, R0_16, R0_17, R0_18, R0_19, R0_20, R0_21, R0_22, R0_23, R0_24, R0_25, R0_30, R0_31, R0_32, R0_34, R0_36, R0_43, R0_44, R0_45, R0_47, R0_48, R0_49, R0_50, R0_53, R0_55, R0_57, R0_59, R0_60, R0_62, R0_63, R0_64, R0_65, R0_66, R0_67, R0_69, R0_70, R0_71, R0_72]
              refine w_ret ⟨hSN, fun _ => rfl, fun ls h => ?_⟩
              rw [hR] at h; cases h
            | some m =>
              rw [hD] at hR
              obtain ⟨hv, hV2⟩ := hB _ hD
              subst hv
              simp -implicitDefEqProofs (disch := omega) only [fX13_streams_B104, fX13_streams_L138, fX13_streams_L173, e3, qk, f37, eg, e1, bo_s, bd_s, bn_s, gI_s, gJ_s, gR_s, pI_s, pZ_s, pJ_s, pR_s, chk_s, chN_s, chN_n, aL_s, aI_c, aJ_c, aR_c, wI_c, wB_c, wS_c, wZ_c, wJ_c, wR_c, mK_sI, mK_sJ, mK_sR, mK_cpI, mL_sI, mL_sJ, mL_sR, mL_cpI, mI_sI, mI_sJ, mI_sR, mI_cpI, mJ_sI, mJ_sJ, mJ_sR, mJ_cpI, mR_sI, mR_sJ, mR_sR, mR_cpI, i2b_i2b, i2b_sb, iI_lit, iI_add, iI_sub, iI_mul, iI_neg, iI_lt, iI_le, iI_eq, iI_J, lt_T, lt_F, le_T, le_F, eq_T, eq_F, eqN_T, eqN_F, leN_T, leN_F, ltN_T, ltN_F, if_true, if_false, and_true, true_and, and_false, false_and, or_true, true_or, or_false, false_or, not_true_eq_false, not_false_eq_true, and_self, or_self, tn_c, ne_eq, dite_true, dite_false, K0_198, K0_199, L0_199, K0_200, L0_200, K0_201, L0_201, K0_202, L0_202, K0_203, L0_203, K0_204, L0_204, K0_205, L0_205, K0_206, L0_206, K0_207, L0_207, K0_208, L0_208, K0_209, L0_209, K0_210, L0_210, K0_211, L0_211, K0_212, L0_212, K0_213, L0_213, K0_214, L0_214, K0_215, L0_215, K0_216, L0_216, K0_217, L0_217, K0_218, L0_218, K0_219, L0_219, K0_220, L0_220, K0_221, L0_221, K0_222, L0_222, K0_223, L0_223, K0_224, L0_224, K0_225, L0_225, K0_226, L0_226, K0_227, L0_227, K0_228, L0_228, K0_229, L0_229, K0_230, L0_230, K0_231, L0_231, K0_232, L0_232, K0_233, L0_233, K0_234, L0_234, K0_235, L0_235, K0_236, L0_236, K0_237, L0_237, K0_238, L0_238, K0_239, L0_239, K0_240, L0_240, R0_0, R0_2, R0_6, R0_12, R0_14, R0_15, R0_16, R0_17, R0_18, R0_19, R0_20, R0_21, R0_22, R0_23, R0_24, R0_25, R0_30, R0_31, R0_32, R0_34, R0_36, R0_43, R0_44, R0_45, R0_47, R0_48, R0_49, R0_50, R0_53, R0_55, R0_57, R0_59, R0_60, R0_62, R0_63, R0_64, R0_65, R0_66, R0_67, R0_69, R0_70, R0_71, R0_72]
              refine ih 0 _ _ (by omega) ⟨hSN, Or.inr ⟨rfl, _, _, hR, fun i hi => ?_, rfl⟩⟩
              by_cases h3 : i < 3 * E
              · rw [if_pos h3, hS2.I 218 i (by unfold WSm; omega)]
                exact hV i (by omega)
              · rw [if_neg h3]
                have := hV2 (i - 3 * E) (by omega)
                rwa [show 3 * E + (i - 3 * E) = i by omega] at this
          · have pk1 : pF u a (k + 1) = pF u a k + num u (a + 2 * k) 2 := rfl
            have pm2 := pF_m u a (show k + 1 ≤ 3 by omega)
            have mm := mE_m E (show k + 1 ≤ 3 by omega)
            have mk1 : mE E (k + 1) = mE E k + E := rfl
            have e1 := eightU (f := a + 2 * k) (k := 2) hq hb' hu (by omega) (by omega)
            rw [show ((2 : Nat) : Int) = 2 from rfl, show ((a + 2 * k : Nat) : Int) = (a : Int) + 2 * k by omega] at e1
            have hn2 := num2 hu (a + 2 * k)
            have ek : (pF u a k : Int) + (num u (a + 2 * k) 2 : Nat) = (pF u a (k + 1) : Nat) := by rw [pk1]; omega
            have em := mE_i E k
            obtain ⟨v, N, e2, hS2, hA, hB⟩ := mstream_ok (f := pF u a k) (g := pF u a (k + 1)) (first := mE E k) (n := E) hq hb' hu (by omega) (by omega) hcM' hcR (by omega)
            have hSN : Sq (WSm 0 cnt) M N := hS.tr (hS2.weak (by unfold WSm; omega))
            have hF2 : rdF u a C E (k + 1) = match rdS u (pF u a k) (pF u a (k + 1)) C E with
                | none => none
                | some m => some (fun i => if i < mE E k then l i else m (i - mE E k)) := by rw [rdF, hF]; rfl
            cases hD : rdS u (pF u a k) (pF u a (k + 1)) C E with
            | none =>
              rw [hD] at hF2
              have h3n := rdF_n hF2 (3 - (k + 1))
              rw [show k + 1 + (3 - (k + 1)) = 3 by omega] at h3n
              rw [h3n] at hR
              have hv := hA hD
              subst hv
              simp -implicitDefEqProofs (disch := omega) only [fX13_streams_B104, fX13_streams_L138, fX13_streams_L173, qk, ql, qr, e1, iJ_I, ek, em, e2, rtZ, bo_s, bd_s, bn_s, gI_s, gJ_s, gR_s, pI_s, pZ_s, pJ_s, pR_s, chk_s, chN_s, chN_n, aL_s, aI_c, aJ_c, aR_c, wI_c, wB_c, wS_c, wZ_c, wJ_c, wR_c, mK_sI, mK_sJ, mK_sR, mK_cpI, mL_sI, mL_sJ, mL_sR, mL_cpI, mI_sI, mI_sJ, mI_sR, mI_cpI, mJ_sI, mJ_sJ, mJ_sR, mJ_cpI, mR_sI, mR_sJ, mR_sR, mR_cpI, i2b_i2b, i2b_sb, iI_lit, iI_add, iI_sub, iI_mul, iI_neg, iI_lt, iI_le, iI_eq, iI_J, lt_T, lt_F, le_T, le_F, eq_T, eq_F, eqN_T, eqN_F, leN_T, leN_F, ltN_T, ltN_F, if_true, if_false, and_true, true_and, and_false, false_and, or_true, true_or, or_false, false_or, not_true_eq_false, not_false_eq_true, and_self, or_self, tn_c, ne_eq, dite_true, dite_false, K0_198, K0_199, L0_199, K0_200, L0_200, K0_201, L0_201, K0_202, L0_202, K0_203, L0_203, K0_204, L0_204, K0_205, L0_205, K0_206, L0_206, K0_207, L0_207, K0_208, L0_208, K0_209, L0_209, K0_210, L0_210, K0_211, L0_211, K0_212, L0_212, K0_213, L0_213, K0_214, L0_214, K0_215, L0_215, K0_216, L0_216, K0_217, L0_217, K0_218, L0_218, K0_219, L0_219, K0_220, L0_220, K0_221, L0_221, K0_222, L0_222, K0_223, L0_223, K0_224, L0_224, K0_225, L0_225, K0_226, L0_226, K0_227, L0_227, K0_228, L0_228, K0_229, L0_229, K0_230, L0_230, K0_231, L0_231, K0_232, L0_232, K0_233, L0_233, K0_234, L0_234, K0_235, L0_235, K0_236, L0_236, K0_237, L0_237, K0_238, L0_238, K0_239, L0_239, K0_240, L0_240, R0_0, R0_2, R0_6, R0_12, R0_14, R0_15, R0_16, R0_17, R0_18, R0_19, R0_20, R0_21, R0_22, R0_23, R0_24, R0_25, R0_30, R0_31, R0_32, R0_34, R0_36, R0_43, R0_44, R0_45, R0_47, R0_48, R0_49, R0_50, R0_53, R0_55, R0_57, R0_59, R0_60, R0_62, R0_63, R0_64, R0_65, R0_66, R0_67, R0_69, R0_70, R0_71, R0_72]
              refine w_ret ⟨hSN, fun _ => rfl, fun ls h => ?_⟩
              rw [hR] at h; cases h
            | some m =>
              rw [hD] at hF2
              obtain ⟨hv, hV2⟩ := hB _ hD
              subst hv
              simp -implicitDefEqProofs (disch := omega) only [fX13_streams_B104, fX13_streams_L138, fX13_streams_L173, qk, ql, qr, e1, iJ_I, ek, em, e2, bo_s, bd_s, bn_s, gI_s, gJ_s, gR_s, pI_s, pZ_s, pJ_s, pR_s, chk_s, chN_s, chN_n, aL_s, aI_c, aJ_c, aR_c, wI_c, wB_c, wS_c, wZ_c, wJ_c, wR_c, mK_sI, mK_sJ, mK_sR, mK_cpI, mL_sI, mL_sJ, mL_sR, mL_cpI, mI_sI, mI_sJ, mI_sR, mI_cpI, mJ_sI, mJ_sJ, mJ_sR, mJ_cpI, mR_sI, mR_sJ, mR_sR, mR_cpI, i2b_i2b, i2b_sb, iI_lit, iI_add, iI_sub, iI_mul, iI_neg, iI_lt, iI_le, iI_eq, iI_J, lt_T, lt_F, le_T, le_F, eq_T, eq_F, eqN_T, eqN_F, leN_T, leN_F, ltN_T, ltN_F, if_true, if_false, and_true, true_and, and_false, false_and, or_true, true_or, or_false, false_or, not_true_eq_false, not_false_eq_true, and_self, or_self, tn_c, ne_eq, dite_true, dite_false, K0_198, K0_199, L0_199, K0_200, L0_200, K0_201, L0_201, K0_202, L0_202, K0_203, L0_203, K0_204, L0_204, K0_205, L0_205, K0_206, L0_206, K0_207, L0_207, K0_208, L0_208, K0_209, L0_209, K0_210, L0_210, K0_211, L0_211, K0_212, L0_212, K0_213, L0_213, K0_214, L0_214, K0_215, L0_215, K0_216, L0_216, K0_217, L0_217, K0_218, L0_218, K0_219, L0_219, K0_220, L0_220, K0_221, L0_221, K0_222, L0_222, K0_223, L0_223, K0_224, L0_224, K0_225, L0_225, K0_226, L0_226, K0_227, L0_227, K0_228, L0_228, K0_229, L0_229, K0_230, L0_230, K0_231, L0_231, K0_232, L0_232, K0_233, L0_233, K0_234, L0_234, K0_235, L0_235, K0_236, L0_236, K0_237, L0_237, K0_238, L0_238, K0_239, L0_239, K0_240, L0_240, R0_0, R0_2, R0_6, R0_12, R0_14, R0_15, R0_16, R0_17, R0_18, R0_19, R0_20, R0_21, R0_22, R0_23, R0_24, R0_25, R0_30, R0_31, R0_32, R0_34, R0_36, R0_43, R0_44, R0_45, R0_47, R0_48, R0_49, R0_50, R0_53, R0_55, R0_57, R0_59, R0_60, R0_62, R0_63, R0_64, R0_65, R0_66, R0_67, R0_69, R0_70, R0_71, R0_72]
              refine ih (d - 1) _ _ (by omega) ⟨hSN, Or.inl ⟨k + 1, _, by omega, by omega, hF2, fun i hi => ?_, rfl⟩⟩
              by_cases h3 : i < mE E k
              · rw [if_pos h3, hS2.I 218 i (by unfold WSm; omega)]
                exact hV i h3
              · rw [if_neg h3]
                have := hV2 (i - mE E k) (by omega)
                rwa [show mE E k + (i - mE E k) = i by omega] at this
        · show Wp (fX13_streams_B104 q (some 198) (iI a) (iI g) (iI (E : Nat)) y (iI 4) O) _
          rw [fX13_streams_B104, iI_lit, if_pos (by rw [iI_le (by omega) (by omega)]; omega), rtZ, if_pos (Or.inr rfl)]
          refine w_ret ⟨hS, fun h => (by rw [hls] at h; cases h), fun ls' h => ?_⟩
          rw [hls] at h
          cases h
          exact ⟨rfl, hV⟩
end MFOUR
