/-! LETTERS with a CODE: the reference's -/
section MLETT2
variable {M : Mem} {e a g lim : Nat} {u : Nat → Nat} {c0 : Option Cd}
set_option maxHeartbeats 4000000 in
theorem mlett387 {N : Mem} {C : Cd} {sp f : Nat} (hT : RSt M) (hb : BV M 199 8000 e u) (hu : ∀ i, u i < 256) (hg : enL u a ≤ e) (hS : Sq WLm M N) (h4 : mI N 198 4 = iI 0) (h37 : mI N 198 37 = iI (cnL u a : Nat)) (hc : cnL u a ≤ 131072) (hf : f < 4) (hsp : sp < 900000) (hnx : nxL u a + flL u a = enL u a) (hk : MKd N (some C)) (hLt : ltC u a g lim c0 = some C) (hR : ltR u a g lim c0 = rsS u sp (enL u a) C (cnL u a) f) :
    Wp (fX13_lettersFrom_L387 (some 198) (iI f) (iI (nxL u a : Nat)) (iI (flL u a : Nat)) (iI sp) N) (LQm M u a g lim c0) := by
  have g3 := hb.2.2.1
  have hq := hT.q hS
  have qk := hq.k
  have hcR := (hk.2 C rfl).1
  have hcM := (hk.2 C rfl).2
  have hb' := hb.sm hS.sm (by unfold WLm TC WY; omega)
  have eg : (nxL u a : Int) + (flL u a : Nat) = (enL u a : Nat) := by omega
  have last : ∀ b4 : Nat, b4 ≤ 1 → rsS u sp (enL u a) C (cnL u a) b4 = rsS u sp (enL u a) C (cnL u a) f → Wp (fX13_lettersFrom_L405 (some 198) (iI (nxL u a : Nat)) (iI (flL u a : Nat)) (iI sp) (some 198) (iI sp) (iI (enL u a : Nat)) (iI b4) N) (LQm M u a g lim c0) := by
    intro b4 h1 h2
    rw [← h2] at hR
    obtain ⟨v, O, e1, hS2, hA, hB⟩ := streams_ok (a := sp) (g := enL u a) (cnt := cnL u a) (b4 := b4) hq hb' hu hg hsp hcM hcR h37 hc h1
    have hSO : Sq WLm M O := hS.tr (hS2.weak fun a j h => by
      rcases h with ⟨rfl, h⟩ | ⟨rfl, h⟩
      · exact Or.inl ⟨rfl, by omega⟩
      · exact Or.inr (Or.inr (Or.inr (Or.inr rfl))))
    have hkO : MKd O (some C) := hk.sq hS2 ⟨by unfold WSm; omega, by unfold WSm; omega, by unfold WSm; omega⟩
    have nk := (hT.q hSO).k
    have o4 := (hS2.I 198 4 (by unfold WSm; omega)).trans h4
    have n0 : mK O 198 = 13 := nk 198 (by omega) (by omega)
    cases hD : rsS u sp (enL u a) C (cnL u a) b4 with
    | none =>
      have hv := hA hD
      subst hv
      have e2 := fails_ok n0 o4 (iI 13) (iI sp)
      simp -implicitDefEqProofs (disch := omega) only [fX13_lettersFrom_L405, fX13_lettersFrom_L420, qk, e1, nk, e2, bo_s, bd_s, bn_s, gI_s, gJ_s, gR_s, pI_s, pZ_s, pJ_s, pR_s, chk_s, chN_s, chN_n, aL_s, aI_c, aJ_c, aR_c, wI_c, wB_c, wS_c, wZ_c, wJ_c, wR_c, mK_sI, mK_sJ, mK_sR, mK_cpI, mL_sI, mL_sJ, mL_sR, mL_cpI, mI_sI, mI_sJ, mI_sR, mI_cpI, mJ_sI, mJ_sJ, mJ_sR, mJ_cpI, mR_sI, mR_sJ, mR_sR, mR_cpI, i2b_i2b, i2b_sb, iI_lit, iI_add, iI_sub, iI_mul, iI_neg, iI_lt, iI_le, iI_eq, iI_J, lt_T, lt_F, le_T, le_F, eq_T, eq_F, eqN_T, eqN_F, leN_T, leN_F, ltN_T, ltN_F, if_true, if_false, and_true, true_and, and_false, false_and, or_true, true_or, or_false, false_or, not_true_eq_false, not_false_eq_true, and_self, or_self, tn_c, ne_eq, dite_true, dite_false, K0_198, K0_199, L0_199, K0_200, L0_200, K0_201, L0_201, K0_202, L0_202, K0_203, L0_203, K0_204, L0_204, K0_205, L0_205, K0_206, L0_206, K0_207, L0_207, K0_208, L0_208, K0_209, L0_209, K0_210, L0_210, K0_211, L0_211, K0_212, L0_212, K0_213, L0_213, K0_214, L0_214, K0_215, L0_215, K0_216, L0_216, K0_217, L0_217, K0_218, L0_218, K0_219, L0_219, K0_220, L0_220, K0_221, L0_221, K0_222, L0_222, K0_223, L0_223, K0_224, L0_224, K0_225, L0_225, K0_226, L0_226, K0_227, L0_227, K0_228, L0_228, K0_229, L0_229, K0_230, L0_230, K0_231, L0_231, K0_232, L0_232, K0_233, L0_233, K0_234, L0_234, K0_235, L0_235, K0_236, L0_236, K0_237, L0_237, K0_238, L0_238, K0_239, L0_239, K0_240, L0_240, R0_0, R0_2, R0_6, R0_12, R0_14, R0_15, R0_16, R0_17, R0_18, R0_19, R0_20, R0_21, R0_22, R0_23, R0_24, R0_25, R0_30, R0_31, R0_32, R0_34, R0_36, R0_43, R0_44, R0_45, R0_47, R0_48, R0_49, R0_50, R0_53, R0_55, R0_57, R0_59, R0_60, R0_62, R0_63, R0_64, R0_65, R0_66, R0_67, R0_69, R0_70, R0_71, R0_72]
      exact w_ret (lq_bad hSO (by rw [hLt]; exact hkO) (hR.trans hD) _ 13 _ (by omega))
    | some ls =>
      obtain ⟨hv, hV⟩ := hB _ hD
      subst hv
      simp -implicitDefEqProofs (disch := omega) only [fX13_lettersFrom_L405, fX13_lettersFrom_L420, qk, e1, nk, eg, bo_s, bd_s, bn_s, gI_s, gJ_s, gR_s, pI_s, pZ_s, pJ_s, pR_s, chk_s, chN_s, chN_n, aL_s, aI_c, aJ_c, aR_c, wI_c, wB_c, wS_c, wZ_c, wJ_c, wR_c, mK_sI, mK_sJ, mK_sR, mK_cpI, mL_sI, mL_sJ, mL_sR, mL_cpI, mI_sI, mI_sJ, mI_sR, mI_cpI, mJ_sI, mJ_sJ, mJ_sR, mJ_cpI, mR_sI, mR_sJ, mR_sR, mR_cpI, i2b_i2b, i2b_sb, iI_lit, iI_add, iI_sub, iI_mul, iI_neg, iI_lt, iI_le, iI_eq, iI_J, lt_T, lt_F, le_T, le_F, eq_T, eq_F, eqN_T, eqN_F, leN_T, leN_F, ltN_T, ltN_F, if_true, if_false, and_true, true_and, and_false, false_and, or_true, true_or, or_false, false_or, not_true_eq_false, not_false_eq_true, and_self, or_self, tn_c, ne_eq, dite_true, dite_false, K0_198, K0_199, L0_199, K0_200, L0_200, K0_201, L0_201, K0_202, L0_202, K0_203, L0_203, K0_204, L0_204, K0_205, L0_205, K0_206, L0_206, K0_207, L0_207, K0_208, L0_208, K0_209, L0_209, K0_210, L0_210, K0_211, L0_211, K0_212, L0_212, K0_213, L0_213, K0_214, L0_214, K0_215, L0_215, K0_216, L0_216, K0_217, L0_217, K0_218, L0_218, K0_219, L0_219, K0_220, L0_220, K0_221, L0_221, K0_222, L0_222, K0_223, L0_223, K0_224, L0_224, K0_225, L0_225, K0_226, L0_226, K0_227, L0_227, K0_228, L0_228, K0_229, L0_229, K0_230, L0_230, K0_231, L0_231, K0_232, L0_232, K0_233, L0_233, K0_234, L0_234, K0_235, L0_235, K0_236, L0_236, K0_237, L0_237, K0_238, L0_238, K0_239, L0_239, K0_240, L0_240, R0_0, R0_2, R0_6, R0_12, R0_14, R0_15, R0_16, R0_17, R0_18, R0_19, R0_20, R0_21, R0_22, R0_23, R0_24, R0_25, R0_30, R0_31, R0_32, R0_34, R0_36, R0_43, R0_44, R0_45, R0_47, R0_48, R0_49, R0_50, R0_53, R0_55, R0_57, R0_59, R0_60, R0_62, R0_63, R0_64, R0_65, R0_66, R0_67, R0_69, R0_70, R0_71, R0_72]
      exact w_ret ⟨hSO, by rw [hLt]; exact hkO, Or.inr ⟨ls, hR.trans hD, rfl, o4, (hS2.I 198 37 (by unfold WSm; omega)).trans h37, hV⟩⟩
  by_cases c : f = 0
  · have := last 0 (by omega) (by rw [c])
    rw [show ((0 : Nat) : Int) = 0 from rfl] at this
    simp -implicitDefEqProofs (disch := omega) only [fX13_lettersFrom_L387, eg, bo_s, bd_s, bn_s, gI_s, gJ_s, gR_s, pI_s, pZ_s, pJ_s, pR_s, chk_s, chN_s, chN_n, aL_s, aI_c, aJ_c, aR_c, wI_c, wB_c, wS_c, wZ_c, wJ_c, wR_c, mK_sI, mK_sJ, mK_sR, mK_cpI, mL_sI, mL_sJ, mL_sR, mL_cpI, mI_sI, mI_sJ, mI_sR, mI_cpI, mJ_sI, mJ_sJ, mJ_sR, mJ_cpI, mR_sI, mR_sJ, mR_sR, mR_cpI, i2b_i2b, i2b_sb, iI_lit, iI_add, iI_sub, iI_mul, iI_neg, iI_lt, iI_le, iI_eq, iI_J, lt_T, lt_F, le_T, le_F, eq_T, eq_F, eqN_T, eqN_F, leN_T, leN_F, ltN_T, ltN_F, if_true, if_false, and_true, true_and, and_false, false_and, or_true, true_or, or_false, false_or, not_true_eq_false, not_false_eq_true, and_self, or_self, tn_c, ne_eq, dite_true, dite_false, K0_198, K0_199, L0_199, K0_200, L0_200, K0_201, L0_201, K0_202, L0_202, K0_203, L0_203, K0_204, L0_204, K0_205, L0_205, K0_206, L0_206, K0_207, L0_207, K0_208, L0_208, K0_209, L0_209, K0_210, L0_210, K0_211, L0_211, K0_212, L0_212, K0_213, L0_213, K0_214, L0_214, K0_215, L0_215, K0_216, L0_216, K0_217, L0_217, K0_218, L0_218, K0_219, L0_219, K0_220, L0_220, K0_221, L0_221, K0_222, L0_222, K0_223, L0_223, K0_224, L0_224, K0_225, L0_225, K0_226, L0_226, K0_227, L0_227, K0_228, L0_228, K0_229, L0_229, K0_230, L0_230, K0_231, L0_231, K0_232, L0_232, K0_233, L0_233, K0_234, L0_234, K0_235, L0_235, K0_236, L0_236, K0_237, L0_237, K0_238, L0_238, K0_239, L0_239, K0_240, L0_240, R0_0, R0_2, R0_6, R0_12, R0_14, R0_15, R0_16, R0_17, R0_18, R0_19, R0_20, R0_21, R0_22, R0_23, R0_24, R0_25, R0_30, R0_31, R0_32, R0_34, R0_36, R0_43, R0_44, R0_45, R0_47, R0_48, R0_49, R0_50, R0_53, R0_55, R0_57, R0_59, R0_60, R0_62, R0_63, R0_64, R0_65, R0_66, R0_67, R0_69, R0_70, R0_71, R0_72]
    exact this
  · have := last 1 (by omega) (by unfold rsS; rw [if_neg (by omega), if_neg c])
    rw [show ((1 : Nat) : Int) = 1 from rfl] at this
    simp -implicitDefEqProofs (disch := omega) only [fX13_lettersFrom_L387, eg, bo_s, bd_s, bn_s, gI_s, gJ_s, gR_s, pI_s, pZ_s, pJ_s, pR_s, chk_s, chN_s, chN_n, aL_s, aI_c, aJ_c, aR_c, wI_c, wB_c, wS_c, wZ_c, wJ_c, wR_c, mK_sI, mK_sJ, mK_sR, mK_cpI, mL_sI, mL_sJ, mL_sR, mL_cpI, mI_sI, mI_sJ, mI_sR, mI_cpI, mJ_sI, mJ_sJ, mJ_sR, mJ_cpI, mR_sI, mR_sJ, mR_sR, mR_cpI, i2b_i2b, i2b_sb, iI_lit, iI_add, iI_sub, iI_mul, iI_neg, iI_lt, iI_le, iI_eq, iI_J, lt_T, lt_F, le_T, le_F, eq_T, eq_F, eqN_T, eqN_F, leN_T, leN_F, ltN_T, ltN_F, if_true, if_false, and_true, true_and, and_false, false_and, or_true, true_or, or_false, false_or, not_true_eq_false, not_false_eq_true, and_self, or_self, tn_c, ne_eq, dite_true, dite_false, K0_198, K0_199, L0_199, K0_200, L0_200, K0_201, L0_201, K0_202, L0_202, K0_203, L0_203, K0_204, L0_204, K0_205, L0_205, K0_206, L0_206, K0_207, L0_207, K0_208, L0_208, K0_209, L0_209, K0_210, L0_210, K0_211, L0_211, K0_212, L0_212, K0_213, L0_213, K0_214, L0_214, K0_215, L0_215, K0_216, L0_216, K0_217, L0_217, K0_218, L0_218, K0_219, L0_219, K0_220, L0_220, K0_221, L0_221, K0_222, L0_222, K0_223, L0_223, K0_224, L0_224, K0_225, L0_225, K0_226, L0_226, K0_227, L0_227, K0_228, L0_228, K0_229, L0_229, K0_230, L0_230, K0_231, L0_231, K0_232, L0_232, K0_233, L0_233, K0_234, L0_234, K0_235, L0_235, K0_236, L0_236, K0_237, L0_237, K0_238, L0_238, K0_239, L0_239, K0_240, L0_240, R0_0, R0_2, R0_6, R0_12, R0_14, R0_15, R0_16, R0_17, R0_18, R0_19, R0_20, R0_21, R0_22, R0_23, R0_24, R0_25, R0_30, R0_31, R0_32, R0_34, R0_36, R0_43, R0_44, R0_45, R0_47, R0_48, R0_49, R0_50, R0_53, R0_55, R0_57, R0_59, R0_60, R0_62, R0_63, R0_64, R0_65, R0_66, R0_67, R0_69, R0_70, R0_71, R0_72]
    exact this
set_option maxHeartbeats 4000000 in
theorem mlett348 {N : Mem} (hT : RSt M) (hb : BV M 199 8000 e u) (hu : ∀ i, u i < 256) (hg : g ≤ e) (hS : Sq (fun a j => a = 198 ∧ j = 37) M N) (h4 : mI N 198 4 = iI 0) (h37 : mI N 198 37 = iI (cnL u a : Nat)) (hlim : lim ≤ 131072) (hL : LH u a g lim) (hk : MKd N c0) (h2 : 2 ≤ u a % 4) (h3 : u a % 4 = 3 → c0.isSome) :
    Wp (fX13_lettersFrom_L348 (some 198) (iI a) (iI (u a % 4 : Nat)) (iI (u a / 4 % 4 : Nat)) (iI (nxL u a : Nat)) (iI (flL u a : Nat)) N) (LQm M u a g lim c0) := by
  have g3 := hb.2.2.1
  have hq := hT.q hS
  have qk := hq.k
  have hb' := hb.sm hS.sm (by omega)
  have hen : nxL u a + flL u a = enL u a := rfl
  have heg : enL u a ≤ g := hL.2.2.2
  have hcn := hL.2.2.1
  have eg : (nxL u a : Int) + (flL u a : Nat) = (enL u a : Nat) := by omega
  have hSL : Sq WLm M N := hS.weak fun a j h => Or.inl ⟨h.1, by omega⟩
  by_cases c2 : u a % 4 = 2
  · obtain ⟨v, O, e1, hA, hB⟩ := code_ok (t := 0) (a := nxL u a) (g := enL u a) hq (by omega) hb' hu (by omega) (by omega)
    rw [show ((0 : Nat) : Int) = 0 from rfl] at e1
    cases hW : rdW u (nxL u a) (enL u a) with
    | none =>
      obtain ⟨hv, hS2⟩ := hA hW
      subst hv
      have hLt : ltC u a g lim c0 = c0 := by unfold ltC; rw [if_pos ⟨hL, c2⟩, hW]
      have hRt : ltR u a g lim c0 = none := by unfold ltR; rw [if_neg (fun h => h hL), if_neg (by omega), if_neg (by omega), if_neg (by omega), hW]
      have hSO : Sq WLm M O := hSL.tr (hS2.weak fun a j h => by
        rcases h with ⟨rfl, h⟩ | rfl | h | rfl
        · exact Or.inl ⟨rfl, by omega⟩
        · exact Or.inr (Or.inl rfl)
        · exact Or.inr (Or.inr (Or.inl h))
        · exact Or.inr (Or.inr (Or.inr (Or.inl (Or.inl rfl)))))
      have nk := (hT.q hSO).k
      have o4 := (hS2.I 198 4 (by unfold WX TC; omega)).trans h4
      have e2 := fails_ok (nk 198 (by omega) (by omega)) o4 (iI 11) (iI (nxL u a : Nat))
      rw [c2, show ((2 : Nat) : Int) = 2 from rfl]
      simp -implicitDefEqProofs (disch := omega) only [fX13_lettersFrom_L348, qk, eg, e1, nk, e2, bo_s, bd_s, bn_s, gI_s, gJ_s, gR_s, pI_s, pZ_s, pJ_s, pR_s, chk_s, chN_s, chN_n, aL_s, aI_c, aJ_c, aR_c, wI_c, wB_c, wS_c, wZ_c, wJ_c, wR_c, mK_sI, mK_sJ, mK_sR, mK_cpI, mL_sI, mL_sJ, mL_sR, mL_cpI, mI_sI, mI_sJ, mI_sR, mI_cpI, mJ_sI, mJ_sJ, mJ_sR, mJ_cpI, mR_sI, mR_sJ, mR_sR, mR_cpI, i2b_i2b, i2b_sb, iI_lit, iI_add, iI_sub, iI_mul, iI_neg, iI_lt, iI_le, iI_eq, iI_J, lt_T, lt_F, le_T, le_F, eq_T, eq_F, eqN_T, eqN_F, leN_T, leN_F, ltN_T, ltN_F, if_true, if_false, and_true, true_and, and_false, false_and, or_true, true_or, or_false, false_or, not_true_eq_false, not_false_eq_true, and_self, or_self, tn_c, ne_eq, dite_true, dite_false, K0_198, K0_199, L0_199, K0_200, L0_200, K0_201, L0_201, K0_202, L0_202, K0_203, L0_203, K0_204, L0_204, K0_205, L0_205, K0_206, L0_206, K0_207, L0_207, K0_208, L0_208, K0_209, L0_209, K0_210, L0_210, K0_211, L0_211, K0_212, L0_212, K0_213, L0_213, K0_214, L0_214, K0_215, L0_215, K0_216, L0_216, K0_217, L0_217, K0_218, L0_218, K0_219, L0_219, K0_220, L0_220, K0_221, L0_221, K0_222, L0_222, K0_223, L0_223, K0_224, L0_224, K0_225, L0_225, K0_226, L0_226, K0_227, L0_227, K0_228, L0_228, K0_229, L0_229, K0_230, L0_230, K0_231, L0_231, K0_232, L0_232, K0_233, L0_233, K0_234, L0_234, K0_235, L0_235, K0_236, L0_236, K0_237, L0_237, K0_238, L0_238, K0_239, L0_239, K0_240, L0_240, R0_0, R0_2, R0_6, R0_12, R0_14, R0_15, R0_16, R0_17, R0_18, R0_19, R0_20, R0_21, R0_22, R0_23, R0_24, R0_25, R0_30, R0_31, R0_32, R0_34, R0_36, R0_43, R0_44, R0_45, R0_47, R0_48, R0_49, R0_50, R0_53, R0_55, R0_57, R0_59, R0_60, R0_62, R0_63, R0_64, R0_65, R0_66, R0_67, R0_69, R0_70, R0_71, R0_72]
      exact w_ret (lq_bad hSO (by rw [hLt]; exact hk.sq hS2 ⟨by unfold WX TC; omega, by unfold WX TC; omega, by unfold WX TC; omega⟩) hRt _ 11 _ (by omega))
    | some x =>
      obtain ⟨p, m, k, w⟩ := x
      obtain ⟨hv, hS2, hC⟩ := hB _ _ _ _ hW
      subst hv
      obtain ⟨w1, w2, w3⟩ := rdW_ok hW hu
      have hLt : ltC u a g lim c0 = some (cdOf m k w) := by unfold ltC; rw [if_pos ⟨hL, c2⟩, hW]
      have hRt : ltR u a g lim c0 = rsS u p (enL u a) (cdOf m k w) (cnL u a) (u a / 4 % 4) := by unfold ltR; rw [if_neg (fun h => h hL), if_neg (by omega), if_neg (by omega), if_neg (by omega), hW]
      have hSO : Sq WLm M O := hSL.tr (hS2.weak fun a j h => by
        rcases h with (⟨rfl, h⟩ | rfl | h | rfl) | h
        · exact Or.inl ⟨rfl, by omega⟩
        · exact Or.inr (Or.inl rfl)
        · exact Or.inr (Or.inr (Or.inl h))
        · exact Or.inr (Or.inr (Or.inr (Or.inl (Or.inl rfl))))
        · exact Or.inr (Or.inr (Or.inr (Or.inl h))))
      have this := mlett387 (f := u a / 4 % 4) (sp := p) hT hb hu (by omega) hSO ((hS2.I 198 4 (by unfold WX TC WY; omega)).trans h4) ((hS2.I 198 37 (by unfold WX TC WY; omega)).trans h37) (by omega) (by omega) (by omega) hen (C := cdOf m k w) ⟨hC.1, fun C' hC' => by cases hC'; exact ⟨cdOf_R w3, hC⟩⟩ hLt hRt
      have nk := (hT.q hSO).k
      rw [c2, show ((2 : Nat) : Int) = 2 from rfl]
      simp -implicitDefEqProofs (disch := omega) only [fX13_lettersFrom_L348, qk, eg, e1, bo_s, bd_s, bn_s, gI_s, gJ_s, gR_s, pI_s, pZ_s, pJ_s, pR_s, chk_s, chN_s, chN_n, aL_s, aI_c, aJ_c, aR_c, wI_c, wB_c, wS_c, wZ_c, wJ_c, wR_c, mK_sI, mK_sJ, mK_sR, mK_cpI, mL_sI, mL_sJ, mL_sR, mL_cpI, mI_sI, mI_sJ, mI_sR, mI_cpI, mJ_sI, mJ_sJ, mJ_sR, mJ_cpI, mR_sI, mR_sJ, mR_sR, mR_cpI, i2b_i2b, i2b_sb, iI_lit, iI_add, iI_sub, iI_mul, iI_neg, iI_lt, iI_le, iI_eq, iI_J, lt_T, lt_F, le_T, le_F, eq_T, eq_F, eqN_T, eqN_F, leN_T, leN_F, ltN_T, ltN_F, if_true, if_false, and_true, true_and, and_false, false_and, or_true, true_or, or_false, false_or, not_true_eq_false, not_false_eq_true, and_self, or_self, tn_c, ne_eq, dite_true, dite_false, K0_198, K0_199, L0_199, K0_200, L0_200, K0_201, L0_201, K0_202, L0_202, K0_203, L0_203, K0_204, L0_204, K0_205, L0_205, K0_206, L0_206, K0_207, L0_207, K0_208, L0_208, K0_209, L0_209, K0_210, L0_210, K0_211, L0_211, K0_212, L0_212, K0_213, L0_213, K0_214, L0_214, K0_215, L0_215, K0_216, L0_216, K0_217, L0_217, K0_218, L0_218, K0_219, L0_219, K0_220, L0_220, K0_221, L0_221, K0_222, L0_222, K0_223, L0_223, K0_224, L0_224, K0_225, L0_225, K0_226, L0_226, K0_227, L0_227, K0_228, L0_228, K0_229, L0_229, K0_230, L0_230, K0_231, L0_231, K0_232, L0_232, K0_233, L0_233, K0_234, L0_234, K0_235, L0_235, K0_236, L0_236, K0_237, L0_237, K0_238, L0_238, K0_239, L0_239, K0_240, L0_240, R0_0, R0_2, R0_6, R0_12, R0_14, R0_15, R0_16, R0_17, R0_18, R0_19, R0_20, R0_21, R0_22, R0_23, R0_24, R0_25, R0_30, R0_31, R0_32, R0_34, R0_36, R0_43, R0_44, R0_45, R0_47, R0_48, R0_49, R0_50, R0_53, R0_55, R0_57, R0_59, R0_60, R0_62, R0_63, R0_64, R0_65, R0_66, R0_67, R0_69, R0_70, R0_71, R0_72]
      exact this
  · have c3 : u a % 4 = 3 := by omega
    obtain ⟨C, hC⟩ := Option.isSome_iff_exists.mp (h3 c3)
    have hLt : ltC u a g lim c0 = some C := by unfold ltC; rw [if_neg (fun h => c2 h.2), hC]
    have hRt : ltR u a g lim c0 = rsS u (nxL u a) (enL u a) C (cnL u a) (u a / 4 % 4) := by unfold ltR; rw [if_neg (fun h => h hL), if_neg (by omega), if_neg (by omega), if_pos c3, hC]
    have this := mlett387 (f := u a / 4 % 4) (sp := nxL u a) hT hb hu (by omega) hSL h4 h37 (by omega) (by omega) (by omega) hen (C := C) (by rw [← hC]; exact hk) hLt hRt
    rw [c3, show ((3 : Nat) : Int) = 3 from rfl]
    simp -implicitDefEqProofs (disch := omega) only [fX13_lettersFrom_L348, bo_s, bd_s, bn_s, gI_s, gJ_s, gR_s, pI_s, pZ_s, pJ_s, pR_s, chk_s, chN_s, chN_n, aL_s, aI_c, aJ_c, aR_c, wI_c, wB_c, wS_c, wZ_c, wJ_c, wR_c, mK_sI, mK_sJ, mK_sR, mK_cpI, mL_sI, mL_sJ, mL_sR, mL_cpI, mI_sI, mI_sJ, mI_sR, mI_cpI, mJ_sI, mJ_sJ, mJ_sR, mJ_cpI, mR_sI, mR_sJ, mR_sR, mR_cpI, i2b_i2b, i2b_sb, iI_lit, iI_add, iI_sub, iI_mul, iI_neg, iI_lt, iI_le, iI_eq, iI_J, lt_T, lt_F, le_T, le_F, eq_T, eq_F, eqN_T, eqN_F, leN_T, leN_F, ltN_T, ltN_F, if_true, if_false, and_true, true_and, and_false, false_and, or_true, true_or, or_false, false_or, not_true_eq_false, not_false_eq_true, and_self, or_self, tn_c, ne_eq, dite_true, dite_false, K0_198, K0_199, L0_199, K0_200, L0_200, K0_201, L0_201, K0_202, L0_202, K0_203, L0_203, K0_204, L0_204, K0_205, L0_205, K0_206, L0_206, K0_207, L0_207, K0_208, L0_208, K0_209, L0_209, K0_210, L0_210, K0_211, L0_211, K0_212, L0_212, K0_213, L0_213, K0_214, L0_214, K0_215, L0_215, K0_216, L0_216, K0_217, L0_217, K0_218, L0_218, K0_219, L0_219, K0_220, L0_220, K0_221, L0_221, K0_222, L0_222, K0_223, L0_223, K0_224, L0_224, K0_225, L0_225, K0_226, L0_226, K0_227, L0_227, K0_228, L0_228, K0_229, L0_229, K0_230, L0_230, K0_231, L0_231, K0_232, L0_232, K0_233, L0_233, K0_234, L0_234, K0_235, L0_235, K0_236, L0_236, K0_237, L0_237, K0_238, L0_238, K0_239, L0_239, K0_240, L0_240, R0_0, R0_2, R0_6, R0_12, R0_14, R0_15, R0_16, R0_17, R0_18, R0_19, R0_20, R0_21, R0_22, R0_23, R0_24, R0_25, R0_30, R0_31, R0_32, R0_34, R0_36, R0_43, R0_44, R0_45, R0_47, R0_48, R0_49, R0_50, R0_53, R0_55, R0_57, R0_59, R0_60, R0_62, R0_63, R0_64, R0_65, R0_66, R0_67, R0_69, R0_70, R0_71, R0_72]
    exact this
set_option maxHeartbeats 4000000 in
theorem mlett259 {N : Mem} {w : Nat} (hT : RSt M) (hb : BV M 199 8000 e u) (hu : ∀ i, u i < 256) (hg : g ≤ e) (hN : N = M) (h4 : mI M 198 4 = iI 0) (h42 : mI M 198 42 = iI lim) (hlim : lim ≤ 131072) (hag : a < g) (hnx : nxL u a ≤ g) (hk : MKd M c0) (h2 : 2 ≤ u a % 4) (hw : w = wdL (u a / 4 % 4)) :
    Wp (fX13_lettersFrom_L259 (some 198) (iI a) (iI g) (iI (u a % 4 : Nat)) (iI (u a / 4 % 4 : Nat)) (iJ (vL u a : Nat)) (iI (nxL u a : Nat)) (iI w) N) (LQm M u a g lim c0) := by
  subst hN
  have g3 := hb.2.2.1
  have qk0 := hT.k
  have qr0 := hT.r
  have ql0 := hT.l
  have hv40 := vL_40 hu a
  have hwr := wdL_r (u a / 4 % 4)
  have e2 := shrJ_n (a := vL u a) (k := 4) (by omega) (by omega)
  have e3 := shrJ_n (a := vL u a) (k := 4 + w) (by omega) (by omega)
  rw [show ((4 : Nat) : Int) = 4 from rfl] at e2
  rw [show ((4 + w : Nat) : Int) = (4 : Int) + w by omega] at e3
  have e4 := mskJ (x := vL u a / 2 ^ 4) (w := w) (by omega)
  have e6 := mskJ (x := vL u a / 2 ^ (4 + w)) (w := w) (by omega)
  have e5 : (1 : Int64) = iJ 1 := iJ_lit 1
  have ecn : vL u a / 2 ^ 4 % 2 ^ w = cnL u a := by unfold cnL; rw [if_neg (by omega), ← hw]
  have efl : vL u a / 2 ^ (4 + w) % 2 ^ w = flL u a := by
    have hfl : flL u a = vL u a / 2 ^ (4 + w) := by unfold flL; rw [if_neg (by omega), if_neg (by omega), ← hw]
    rw [hfl]
    refine Nat.mod_eq_of_lt ?_
    rcases vL_lt hu a with h | h
    · rw [← hw] at h
      have h2 : 2 ^ (4 + 2 * w) = 2 ^ (4 + w) * 2 ^ w := by rw [← Nat.pow_add]; congr 1; omega
      rw [h2] at h
      exact Nat.div_lt_of_lt_mul h
    · omega
  rw [ecn] at e4
  rw [efl] at e6
  have hc := cnL_lt hu a
  have hf := flL_lt hu a
  clear ecn efl hw hwr
  obtain ⟨P, hP⟩ : ∃ P, sI N 198 37 (iI (cnL u a : Nat)) = P := ⟨_, rfl⟩
  have hS : Sq (fun a j => a = 198 ∧ j = 37) N P := by rw [← hP]; exact Sq.rf.sI ⟨rfl, rfl⟩
  have hq := hT.q hS
  have qk := hq.k
  have ql := hq.l
  have qr := hq.r
  have p37 : mI P 198 37 = iI (cnL u a : Nat) := by rw [← hP]; simp -implicitDefEqProofs (disch := omega) only [mK_sI, mK_sJ, mK_sR, mK_cpI, mL_sI, mL_sJ, mL_sR, mL_cpI, mI_sI, mI_sJ, mI_sR, mI_cpI, mJ_sI, mJ_sJ, mJ_sR, mJ_cpI, mR_sI, mR_sJ, mR_sR, mR_cpI, eqN_T, eqN_F, if_true, if_false, and_true, true_and, and_false, false_and, or_true, true_or, or_false, false_or, not_true_eq_false, not_false_eq_true, and_self, or_self, tn_c, ne_eq, dite_true, dite_false]
  have p4 := (hS.I 198 4 (by omega)).trans h4
  have p42 := (hS.I 198 42 (by omega)).trans h42
  have hkP := hk.sq hS ⟨by omega, by omega, by omega⟩
  have hSL : Sq WLm N P := hS.weak fun a j h => Or.inl ⟨h.1, by omega⟩
  have k0 : mK P 198 = 13 := qk 198 (by omega) (by omega)
  have bad : ¬ LH u a g lim → Wp (fX13_lettersFrom_L314 (some 198) (iI a) P) (LQm N u a g lim c0) := fun hL => by
    have e1 := fails_ok k0 p4 (iI 10) (iI a)
    have hLt : ltC u a g lim c0 = c0 := by unfold ltC; rw [if_neg (fun h => hL h.1)]
    simp -implicitDefEqProofs (disch := omega) only [fX13_lettersFrom_L314, qk, e1, bo_s, bd_s, bn_s, gI_s, gJ_s, gR_s, pI_s, pZ_s, pJ_s, pR_s, chk_s, chN_s, chN_n, aL_s, aI_c, aJ_c, aR_c, wI_c, wB_c, wS_c, wZ_c, wJ_c, wR_c, mK_sI, mK_sJ, mK_sR, mK_cpI, mL_sI, mL_sJ, mL_sR, mL_cpI, mI_sI, mI_sJ, mI_sR, mI_cpI, mJ_sI, mJ_sJ, mJ_sR, mJ_cpI, mR_sI, mR_sJ, mR_sR, mR_cpI, i2b_i2b, i2b_sb, iI_lit, iI_add, iI_sub, iI_mul, iI_neg, iI_lt, iI_le, iI_eq, iI_J, lt_T, lt_F, le_T, le_F, eq_T, eq_F, eqN_T, eqN_F, leN_T, leN_F, ltN_T, ltN_F, if_true, if_false, and_true, true_and, and_false, false_and, or_true, true_or, or_false, false_or, not_true_eq_false, not_false_eq_true, and_self, or_self, tn_c, ne_eq, dite_true, dite_false, K0_198, K0_199, L0_199, K0_200, L0_200, K0_201, L0_201, K0_202, L0_202, K0_203, L0_203, K0_204, L0_204, K0_205, L0_205, K0_206, L0_206, K0_207, L0_207, K0_208, L0_208, K0_209, L0_209, K0_210, L0_210, K0_211, L0_211, K0_212, L0_212, K0_213, L0_213, K0_214, L0_214, K0_215, L0_215, K0_216, L0_216, K0_217, L0_217, K0_218, L0_218, K0_219, L0_219, K0_220, L0_220, K0_221, L0_221, K0_222, L0_222, K0_223, L0_223, K0_224, L0_224, K0_225, L0_225, K0_226, L0_226, K0_227, L0_227, K0_228, L0_228, K0_229, L0_229, K0_230, L0_230, K0_231, L0_231, K0_232, L0_232, K0_233, L0_233, K0_234, L0_234, K0_235, L0_235, K0_236, L0_236, K0_237, L0_237, K0_238, L0_238, K0_239, L0_239, K0_240, L0_240, R0_0, R0_2, R0_6, R0_12, R0_14, R0_15, R0_16, R0_17, R0_18, R0_19, R0_20, R0_21, R0_22, R0_23, R0_24, R0_25, R0_30, R0_31, R0_32, R0_34, R0_36, R0_43, R0_44, R0_45, R0_47, R0_48, R0_49, R0_50, R0_53, R0_55, R0_57, R0_59, R0_60, R0_62, R0_63, R0_64, R0_65, R0_66, R0_67, R0_69, R0_70, R0_71, R0_72]
    exact w_ret (lq_bad hSL (by rw [hLt]; exact hkP) (by unfold ltR; rw [if_pos hL]) _ 10 _ (by omega))
  by_cases c1 : lim < cnL u a
  · have := bad (fun h => by omega)
    simp -implicitDefEqProofs (disch := omega) only [fX13_lettersFrom_L259, qk0, qr0, h42, e2, e3, e5, e4, e6, iJ_I, hP, qk, p37, p42, bo_s, bd_s, bn_s, gI_s, gJ_s, gR_s, pI_s, pZ_s, pJ_s, pR_s, chk_s, chN_s, chN_n, aL_s, aI_c, aJ_c, aR_c, wI_c, wB_c, wS_c, wZ_c, wJ_c, wR_c, mK_sI, mK_sJ, mK_sR, mK_cpI, mL_sI, mL_sJ, mL_sR, mL_cpI, mI_sI, mI_sJ, mI_sR, mI_cpI, mJ_sI, mJ_sJ, mJ_sR, mJ_cpI, mR_sI, mR_sJ, mR_sR, mR_cpI, i2b_i2b, i2b_sb, iI_lit, iI_add, iI_sub, iI_mul, iI_neg, iI_lt, iI_le, iI_eq, iI_J, lt_T, lt_F, le_T, le_F, eq_T, eq_F, eqN_T, eqN_F, leN_T, leN_F, ltN_T, ltN_F, if_true, if_false, and_true, true_and, and_false, false_and, or_true, true_or, or_false, false_or, not_true_eq_false, not_false_eq_true, and_self, or_self, tn_c, ne_eq, dite_true, dite_false, K0_198, K0_199, L0_199, K0_200, L0_200, K0_201, L0_201, K0_202, L0_202, K0_203, L0_203, K0_204, L0_204, K0_205, L0_205, K0_206, L0_206, K0_207, L0_207, K0_208, L0_208, K0_209, L0_209, K0_210, L0_210, K0_211, L0_211, K0_212, L0_212, K0_213, L0_213, K0_214, L0_214, K0_215, L0_215, K0_216, L0_216, K0_217, L0_217, K0_218, L0_218, K0_219, L0_219, K0_220, L0_220, K0_221, L0_221, K0_222, L0_222, K0_223, L0_223, K0_224, L0_224, K0_225, L0_225, K0_226, L0_226, K0_227, L0_227, K0_228, L0_228, K0_229, L0_229, K0_230, L0_230, K0_231, L0_231, K0_232, L0_232, K0_233, L0_233, K0_234, L0_234, K0_235, L0_235, K0_236, L0_236, K0_237, L0_237, K0_238, L0_238, K0_239, L0_239, K0_240, L0_240, R0_0, R0_2, R0_6, R0_12, R0_14, R0_15, R0_16, R0_17, R0_18, R0_19, R0_20, R0_21, R0_22, R0_23, R0_24, R0_25, R0_30, R0_31, R0_32, R0_34, R0_36, R0_43, R0_44, R0_45, R0_47, R0_48, R0_49, R0_50, R0_53, R0_55, R0_57, R0_59, R0_60, R0_62, R0_63, R0_64, R0_65, R0_66, R0_67, R0_69, R0_70, R0_71, R0_72]
    exact this
  · by_cases c2 : nxL u a + flL u a ≤ g
    · have hL : LH u a g lim := ⟨hag, hnx, by omega, c2⟩
      by_cases c3 : u a % 4 = 3
      · have hk1 := hkP.1
        have hk2 := hk.1
        cases hc0 : c0 with
        | none =>
          rw [hc0] at hk1 hk2
          have hk1 : mI P 209 0 = iI 0 := hk1
          have hk2 : mI N 209 0 = iI 0 := hk2
          have hLt : ltC u a g lim c0 = c0 := by unfold ltC; rw [if_neg (fun h => by omega)]
          have hRt : ltR u a g lim c0 = none := by unfold ltR; rw [if_neg (fun h => h hL), if_neg (by omega), if_neg (by omega), if_pos c3, hc0]
          have e1 := fails_ok k0 p4 (iI 12) (iI a)
          have mz : (0 : Int).toNat = 0 := rfl
          rw [c3, show ((3 : Nat) : Int) = 3 from rfl, ← hc0]
          simp -implicitDefEqProofs (disch := omega) only [fX13_lettersFrom_L259, qk0, qr0, h42, e2, e3, e5, e4, e6, iJ_I, hP, qk, ql, qr, p37, p42, mz, hk1, hk2, ql0, e1, bo_s, bd_s, bn_s, gI_s, gJ_s, gR_s, pI_s, pZ_s, pJ_s, pR_s, chk_s, chN_s, chN_n, aL_s, aI_c, aJ_c, aR_c, wI_c, wB_c, wS_c, wZ_c, wJ_c, wR_c, mK_sI, mK_sJ, mK_sR, mK_cpI, mL_sI, mL_sJ, mL_sR, mL_cpI, mI_sI, mI_sJ, mI_sR, mI_cpI, mJ_sI, mJ_sJ, mJ_sR, mJ_cpI, mR_sI, mR_sJ, mR_sR, mR_cpI, i2b_i2b, i2b_sb, iI_lit, iI_add, iI_sub, iI_mul, iI_neg, iI_lt, iI_le, iI_eq, iI_J, lt_T, lt_F, le_T, le_F, eq_T, eq_F, eqN_T, eqN_F, leN_T, leN_F, ltN_T, ltN_F, if_true, if_false, and_true, true_and, and_false, false_and, or_true, true_or, or_false, false_or, not_true_eq_false, not_false_eq_true, and_self, or_self, tn_c, ne_eq, dite_true, dite_false, K0_198, K0_199, L0_199, K0_200, L0_200, K0_201, L0_201, K0_202, L0_202, K0_203, L0_203, K0_204, L0_204, K0_205, L0_205, K0_206, L0_206, K0_207, L0_207, K0_208, L0_208, K0_209, L0_209, K0_210, L0_210, K0_211, L0_211, K0_212, L0_212, K0_213, L0_213, K0_214, L0_214, K0_215, L0_215, K0_216, L0_216, K0_217, L0_217, K0_218, L0_218, K0_219, L0_219, K0_220, L0_220, K0_221, L0_221, K0_222, L0_222, K0_223, L0_223, K0_224, L0_224, K0_225, L0_225, K0_226, L0_226, K0_227, L0_227, K0_228, L0_228, K0_229, L0_229, K0_230, L0_230, K0_231, L0_231, K0_232, L0_232, K0_233, L0_233, K0_234, L0_234, K0_235, L0_235, K0_236, L0_236, K0_237, L0_237, K0_238, L0_238, K0_239, L0_239, K0_240, L0_240, R0_0, R0_2, R0_6, R0_12, R0_14, R0_15, R0_16, R0_17, R0_18, R0_19, R0_20, R0_21, R0_22, R0_23, R0_24, R0_25, R0_30, R0_31, R0_32, R0_34, R0_36, R0_43, R0_44, R0_45, R0_47, R0_48, R0_49, R0_50, R0_53, R0_55, R0_57, R0_59, R0_60, R0_62, R0_63, R0_64, R0_65, R0_66, R0_67, R0_69, R0_70, R0_71, R0_72]
          exact w_ret (lq_bad hSL (by rw [hLt]; exact hkP) hRt _ 12 _ (by omega))
        | some C =>
          rw [hc0] at hk1 hk2
          have hk1 : mI P 209 0 = iI 1 := hk1
          have hk2 : mI N 209 0 = iI 1 := hk2
          have := mlett348 (lim := lim) hT hb hu hg hS p4 p37 hlim hL hkP h2 (fun _ => by rw [hc0]; rfl)
          have mz : (0 : Int).toNat = 0 := rfl
          rw [c3, show ((3 : Nat) : Int) = 3 from rfl] at this ⊢
          rw [← hc0]
          simp -implicitDefEqProofs (disch := omega) only [fX13_lettersFrom_L259, qk0, qr0, h42, e2, e3, e5, e4, e6, iJ_I, hP, qk, ql, qr, p37, p42, mz, hk1, hk2, ql0, bo_s, bd_s, bn_s, gI_s, gJ_s, gR_s, pI_s, pZ_s, pJ_s, pR_s, chk_s, chN_s, chN_n, aL_s, aI_c, aJ_c, aR_c, wI_c, wB_c, wS_c, wZ_c, wJ_c, wR_c, mK_sI, mK_sJ, mK_sR, mK_cpI, mL_sI, mL_sJ, mL_sR, mL_cpI, mI_sI, mI_sJ, mI_sR, mI_cpI, mJ_sI, mJ_sJ, mJ_sR, mJ_cpI, mR_sI, mR_sJ, mR_sR, mR_cpI, i2b_i2b, i2b_sb, iI_lit, iI_add, iI_sub, iI_mul, iI_neg, iI_lt, iI_le, iI_eq, iI_J, lt_T, lt_F, le_T, le_F, eq_T, eq_F, eqN_T, eqN_F, leN_T, leN_F, ltN_T, ltN_F, if_true, if_false, and_true, true_and, and_false, false_and, or_true, true_or, or_false, false_or, not_true_eq_false, not_false_eq_true, and_self, or_self, tn_c, ne_eq, dite_true, dite_false, K0_198, K0_199, L0_199, K0_200, L0_200, K0_201, L0_201, K0_202, L0_202, K0_203, L0_203, K0_204, L0_204, K0_205, L0_205, K0_206, L0_206, K0_207, L0_207, K0_208, L0_208, K0_209, L0_209, K0_210, L0_210, K0_211, L0_211, K0_212, L0_212, K0_213, L0_213, K0_214, L0_214, K0_215, L0_215, K0_216, L0_216, K0_217, L0_217, K0_218, L0_218, K0_219, L0_219, K0_220, L0_220, K0_221, L0_221, K0_222, L0_222, K0_223, L0_223, K0_224, L0_224, K0_225, L0_225, K0_226, L0_226, K0_227, L0_227, K0_228, L0_228, K0_229, L0_229, K0_230, L0_230, K0_231, L0_231, K0_232, L0_232, K0_233, L0_233, K0_234, L0_234, K0_235, L0_235, K0_236, L0_236, K0_237, L0_237, K0_238, L0_238, K0_239, L0_239, K0_240, L0_240, R0_0, R0_2, R0_6, R0_12, R0_14, R0_15, R0_16, R0_17, R0_18, R0_19, R0_20, R0_21, R0_22, R0_23, R0_24, R0_25, R0_30, R0_31, R0_32, R0_34, R0_36, R0_43, R0_44, R0_45, R0_47, R0_48, R0_49, R0_50, R0_53, R0_55, R0_57, R0_59, R0_60, R0_62, R0_63, R0_64, R0_65, R0_66, R0_67, R0_69, R0_70, R0_71, R0_72]
          exact this
      · have := mlett348 (lim := lim) hT hb hu hg hS p4 p37 hlim hL hkP h2 (fun h => absurd h c3)
        rw [show u a % 4 = 2 by omega, show ((2 : Nat) : Int) = 2 from rfl] at this ⊢
        simp -implicitDefEqProofs (disch := omega) only [fX13_lettersFrom_L259, qk0, qr0, h42, e2, e3, e5, e4, e6, iJ_I, hP, qk, p37, p42, bo_s, bd_s, bn_s, gI_s, gJ_s, gR_s, pI_s, pZ_s, pJ_s, pR_s, chk_s, chN_s, chN_n, aL_s, aI_c, aJ_c, aR_c, wI_c, wB_c, wS_c, wZ_c, wJ_c, wR_c, mK_sI, mK_sJ, mK_sR, mK_cpI, mL_sI, mL_sJ, mL_sR, mL_cpI, mI_sI, mI_sJ, mI_sR, mI_cpI, mJ_sI, mJ_sJ, mJ_sR, mJ_cpI, mR_sI, mR_sJ, mR_sR, mR_cpI, i2b_i2b, i2b_sb, iI_lit, iI_add, iI_sub, iI_mul, iI_neg, iI_lt, iI_le, iI_eq, iI_J, lt_T, lt_F, le_T, le_F, eq_T, eq_F, eqN_T, eqN_F, leN_T, leN_F, ltN_T, ltN_F, if_true, if_false, and_true, true_and, and_false, false_and, or_true, true_or, or_false, false_or, not_true_eq_false, not_false_eq_true, and_self, or_self, tn_c, ne_eq, dite_true, dite_false, K0_198, K0_199, L0_199, K0_200, L0_200, K0_201, L0_201, K0_202, L0_202, K0_203, L0_203, K0_204, L0_204, K0_205, L0_205, K0_206, L0_206, K0_207, L0_207, K0_208, L0_208, K0_209, L0_209, K0_210, L0_210, K0_211, L0_211, K0_212, L0_212, K0_213, L0_213, K0_214, L0_214, K0_215, L0_215, K0_216, L0_216, K0_217, L0_217, K0_218, L0_218, K0_219, L0_219, K0_220, L0_220, K0_221, L0_221, K0_222, L0_222, K0_223, L0_223, K0_224, L0_224, K0_225, L0_225, K0_226, L0_226, K0_227, L0_227, K0_228, L0_228, K0_229, L0_229, K0_230, L0_230, K0_231, L0_231, K0_232, L0_232, K0_233, L0_233, K0_234, L0_234, K0_235, L0_235, K0_236, L0_236, K0_237, L0_237, K0_238, L0_238, K0_239, L0_239, K0_240, L0_240, R0_0, R0_2, R0_6, R0_12, R0_14, R0_15, R0_16, R0_17, R0_18, R0_19, R0_20, R0_21, R0_22, R0_23, R0_24, R0_25, R0_30, R0_31, R0_32, R0_34, R0_36, R0_43, R0_44, R0_45, R0_47, R0_48, R0_49, R0_50, R0_53, R0_55, R0_57, R0_59, R0_60, R0_62, R0_63, R0_64, R0_65, R0_66, R0_67, R0_69, R0_70, R0_71, R0_72]
        exact this
    · have := bad (fun h => by omega)
      simp -implicitDefEqProofs (disch := omega) only [fX13_lettersFrom_L259, qk0, qr0, h42, e2, e3, e5, e4, e6, iJ_I, hP, qk, p37, p42, bo_s, bd_s, bn_s, gI_s, gJ_s, gR_s, pI_s, pZ_s, pJ_s, pR_s, chk_s, chN_s, chN_n, aL_s, aI_c, aJ_c, aR_c, wI_c, wB_c, wS_c, wZ_c, wJ_c, wR_c, mK_sI, mK_sJ, mK_sR, mK_cpI, mL_sI, mL_sJ, mL_sR, mL_cpI, mI_sI, mI_sJ, mI_sR, mI_cpI, mJ_sI, mJ_sJ, mJ_sR, mJ_cpI, mR_sI, mR_sJ, mR_sR, mR_cpI, i2b_i2b, i2b_sb, iI_lit, iI_add, iI_sub, iI_mul, iI_neg, iI_lt, iI_le, iI_eq, iI_J, lt_T, lt_F, le_T, le_F, eq_T, eq_F, eqN_T, eqN_F, leN_T, leN_F, ltN_T, ltN_F, if_true, if_false, and_true, true_and, and_false, false_and, or_true, true_or, or_false, false_or, not_true_eq_false, not_false_eq_true, and_self, or_self, tn_c, ne_eq, dite_true, dite_false, K0_198, K0_199, L0_199, K0_200, L0_200, K0_201, L0_201, K0_202, L0_202, K0_203, L0_203, K0_204, L0_204, K0_205, L0_205, K0_206, L0_206, K0_207, L0_207, K0_208, L0_208, K0_209, L0_209, K0_210, L0_210, K0_211, L0_211, K0_212, L0_212, K0_213, L0_213, K0_214, L0_214, K0_215, L0_215, K0_216, L0_216, K0_217, L0_217, K0_218, L0_218, K0_219, L0_219, K0_220, L0_220, K0_221, L0_221, K0_222, L0_222, K0_223, L0_223, K0_224, L0_224, K0_225, L0_225, K0_226, L0_226, K0_227, L0_227, K0_228, L0_228, K0_229, L0_229, K0_230, L0_230, K0_231, L0_231, K0_232, L0_232, K0_233, L0_233, K0_234, L0_234, K0_235, L0_235, K0_236, L0_236, K0_237, L0_237, K0_238, L0_238, K0_239, L0_239, K0_240, L0_240, R0_0, R0_2, R0_6, R0_12, R0_14, R0_15, R0_16, R0_17, R0_18, R0_19, R0_20, R0_21, R0_22, R0_23, R0_24, R0_25, R0_30, R0_31, R0_32, R0_34, R0_36, R0_43, R0_44, R0_45, R0_47, R0_48, R0_49, R0_50, R0_53, R0_55, R0_57, R0_59, R0_60, R0_62, R0_63, R0_64, R0_65, R0_66, R0_67, R0_69, R0_70, R0_71, R0_72]
      exact this
end MLETT2
