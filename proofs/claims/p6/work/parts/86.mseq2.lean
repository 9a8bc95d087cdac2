/-! one SEQUENCE: the reference's -/
abbrev MB (M : Mem) (ff blk t cnt us : Nat) (old w ls : Nat → Nat) : Prop := mI M 198 33 = iI (ff + blk : Nat) ∧ mI M 198 39 = iI ff ∧ mI M 198 35 = iI (t - blk : Nat) ∧ mI M 198 37 = iI cnt ∧ mI M 198 38 = iI us ∧ (∀ i, i < ff + blk → mI M 216 i = sb (frW old w ff i)) ∧ (∀ i, i < t - blk → mI M 217 i = sb (w (blk + i))) ∧ ∀ i, i < cnt → mI M 218 i = sb (ls i)
abbrev MF (M : Mem) (lim span cs d : Nat) (ct : Nat → Nat) : Prop := mI M 198 42 = iI lim ∧ mJ M 198 41 = iJ span ∧ mI M 198 40 = iI d ∧ d ≤ 1 ∧ (d = 0 → cs = 0) ∧ (d = 1 → mI M 198 26 = iI cs ∧ ∀ i, i < cs → mI M 213 i = sb (ct i))
def NTm (M : Mem) (ts : Nat) (nt : Nat → Nat → Int) : Prop := mI M 221 4 = iI ts ∧ mI M 198 46 = iI (min ts 2000 : Nat) ∧ ∀ i, i < ts → i < 2000 → mI M 222 i = iI (nt i 0) ∧ mI M 223 i = iI (nt i 1) ∧ mI M 224 i = iI (nt i 2) ∧ mI M 225 i = iI (nt i 3)
section MSEQ2
variable {M : Mem} {ff blk t cnt us lim span cs d ts v cp n : Nat} {old w ls ct r : Nat → Nat} {nt : Nat → Nat → Int}
theorem cmp_ge {a b : Int} (ha : -9223372036854775808 ≤ a ∧ a < 9223372036854775808) (hb : -9223372036854775808 ≤ b ∧ b < 9223372036854775808) : (iI 0 ≤ lg_cmp (iJ a) (iJ b)) = (b ≤ a) := by
  rw [cmp_eq ha hb]
  by_cases h1 : b < a
  · rw [if_pos h1, iI_le (by omega) (by omega)]
    exact propext (by omega)
  · rw [if_neg h1]
    by_cases h2 : a = b
    · rw [if_pos h2, iI_le (by omega) (by omega)]
      exact propext (by omega)
    · rw [if_neg h2, iI_le (by omega) (by omega)]
      exact propext (by omega)
abbrev WCp (a j : Nat) : Prop := (a = 198 ∧ (j = 35 ∨ j = 38)) ∨ a = 217
/-- the end of one: it is noted -/
theorem mnote_ok {off : Nat} {g : Option Nat × Int32 × Int32 × Int64 × Int64 × Int32 → Mem → Option (Unit × Mem)} (hT : RSt M) (hN : NTm M ts nt) (hts : ts < 900000000) (hcp : cp < 1000000) :
    Wp (fX13_sequence_B278 g (some 198) (iI n) (iI cp) (iJ v) (iJ off) (iI cp) M) fun _ N => Sq (fun a j => (a = 198 ∧ j = 46) ∨ (a = 221 ∧ j = 4) ∨ (222 ≤ a ∧ a ≤ 225)) M N ∧ NTm N (ts + 1) (ntK nt ts n cp v off) := by
  have qk := hT.k
  have ql := hT.l
  have qr := hT.r
  obtain ⟨h1, h2, h3⟩ := hN
  have m4 : (4 : Int).toNat = 4 := rfl
  by_cases c : ts < 2000
  · rw [show min ts 2000 = ts by omega] at h2
    simp -implicitDefEqProofs (disch := (first | decide | omega)) only [fX13_sequence_B278, fX13_sequence_L465, qk, ql, qr, h2, iJ_I, m4, h1, bo_s, bd_s, bn_s, gI_s, gJ_s, gR_s, pI_s, pZ_s, pJ_s, pR_s, chk_s, chN_s, chN_n, aL_s, aI_c, aJ_c, aR_c, wI_c, wB_c, wS_c, wZ_c, wJ_c, wR_c, mK_sI, mK_sJ, mK_sR, mK_cpI, mL_sI, mL_sJ, mL_sR, mL_cpI, mI_sI, mI_sJ, mI_sR, mI_cpI, mJ_sI, mJ_sJ, mJ_sR, mJ_cpI, mR_sI, mR_sJ, mR_sR, mR_cpI, i2b_i2b, i2b_sb, iI_lit, iI_add, iI_sub, iI_mul, iI_neg, iI_lt, iI_le, iI_eq, iI_J, lt_T, lt_F, le_T, le_F, eq_T, eq_F, eqN_T, eqN_F, leN_T, leN_F, ltN_T, ltN_F, if_true, if_false, and_true, true_and, and_false, false_and, or_true, true_or, or_false, false_or, not_true_eq_false, not_false_eq_true, and_self, or_self, tn_c, ne_eq, dite_true, dite_false, K0_198, K0_199, L0_199, K0_200, L0_200, K0_201, L0_201, K0_202, L0_202, K0_203, L0_203, K0_204, L0_204, K0_205, L0_205, K0_206, L0_206, K0_207, L0_207, K0_208, L0_208, K0_209, L0_209, K0_210, L0_210, K0_211, L0_211, K0_212, L0_212, K0_213, L0_213, K0_214, L0_214, K0_215, L0_215, K0_216, L0_216, K0_217, L0_217, K0_218, L0_218, K0_219, L0_219, K0_220, L0_220, K0_221, L0_221, K0_222, L0_222, K0_223, L0_223, K0_224, L0_224, K0_225, L0_225, K0_226, L0_226, K0_227, L0_227, K0_228, L0_228, K0_229, L0_229, K0_230, L0_230, K0_231, L0_231, K0_232, L0_232, K0_233, L0_233, K0_234, L0_234, K0_235, L0_235, K0_236, L0_236, K0_237, L0_237, K0_238, L0_238, K0_239, L0_239, K0_240, L0_240, R0_0, R0_2, R0_6, R0_12, R0_14, R0_15, R0_16, R0_17, R0_18, R0_19, R0_20, R0_21, R0_22, R0_23, R0_24, R0_25, R0_30, R0_31, R0_32, R0_34, R0_36, R0_43, R0_44, R0_45, R0_47, R0_48, R0_49, R0_50, R0_53, R0_55, R0_57, R0_59, R0_60, R0_62, R0_63, R0_64, R0_65, R0_66, R0_67, R0_69, R0_70, R0_71, R0_72]
    refine w_ret ⟨?_, ?_, ?_, fun i hi hi2 => ?_⟩
    · refine Sq.sI (Sq.sI (Sq.sI (Sq.sI (Sq.sI (Sq.sI Sq.rf ?_) ?_) ?_) ?_) ?_) ?_ <;> omega
    · simp -implicitDefEqProofs (disch := (first | decide | omega)) only [mK_sI, mK_sJ, mK_sR, mK_cpI, mL_sI, mL_sJ, mL_sR, mL_cpI, mI_sI, mI_sJ, mI_sR, mI_cpI, mJ_sI, mJ_sJ, mJ_sR, mJ_cpI, mR_sI, mR_sJ, mR_sR, mR_cpI, eqN_T, eqN_F, if_true, if_false, and_true, true_and, and_false, false_and, or_true, true_or, or_false, false_or, not_true_eq_false, not_false_eq_true, and_self, or_self, tn_c, ne_eq, dite_true, dite_false]
      rfl
    · simp -implicitDefEqProofs (disch := (first | decide | omega)) only [mK_sI, mK_sJ, mK_sR, mK_cpI, mL_sI, mL_sJ, mL_sR, mL_cpI, mI_sI, mI_sJ, mI_sR, mI_cpI, mJ_sI, mJ_sJ, mJ_sR, mJ_cpI, mR_sI, mR_sJ, mR_sR, mR_cpI, eqN_T, eqN_F, if_true, if_false, and_true, true_and, and_false, false_and, or_true, true_or, or_false, false_or, not_true_eq_false, not_false_eq_true, and_self, or_self, tn_c, ne_eq, dite_true, dite_false]
      rw [show min (ts + 1) 2000 = ts + 1 by omega]
      rfl
    · unfold ntK
      by_cases ei : i = ts
      · subst ei
        rw [if_pos rfl, if_pos rfl, if_pos rfl, if_pos rfl, if_pos rfl, if_neg (by omega), if_pos rfl, if_neg (by omega), if_neg (by omega), if_pos rfl, if_neg (by omega), if_neg (by omega), if_neg (by omega)]
        refine ⟨?_, ?_, ?_, ?_⟩ <;> simp -implicitDefEqProofs (disch := (first | decide | omega)) only [mK_sI, mK_sJ, mK_sR, mK_cpI, mL_sI, mL_sJ, mL_sR, mL_cpI, mI_sI, mI_sJ, mI_sR, mI_cpI, mJ_sI, mJ_sJ, mJ_sR, mJ_cpI, mR_sI, mR_sJ, mR_sR, mR_cpI, eqN_T, eqN_F, if_true, if_false, and_true, true_and, and_false, false_and, or_true, true_or, or_false, false_or, not_true_eq_false, not_false_eq_true, and_self, or_self, tn_c, ne_eq, dite_true, dite_false]
      · rw [if_neg ei, if_neg ei, if_neg ei, if_neg ei]
        obtain ⟨a1, a2, a3, a4⟩ := h3 i (by omega) hi2
        refine ⟨?_, ?_, ?_, ?_⟩ <;> simp -implicitDefEqProofs (disch := (first | decide | omega)) only [mK_sI, mK_sJ, mK_sR, mK_cpI, mL_sI, mL_sJ, mL_sR, mL_cpI, mI_sI, mI_sJ, mI_sR, mI_cpI, mJ_sI, mJ_sJ, mJ_sR, mJ_cpI, mR_sI, mR_sJ, mR_sR, mR_cpI, eqN_T, eqN_F, if_true, if_false, and_true, true_and, and_false, false_and, or_true, true_or, or_false, false_or, not_true_eq_false, not_false_eq_true, and_self, or_self, tn_c, ne_eq, dite_true, dite_false] <;> assumption
  · rw [show min ts 2000 = 2000 by omega, show ((2000 : Nat) : Int) = 2000 from rfl] at h2
    simp -implicitDefEqProofs (disch := (first | decide | omega)) only [fX13_sequence_B278, fX13_sequence_L465, qk, ql, qr, h2, m4, h1, bo_s, bd_s, bn_s, gI_s, gJ_s, gR_s, pI_s, pZ_s, pJ_s, pR_s, chk_s, chN_s, chN_n, aL_s, aI_c, aJ_c, aR_c, wI_c, wB_c, wS_c, wZ_c, wJ_c, wR_c, mK_sI, mK_sJ, mK_sR, mK_cpI, mL_sI, mL_sJ, mL_sR, mL_cpI, mI_sI, mI_sJ, mI_sR, mI_cpI, mJ_sI, mJ_sJ, mJ_sR, mJ_cpI, mR_sI, mR_sJ, mR_sR, mR_cpI, i2b_i2b, i2b_sb, iI_lit, iI_add, iI_sub, iI_mul, iI_neg, iI_lt, iI_le, iI_eq, iI_J, lt_T, lt_F, le_T, le_F, eq_T, eq_F, eqN_T, eqN_F, leN_T, leN_F, ltN_T, ltN_F, if_true, if_false, and_true, true_and, and_false, false_and, or_true, true_or, or_false, false_or, not_true_eq_false, not_false_eq_true, and_self, or_self, tn_c, ne_eq, dite_true, dite_false, K0_198, K0_199, L0_199, K0_200, L0_200, K0_201, L0_201, K0_202, L0_202, K0_203, L0_203, K0_204, L0_204, K0_205, L0_205, K0_206, L0_206, K0_207, L0_207, K0_208, L0_208, K0_209, L0_209, K0_210, L0_210, K0_211, L0_211, K0_212, L0_212, K0_213, L0_213, K0_214, L0_214, K0_215, L0_215, K0_216, L0_216, K0_217, L0_217, K0_218, L0_218, K0_219, L0_219, K0_220, L0_220, K0_221, L0_221, K0_222, L0_222, K0_223, L0_223, K0_224, L0_224, K0_225, L0_225, K0_226, L0_226, K0_227, L0_227, K0_228, L0_228, K0_229, L0_229, K0_230, L0_230, K0_231, L0_231, K0_232, L0_232, K0_233, L0_233, K0_234, L0_234, K0_235, L0_235, K0_236, L0_236, K0_237, L0_237, K0_238, L0_238, K0_239, L0_239, K0_240, L0_240, R0_0, R0_2, R0_6, R0_12, R0_14, R0_15, R0_16, R0_17, R0_18, R0_19, R0_20, R0_21, R0_22, R0_23, R0_24, R0_25, R0_30, R0_31, R0_32, R0_34, R0_36, R0_43, R0_44, R0_45, R0_47, R0_48, R0_49, R0_50, R0_53, R0_55, R0_57, R0_59, R0_60, R0_62, R0_63, R0_64, R0_65, R0_66, R0_67, R0_69, R0_70, R0_71, R0_72]
    refine w_ret ⟨Sq.sI Sq.rf (by omega), ?_, ?_, fun i hi hi2 => ?_⟩
    · simp -implicitDefEqProofs (disch := (first | decide | omega)) only [mK_sI, mK_sJ, mK_sR, mK_cpI, mL_sI, mL_sJ, mL_sR, mL_cpI, mI_sI, mI_sJ, mI_sR, mI_cpI, mJ_sI, mJ_sJ, mJ_sR, mJ_cpI, mR_sI, mR_sJ, mR_sR, mR_cpI, eqN_T, eqN_F, if_true, if_false, and_true, true_and, and_false, false_and, or_true, true_or, or_false, false_or, not_true_eq_false, not_false_eq_true, and_self, or_self, tn_c, ne_eq, dite_true, dite_false]
      rfl
    · simp -implicitDefEqProofs (disch := (first | decide | omega)) only [mK_sI, mK_sJ, mK_sR, mK_cpI, mL_sI, mL_sJ, mL_sR, mL_cpI, mI_sI, mI_sJ, mI_sR, mI_cpI, mJ_sI, mJ_sJ, mJ_sR, mJ_cpI, mR_sI, mR_sJ, mR_sR, mR_cpI, eqN_T, eqN_F, if_true, if_false, and_true, true_and, and_false, false_and, or_true, true_or, or_false, false_or, not_true_eq_false, not_false_eq_true, and_self, or_self, tn_c, ne_eq, dite_true, dite_false]
      rw [h2, show min (ts + 1) 2000 = 2000 by omega]
      rfl
    · unfold ntK
      rw [if_neg (by omega), if_neg (by omega), if_neg (by omega), if_neg (by omega)]
      obtain ⟨a1, a2, a3, a4⟩ := h3 i (by omega) hi2
      refine ⟨?_, ?_, ?_, ?_⟩ <;> simp -implicitDefEqProofs (disch := (first | decide | omega)) only [mK_sI, mK_sJ, mK_sR, mK_cpI, mL_sI, mL_sJ, mL_sR, mL_cpI, mI_sI, mI_sJ, mI_sR, mI_cpI, mJ_sI, mJ_sJ, mJ_sR, mJ_cpI, mR_sI, mR_sJ, mR_sR, mR_cpI, eqN_T, eqN_F, if_true, if_false, and_true, true_and, and_false, false_and, or_true, true_or, or_false, false_or, not_true_eq_false, not_false_eq_true, and_self, or_self, tn_c, ne_eq, dite_true, dite_false] <;> assumption
end MSEQ2
