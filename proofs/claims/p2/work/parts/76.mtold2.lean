/-! a table of SEQUENCES is told: the reference's -/
section MTOLD2
variable {M : Mem} {e a g k md : Nat} {u : Nat → Nat} {tb : Nat → Option Tb}
abbrev MTq (M : Mem) (u : Nat → Nat) (md g k a : Nat) (tb : Nat → Option Tb) (v : Int32) (N : Mem) : Prop := Sq (WTm k) M N ∧ MTd N (rdKt u md g k a tb) ∧ (rdKa u md g k a tb = none → v = iI 0 ∧ ∃ z : Int, mI N 198 4 = iI z ∧ 0 < z ∧ z < 100) ∧ ∀ p, rdKa u md g k a tb = some p → v = iI 1 ∧ mI N 198 52 = iI p ∧ mI N 198 4 = iI 0
theorem MTd.set {N : Mem} {T : Tb} (hk : k < 3) (hM : MTd M tb) (hS : Sq (WTm k) M N) (hT : TG k T) (hV : TbM N k T) : MTd N (upT tb k (some T)) := by
  intro i hi
  unfold upT
  by_cases ei : i = k
  · subst ei
    rw [if_pos rfl]
    refine ⟨hV.2.1, fun T' hT' => ?_⟩
    cases hT'
    exact ⟨hT, hV⟩
  · rw [if_neg ei]
    obtain ⟨a1, a2⟩ := hM i hi
    refine ⟨(hS.I 206 i (by unfold WTm TC; omega)).trans a1, fun T' hT' => ?_⟩
    obtain ⟨b1, b2⟩ := a2 T' hT'
    have h9 : 2 ^ T'.1 ≤ 512 := pow_le2 (b := 9) b1.1.1
    exact ⟨b1, b2.sq hS ⟨by unfold WTm TC; omega, by unfold WTm TC; omega, fun q hq => ⟨by unfold WTm TC; omega, by unfold WTm TC; omega, by unfold WTm TC; omega⟩⟩⟩
theorem MTd.sq {N : Mem} {S : Nat → Nat → Prop} (hM : MTd M tb) (hS : Sq S M N) (h1 : ∀ i, i < 3 → ¬ S 205 i ∧ ¬ S 206 i) (h2 : ∀ j, j < 1536 → ¬ S 202 j ∧ ¬ S 203 j ∧ ¬ S 204 j) : MTd N tb := by
  intro i hi
  obtain ⟨a1, a2⟩ := hM i hi
  refine ⟨(hS.I 206 i (h1 i hi).2).trans a1, fun T' hT' => ?_⟩
  obtain ⟨b1, b2⟩ := a2 T' hT'
  have h9 : 2 ^ T'.1 ≤ 512 := pow_le2 (b := 9) b1.1.1
  exact ⟨b1, b2.sq hS ⟨(h1 i hi).1, (h1 i hi).2, fun q hq => h2 _ (by omega)⟩⟩
set_option maxHeartbeats 4000000 in
theorem toldTable_ok {st : Nat} (hT : RSt M) (hb : BV M 199 8000 e u) (hu : ∀ i, u i < 256) (hg : g ≤ e) (ha : a < 900000) (hk : k < 3) (h4 : mI M 198 4 = iI 0) (h52 : mI M 198 52 = iI a) (hM : MTd M tb) :
    Wp (fX13_toldTable (some 198) (iI k) (iI (mdK md k : Nat)) (iI st) (iI g) M) (MTq M u md g k a tb) := by
  have g3 := hb.2.2.1
  have qk := hT.k
  have ql := hT.l
  have qr := hT.r
  have hgr := grK_r k
  have hml := mlK_r k
  have hm4 : mdK md k < 4 := Nat.mod_lt _ (by omega)
  have k0 : mK M 198 = 13 := qk 198 (by omega) (by omega)
  have bad : ∀ {N : Mem} {z : Int} {y : Int32}, 0 < z → z < 100 → Sq (WTm k) M N → MTd N tb → rdKa u md g k a tb = none → rdKt u md g k a tb = tb → MTq M u md g k a tb (iI 0) (sI (sI N 198 4 (iI z)) 198 5 y) := by
    intro N z y hz1 hz2 hS hK h1 h2
    have hs : Sq (fun a j => a = 198) N (sI (sI N 198 4 (iI z)) 198 5 y) := Sq.sI (Sq.sI Sq.rf rfl) rfl
    refine ⟨Sq.sI (Sq.sI hS (Or.inl ⟨rfl, by omega⟩)) (Or.inl ⟨rfl, by omega⟩), ?_, fun _ => ⟨rfl, z, by simp -implicitDefEqProofs (disch := omega) only [mK_sI, mK_sJ, mK_sR, mK_cpI, mL_sI, mL_sJ, mL_sR, mL_cpI, mI_sI, mI_sJ, mI_sR, mI_cpI, mJ_sI, mJ_sJ, mJ_sR, mJ_cpI, mR_sI, mR_sJ, mR_sR, mR_cpI, eqN_T, eqN_F, if_true, if_false, and_true, true_and, and_false, false_and, or_true, true_or, or_false, false_or, not_true_eq_false, not_false_eq_true, and_self, or_self, tn_c, ne_eq, dite_true, dite_false], hz1, hz2⟩, fun p h => by rw [h1] at h; cases h⟩
    rw [h2]
    exact hK.sq hs (by omega) (by omega)
  by_cases c3 : mdK md k = 3
  · obtain ⟨q1, q2⟩ := hM k hk
    rw [c3, show ((3 : Nat) : Int) = 3 from rfl]
    cases hx : tb k with
    | none =>
      rw [hx] at q1
      have q1 : mI M 206 k = iI 0 := q1
      have h1 : rdKa u md g k a tb = none := by unfold rdKa; rw [if_pos c3, hx]; rfl
      have h2 : rdKt u md g k a tb = tb := by unfold rdKt; rw [if_pos c3]
      have e1 := fails_ok k0 h4 (iI 16) (iI st)
      have := bad (z := 16) (y := iI st) (by omega) (by omega) Sq.rf hM h1 h2
      clear bad hM hb hT
      simp -implicitDefEqProofs (disch := omega) only [fX13_toldTable, fX13_toldTable_L42, qk, ql, qr, q1, e1, rtZ, bo_s, bd_s, bn_s, gI_s, gJ_s, gR_s, pI_s, pZ_s, pJ_s, pR_s, chk_s, chN_s, chN_n, aL_s, aI_c, aJ_c, aR_c, wI_c, wB_c, wS_c, wZ_c, wJ_c, wR_c, mK_sI, mK_sJ, mK_sR, mK_cpI, mL_sI, mL_sJ, mL_sR, mL_cpI, mI_sI, mI_sJ, mI_sR, mI_cpI, mJ_sI, mJ_sJ, mJ_sR, mJ_cpI, mR_sI, mR_sJ, mR_sR, mR_cpI, i2b_i2b, i2b_sb, iI_lit, iI_add, iI_sub, iI_mul, iI_neg, iI_lt, iI_le, iI_eq, iI_J, lt_T, lt_F, le_T, le_F, eq_T, eq_F, eqN_T, eqN_F, leN_T, leN_F, ltN_T, ltN_F, if_true, if_false, and_true, true_and, and_false, false_and, or_true, true_or, or_false, false_or, not_true_eq_false, not_false_eq_true, and_self, or_self, tn_c, ne_eq, dite_true, dite_false, K0_198, K0_199, L0_199, K0_200, L0_200, K0_201, L0_201, K0_202, L0_202, K0_203, L0_203, K0_204, L0_204, K0_205, L0_205, K0_206, L0_206, K0_207, L0_207, K0_208, L0_208, K0_209, L0_209, K0_210, L0_210, K0_211, L0_211, K0_212, L0_212, K0_213, L0_213, K0_214, L0_214, K0_215, L0_215, K0_216, L0_216, K0_217, L0_217, K0_218, L0_218, K0_219, L0_219, K0_220, L0_220, K0_221, L0_221, K0_222, L0_222, K0_223, L0_223, K0_224, L0_224, K0_225, L0_225, K0_226, L0_226, K0_227, L0_227, K0_228, L0_228, K0_229, L0_229, K0_230, L0_230, K0_231, L0_231, K0_232, L0_232, K0_233, L0_233, K0_234, L0_234, K0_235, L0_235, K0_236, L0_236, K0_237, L0_237, K0_238, L0_238, K0_239, L0_239, K0_240, L0_240, R0_0, R0_2, R0_6, R0_12, R0_14, R0_15, R0_16, R0_17, R0_18, R0_19, R0_20, R0_21, R0_22, R0_23, R0_24, R0_25, R0_30, R0_31, R0_32, R0_34, R0_36, R0_43, R0_44, R0_45, R0_47, R0_48, R0_49, R0_50, R0_53, R0_55, R0_57, R0_59, R0_60, R0_62, R0_63, R0_64, R0_65, R0_66, R0_67, R0_69, R0_70, R0_71, R0_72]
      exact w_ret this
    | some T =>
      rw [hx] at q1
      have q1 : mI M 206 k = iI 1 := q1
      have h1 : rdKa u md g k a tb = some a := by unfold rdKa; rw [if_pos c3, hx]; rfl
      have h2 : rdKt u md g k a tb = tb := by unfold rdKt; rw [if_pos c3]
      have fin : MTq M u md g k a tb (iI 1) M := ⟨Sq.rf, by rw [h2]; exact hM, fun h => (by rw [h1] at h; cases h), fun p h => by rw [h1] at h; cases h; exact ⟨rfl, h52, h4⟩⟩
      clear bad hM hb hT
      simp -implicitDefEqProofs (disch := omega) only [fX13_toldTable, fX13_toldTable_L37, fX13_toldTable_L42, qk, ql, qr, q1, rtZ, bo_s, bd_s, bn_s, gI_s, gJ_s, gR_s, pI_s, pZ_s, pJ_s, pR_s, chk_s, chN_s, chN_n, aL_s, aI_c, aJ_c, aR_c, wI_c, wB_c, wS_c, wZ_c, wJ_c, wR_c, mK_sI, mK_sJ, mK_sR, mK_cpI, mL_sI, mL_sJ, mL_sR, mL_cpI, mI_sI, mI_sJ, mI_sR, mI_cpI, mJ_sI, mJ_sJ, mJ_sR, mJ_cpI, mR_sI, mR_sJ, mR_sR, mR_cpI, i2b_i2b, i2b_sb, iI_lit, iI_add, iI_sub, iI_mul, iI_neg, iI_lt, iI_le, iI_eq, iI_J, lt_T, lt_F, le_T, le_F, eq_T, eq_F, eqN_T, eqN_F, leN_T, leN_F, ltN_T, ltN_F, if_true, if_false, and_true, true_and, and_false, false_and, or_true, true_or, or_false, false_or, not_true_eq_false, not_false_eq_true, and_self, or_self, tn_c, ne_eq, dite_true, dite_false, K0_198, K0_199, L0_199, K0_200, L0_200, K0_201, L0_201, K0_202, L0_202, K0_203, L0_203, K0_204, L0_204, K0_205, L0_205, K0_206, L0_206, K0_207, L0_207, K0_208, L0_208, K0_209, L0_209, K0_210, L0_210, K0_211, L0_211, K0_212, L0_212, K0_213, L0_213, K0_214, L0_214, K0_215, L0_215, K0_216, L0_216, K0_217, L0_217, K0_218, L0_218, K0_219, L0_219, K0_220, L0_220, K0_221, L0_221, K0_222, L0_222, K0_223, L0_223, K0_224, L0_224, K0_225, L0_225, K0_226, L0_226, K0_227, L0_227, K0_228, L0_228, K0_229, L0_229, K0_230, L0_230, K0_231, L0_231, K0_232, L0_232, K0_233, L0_233, K0_234, L0_234, K0_235, L0_235, K0_236, L0_236, K0_237, L0_237, K0_238, L0_238, K0_239, L0_239, K0_240, L0_240, R0_0, R0_2, R0_6, R0_12, R0_14, R0_15, R0_16, R0_17, R0_18, R0_19, R0_20, R0_21, R0_22, R0_23, R0_24, R0_25, R0_30, R0_31, R0_32, R0_34, R0_36, R0_43, R0_44, R0_45, R0_47, R0_48, R0_49, R0_50, R0_53, R0_55, R0_57, R0_59, R0_60, R0_62, R0_63, R0_64, R0_65, R0_66, R0_67, R0_69, R0_70, R0_71, R0_72]
      exact w_ret fin
  · by_cases c1 : mdK md k = 1
    · rw [c1, show ((1 : Nat) : Int) = 1 from rfl]
      have eg := mgr_ok (M := M) hk
      have bad15 : rdKa u md g k a tb = none → rdKt u md g k a tb = tb → Wp (fX13_toldTable_L77 (some 198) M) (MTq M u md g k a tb) := fun h1 h2 => by
        have e1 := fails_ok k0 h4 (iI 15) (iI a)
        have := bad (z := 15) (y := iI a) (by omega) (by omega) Sq.rf hM h1 h2
        clear bad hM hb hT
        simp -implicitDefEqProofs (disch := omega) only [fX13_toldTable_L77, qk, h52, e1, rtZ, bo_s, bd_s, bn_s, gI_s, gJ_s, gR_s, pI_s, pZ_s, pJ_s, pR_s, chk_s, chN_s, chN_n, aL_s, aI_c, aJ_c, aR_c, wI_c, wB_c, wS_c, wZ_c, wJ_c, wR_c, mK_sI, mK_sJ, mK_sR, mK_cpI, mL_sI, mL_sJ, mL_sR, mL_cpI, mI_sI, mI_sJ, mI_sR, mI_cpI, mJ_sI, mJ_sJ, mJ_sR, mJ_cpI, mR_sI, mR_sJ, mR_sR, mR_cpI, i2b_i2b, i2b_sb, iI_lit, iI_add, iI_sub, iI_mul, iI_neg, iI_lt, iI_le, iI_eq, iI_J, lt_T, lt_F, le_T, le_F, eq_T, eq_F, eqN_T, eqN_F, leN_T, leN_F, ltN_T, ltN_F, if_true, if_false, and_true, true_and, and_false, false_and, or_true, true_or, or_false, false_or, not_true_eq_false, not_false_eq_true, and_self, or_self, tn_c, ne_eq, dite_true, dite_false, K0_198, K0_199, L0_199, K0_200, L0_200, K0_201, L0_201, K0_202, L0_202, K0_203, L0_203, K0_204, L0_204, K0_205, L0_205, K0_206, L0_206, K0_207, L0_207, K0_208, L0_208, K0_209, L0_209, K0_210, L0_210, K0_211, L0_211, K0_212, L0_212, K0_213, L0_213, K0_214, L0_214, K0_215, L0_215, K0_216, L0_216, K0_217, L0_217, K0_218, L0_218, K0_219, L0_219, K0_220, L0_220, K0_221, L0_221, K0_222, L0_222, K0_223, L0_223, K0_224, L0_224, K0_225, L0_225, K0_226, L0_226, K0_227, L0_227, K0_228, L0_228, K0_229, L0_229, K0_230, L0_230, K0_231, L0_231, K0_232, L0_232, K0_233, L0_233, K0_234, L0_234, K0_235, L0_235, K0_236, L0_236, K0_237, L0_237, K0_238, L0_238, K0_239, L0_239, K0_240, L0_240, R0_0, R0_2, R0_6, R0_12, R0_14, R0_15, R0_16, R0_17, R0_18, R0_19, R0_20, R0_21, R0_22, R0_23, R0_24, R0_25, R0_30, R0_31, R0_32, R0_34, R0_36, R0_43, R0_44, R0_45, R0_47, R0_48, R0_49, R0_50, R0_53, R0_55, R0_57, R0_59, R0_60, R0_62, R0_63, R0_64, R0_65, R0_66, R0_67, R0_69, R0_70, R0_71, R0_72]
        exact w_ret this
      by_cases c4 : g ≤ a
      · have := bad15 (by unfold rdKa; rw [if_neg c3, if_pos c1, if_pos (Or.inl c4)]) (by unfold rdKt; rw [if_neg c3, if_pos c1, if_pos (Or.inl c4)])
        clear bad bad15 hM hb hT
        simp -implicitDefEqProofs (disch := omega) only [fX13_toldTable, qk, h52, bo_s, bd_s, bn_s, gI_s, gJ_s, gR_s, pI_s, pZ_s, pJ_s, pR_s, chk_s, chN_s, chN_n, aL_s, aI_c, aJ_c, aR_c, wI_c, wB_c, wS_c, wZ_c, wJ_c, wR_c, mK_sI, mK_sJ, mK_sR, mK_cpI, mL_sI, mL_sJ, mL_sR, mL_cpI, mI_sI, mI_sJ, mI_sR, mI_cpI, mJ_sI, mJ_sJ, mJ_sR, mJ_cpI, mR_sI, mR_sJ, mR_sR, mR_cpI, i2b_i2b, i2b_sb, iI_lit, iI_add, iI_sub, iI_mul, iI_neg, iI_lt, iI_le, iI_eq, iI_J, lt_T, lt_F, le_T, le_F, eq_T, eq_F, eqN_T, eqN_F, leN_T, leN_F, ltN_T, ltN_F, if_true, if_false, and_true, true_and, and_false, false_and, or_true, true_or, or_false, false_or, not_true_eq_false, not_false_eq_true, and_self, or_self, tn_c, ne_eq, dite_true, dite_false, K0_198, K0_199, L0_199, K0_200, L0_200, K0_201, L0_201, K0_202, L0_202, K0_203, L0_203, K0_204, L0_204, K0_205, L0_205, K0_206, L0_206, K0_207, L0_207, K0_208, L0_208, K0_209, L0_209, K0_210, L0_210, K0_211, L0_211, K0_212, L0_212, K0_213, L0_213, K0_214, L0_214, K0_215, L0_215, K0_216, L0_216, K0_217, L0_217, K0_218, L0_218, K0_219, L0_219, K0_220, L0_220, K0_221, L0_221, K0_222, L0_222, K0_223, L0_223, K0_224, L0_224, K0_225, L0_225, K0_226, L0_226, K0_227, L0_227, K0_228, L0_228, K0_229, L0_229, K0_230, L0_230, K0_231, L0_231, K0_232, L0_232, K0_233, L0_233, K0_234, L0_234, K0_235, L0_235, K0_236, L0_236, K0_237, L0_237, K0_238, L0_238, K0_239, L0_239, K0_240, L0_240, R0_0, R0_2, R0_6, R0_12, R0_14, R0_15, R0_16, R0_17, R0_18, R0_19, R0_20, R0_21, R0_22, R0_23, R0_24, R0_25, R0_30, R0_31, R0_32, R0_34, R0_36, R0_43, R0_44, R0_45, R0_47, R0_48, R0_49, R0_50, R0_53, R0_55, R0_57, R0_59, R0_60, R0_62, R0_63, R0_64, R0_65, R0_66, R0_67, R0_69, R0_70, R0_71, R0_72]
        exact this
      · have e0 := hb.rd (i := (a : Int)) (j := a) rfl (by omega)
        rw [tn_c] at e0
        have hua := hu a
        have e2 := sb_and hua
        by_cases c5 : grK k < u a
        · have := bad15 (by unfold rdKa; rw [if_neg c3, if_pos c1, if_pos (Or.inr c5)]) (by unfold rdKt; rw [if_neg c3, if_pos c1, if_pos (Or.inr c5)])
          clear bad bad15 hM hb hT
          simp -implicitDefEqProofs (disch := omega) only [fX13_toldTable, qk, ql, qr, h52, e0, e2, eg, bo_s, bd_s, bn_s, gI_s, gJ_s, gR_s, pI_s, pZ_s, pJ_s, pR_s, chk_s, chN_s, chN_n, aL_s, aI_c, aJ_c, aR_c, wI_c, wB_c, wS_c, wZ_c, wJ_c, wR_c, mK_sI, mK_sJ, mK_sR, mK_cpI, mL_sI, mL_sJ, mL_sR, mL_cpI, mI_sI, mI_sJ, mI_sR, mI_cpI, mJ_sI, mJ_sJ, mJ_sR, mJ_cpI, mR_sI, mR_sJ, mR_sR, mR_cpI, i2b_i2b, i2b_sb, iI_lit, iI_add, iI_sub, iI_mul, iI_neg, iI_lt, iI_le, iI_eq, iI_J, lt_T, lt_F, le_T, le_F, eq_T, eq_F, eqN_T, eqN_F, leN_T, leN_F, ltN_T, ltN_F, if_true, if_false, and_true, true_and, and_false, false_and, or_true, true_or, or_false, false_or, not_true_eq_false, not_false_eq_true, and_self, or_self, tn_c, ne_eq, dite_true, dite_false, K0_198, K0_199, L0_199, K0_200, L0_200, K0_201, L0_201, K0_202, L0_202, K0_203, L0_203, K0_204, L0_204, K0_205, L0_205, K0_206, L0_206, K0_207, L0_207, K0_208, L0_208, K0_209, L0_209, K0_210, L0_210, K0_211, L0_211, K0_212, L0_212, K0_213, L0_213, K0_214, L0_214, K0_215, L0_215, K0_216, L0_216, K0_217, L0_217, K0_218, L0_218, K0_219, L0_219, K0_220, L0_220, K0_221, L0_221, K0_222, L0_222, K0_223, L0_223, K0_224, L0_224, K0_225, L0_225, K0_226, L0_226, K0_227, L0_227, K0_228, L0_228, K0_229, L0_229, K0_230, L0_230, K0_231, L0_231, K0_232, L0_232, K0_233, L0_233, K0_234, L0_234, K0_235, L0_235, K0_236, L0_236, K0_237, L0_237, K0_238, L0_238, K0_239, L0_239, K0_240, L0_240, R0_0, R0_2, R0_6, R0_12, R0_14, R0_15, R0_16, R0_17, R0_18, R0_19, R0_20, R0_21, R0_22, R0_23, R0_24, R0_25, R0_30, R0_31, R0_32, R0_34, R0_36, R0_43, R0_44, R0_45, R0_47, R0_48, R0_49, R0_50, R0_53, R0_55, R0_57, R0_59, R0_60, R0_62, R0_63, R0_64, R0_65, R0_66, R0_67, R0_69, R0_70, R0_71, R0_72]
          exact this
        · have h1 : rdKa u md g k a tb = some (a + 1) := by unfold rdKa; rw [if_neg c3, if_pos c1, if_neg (by omega)]
          have h2 : rdKt u md g k a tb = upT tb k (some (aln (u a))) := by unfold rdKt; rw [if_neg c3, if_pos c1, if_neg (by omega)]
          obtain ⟨v, N, e1, hS, hV⟩ := malone_ok (t := k) hT (by omega) hua
          have nk := (hT.q hS).k
          have n52 := (hS.I 198 52 (by unfold TC; omega)).trans h52
          have hS' : Sq (WTm k) M N := hS.weak fun a j h => Or.inr (Or.inr h)
          have hset := MTd.set hk hM hS' ⟨aln_R hua, fun q _ => by show u a ≤ grK k; omega⟩ hV
          have fin : MTq M u md g k a tb (iI 1) (sI N 198 52 (iI ((a : Int) + 1))) := by
            have hs : Sq (fun a j => a = 198 ∧ j = 52) N (sI N 198 52 (iI ((a : Int) + 1))) := Sq.sI Sq.rf ⟨rfl, rfl⟩
            refine ⟨Sq.sI hS' (Or.inl ⟨rfl, by omega⟩), by rw [h2]; exact hset.sq hs (by omega) (by omega), fun h => (by rw [h1] at h; cases h), fun p h => ?_⟩
            rw [h1] at h
            cases h
            refine ⟨rfl, by simp -implicitDefEqProofs (disch := omega) only [mK_sI, mK_sJ, mK_sR, mK_cpI, mL_sI, mL_sJ, mL_sR, mL_cpI, mI_sI, mI_sJ, mI_sR, mI_cpI, mJ_sI, mJ_sJ, mJ_sR, mJ_cpI, mR_sI, mR_sJ, mR_sR, mR_cpI, eqN_T, eqN_F, if_true, if_false, and_true, true_and, and_false, false_and, or_true, true_or, or_false, false_or, not_true_eq_false, not_false_eq_true, and_self, or_self, tn_c, ne_eq, dite_true, dite_false]; rfl, ?_⟩
            simp -implicitDefEqProofs (disch := omega) only [mK_sI, mK_sJ, mK_sR, mK_cpI, mL_sI, mL_sJ, mL_sR, mL_cpI, mI_sI, mI_sJ, mI_sR, mI_cpI, mJ_sI, mJ_sJ, mJ_sR, mJ_cpI, mR_sI, mR_sJ, mR_sR, mR_cpI, eqN_T, eqN_F, if_true, if_false, and_true, true_and, and_false, false_and, or_true, true_or, or_false, false_or, not_true_eq_false, not_false_eq_true, and_self, or_self, tn_c, ne_eq, dite_true, dite_false]
            exact (hS.I 198 4 (by unfold TC; omega)).trans h4
          clear bad bad15 hM hb hT hset hV
          simp -implicitDefEqProofs (disch := omega) only [fX13_toldTable, fX13_toldTable_L166, qk, ql, qr, h52, e0, e2, eg, e1, nk, n52, rtZ, bo_s, bd_s, bn_s, gI_s, gJ_s, gR_s, pI_s, pZ_s, pJ_s, pR_s, chk_s, chN_s, chN_n, aL_s, aI_c, aJ_c, aR_c, wI_c, wB_c, wS_c, wZ_c, wJ_c, wR_c, mK_sI, mK_sJ, mK_sR, mK_cpI, mL_sI, mL_sJ, mL_sR, mL_cpI, mI_sI, mI_sJ, mI_sR, mI_cpI, mJ_sI, mJ_sJ, mJ_sR, mJ_cpI, mR_sI, mR_sJ, mR_sR, mR_cpI, i2b_i2b, i2b_sb, iI_lit, iI_add, iI_sub, iI_mul, iI_neg, iI_lt, iI_le, iI_eq, iI_J, lt_T, lt_F, le_T, le_F, eq_T, eq_F, eqN_T, eqN_F, leN_T, leN_F, ltN_T, ltN_F, if_true, if_false, and_true, true_and, and_false, false_and, or_true, true_or, or_false, false_or, not_true_eq_false, not_false_eq_true, and_self, or_self, tn_c, ne_eq, dite_true, dite_false, K0_198, K0_199, L0_199, K0_200, L0_200, K0_201, L0_201, K0_202, L0_202, K0_203, L0_203, K0_204, L0_204, K0_205, L0_205, K0_206, L0_206, K0_207, L0_207, K0_208, L0_208, K0_209, L0_209, K0_210, L0_210, K0_211, L0_211, K0_212, L0_212, K0_213, L0_213, K0_214, L0_214, K0_215, L0_215, K0_216, L0_216, K0_217, L0_217, K0_218, L0_218, K0_219, L0_219, K0_220, L0_220, K0_221, L0_221, K0_222, L0_222, K0_223, L0_223, K0_224, L0_224, K0_225, L0_225, K0_226, L0_226, K0_227, L0_227, K0_228, L0_228, K0_229, L0_229, K0_230, L0_230, K0_231, L0_231, K0_232, L0_232, K0_233, L0_233, K0_234, L0_234, K0_235, L0_235, K0_236, L0_236, K0_237, L0_237, K0_238, L0_238, K0_239, L0_239, K0_240, L0_240, R0_0, R0_2, R0_6, R0_12, R0_14, R0_15, R0_16, R0_17, R0_18, R0_19, R0_20, R0_21, R0_22, R0_23, R0_24, R0_25, R0_30, R0_31, R0_32, R0_34, R0_36, R0_43, R0_44, R0_45, R0_47, R0_48, R0_49, R0_50, R0_53, R0_55, R0_57, R0_59, R0_60, R0_62, R0_63, R0_64, R0_65, R0_66, R0_67, R0_69, R0_70, R0_71, R0_72]
          exact w_ret fin
    · by_cases c2 : mdK md k = 2
      · rw [c2, show ((2 : Nat) : Int) = 2 from rfl]
        have eg := mgr_ok (M := M) hk
        have el := mml_ok (M := M) hk
        obtain ⟨v, N, e1, hS, hA, hB⟩ := toldCounts_ok (a := a) (g := g) (gr := grK k) (most := mlK k) hT hb hu hg (by omega) hgr hml
        have hS' : Sq (WTm k) M N := hS.weak fun a j h => by
          unfold WM at h
          rcases h with ⟨rfl, h⟩ | rfl
          · exact Or.inl ⟨rfl, by omega⟩
          · exact Or.inr (Or.inl rfl)
        have hqN := hT.q hS
        have nk := hqN.k
        have n4 := (hS.I 198 4 (by unfold WM; omega)).trans h4
        have n52 := (hS.I 198 52 (by unfold WM; omega)).trans h52
        cases hx : rdT u a g (grK k) (mlK k) with
        | none =>
          have hv := hA hx
          subst hv
          have h1 : rdKa u md g k a tb = none := by unfold rdKa; rw [if_neg c3, if_neg c1, if_pos c2, hx]
          have h2 : rdKt u md g k a tb = tb := by unfold rdKt; rw [if_neg c3, if_neg c1, if_pos c2, hx]
          have e2 := fails_ok (nk 198 (by omega) (by omega)) n4 (iI 15) (iI a)
          have := bad (z := 15) (y := iI a) (by omega) (by omega) hS' (hM.sq hS (by unfold WM; omega) (by unfold WM; omega)) h1 h2
          clear bad hM hb hT hqN
          simp -implicitDefEqProofs (disch := omega) only [fX13_toldTable, qk, h52, eg, el, e1, nk, n52, e2, rtZ, bo_s, bd_s, bn_s, gI_s, gJ_s, gR_s, pI_s, pZ_s, pJ_s, pR_s, chk_s, chN_s, chN_n, aL_s, aI_c, aJ_c, aR_c, wI_c, wB_c, wS_c, wZ_c, wJ_c, wR_c, mK_sI, mK_sJ, mK_sR, mK_cpI, mL_sI, mL_sJ, mL_sR, mL_cpI, mI_sI, mI_sJ, mI_sR, mI_cpI, mJ_sI, mJ_sJ, mJ_sR, mJ_cpI, mR_sI, mR_sJ, mR_sR, mR_cpI, i2b_i2b, i2b_sb, iI_lit, iI_add, iI_sub, iI_mul, iI_neg, iI_lt, iI_le, iI_eq, iI_J, lt_T, lt_F, le_T, le_F, eq_T, eq_F, eqN_T, eqN_F, leN_T, leN_F, ltN_T, ltN_F, if_true, if_false, and_true, true_and, and_false, false_and, or_true, true_or, or_false, false_or, not_true_eq_false, not_false_eq_true, and_self, or_self, tn_c, ne_eq, dite_true, dite_false, K0_198, K0_199, L0_199, K0_200, L0_200, K0_201, L0_201, K0_202, L0_202, K0_203, L0_203, K0_204, L0_204, K0_205, L0_205, K0_206, L0_206, K0_207, L0_207, K0_208, L0_208, K0_209, L0_209, K0_210, L0_210, K0_211, L0_211, K0_212, L0_212, K0_213, L0_213, K0_214, L0_214, K0_215, L0_215, K0_216, L0_216, K0_217, L0_217, K0_218, L0_218, K0_219, L0_219, K0_220, L0_220, K0_221, L0_221, K0_222, L0_222, K0_223, L0_223, K0_224, L0_224, K0_225, L0_225, K0_226, L0_226, K0_227, L0_227, K0_228, L0_228, K0_229, L0_229, K0_230, L0_230, K0_231, L0_231, K0_232, L0_232, K0_233, L0_233, K0_234, L0_234, K0_235, L0_235, K0_236, L0_236, K0_237, L0_237, K0_238, L0_238, K0_239, L0_239, K0_240, L0_240, R0_0, R0_2, R0_6, R0_12, R0_14, R0_15, R0_16, R0_17, R0_18, R0_19, R0_20, R0_21, R0_22, R0_23, R0_24, R0_25, R0_30, R0_31, R0_32, R0_34, R0_36, R0_43, R0_44, R0_45, R0_47, R0_48, R0_49, R0_50, R0_53, R0_55, R0_57, R0_59, R0_60, R0_62, R0_63, R0_64, R0_65, R0_66, R0_67, R0_69, R0_70, R0_71, R0_72]
          exact w_ret this
        | some x =>
          obtain ⟨p, T⟩ := x
          obtain ⟨hv, Sx, c, t1, t2, t3, t4⟩ := hB _ _ hx
          subst hv
          have h1 : rdKa u md g k a tb = some p := by unfold rdKa; rw [if_neg c3, if_neg c1, if_pos c2, hx]
          have h2 : rdKt u md g k a tb = upT tb k (some T) := by unfold rdKt; rw [if_neg c3, if_neg c1, if_pos c2, hx]
          obtain ⟨w, N2, e2, hS2, hTM⟩ := table_ok (k := k) hqN t2 (by omega) t3 t4
          have hTM : TbM N2 k T := by rw [t1]; exact hTM
          have hS2' : Sq (WTm k) M N2 := hS'.tr (hS2.weak fun a j h => Or.inr (Or.inr h))
          have nk2 := (hT.q hS2').k
          have hset := MTd.set hk hM hS2' ⟨rdT_R hx hml hgr, fun q _ => rdT_s hx hml hgr q⟩ hTM
          have fin : MTq M u md g k a tb (iI 1) (sI N2 198 52 (iI p)) := by
            have hs : Sq (fun a j => a = 198 ∧ j = 52) N2 (sI N2 198 52 (iI p)) := Sq.sI Sq.rf ⟨rfl, rfl⟩
            refine ⟨Sq.sI hS2' (Or.inl ⟨rfl, by omega⟩), by rw [h2]; exact hset.sq hs (by omega) (by omega), fun h => (by rw [h1] at h; cases h), fun p h => ?_⟩
            rw [h1] at h
            cases h
            refine ⟨rfl, by simp -implicitDefEqProofs (disch := omega) only [mK_sI, mK_sJ, mK_sR, mK_cpI, mL_sI, mL_sJ, mL_sR, mL_cpI, mI_sI, mI_sJ, mI_sR, mI_cpI, mJ_sI, mJ_sJ, mJ_sR, mJ_cpI, mR_sI, mR_sJ, mR_sR, mR_cpI, eqN_T, eqN_F, if_true, if_false, and_true, true_and, and_false, false_and, or_true, true_or, or_false, false_or, not_true_eq_false, not_false_eq_true, and_self, or_self, tn_c, ne_eq, dite_true, dite_false], ?_⟩
            simp -implicitDefEqProofs (disch := omega) only [mK_sI, mK_sJ, mK_sR, mK_cpI, mL_sI, mL_sJ, mL_sR, mL_cpI, mI_sI, mI_sJ, mI_sR, mI_cpI, mJ_sI, mJ_sJ, mJ_sR, mJ_cpI, mR_sI, mR_sJ, mR_sR, mR_cpI, eqN_T, eqN_F, if_true, if_false, and_true, true_and, and_false, false_and, or_true, true_or, or_false, false_or, not_true_eq_false, not_false_eq_true, and_self, or_self, tn_c, ne_eq, dite_true, dite_false]
            exact (hS2.I 198 4 (by unfold TC; omega)).trans n4
          obtain ⟨-, -, -, -, -, -, hpg, -⟩ := rdT_ok hx hml hgr
          clear bad hM hb hT hset hTM hqN t2 t4
          simp -implicitDefEqProofs (disch := omega) only [fX13_toldTable, fX13_toldTable_L166, qk, h52, eg, el, e1, nk, e2, nk2, rtZ, bo_s, bd_s, bn_s, gI_s, gJ_s, gR_s, pI_s, pZ_s, pJ_s, pR_s, chk_s, chN_s, chN_n, aL_s, aI_c, aJ_c, aR_c, wI_c, wB_c, wS_c, wZ_c, wJ_c, wR_c, mK_sI, mK_sJ, mK_sR, mK_cpI, mL_sI, mL_sJ, mL_sR, mL_cpI, mI_sI, mI_sJ, mI_sR, mI_cpI, mJ_sI, mJ_sJ, mJ_sR, mJ_cpI, mR_sI, mR_sJ, mR_sR, mR_cpI, i2b_i2b, i2b_sb, iI_lit, iI_add, iI_sub, iI_mul, iI_neg, iI_lt, iI_le, iI_eq, iI_J, lt_T, lt_F, le_T, le_F, eq_T, eq_F, eqN_T, eqN_F, leN_T, leN_F, ltN_T, ltN_F, if_true, if_false, and_true, true_and, and_false, false_and, or_true, true_or, or_false, false_or, not_true_eq_false, not_false_eq_true, and_self, or_self, tn_c, ne_eq, dite_true, dite_false, K0_198, K0_199, L0_199, K0_200, L0_200, K0_201, L0_201, K0_202, L0_202, K0_203, L0_203, K0_204, L0_204, K0_205, L0_205, K0_206, L0_206, K0_207, L0_207, K0_208, L0_208, K0_209, L0_209, K0_210, L0_210, K0_211, L0_211, K0_212, L0_212, K0_213, L0_213, K0_214, L0_214, K0_215, L0_215, K0_216, L0_216, K0_217, L0_217, K0_218, L0_218, K0_219, L0_219, K0_220, L0_220, K0_221, L0_221, K0_222, L0_222, K0_223, L0_223, K0_224, L0_224, K0_225, L0_225, K0_226, L0_226, K0_227, L0_227, K0_228, L0_228, K0_229, L0_229, K0_230, L0_230, K0_231, L0_231, K0_232, L0_232, K0_233, L0_233, K0_234, L0_234, K0_235, L0_235, K0_236, L0_236, K0_237, L0_237, K0_238, L0_238, K0_239, L0_239, K0_240, L0_240, R0_0, R0_2, R0_6, R0_12, R0_14, R0_15, R0_16, R0_17, R0_18, R0_19, R0_20, R0_21, R0_22, R0_23, R0_24, R0_25, R0_30, R0_31, R0_32, R0_34, R0_36, R0_43, R0_44, R0_45, R0_47, R0_48, R0_49, R0_50, R0_53, R0_55, R0_57, R0_59, R0_60, R0_62, R0_63, R0_64, R0_65, R0_66, R0_67, R0_69, R0_70, R0_71, R0_72]
          exact w_ret fin
      · have c0 : mdK md k = 0 := by omega
        rw [c0, show ((0 : Nat) : Int) = 0 from rfl]
        have h1 : rdKa u md g k a tb = some a := by unfold rdKa; rw [if_neg c3, if_neg c1, if_neg c2]
        have h2 : rdKt u md g k a tb = upT tb k (some (dft k)) := by unfold rdKt; rw [if_neg c3, if_neg c1, if_neg c2]
        obtain ⟨v, N, e1, hS, hV⟩ := mdef_ok (k := k) (t := k) hT hk (by omega)
        have hS' : Sq (WTm k) M N := hS.weak fun a j h => by
          rcases h with ⟨rfl, h⟩ | rfl | h
          · exact Or.inl ⟨rfl, by omega⟩
          · exact Or.inr (Or.inl rfl)
          · exact Or.inr (Or.inr h)
        have hset := MTd.set hk hM hS' ⟨dft_R hk, fun q _ => dft_g hk q⟩ hV
        have fin : MTq M u md g k a tb (iI 1) N := by
          refine ⟨hS', by rw [h2]; exact hset, fun h => (by rw [h1] at h; cases h), fun p h => ?_⟩
          rw [h1] at h
          cases h
          exact ⟨rfl, (hS.I 198 52 (by unfold TC; omega)).trans h52, (hS.I 198 4 (by unfold TC; omega)).trans h4⟩
        clear bad hM hb hT hset hV
        simp -implicitDefEqProofs (disch := omega) only [fX13_toldTable, fX13_toldTable_L166, qk, e1, rtZ, bo_s, bd_s, bn_s, gI_s, gJ_s, gR_s, pI_s, pZ_s, pJ_s, pR_s, chk_s, chN_s, chN_n, aL_s, aI_c, aJ_c, aR_c, wI_c, wB_c, wS_c, wZ_c, wJ_c, wR_c, mK_sI, mK_sJ, mK_sR, mK_cpI, mL_sI, mL_sJ, mL_sR, mL_cpI, mI_sI, mI_sJ, mI_sR, mI_cpI, mJ_sI, mJ_sJ, mJ_sR, mJ_cpI, mR_sI, mR_sJ, mR_sR, mR_cpI, i2b_i2b, i2b_sb, iI_lit, iI_add, iI_sub, iI_mul, iI_neg, iI_lt, iI_le, iI_eq, iI_J, lt_T, lt_F, le_T, le_F, eq_T, eq_F, eqN_T, eqN_F, leN_T, leN_F, ltN_T, ltN_F, if_true, if_false, and_true, true_and, and_false, false_and, or_true, true_or, or_false, false_or, not_true_eq_false, not_false_eq_true, and_self, or_self, tn_c, ne_eq, dite_true, dite_false, K0_198, K0_199, L0_199, K0_200, L0_200, K0_201, L0_201, K0_202, L0_202, K0_203, L0_203, K0_204, L0_204, K0_205, L0_205, K0_206, L0_206, K0_207, L0_207, K0_208, L0_208, K0_209, L0_209, K0_210, L0_210, K0_211, L0_211, K0_212, L0_212, K0_213, L0_213, K0_214, L0_214, K0_215, L0_215, K0_216, L0_216, K0_217, L0_217, K0_218, L0_218, K0_219, L0_219, K0_220, L0_220, K0_221, L0_221, K0_222, L0_222, K0_223, L0_223, K0_224, L0_224, K0_225, L0_225, K0_226, L0_226, K0_227, L0_227, K0_228, L0_228, K0_229, L0_229, K0_230, L0_230, K0_231, L0_231, K0_232, L0_232, K0_233, L0_233, K0_234, L0_234, K0_235, L0_235, K0_236, L0_236, K0_237, L0_237, K0_238, L0_238, K0_239, L0_239, K0_240, L0_240, R0_0, R0_2, R0_6, R0_12, R0_14, R0_15, R0_16, R0_17, R0_18, R0_19, R0_20, R0_21, R0_22, R0_23, R0_24, R0_25, R0_30, R0_31, R0_32, R0_34, R0_36, R0_43, R0_44, R0_45, R0_47, R0_48, R0_49, R0_50, R0_53, R0_55, R0_57, R0_59, R0_60, R0_62, R0_63, R0_64, R0_65, R0_66, R0_67, R0_69, R0_70, R0_71, R0_72]
        exact w_ret fin
end MTOLD2
