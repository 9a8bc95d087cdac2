/-! a STREAM of words, the reference's -/
section MSTRM
variable {M : Mem} {e : Nat} {u : Nat → Nat} {C : Cd}
def WSm (first n a j : Nat) : Prop := (a = 198 ∧ (j = 9 ∨ j = 10 ∨ j = 11)) ∨ (a = 218 ∧ first ≤ j ∧ j < first + n)
theorem CdM.sq {N : Mem} {t : Nat} {S : Nat → Nat → Prop} (h : CdM M t C) (s : Sq S M N) (h1 : ¬ S 209 t ∧ ¬ S 210 t ∧ ∀ j, ¬ S 208 j ∧ ¬ S 211 j) : CdM N t C := ⟨(s.I _ _ h1.1).trans h.1, (s.I _ _ h1.2.1).trans h.2.1, fun i hi => (s.I _ _ (h1.2.2 _).1).trans (h.2.2.1 i hi), fun i hi => (s.I _ _ (h1.2.2 _).2).trans (h.2.2.2 i hi)⟩
theorem mstream_ok {f g first n : Nat} (hT : RSt M) (hb : BV M 199 8000 e u) (hu : ∀ i, u i < 256) (hg : g ≤ e) (hf : f < 1000000) (hcM : CdM M 0 C) (hcR : CdR C) (hn : first + n ≤ 131072) :
    Wp (fX13_stream (some 198) (iI f) (iI g) (iI first) (iI n) M) fun v N => Sq (WSm first n) M N ∧ (rdS u f g C n = none → v = iI 0) ∧ ∀ ls, rdS u f g C n = some ls → v = iI 1 ∧ ∀ k, k < n → mI N 218 (first + k) = sb (ls k) := by
  have g3 := hb.2.2.1
  have hp : 2 ^ C.1 ≤ 2 ^ 11 := pow_le2 hcR.2.1
  have hm := hcR.2.1
  have qk := hT.k
  have k0 : mK M 198 = 13 := qk 198 (by decide) (by decide)
  have k6 : mR M 198 6 = some 199 := hT.r 6
  by_cases c1 : g ≤ f ∨ u (g - 1) = 0
  · have hR : rdS u f g C n = none := by unfold rdS; rw [if_pos c1]
    obtain ⟨v, N, e1, rfl, hS, -⟩ := reversed_no (f := f) (g := g) k0 k6 hb hu hg hf c1
    simp -implicitDefEqProofs (disch := (first | decide | omega)) only [fX13_stream, qk, e1, rtZ, bo_s, bd_s, bn_s, gI_s, gJ_s, gR_s, pI_s, pZ_s, pJ_s, pR_s, chk_s, chN_s, chN_n, aL_s, aI_c, aJ_c, aR_c, wI_c, wB_c, wS_c, wZ_c, wJ_c, wR_c, mK_sI, mK_sJ, mK_sR, mK_cpI, mL_sI, mL_sJ, mL_sR, mL_cpI, mI_sI, mI_sJ, mI_sR, mI_cpI, mJ_sI, mJ_sJ, mJ_sR, mJ_cpI, mR_sI, mR_sJ, mR_sR, mR_cpI, i2b_i2b, i2b_sb, iI_lit, iI_add, iI_sub, iI_mul, iI_neg, iI_lt, iI_le, iI_eq, iI_J, lt_T, lt_F, le_T, le_F, eq_T, eq_F, eqN_T, eqN_F, leN_T, leN_F, ltN_T, ltN_F, if_true, if_false, and_true, true_and, and_false, false_and, or_true, true_or, or_false, false_or, not_true_eq_false, not_false_eq_true, and_self, or_self, tn_c, ne_eq, dite_true, dite_false, K0_198, K0_199, L0_199, K0_200, L0_200, K0_201, L0_201, K0_202, L0_202, K0_203, L0_203, K0_204, L0_204, K0_205, L0_205, K0_206, L0_206, K0_207, L0_207, K0_208, L0_208, K0_209, L0_209, K0_210, L0_210, K0_211, L0_211, K0_212, L0_212, K0_213, L0_213, K0_214, L0_214, K0_215, L0_215, K0_216, L0_216, K0_217, L0_217, K0_218, L0_218, K0_219, L0_219, K0_220, L0_220, K0_221, L0_221, K0_222, L0_222, K0_223, L0_223, K0_224, L0_224, K0_225, L0_225, K0_226, L0_226, K0_227, L0_227, K0_228, L0_228, K0_229, L0_229, K0_230, L0_230, K0_231, L0_231, K0_232, L0_232, K0_233, L0_233, K0_234, L0_234, K0_235, L0_235, K0_236, L0_236, K0_237, L0_237, K0_238, L0_238, K0_239, L0_239, K0_240, L0_240, R0_0, R0_2, R0_6, R0_12, R0_14, R0_15, R0_16, R0_17, R0_18, R0_19, R0_20, R0_21, R0_22, R0_23, R0_24, R0_25, R0_30, R0_31, R0_32, R0_34, R0_36, R0_43, R0_44, R0_45, R0_47, R0_48, R0_49, R0_50, R0_53, R0_55, R0_57, R0_59, R0_60, R0_62, R0_63, R0_64, R0_65, R0_66, R0_67, R0_69, R0_70, R0_71, R0_72]
    refine w_ret ⟨hS.weak (by unfold WSm; omega), fun _ => rfl, fun ls h => ?_⟩
    rw [hR] at h; cases h
  · obtain ⟨v, N, e1, rfl, hS, hK⟩ := reversed_ok (f := f) (g := g) k0 k6 hb hu hg (by omega) (by omega)
    have hl8 := lg8 (hu (g - 1))
    have hR : rdS u f g C n = if stL u f C (8 * (g - 1 - f) + Nat.log2 (u (g - 1))) n = some 0 then some (lt0 u f C (8 * (g - 1 - f) + Nat.log2 (u (g - 1)))) else none := by unfold rdS; rw [if_neg c1]
    obtain ⟨L0, hL0⟩ : ∃ L0, 8 * (g - 1 - f) + Nat.log2 (u (g - 1)) = L0 := ⟨_, rfl⟩
    rw [hL0] at hR hK
    have hq := hT.q hS
    have nk := hq.k
    have nl := hq.l
    have nr := hq.r
    have m0 : mI N 210 0 = iI (C.1 : Nat) := (hS.I 210 0 (by first | decide | omega)).trans hcM.2.1
    have mz : (0 : Int).toNat = 0 := rfl
    simp -implicitDefEqProofs (disch := (first | decide | omega)) only [fX13_stream, fX13_stream_L22, qk, e1, nk, nl, nr, mz, m0, bo_s, bd_s, bn_s, gI_s, gJ_s, gR_s, pI_s, pZ_s, pJ_s, pR_s, chk_s, chN_s, chN_n, aL_s, aI_c, aJ_c, aR_c, wI_c, wB_c, wS_c, wZ_c, wJ_c, wR_c, mK_sI, mK_sJ, mK_sR, mK_cpI, mL_sI, mL_sJ, mL_sR, mL_cpI, mI_sI, mI_sJ, mI_sR, mI_cpI, mJ_sI, mJ_sJ, mJ_sR, mJ_cpI, mR_sI, mR_sJ, mR_sR, mR_cpI, i2b_i2b, i2b_sb, iI_lit, iI_add, iI_sub, iI_mul, iI_neg, iI_lt, iI_le, iI_eq, iI_J, lt_T, lt_F, le_T, le_F, eq_T, eq_F, eqN_T, eqN_F, leN_T, leN_F, ltN_T, ltN_F, if_true, if_false, and_true, true_and, and_false, false_and, or_true, true_or, or_false, false_or, not_true_eq_false, not_false_eq_true, and_self, or_self, tn_c, ne_eq, dite_true, dite_false, K0_198, K0_199, L0_199, K0_200, L0_200, K0_201, L0_201, K0_202, L0_202, K0_203, L0_203, K0_204, L0_204, K0_205, L0_205, K0_206, L0_206, K0_207, L0_207, K0_208, L0_208, K0_209, L0_209, K0_210, L0_210, K0_211, L0_211, K0_212, L0_212, K0_213, L0_213, K0_214, L0_214, K0_215, L0_215, K0_216, L0_216, K0_217, L0_217, K0_218, L0_218, K0_219, L0_219, K0_220, L0_220, K0_221, L0_221, K0_222, L0_222, K0_223, L0_223, K0_224, L0_224, K0_225, L0_225, K0_226, L0_226, K0_227, L0_227, K0_228, L0_228, K0_229, L0_229, K0_230, L0_230, K0_231, L0_231, K0_232, L0_232, K0_233, L0_233, K0_234, L0_234, K0_235, L0_235, K0_236, L0_236, K0_237, L0_237, K0_238, L0_238, K0_239, L0_239, K0_240, L0_240, R0_0, R0_2, R0_6, R0_12, R0_14, R0_15, R0_16, R0_17, R0_18, R0_19, R0_20, R0_21, R0_22, R0_23, R0_24, R0_25, R0_30, R0_31, R0_32, R0_34, R0_36, R0_43, R0_44, R0_45, R0_47, R0_48, R0_49, R0_50, R0_53, R0_55, R0_57, R0_59, R0_60, R0_62, R0_63, R0_64, R0_65, R0_66, R0_67, R0_69, R0_70, R0_71, R0_72]
    refine w_lpF (fun d x O => ∃ k L : Nat, k + d = n ∧ stL u f C L0 k = some L ∧ Sq (WSm first n) M O ∧ RK O 198 199 f L 0 ∧ (∀ i, i < k → mI O 218 (first + i) = sb (lt0 u f C L0 i)) ∧ x = (some 198, iI first, iI n, iI (C.1 : Nat), iI k)) n (by omega) ⟨0, L0, by omega, rfl, hS.weak (by unfold WSm; omega), hK, fun i hi => by omega, rfl⟩ ?_
    rintro q d x O ⟨k, L, hd, hk, hS, hK, hV, rfl⟩ ih
    have hq := hT.q hS
    have qk := hq.k
    have ql := hq.l
    have qr := hq.r
    have hLe := stL_le hk
    have b3 := hK.2.2.2.1
    by_cases z : d = 0
    · obtain rfl : k = n := by omega
      rw [hk] at hR
      by_cases z2 : L = 0
      · subst z2
        rw [if_pos rfl] at hR
        simp -implicitDefEqProofs (disch := (first | decide | omega)) only [fX13_stream_B22, fX13_stream_L136, qk, b3, rtZ, bo_s, bd_s, bn_s, gI_s, gJ_s, gR_s, pI_s, pZ_s, pJ_s, pR_s, chk_s, chN_s, chN_n, aL_s, aI_c, aJ_c, aR_c, wI_c, wB_c, wS_c, wZ_c, wJ_c, wR_c, mK_sI, mK_sJ, mK_sR, mK_cpI, mL_sI, mL_sJ, mL_sR, mL_cpI, mI_sI, mI_sJ, mI_sR, mI_cpI, mJ_sI, mJ_sJ, mJ_sR, mJ_cpI, mR_sI, mR_sJ, mR_sR, mR_cpI, i2b_i2b, i2b_sb, iI_lit, iI_add, iI_sub, iI_mul, iI_neg, iI_lt, iI_le, iI_eq, iI_J, lt_T, lt_F, le_T, le_F, eq_T, eq_F, eqN_T, eqN_F, leN_T, leN_F, ltN_T, ltN_F, if_true, if_false, and_true, true_and, and_false, false_and, or_true, true_or, or_false, false_or, not_true_eq_false, not_false_eq_true, and_self, or_self, tn_c, ne_eq, dite_true, dite_false, K0_198, K0_199, L0_199, K0_200, L0_200, K0_201, L0_201, K0_202, L0_202, K0_203, L0_203, K0_204, L0_204, K0_205, L0_205, K0_206, L0_206, K0_207, L0_207, K0_208, L0_208, K0_209, L0_209, K0_210, L0_210, K0_211, L0_211, K0_212, L0_212, K0_213, L0_213, K0_214, L0_214, K0_215, L0_215, K0_216, L0_216, K0_217, L0_217, K0_218, L0_218, K0_219, L0_219, K0_220, L0_220, K0_221, L0_221, K0_222, L0_222, K0_223, L0_223, K0_224, L0_224, K0_225, L0_225, K0_226, L0_226, K0_227, L0_227, K0_228, L0_228, K0_229, L0_229, K0_230, L0_230, K0_231, L0_231, K0_232, L0_232, K0_233, L0_233, K0_234, L0_234, K0_235, L0_235, K0_236, L0_236, K0_237, L0_237, K0_238, L0_238, K0_239, L0_239, K0_240, L0_240, R0_0, R0_2, R0_6, R0_12, R0_14, R0_15, R0_16, R0_17, R0_18, R0_19, R0_20, R0_21, R0_22, R0_23, R0_24, R0_25, R0_30, R0_31, R0_32, R0_34, R0_36, R0_43, R0_44, R0_45, R0_47, R0_48, R0_49, R0_50, R0_53, R0_55, R0_57, R0_59, R0_60, R0_62, R0_63, R0_64, R0_65, R0_66, R0_67, R0_69, R0_70, R0_71, R0_72]
        refine w_ret ⟨hS, fun h => (by rw [hR] at h; cases h), fun ls h => ?_⟩
        rw [hR] at h
        cases h
        exact ⟨rfl, hV⟩
      · rw [if_neg (fun h => z2 (Option.some.inj h))] at hR
        simp -implicitDefEqProofs (disch := (first | decide | omega)) only [fX13_stream_B22, fX13_stream_L136, qk, b3, rtZ, bo_s, bd_s, bn_s, gI_s, gJ_s, gR_s, pI_s, pZ_s, pJ_s, pR_s, chk_s, chN_s, chN_n, aL_s, aI_c, aJ_c, aR_c, wI_c, wB_c, wS_c, wZ_c, wJ_c, wR_c, mK_sI, mK_sJ, mK_sR, mK_cpI, mL_sI, mL_sJ, mL_sR, mL_cpI, mI_sI, mI_sJ, mI_sR, mI_cpI, mJ_sI, mJ_sJ, mJ_sR, mJ_cpI, mR_sI, mR_sJ, mR_sR, mR_cpI, i2b_i2b, i2b_sb, iI_lit, iI_add, iI_sub, iI_mul, iI_neg, iI_lt, iI_le, iI_eq, iI_J, lt_T, lt_F, le_T, le_F, eq_T, eq_F, eqN_T, eqN_F, leN_T, leN_F, ltN_T, ltN_F, if_true, if_false, and_true, true_and, and_false, false_and, or_true, true_or, or_false, false_or, not_true_eq_false, not_false_eq_true, and_self, or_self, tn_c, ne_eq, dite_true, dite_false, K0_198, K0_199, L0_199, K0_200, L0_200, K0_201, L0_201, K0_202, L0_202, K0_203, L0_203, K0_204, L0_204, K0_205, L0_205, K0_206, L0_206, K0_207, L0_207, K0_208, L0_208, K0_209, L0_209, K0_210, L0_210, K0_211, L0_211, K0_212, L0_212, K0_213, L0_213, K0_214, L0_214, K0_215, L0_215, K0_216, L0_216, K0_217, L0_217, K0_218, L0_218, K0_219, L0_219, K0_220, L0_220, K0_221, L0_221, K0_222, L0_222, K0_223, L0_223, K0_224, L0_224, K0_225, L0_225, K0_226, L0_226, K0_227, L0_227, K0_228, L0_228, K0_229, L0_229, K0_230, L0_230, K0_231, L0_231, K0_232, L0_232, K0_233, L0_233, K0_234, L0_234, K0_235, L0_235, K0_236, L0_236, K0_237, L0_237, K0_238, L0_238, K0_239, L0_239, K0_240, L0_240, R0_0, R0_2, R0_6, R0_12, R0_14, R0_15, R0_16, R0_17, R0_18, R0_19, R0_20, R0_21, R0_22, R0_23, R0_24, R0_25, R0_30, R0_31, R0_32, R0_34, R0_36, R0_43, R0_44, R0_45, R0_47, R0_48, R0_49, R0_50, R0_53, R0_55, R0_57, R0_59, R0_60, R0_62, R0_63, R0_64, R0_65, R0_66, R0_67, R0_69, R0_70, R0_71, R0_72]
        refine w_ret ⟨hS, fun _ => rfl, fun ls h => ?_⟩
        rw [hR] at h; cases h
    · have hcM' := hcM.sq hS ⟨by unfold WSm; omega, by unfold WSm; omega, by unfold WSm; omega⟩
      have hb' := hb.sm hS.sm (by unfold WSm; omega)
      obtain ⟨v, P, e2, rfl, hK2, hS2⟩ := back_ok hK hb' hu (m := min C.1 L) (by omega) (by omega) (by omega)
      have hw := lk_w (u := u) (F := f) hcR L
      have e4 : C.2.2 (bits u (8 * f + L - min C.1 L) (min C.1 L) * 2 ^ (C.1 - min C.1 L)) = lk u f C L := rfl
      have hlk := lk_lt (u := u) (F := f) hcR L
      have hln := hcR.2.2.1 (lk u f C L)
      have hq2 := hq.q hS2
      have pk := hq2.k
      have pl := hq2.l
      have pr := hq2.r
      have e3 : mI P 211 (bits u (8 * f + L - min C.1 L) (min C.1 L) * 2 ^ (C.1 - min C.1 L)) = iI (lk u f C L : Nat) := by
        rw [hS2.I 211 _ (by omega), ← e4]
        have := hcM'.2.2.2 _ hw
        rwa [Nat.mul_zero, Nat.zero_add] at this
      have e5 : mI P 208 (lk u f C L) = iI (C.2.1 (lk u f C L) : Nat) := by
        rw [hS2.I 208 _ (by omega)]
        have := hcM'.2.2.1 _ hlk
        rwa [Nat.mul_zero, Nat.zero_add] at this
      have e6 : shlI (iI (bits u (8 * f + L - min C.1 L) (min C.1 L))) (iI ((C.1 : Int) - (min C.1 L : Nat))) = iI ((bits u (8 * f + L - min C.1 L) (min C.1 L) * 2 ^ (C.1 - min C.1 L) : Nat) : Int) := by
        rw [show (C.1 : Int) - (min C.1 L : Nat) = ((C.1 - min C.1 L : Nat) : Int) by omega]
        exact shl_n (by omega)
      generalize bits u (8 * f + L - min C.1 L) (min C.1 L) * 2 ^ (C.1 - min C.1 L) = wd at e3 e6 hw
      have hks : stL u f C L0 (k + 1) = if L < C.2.1 (lk u f C L) then none else some (L - C.2.1 (lk u f C L)) := by rw [stL, hk]
      have hlt : lt0 u f C L0 k = lk u f C L := by unfold lt0; rw [hk]; rfl
      have e7 : i2b (iI (lk u f C L : Nat)) = sb (lk u f C L) := by rw [i2b_nat, Nat.mod_eq_of_lt hlk]
      clear e4
      generalize lk u f C L = s at *
      have ei : ((first : Int) + k).toNat = first + k := by omega
      have L47 : Wp (fX13_stream_L47 q (some 198) (iI first) (iI n) (iI (C.1 : Nat)) (iI k) (iI (min C.1 L : Nat)) O) fun v N => Sq (WSm first n) M N ∧ (rdS u f g C n = none → v = iI 0) ∧ ∀ ls, rdS u f g C n = some ls → v = iI 1 ∧ ∀ k, k < n → mI N 218 (first + k) = sb (ls k) := by
        have hSP : Sq (WSm first n) M P := hS.tr (hS2.weak (by unfold WSm; omega))
        by_cases z2 : L < C.2.1 s
        · rw [if_pos z2] at hks
          have := stL_none hks (n - (k + 1))
          rw [show k + 1 + (n - (k + 1)) = n by omega] at this
          rw [this, if_neg (fun h => by cases h)] at hR
          simp -implicitDefEqProofs (disch := (first | decide | omega)) only [fX13_stream_L47, qk, b3, e2, iJ_I, e6, pk, pl, pr, e3, e5, rtZ, bo_s, bd_s, bn_s, gI_s, gJ_s, gR_s, pI_s, pZ_s, pJ_s, pR_s, chk_s, chN_s, chN_n, aL_s, aI_c, aJ_c, aR_c, wI_c, wB_c, wS_c, wZ_c, wJ_c, wR_c, mK_sI, mK_sJ, mK_sR, mK_cpI, mL_sI, mL_sJ, mL_sR, mL_cpI, mI_sI, mI_sJ, mI_sR, mI_cpI, mJ_sI, mJ_sJ, mJ_sR, mJ_cpI, mR_sI, mR_sJ, mR_sR, mR_cpI, i2b_i2b, i2b_sb, iI_lit, iI_add, iI_sub, iI_mul, iI_neg, iI_lt, iI_le, iI_eq, iI_J, lt_T, lt_F, le_T, le_F, eq_T, eq_F, eqN_T, eqN_F, leN_T, leN_F, ltN_T, ltN_F, if_true, if_false, and_true, true_and, and_false, false_and, or_true, true_or, or_false, false_or, not_true_eq_false, not_false_eq_true, and_self, or_self, tn_c, ne_eq, dite_true, dite_false, K0_198, K0_199, L0_199, K0_200, L0_200, K0_201, L0_201, K0_202, L0_202, K0_203, L0_203, K0_204, L0_204, K0_205, L0_205, K0_206, L0_206, K0_207, L0_207, K0_208, L0_208, K0_209, L0_209, K0_210, L0_210, K0_211, L0_211, K0_212, L0_212, K0_213, L0_213, K0_214, L0_214, K0_215, L0_215, K0_216, L0_216, K0_217, L0_217, K0_218, L0_218, K0_219, L0_219, K0_220, L0_220, K0_221, L0_221, K0_222, L0_222, K0_223, L0_223, K0_224, L0_224, K0_225, L0_225, K0_226, L0_226, K0_227, L0_227, K0_228, L0_228, K0_229, L0_229, K0_230, L0_230, K0_231, L0_231, K0_232, L0_232, K0_233, L0_233, K0_234, L0_234, K0_235, L0_235, K0_236, L0_236, K0_237, L0_237, K0_238, L0_238, K0_239, L0_239, K0_240, L0_240, R0_0, R0_2, R0_6, R0_12, R0_14, R0_15, R0_16, R0_17, R0_18, R0_19, R0_20, R0_21, R0_22, R0_23, R0_24, R0_25, R0_30, R0_31, R0_32, R0_34, R0_36, R0_43, R0_44, R0_45, R0_47, R0_48, R0_49, R0_50, R0_53, R0_55, R0_57, R0_59, R0_60, R0_62, R0_63, R0_64, R0_65, R0_66, R0_67, R0_69, R0_70, R0_71, R0_72]
          refine w_ret ⟨hSP, fun _ => rfl, fun ls h => ?_⟩
          rw [hR] at h; cases h
        · rw [if_neg z2] at hks
          simp -implicitDefEqProofs (disch := (first | decide | omega)) only [fX13_stream_L47, qk, b3, e2, iJ_I, e6, pk, pl, pr, e3, e5, ei, e7, bo_s, bd_s, bn_s, gI_s, gJ_s, gR_s, pI_s, pZ_s, pJ_s, pR_s, chk_s, chN_s, chN_n, aL_s, aI_c, aJ_c, aR_c, wI_c, wB_c, wS_c, wZ_c, wJ_c, wR_c, mK_sI, mK_sJ, mK_sR, mK_cpI, mL_sI, mL_sJ, mL_sR, mL_cpI, mI_sI, mI_sJ, mI_sR, mI_cpI, mJ_sI, mJ_sJ, mJ_sR, mJ_cpI, mR_sI, mR_sJ, mR_sR, mR_cpI, i2b_i2b, i2b_sb, iI_lit, iI_add, iI_sub, iI_mul, iI_neg, iI_lt, iI_le, iI_eq, iI_J, lt_T, lt_F, le_T, le_F, eq_T, eq_F, eqN_T, eqN_F, leN_T, leN_F, ltN_T, ltN_F, if_true, if_false, and_true, true_and, and_false, false_and, or_true, true_or, or_false, false_or, not_true_eq_false, not_false_eq_true, and_self, or_self, tn_c, ne_eq, dite_true, dite_false, K0_198, K0_199, L0_199, K0_200, L0_200, K0_201, L0_201, K0_202, L0_202, K0_203, L0_203, K0_204, L0_204, K0_205, L0_205, K0_206, L0_206, K0_207, L0_207, K0_208, L0_208, K0_209, L0_209, K0_210, L0_210, K0_211, L0_211, K0_212, L0_212, K0_213, L0_213, K0_214, L0_214, K0_215, L0_215, K0_216, L0_216, K0_217, L0_217, K0_218, L0_218, K0_219, L0_219, K0_220, L0_220, K0_221, L0_221, K0_222, L0_222, K0_223, L0_223, K0_224, L0_224, K0_225, L0_225, K0_226, L0_226, K0_227, L0_227, K0_228, L0_228, K0_229, L0_229, K0_230, L0_230, K0_231, L0_231, K0_232, L0_232, K0_233, L0_233, K0_234, L0_234, K0_235, L0_235, K0_236, L0_236, K0_237, L0_237, K0_238, L0_238, K0_239, L0_239, K0_240, L0_240, R0_0, R0_2, R0_6, R0_12, R0_14, R0_15, R0_16, R0_17, R0_18, R0_19, R0_20, R0_21, R0_22, R0_23, R0_24, R0_25, R0_30, R0_31, R0_32, R0_34, R0_36, R0_43, R0_44, R0_45, R0_47, R0_48, R0_49, R0_50, R0_53, R0_55, R0_57, R0_59, R0_60, R0_62, R0_63, R0_64, R0_65, R0_66, R0_67, R0_69, R0_70, R0_71, R0_72]
          refine ih (d - 1) _ _ (by omega) ⟨k + 1, L - C.2.1 s, by omega, hks, ?_, ?_, fun i hi => ?_, rfl⟩
          · refine Sq.sI (Sq.sI hSP ?_) ?_ <;> unfold WSm <;> omega
          · obtain ⟨p0, p1, p2, p3, p4⟩ := hK2
            refine ⟨p0, p1, ?_, ?_, ?_⟩ <;> simp -implicitDefEqProofs (disch := (first | decide | omega)) only [mK_sI, mK_sJ, mK_sR, mK_cpI, mL_sI, mL_sJ, mL_sR, mL_cpI, mI_sI, mI_sJ, mI_sR, mI_cpI, mJ_sI, mJ_sJ, mJ_sR, mJ_cpI, mR_sI, mR_sJ, mR_sR, mR_cpI, eqN_T, eqN_F, if_true, if_false, and_true, true_and, and_false, false_and, or_true, true_or, or_false, false_or, not_true_eq_false, not_false_eq_true, and_self, or_self, tn_c, ne_eq, dite_true, dite_false]
            · exact p2
            · refine congrArg iI ?_
              omega
            · exact p4
          · by_cases ei : i = k
            · subst ei
              simp -implicitDefEqProofs (disch := (first | decide | omega)) only [mK_sI, mK_sJ, mK_sR, mK_cpI, mL_sI, mL_sJ, mL_sR, mL_cpI, mI_sI, mI_sJ, mI_sR, mI_cpI, mJ_sI, mJ_sJ, mJ_sR, mJ_cpI, mR_sI, mR_sJ, mR_sR, mR_cpI, eqN_T, eqN_F, if_true, if_false, and_true, true_and, and_false, false_and, or_true, true_or, or_false, false_or, not_true_eq_false, not_false_eq_true, and_self, or_self, tn_c, ne_eq, dite_true, dite_false]
              rw [hlt]
            · simp -implicitDefEqProofs (disch := (first | decide | omega)) only [mK_sI, mK_sJ, mK_sR, mK_cpI, mL_sI, mL_sJ, mL_sR, mL_cpI, mI_sI, mI_sJ, mI_sR, mI_cpI, mJ_sI, mJ_sJ, mJ_sR, mJ_cpI, mR_sI, mR_sJ, mR_sR, mR_cpI, eqN_T, eqN_F, if_true, if_false, and_true, true_and, and_false, false_and, or_true, true_or, or_false, false_or, not_true_eq_false, not_false_eq_true, and_self, or_self, tn_c, ne_eq, dite_true, dite_false]
              exact (hS2.I 218 _ (by omega)).trans (hV i (by omega))
      by_cases z3 : C.1 ≤ L
      · rw [show min C.1 L = C.1 by omega] at L47
        simp -implicitDefEqProofs (disch := (first | decide | omega)) only [fX13_stream_B22, qk, b3, bo_s, bd_s, bn_s, gI_s, gJ_s, gR_s, pI_s, pZ_s, pJ_s, pR_s, chk_s, chN_s, chN_n, aL_s, aI_c, aJ_c, aR_c, wI_c, wB_c, wS_c, wZ_c, wJ_c, wR_c, mK_sI, mK_sJ, mK_sR, mK_cpI, mL_sI, mL_sJ, mL_sR, mL_cpI, mI_sI, mI_sJ, mI_sR, mI_cpI, mJ_sI, mJ_sJ, mJ_sR, mJ_cpI, mR_sI, mR_sJ, mR_sR, mR_cpI, i2b_i2b, i2b_sb, iI_lit, iI_add, iI_sub, iI_mul, iI_neg, iI_lt, iI_le, iI_eq, iI_J, lt_T, lt_F, le_T, le_F, eq_T, eq_F, eqN_T, eqN_F, leN_T, leN_F, ltN_T, ltN_F, if_true, if_false, and_true, true_and, and_false, false_and, or_true, true_or, or_false, false_or, not_true_eq_false, not_false_eq_true, and_self, or_self, tn_c, ne_eq, dite_true, dite_false, K0_198, K0_199, L0_199, K0_200, L0_200, K0_201, L0_201, K0_202, L0_202, K0_203, L0_203, K0_204, L0_204, K0_205, L0_205, K0_206, L0_206, K0_207, L0_207, K0_208, L0_208, K0_209, L0_209, K0_210, L0_210, K0_211, L0_211, K0_212, L0_212, K0_213, L0_213, K0_214, L0_214, K0_215, L0_215, K0_216, L0_216, K0_217, L0_217, K0_218, L0_218, K0_219, L0_219, K0_220, L0_220, K0_221, L0_221, K0_222, L0_222, K0_223, L0_223, K0_224, L0_224, K0_225, L0_225, K0_226, L0_226, K0_227, L0_227, K0_228, L0_228, K0_229, L0_229, K0_230, L0_230, K0_231, L0_231, K0_232, L0_232, K0_233, L0_233, K0_234, L0_234, K0_235, L0_235, K0_236, L0_236, K0_237, L0_237, K0_238, L0_238, K0_239, L0_239, K0_240, L0_240, R0_0, R0_2, R0_6, R0_12, R0_14, R0_15, R0_16, R0_17, R0_18, R0_19, R0_20, R0_21, R0_22, R0_23, R0_24, R0_25, R0_30, R0_31, R0_32, R0_34, R0_36, R0_43, R0_44, R0_45, R0_47, R0_48, R0_49, R0_50, R0_53, R0_55, R0_57, R0_59, R0_60, R0_62, R0_63, R0_64, R0_65, R0_66, R0_67, R0_69, R0_70, R0_71, R0_72]
        exact L47
      · rw [show min C.1 L = L by omega] at L47
        simp -implicitDefEqProofs (disch := (first | decide | omega)) only [fX13_stream_B22, qk, b3, bo_s, bd_s, bn_s, gI_s, gJ_s, gR_s, pI_s, pZ_s, pJ_s, pR_s, chk_s, chN_s, chN_n, aL_s, aI_c, aJ_c, aR_c, wI_c, wB_c, wS_c, wZ_c, wJ_c, wR_c, mK_sI, mK_sJ, mK_sR, mK_cpI, mL_sI, mL_sJ, mL_sR, mL_cpI, mI_sI, mI_sJ, mI_sR, mI_cpI, mJ_sI, mJ_sJ, mJ_sR, mJ_cpI, mR_sI, mR_sJ, mR_sR, mR_cpI, i2b_i2b, i2b_sb, iI_lit, iI_add, iI_sub, iI_mul, iI_neg, iI_lt, iI_le, iI_eq, iI_J, lt_T, lt_F, le_T, le_F, eq_T, eq_F, eqN_T, eqN_F, leN_T, leN_F, ltN_T, ltN_F, if_true, if_false, and_true, true_and, and_false, false_and, or_true, true_or, or_false, false_or, not_true_eq_false, not_false_eq_true, and_self, or_self, tn_c, ne_eq, dite_true, dite_false, K0_198, K0_199, L0_199, K0_200, L0_200, K0_201, L0_201, K0_202, L0_202, K0_203, L0_203, K0_204, L0_204, K0_205, L0_205, K0_206, L0_206, K0_207, L0_207, K0_208, L0_208, K0_209, L0_209, K0_210, L0_210, K0_211, L0_211, K0_212, L0_212, K0_213, L0_213, K0_214, L0_214, K0_215, L0_215, K0_216, L0_216, K0_217, L0_217, K0_218, L0_218, K0_219, L0_219, K0_220, L0_220, K0_221, L0_221, K0_222, L0_222, K0_223, L0_223, K0_224, L0_224, K0_225, L0_225, K0_226, L0_226, K0_227, L0_227, K0_228, L0_228, K0_229, L0_229, K0_230, L0_230, K0_231, L0_231, K0_232, L0_232, K0_233, L0_233, K0_234, L0_234, K0_235, L0_235, K0_236, L0_236, K0_237, L0_237, K0_238, L0_238, K0_239, L0_239, K0_240, L0_240, R0_0, R0_2, R0_6, R0_12, R0_14, R0_15, R0_16, R0_17, R0_18, R0_19, R0_20, R0_21, R0_22, R0_23, R0_24, R0_25, R0_30, R0_31, R0_32, R0_34, R0_36, R0_43, R0_44, R0_45, R0_47, R0_48, R0_49, R0_50, R0_53, R0_55, R0_57, R0_59, R0_60, R0_62, R0_63, R0_64, R0_65, R0_66, R0_67, R0_69, R0_70, R0_71, R0_72]
        exact L47
end MSTRM
