/-! the reference reads a CODE -/
def WX (a j : Nat) : Prop := (a = 198 ∧ 7 ≤ j ∧ j ≤ 13) ∨ a = 201 ∨ TC 6 a j ∨ a = 212
def WY (t a j : Nat) : Prop := a = 212 ∨ ((a = 209 ∨ a = 210) ∧ j = t) ∨ (a = 208 ∧ 256 * t ≤ j ∧ j < 256 * t + 256) ∨ (a = 211 ∧ 2048 * t ≤ j ∧ j < 2048 * t + 2048)
abbrev MV (M : Mem) (n : Nat) (w : Nat → Nat) : Prop := ∀ i, i < n → mI M 212 i = iI (w i)
abbrev CdM (M : Mem) (t : Nat) (C : Cd) : Prop := mI M 209 t = iI 1 ∧ mI M 210 t = iI C.1 ∧ (∀ s, s < 256 → mI M 208 (256 * t + s) = iI (C.2.1 s)) ∧ ∀ i, i < 2 ^ C.1 → mI M 211 (2048 * t + i) = iI (C.2.2 i)
def mtW (u : Nat → Nat) (a g : Nat) : Option (Nat × (Nat → Nat)) := match rdT u a g 255 6 with
  | none => none
  | some x => if g ≤ x.1 ∨ u (g - 1) = 0 then none else inT u x.1 (8 * (g - 1 - x.1) + Nat.log2 (u (g - 1))) x.2
theorem wraw_m {u : Nat → Nat} {a : Nat} (h : u a ≤ 127) : wraw u a = mtW u (a + 1) (a + 1 + u a) := by
  unfold wraw mtW
  rw [if_pos h]
  rfl
section MCODE
variable {M : Mem} {e : Nat} {u : Nat → Nat}
theorem mturn_ok {F L a b : Nat} {T : Tb} (hT : RSt M) (hTM : TbM M 6 T) (hTR : TbR T) (hK : RK M 198 199 F L 0) (hb : BV M 199 8000 e u) (hu : ∀ i, u i < 256) (he : 8 * F + L ≤ 8 * e) (ha : a < 2 ^ T.1) (hbb : b < 2 ^ T.1) :
    Wp (fX13_toldWeights_L77 (some 198) (iI 3072) (iI a) (iI b) (iI 0) (iI 1) M) fun v N => Sq (fun a j => (a = 198 ∧ j = 11) ∨ a = 212) M N ∧ (trn u F T 254 L a b 0 (fun _ => 0) = none → v = iI (-1)) ∧ ∀ n w, trn u F T 254 L a b 0 (fun _ => 0) = some (n, w) → v = iI n ∧ MV N n w := by
  have g3 := hb.2.2.1
  have h9 : 2 ^ T.1 ≤ 512 := pow_le2 (b := 9) hTR.1
  generalize hR : trn u F T 254 L a b 0 (fun _ => 0) = R
  unfold fX13_toldWeights_L77
  refine w_lpF (fun d x O => Sq (fun a j => (a = 198 ∧ j = 11) ∨ a = 212) M O ∧ ((∃ n L a b k : Nat, ∃ w, n + k = 254 ∧ d = k + 2 ∧ trn u F T k L a b n w = R ∧ 8 * F + L ≤ 8 * e ∧ a < 2 ^ T.1 ∧ b < 2 ^ T.1 ∧ RK O 198 199 F L 0 ∧ MV O n w ∧ x = (some 198, iI 3072, iI a, iI b, iI n, iI 1)) ∨ (d = 1 ∧ R = none ∧ ∃ y z, x = (some 198, iI 3072, y, z, iI 255, iI 1)) ∨ (d = 0 ∧ ∃ n w y z, R = some (n, w) ∧ MV O n w ∧ x = (some 198, iI 3072, y, z, iI (n : Nat), iI 0)))) 256 (by omega) ⟨Sq.rf, Or.inl ⟨0, L, a, b, 254, fun _ => 0, by omega, rfl, hR, he, ha, hbb, hK, fun i hi => by omega, rfl⟩⟩ ?_
  rintro g d x O ⟨hS, ⟨n, L, a, b, k, w, hn, rfl, hRes, he, ha, hbb, hK, hz, rfl⟩ | ⟨rfl, hN, y, z, rfl⟩ | ⟨rfl, n, w, y, z, hRes, hz, rfl⟩⟩ ih
  · have hq := hT.q hS
    have qk := hq.k
    have ql := hq.l
    have qr := hq.r
    have ea : ((3072 : Int) + a).toNat = 3072 + a := by omega
    have eb : ((3072 : Int) + b).toNat = 3072 + b := by omega
    have ma := hTM.2.2 a ha
    have mb := hTM.2.2 b hbb
    have a1 : mI O 202 (3072 + a) = iI (T.2.1 a : Nat) := (hS.I 202 _ (by omega)).trans ma.1
    obtain ⟨N1, hN1⟩ : ∃ N1, sI O 212 n (iI (T.2.1 a : Nat)) = N1 := ⟨_, rfl⟩
    have hS1 : Sq (fun a j => (a = 198 ∧ j = 11) ∨ a = 212) M N1 := by
      rw [← hN1]
      exact hS.sI (Or.inr rfl)
    have hq1 := hT.q hS1
    have nk := hq1.k
    have nl := hq1.l
    have nr := hq1.r
    have a2 : mI N1 203 (3072 + a) = iI (T.2.2.1 a : Nat) := (hS1.I 203 _ (by omega)).trans ma.2.1
    have a3 : mI N1 204 (3072 + a) = iI (T.2.2.2 a : Nat) := (hS1.I 204 _ (by omega)).trans ma.2.2
    have b1 : mI N1 202 (3072 + b) = iI (T.2.1 b : Nat) := (hS1.I 202 _ (by omega)).trans mb.1
    have hK1 : RK N1 198 199 F L 0 := by
      obtain ⟨k0, k1, k2, k3, k4⟩ := hK
      rw [← hN1]
      refine ⟨k0, k1, ?_, ?_, ?_⟩ <;> simp -implicitDefEqProofs (disch := omega) only [mK_sI, mK_sJ, mK_sR, mK_cpI, mL_sI, mL_sJ, mL_sR, mL_cpI, mI_sI, mI_sJ, mI_sR, mI_cpI, mJ_sI, mJ_sJ, mJ_sR, mJ_cpI, mR_sI, mR_sJ, mR_sR, mR_cpI, eqN_T, eqN_F, if_true, if_false, and_true, true_and, and_false, false_and, or_true, true_or, or_false, false_or, not_true_eq_false, not_false_eq_true, and_self, or_self, tn_c, ne_eq, dite_true, dite_false] <;> assumption
    have k11 := hK1.2.2.2.1
    have nz : MV N1 (n + 1) (uN w n (T.2.1 a)) := fun i hi => by
      rw [← hN1]
      unfold uN
      by_cases ei : i = n
      · subst ei
        simp -implicitDefEqProofs (disch := omega) only [mK_sI, mK_sJ, mK_sR, mK_cpI, mL_sI, mL_sJ, mL_sR, mL_cpI, mI_sI, mI_sJ, mI_sR, mI_cpI, mJ_sI, mJ_sJ, mJ_sR, mJ_cpI, mR_sI, mR_sJ, mR_sR, mR_cpI, eqN_T, eqN_F, if_true, if_false, and_true, true_and, and_false, false_and, or_true, true_or, or_false, false_or, not_true_eq_false, not_false_eq_true, and_self, or_self, tn_c, ne_eq, dite_true, dite_false]
      · simp -implicitDefEqProofs (disch := omega) only [mK_sI, mK_sJ, mK_sR, mK_cpI, mL_sI, mL_sJ, mL_sR, mL_cpI, mI_sI, mI_sJ, mI_sR, mI_cpI, mJ_sI, mJ_sJ, mJ_sR, mJ_cpI, mR_sI, mR_sJ, mR_sR, mR_cpI, eqN_T, eqN_F, if_true, if_false, and_true, true_and, and_false, false_and, or_true, true_or, or_false, false_or, not_true_eq_false, not_false_eq_true, and_self, or_self, tn_c, ne_eq, dite_true, dite_false]
        exact hz i (by omega)
    obtain ⟨hf, hg9, hh⟩ := hTR.2 a ha
    have hbt := bits_lt u (T.2.2.1 a) (8 * F + L - T.2.2.1 a)
    by_cases c7 : L < T.2.2.1 a
    · by_cases c8 : k = 0
      · subst c8
        rw [trn] at hRes
        obtain rfl : n = 254 := by omega
        simp -implicitDefEqProofs (disch := omega) only [fX13_toldWeights_B77, qk, ql, qr, ea, a1, hN1, nk, nl, nr, k11, a2, bo_s, bd_s, bn_s, gI_s, gJ_s, gR_s, pI_s, pZ_s, pJ_s, pR_s, chk_s, chN_s, chN_n, aL_s, aI_c, aJ_c, aR_c, wI_c, wB_c, wS_c, wZ_c, wJ_c, wR_c, mK_sI, mK_sJ, mK_sR, mK_cpI, mL_sI, mL_sJ, mL_sR, mL_cpI, mI_sI, mI_sJ, mI_sR, mI_cpI, mJ_sI, mJ_sJ, mJ_sR, mJ_cpI, mR_sI, mR_sJ, mR_sR, mR_cpI, i2b_i2b, i2b_sb, iI_lit, iI_add, iI_sub, iI_mul, iI_neg, iI_lt, iI_le, iI_eq, iI_J, lt_T, lt_F, le_T, le_F, eq_T, eq_F, eqN_T, eqN_F, leN_T, leN_F, ltN_T, ltN_F, if_true, if_false, and_true, true_and, and_false, false_and, or_true, true_or, or_false, false_or, not_true_eq_false, not_false_eq_true, and_self, or_self, tn_c, ne_eq, dite_true, dite_false, K0_198, K0_199, L0_199, K0_200, L0_200, K0_201, L0_201, K0_202, L0_202, K0_203, L0_203, K0_204, L0_204, K0_205, L0_205, K0_206, L0_206, K0_207, L0_207, K0_208, L0_208, K0_209, L0_209, K0_210, L0_210, K0_211, L0_211, K0_212, L0_212, K0_213, L0_213, K0_214, L0_214, K0_215, L0_215, K0_216, L0_216, K0_217, L0_217, K0_218, L0_218, K0_219, L0_219, K0_220, L0_220, K0_221, L0_221, K0_222, L0_222, K0_223, L0_223, K0_224, L0_224, K0_225, L0_225, K0_226, L0_226, K0_227, L0_227, K0_228, L0_228, K0_229, L0_229, K0_230, L0_230, K0_231, L0_231, K0_232, L0_232, K0_233, L0_233, K0_234, L0_234, K0_235, L0_235, K0_236, L0_236, K0_237, L0_237, K0_238, L0_238, K0_239, L0_239, K0_240, L0_240, R0_0, R0_2, R0_6, R0_12, R0_14, R0_15, R0_16, R0_17, R0_18, R0_19, R0_20, R0_21, R0_22, R0_23, R0_24, R0_25, R0_30, R0_31, R0_32, R0_34, R0_36, R0_43, R0_44, R0_45, R0_47, R0_48, R0_49, R0_50, R0_53, R0_55, R0_57, R0_59, R0_60, R0_62, R0_63, R0_64, R0_65, R0_66, R0_67, R0_69, R0_70, R0_71, R0_72]
        refine w_ret ⟨hS1, fun _ => rfl, fun n w h => ?_⟩
        rw [← hRes] at h; cases h
      · obtain ⟨k, rfl⟩ : ∃ j, k = j + 1 := ⟨k - 1, by omega⟩
        rw [trn, if_pos c7] at hRes
        simp -implicitDefEqProofs (disch := omega) only [fX13_toldWeights_B77, qk, ql, qr, ea, a1, hN1, nk, nl, nr, k11, a2, eb, b1, bo_s, bd_s, bn_s, gI_s, gJ_s, gR_s, pI_s, pZ_s, pJ_s, pR_s, chk_s, chN_s, chN_n, aL_s, aI_c, aJ_c, aR_c, wI_c, wB_c, wS_c, wZ_c, wJ_c, wR_c, mK_sI, mK_sJ, mK_sR, mK_cpI, mL_sI, mL_sJ, mL_sR, mL_cpI, mI_sI, mI_sJ, mI_sR, mI_cpI, mJ_sI, mJ_sJ, mJ_sR, mJ_cpI, mR_sI, mR_sJ, mR_sR, mR_cpI, i2b_i2b, i2b_sb, iI_lit, iI_add, iI_sub, iI_mul, iI_neg, iI_lt, iI_le, iI_eq, iI_J, lt_T, lt_F, le_T, le_F, eq_T, eq_F, eqN_T, eqN_F, leN_T, leN_F, ltN_T, ltN_F, if_true, if_false, and_true, true_and, and_false, false_and, or_true, true_or, or_false, false_or, not_true_eq_false, not_false_eq_true, and_self, or_self, tn_c, ne_eq, dite_true, dite_false, K0_198, K0_199, L0_199, K0_200, L0_200, K0_201, L0_201, K0_202, L0_202, K0_203, L0_203, K0_204, L0_204, K0_205, L0_205, K0_206, L0_206, K0_207, L0_207, K0_208, L0_208, K0_209, L0_209, K0_210, L0_210, K0_211, L0_211, K0_212, L0_212, K0_213, L0_213, K0_214, L0_214, K0_215, L0_215, K0_216, L0_216, K0_217, L0_217, K0_218, L0_218, K0_219, L0_219, K0_220, L0_220, K0_221, L0_221, K0_222, L0_222, K0_223, L0_223, K0_224, L0_224, K0_225, L0_225, K0_226, L0_226, K0_227, L0_227, K0_228, L0_228, K0_229, L0_229, K0_230, L0_230, K0_231, L0_231, K0_232, L0_232, K0_233, L0_233, K0_234, L0_234, K0_235, L0_235, K0_236, L0_236, K0_237, L0_237, K0_238, L0_238, K0_239, L0_239, K0_240, L0_240, R0_0, R0_2, R0_6, R0_12, R0_14, R0_15, R0_16, R0_17, R0_18, R0_19, R0_20, R0_21, R0_22, R0_23, R0_24, R0_25, R0_30, R0_31, R0_32, R0_34, R0_36, R0_43, R0_44, R0_45, R0_47, R0_48, R0_49, R0_50, R0_53, R0_55, R0_57, R0_59, R0_60, R0_62, R0_63, R0_64, R0_65, R0_66, R0_67, R0_69, R0_70, R0_71, R0_72]
        refine ih 0 _ _ (by omega) ⟨hS1.sI (Or.inr rfl), Or.inr (Or.inr ⟨rfl, n + 2, _, _, _, hRes.symm, fun i hi => ?_, rfl⟩)⟩
        show mI (sI N1 212 ((n : Int) + 1).toNat _) 212 i = _
        rw [show ((n : Int) + 1).toNat = n + 1 by omega]
        unfold uN at nz ⊢
        by_cases ei : i = n + 1
        · subst ei
          simp -implicitDefEqProofs (disch := omega) only [mK_sI, mK_sJ, mK_sR, mK_cpI, mL_sI, mL_sJ, mL_sR, mL_cpI, mI_sI, mI_sJ, mI_sR, mI_cpI, mJ_sI, mJ_sJ, mJ_sR, mJ_cpI, mR_sI, mR_sJ, mR_sR, mR_cpI, eqN_T, eqN_F, if_true, if_false, and_true, true_and, and_false, false_and, or_true, true_or, or_false, false_or, not_true_eq_false, not_false_eq_true, and_self, or_self, tn_c, ne_eq, dite_true, dite_false]
        · simp -implicitDefEqProofs (disch := omega) only [mK_sI, mK_sJ, mK_sR, mK_cpI, mL_sI, mL_sJ, mL_sR, mL_cpI, mI_sI, mI_sJ, mI_sR, mI_cpI, mJ_sI, mJ_sJ, mJ_sR, mJ_cpI, mR_sI, mR_sJ, mR_sR, mR_cpI, eqN_T, eqN_F, if_true, if_false, and_true, true_and, and_false, false_and, or_true, true_or, or_false, false_or, not_true_eq_false, not_false_eq_true, and_self, or_self, tn_c, ne_eq, dite_true, dite_false]
          exact nz i (by omega)
    · have hb1 := hb.sm hS1.sm (by omega)
      obtain ⟨v, N2, e5, rfl, hK2, hS2⟩ := back_ok hK1 hb1 hu (m := T.2.2.1 a) (by omega) (by omega) he
      have hS3 : Sq (fun a j => (a = 198 ∧ j = 11) ∨ a = 212) M N2 := hS1.tr (hS2.weak (by omega))
      by_cases c8 : k = 0
      · subst c8
        rw [trn] at hRes
        obtain rfl : n = 254 := by omega
        simp -implicitDefEqProofs (disch := omega) only [fX13_toldWeights_B77, qk, ql, qr, ea, a1, hN1, nk, nl, nr, k11, a2, a3, e5, iJ_I, bo_s, bd_s, bn_s, gI_s, gJ_s, gR_s, pI_s, pZ_s, pJ_s, pR_s, chk_s, chN_s, chN_n, aL_s, aI_c, aJ_c, aR_c, wI_c, wB_c, wS_c, wZ_c, wJ_c, wR_c, mK_sI, mK_sJ, mK_sR, mK_cpI, mL_sI, mL_sJ, mL_sR, mL_cpI, mI_sI, mI_sJ, mI_sR, mI_cpI, mJ_sI, mJ_sJ, mJ_sR, mJ_cpI, mR_sI, mR_sJ, mR_sR, mR_cpI, i2b_i2b, i2b_sb, iI_lit, iI_add, iI_sub, iI_mul, iI_neg, iI_lt, iI_le, iI_eq, iI_J, lt_T, lt_F, le_T, le_F, eq_T, eq_F, eqN_T, eqN_F, leN_T, leN_F, ltN_T, ltN_F, if_true, if_false, and_true, true_and, and_false, false_and, or_true, true_or, or_false, false_or, not_true_eq_false, not_false_eq_true, and_self, or_self, tn_c, ne_eq, dite_true, dite_false, K0_198, K0_199, L0_199, K0_200, L0_200, K0_201, L0_201, K0_202, L0_202, K0_203, L0_203, K0_204, L0_204, K0_205, L0_205, K0_206, L0_206, K0_207, L0_207, K0_208, L0_208, K0_209, L0_209, K0_210, L0_210, K0_211, L0_211, K0_212, L0_212, K0_213, L0_213, K0_214, L0_214, K0_215, L0_215, K0_216, L0_216, K0_217, L0_217, K0_218, L0_218, K0_219, L0_219, K0_220, L0_220, K0_221, L0_221, K0_222, L0_222, K0_223, L0_223, K0_224, L0_224, K0_225, L0_225, K0_226, L0_226, K0_227, L0_227, K0_228, L0_228, K0_229, L0_229, K0_230, L0_230, K0_231, L0_231, K0_232, L0_232, K0_233, L0_233, K0_234, L0_234, K0_235, L0_235, K0_236, L0_236, K0_237, L0_237, K0_238, L0_238, K0_239, L0_239, K0_240, L0_240, R0_0, R0_2, R0_6, R0_12, R0_14, R0_15, R0_16, R0_17, R0_18, R0_19, R0_20, R0_21, R0_22, R0_23, R0_24, R0_25, R0_30, R0_31, R0_32, R0_34, R0_36, R0_43, R0_44, R0_45, R0_47, R0_48, R0_49, R0_50, R0_53, R0_55, R0_57, R0_59, R0_60, R0_62, R0_63, R0_64, R0_65, R0_66, R0_67, R0_69, R0_70, R0_71, R0_72]
        exact ih 1 _ _ (by omega) ⟨hS3, Or.inr (Or.inl ⟨rfl, hRes.symm, _, _, rfl⟩)⟩
      · obtain ⟨k, rfl⟩ : ∃ j, k = j + 1 := ⟨k - 1, by omega⟩
        rw [trn, if_neg c7] at hRes
        simp -implicitDefEqProofs (disch := omega) only [fX13_toldWeights_B77, qk, ql, qr, ea, a1, hN1, nk, nl, nr, k11, a2, a3, e5, iJ_I, bo_s, bd_s, bn_s, gI_s, gJ_s, gR_s, pI_s, pZ_s, pJ_s, pR_s, chk_s, chN_s, chN_n, aL_s, aI_c, aJ_c, aR_c, wI_c, wB_c, wS_c, wZ_c, wJ_c, wR_c, mK_sI, mK_sJ, mK_sR, mK_cpI, mL_sI, mL_sJ, mL_sR, mL_cpI, mI_sI, mI_sJ, mI_sR, mI_cpI, mJ_sI, mJ_sJ, mJ_sR, mJ_cpI, mR_sI, mR_sJ, mR_sR, mR_cpI, i2b_i2b, i2b_sb, iI_lit, iI_add, iI_sub, iI_mul, iI_neg, iI_lt, iI_le, iI_eq, iI_J, lt_T, lt_F, le_T, le_F, eq_T, eq_F, eqN_T, eqN_F, leN_T, leN_F, ltN_T, ltN_F, if_true, if_false, and_true, true_and, and_false, false_and, or_true, true_or, or_false, false_or, not_true_eq_false, not_false_eq_true, and_self, or_self, tn_c, ne_eq, dite_true, dite_false, K0_198, K0_199, L0_199, K0_200, L0_200, K0_201, L0_201, K0_202, L0_202, K0_203, L0_203, K0_204, L0_204, K0_205, L0_205, K0_206, L0_206, K0_207, L0_207, K0_208, L0_208, K0_209, L0_209, K0_210, L0_210, K0_211, L0_211, K0_212, L0_212, K0_213, L0_213, K0_214, L0_214, K0_215, L0_215, K0_216, L0_216, K0_217, L0_217, K0_218, L0_218, K0_219, L0_219, K0_220, L0_220, K0_221, L0_221, K0_222, L0_222, K0_223, L0_223, K0_224, L0_224, K0_225, L0_225, K0_226, L0_226, K0_227, L0_227, K0_228, L0_228, K0_229, L0_229, K0_230, L0_230, K0_231, L0_231, K0_232, L0_232, K0_233, L0_233, K0_234, L0_234, K0_235, L0_235, K0_236, L0_236, K0_237, L0_237, K0_238, L0_238, K0_239, L0_239, K0_240, L0_240, R0_0, R0_2, R0_6, R0_12, R0_14, R0_15, R0_16, R0_17, R0_18, R0_19, R0_20, R0_21, R0_22, R0_23, R0_24, R0_25, R0_30, R0_31, R0_32, R0_34, R0_36, R0_43, R0_44, R0_45, R0_47, R0_48, R0_49, R0_50, R0_53, R0_55, R0_57, R0_59, R0_60, R0_62, R0_63, R0_64, R0_65, R0_66, R0_67, R0_69, R0_70, R0_71, R0_72]
        exact ih (k + 2) _ _ (by omega) ⟨hS3, Or.inl ⟨n + 1, L - T.2.2.1 a, b, T.2.2.2 a + bits u (8 * F + L - T.2.2.1 a) (T.2.2.1 a), k, _, by omega, rfl, hRes, by omega, hbb, by omega, hK2, fun i hi => (hS2.I 212 i (by omega)).trans (nz i hi), rfl⟩⟩
  · show Wp (fX13_toldWeights_B77 g (some 198) (iI 3072) y z (iI 255) (iI 1) O) _
    rw [fX13_toldWeights_B77, if_neg (by rw [iI_0, iI_eq (by omega) (by omega)]; omega), iI_lit, if_pos rfl]
    exact w_ret ⟨hS, fun _ => rfl, fun n w h => by rw [hN] at h; cases h⟩
  · show Wp (fX13_toldWeights_B77 g (some 198) (iI 3072) y z (iI (n : Nat)) (iI 0) O) _
    rw [fX13_toldWeights_B77, if_pos (show iI 0 = (0 : Int32) from iI_0.symm)]
    refine w_ret ⟨hS, fun h => ?_, fun n' w' h => ?_⟩
    · rw [hRes] at h; cases h
    · rw [hRes] at h
      cases h
      exact ⟨rfl, hz⟩
theorem toldWeights_ok {a g : Nat} (hT : RSt M) (hb : BV M 199 8000 e u) (hu : ∀ i, u i < 256) (hg : g ≤ e) (ha : a < 1000000) :
    Wp (fX13_toldWeights (some 198) (iI a) (iI g) M) fun v N => Sq WX M N ∧ (mtW u a g = none → v = iI (-1)) ∧ ∀ n w, mtW u a g = some (n, w) → v = iI n ∧ MV N n w := by
  have g3 := hb.2.2.1
  have qk0 := hT.k
  obtain ⟨v, N, e1, hS1, hA, hB⟩ := toldCounts_ok (a := a) (g := g) (gr := 255) (most := 6) hT hb hu hg ha (by omega) (by omega)
  rw [show ((255 : Nat) : Int) = 255 from rfl, show ((6 : Nat) : Int) = 6 from rfl] at e1
  have hSX : Sq WX M N := hS1.weak (by unfold WM WX; omega)
  have qk1 := (hT.q hS1).k
  cases hR : rdT u a g 255 6 with
  | none =>
    have hv := hA hR
    subst hv
    have hm : mtW u a g = none := by unfold mtW; rw [hR]
    simp -implicitDefEqProofs (disch := omega) only [fX13_toldWeights, qk0, e1, bo_s, bd_s, bn_s, gI_s, gJ_s, gR_s, pI_s, pZ_s, pJ_s, pR_s, chk_s, chN_s, chN_n, aL_s, aI_c, aJ_c, aR_c, wI_c, wB_c, wS_c, wZ_c, wJ_c, wR_c, mK_sI, mK_sJ, mK_sR, mK_cpI, mL_sI, mL_sJ, mL_sR, mL_cpI, mI_sI, mI_sJ, mI_sR, mI_cpI, mJ_sI, mJ_sJ, mJ_sR, mJ_cpI, mR_sI, mR_sJ, mR_sR, mR_cpI, i2b_i2b, i2b_sb, iI_lit, iI_add, iI_sub, iI_mul, iI_neg, iI_lt, iI_le, iI_eq, iI_J, lt_T, lt_F, le_T, le_F, eq_T, eq_F, eqN_T, eqN_F, leN_T, leN_F, ltN_T, ltN_F, if_true, if_false, and_true, true_and, and_false, false_and, or_true, true_or, or_false, false_or, not_true_eq_false, not_false_eq_true, and_self, or_self, tn_c, ne_eq, dite_true, dite_false, K0_198, K0_199, L0_199, K0_200, L0_200, K0_201, L0_201, K0_202, L0_202, K0_203, L0_203, K0_204, L0_204, K0_205, L0_205, K0_206, L0_206, K0_207, L0_207, K0_208, L0_208, K0_209, L0_209, K0_210, L0_210, K0_211, L0_211, K0_212, L0_212, K0_213, L0_213, K0_214, L0_214, K0_215, L0_215, K0_216, L0_216, K0_217, L0_217, K0_218, L0_218, K0_219, L0_219, K0_220, L0_220, K0_221, L0_221, K0_222, L0_222, K0_223, L0_223, K0_224, L0_224, K0_225, L0_225, K0_226, L0_226, K0_227, L0_227, K0_228, L0_228, K0_229, L0_229, K0_230, L0_230, K0_231, L0_231, K0_232, L0_232, K0_233, L0_233, K0_234, L0_234, K0_235, L0_235, K0_236, L0_236, K0_237, L0_237, K0_238, L0_238, K0_239, L0_239, K0_240, L0_240, R0_0, R0_2, R0_6, R0_12, R0_14, R0_15, R0_16, R0_17, R0_18, R0_19, R0_20, R0_21, R0_22, R0_23, R0_24, R0_25, R0_30, R0_31, R0_32, R0_34, R0_36, R0_43, R0_44, R0_45, R0_47, R0_48, R0_49, R0_50, R0_53, R0_55, R0_57, R0_59, R0_60, R0_62, R0_63, R0_64, R0_65, R0_66, R0_67, R0_69, R0_70, R0_71, R0_72]
    refine w_ret ⟨hSX, fun _ => rfl, fun n w h => ?_⟩
    rw [hm] at h; cases h
  | some x =>
    obtain ⟨p, T⟩ := x
    obtain ⟨rfl, S, c, t1, t2, t3, t4⟩ := hB _ _ hR
    obtain ⟨-, -, -, -, -, t5, t6, t7⟩ := rdT_ok hR (by omega) (by omega)
    have hTR := rdT_R hR (by omega) (by omega)
    have hm : mtW u a g = if g ≤ p ∨ u (g - 1) = 0 then none else inT u p (8 * (g - 1 - p) + Nat.log2 (u (g - 1))) T := by unfold mtW; rw [hR]
    obtain ⟨w, N2, e2, hS2, hTM⟩ := table_ok (k := 6) (hT.q hS1) t2 (by omega) t3 t4
    rw [show ((6 : Nat) : Int) = 6 from rfl] at e2
    have hTM : TbM N2 6 T := by rw [t1]; exact hTM
    have hSX2 : Sq WX M N2 := hSX.tr (hS2.weak fun a j h => Or.inr (Or.inr (Or.inl h)))
    have hq2 := hT.q hSX2
    have qk2 := hq2.k
    have hb2 := hb.sm hSX2.sm (by unfold WX TC; omega)
    have k0 : mK N2 198 = 13 := qk2 198 (by omega) (by omega)
    have k6 : mR N2 198 6 = some 199 := hq2.r 6
    have n13 := (hS2.I 198 13 (by unfold TC; omega)).trans t3
    by_cases c1 : g ≤ p ∨ u (g - 1) = 0
    · rw [if_pos c1] at hm
      obtain ⟨v, N3, e3, rfl, hS3, -⟩ := reversed_no (f := p) (g := g) k0 k6 hb2 hu hg (by omega) c1
      simp -implicitDefEqProofs (disch := omega) only [fX13_toldWeights, qk0, e1, qk1, e2, qk2, e3, bo_s, bd_s, bn_s, gI_s, gJ_s, gR_s, pI_s, pZ_s, pJ_s, pR_s, chk_s, chN_s, chN_n, aL_s, aI_c, aJ_c, aR_c, wI_c, wB_c, wS_c, wZ_c, wJ_c, wR_c, mK_sI, mK_sJ, mK_sR, mK_cpI, mL_sI, mL_sJ, mL_sR, mL_cpI, mI_sI, mI_sJ, mI_sR, mI_cpI, mJ_sI, mJ_sJ, mJ_sR, mJ_cpI, mR_sI, mR_sJ, mR_sR, mR_cpI, i2b_i2b, i2b_sb, iI_lit, iI_add, iI_sub, iI_mul, iI_neg, iI_lt, iI_le, iI_eq, iI_J, lt_T, lt_F, le_T, le_F, eq_T, eq_F, eqN_T, eqN_F, leN_T, leN_F, ltN_T, ltN_F, if_true, if_false, and_true, true_and, and_false, false_and, or_true, true_or, or_false, false_or, not_true_eq_false, not_false_eq_true, and_self, or_self, tn_c, ne_eq, dite_true, dite_false, K0_198, K0_199, L0_199, K0_200, L0_200, K0_201, L0_201, K0_202, L0_202, K0_203, L0_203, K0_204, L0_204, K0_205, L0_205, K0_206, L0_206, K0_207, L0_207, K0_208, L0_208, K0_209, L0_209, K0_210, L0_210, K0_211, L0_211, K0_212, L0_212, K0_213, L0_213, K0_214, L0_214, K0_215, L0_215, K0_216, L0_216, K0_217, L0_217, K0_218, L0_218, K0_219, L0_219, K0_220, L0_220, K0_221, L0_221, K0_222, L0_222, K0_223, L0_223, K0_224, L0_224, K0_225, L0_225, K0_226, L0_226, K0_227, L0_227, K0_228, L0_228, K0_229, L0_229, K0_230, L0_230, K0_231, L0_231, K0_232, L0_232, K0_233, L0_233, K0_234, L0_234, K0_235, L0_235, K0_236, L0_236, K0_237, L0_237, K0_238, L0_238, K0_239, L0_239, K0_240, L0_240, R0_0, R0_2, R0_6, R0_12, R0_14, R0_15, R0_16, R0_17, R0_18, R0_19, R0_20, R0_21, R0_22, R0_23, R0_24, R0_25, R0_30, R0_31, R0_32, R0_34, R0_36, R0_43, R0_44, R0_45, R0_47, R0_48, R0_49, R0_50, R0_53, R0_55, R0_57, R0_59, R0_60, R0_62, R0_63, R0_64, R0_65, R0_66, R0_67, R0_69, R0_70, R0_71, R0_72]
      refine w_ret ⟨hSX2.tr (hS3.weak (by unfold WX; omega)), fun _ => rfl, fun n w h => ?_⟩
      rw [hm] at h; cases h
    · rw [if_neg c1] at hm
      obtain ⟨v, N3, e3, rfl, hS3, hK⟩ := reversed_ok (f := p) (g := g) k0 k6 hb2 hu hg (by omega) (by omega)
      have hlg : Nat.log2 (u (g - 1)) < 8 := by
        have := log2_l (a := u (g - 1)) (by omega)
        have := hu (g - 1)
        exact pow_lt2 (b := 8) (by omega)
      have hSX3 : Sq WX M N3 := hSX2.tr (hS3.weak (by unfold WX; omega))
      have qk3 := (hT.q hSX3).k
      have hb3 := hb.sm hSX3.sm (by unfold WX TC; omega)
      have o13 := (hS3.I 198 13 (by omega)).trans n13
      obtain ⟨L, hL⟩ : ∃ L, 8 * (g - 1 - p) + Nat.log2 (u (g - 1)) = L := ⟨_, rfl⟩
      rw [hL] at hK hm
      have he : 8 * p + L ≤ 8 * e := by omega
      unfold inT at hm
      by_cases c2 : L < 2 * T.1
      · rw [if_pos c2] at hm
        by_cases c3 : L < T.1
        · have e4 := back_no hK (m := T.1) (by omega) c3
          obtain ⟨k0, k1, k2, k3, k4⟩ := hK
          have e5 := back_no (M := sI N3 198 9 (iI 1)) (o := 198) (b := 199) (F := p) (L := L) (z := 1) (m := T.1) ⟨k0, k1, by simp -implicitDefEqProofs (disch := omega) only [mK_sI, mK_sJ, mK_sR, mK_cpI, mL_sI, mL_sJ, mL_sR, mL_cpI, mI_sI, mI_sJ, mI_sR, mI_cpI, mJ_sI, mJ_sJ, mJ_sR, mJ_cpI, mR_sI, mR_sJ, mR_sR, mR_cpI, eqN_T, eqN_F, if_true, if_false, and_true, true_and, and_false, false_and, or_true, true_or, or_false, false_or, not_true_eq_false, not_false_eq_true, and_self, or_self, tn_c, ne_eq, dite_true, dite_false]; exact k2, by simp -implicitDefEqProofs (disch := omega) only [mK_sI, mK_sJ, mK_sR, mK_cpI, mL_sI, mL_sJ, mL_sR, mL_cpI, mI_sI, mI_sJ, mI_sR, mI_cpI, mJ_sI, mJ_sJ, mJ_sR, mJ_cpI, mR_sI, mR_sJ, mR_sR, mR_cpI, eqN_T, eqN_F, if_true, if_false, and_true, true_and, and_false, false_and, or_true, true_or, or_false, false_or, not_true_eq_false, not_false_eq_true, and_self, or_self, tn_c, ne_eq, dite_true, dite_false]; exact k3, by simp -implicitDefEqProofs (disch := omega) only [mK_sI, mK_sJ, mK_sR, mK_cpI, mL_sI, mL_sJ, mL_sR, mL_cpI, mI_sI, mI_sJ, mI_sR, mI_cpI, mJ_sI, mJ_sJ, mJ_sR, mJ_cpI, mR_sI, mR_sJ, mR_sR, mR_cpI, eqN_T, eqN_F, if_true, if_false, and_true, true_and, and_false, false_and, or_true, true_or, or_false, false_or, not_true_eq_false, not_false_eq_true, and_self, or_self, tn_c, ne_eq, dite_true, dite_false]⟩ (by omega) c3
          simp -implicitDefEqProofs (disch := omega) only [fX13_toldWeights, qk0, e1, qk1, e2, qk2, e3, qk3, o13, e4, e5, iJ_I, bo_s, bd_s, bn_s, gI_s, gJ_s, gR_s, pI_s, pZ_s, pJ_s, pR_s, chk_s, chN_s, chN_n, aL_s, aI_c, aJ_c, aR_c, wI_c, wB_c, wS_c, wZ_c, wJ_c, wR_c, mK_sI, mK_sJ, mK_sR, mK_cpI, mL_sI, mL_sJ, mL_sR, mL_cpI, mI_sI, mI_sJ, mI_sR, mI_cpI, mJ_sI, mJ_sJ, mJ_sR, mJ_cpI, mR_sI, mR_sJ, mR_sR, mR_cpI, i2b_i2b, i2b_sb, iI_lit, iI_add, iI_sub, iI_mul, iI_neg, iI_lt, iI_le, iI_eq, iI_J, lt_T, lt_F, le_T, le_F, eq_T, eq_F, eqN_T, eqN_F, leN_T, leN_F, ltN_T, ltN_F, if_true, if_false, and_true, true_and, and_false, false_and, or_true, true_or, or_false, false_or, not_true_eq_false, not_false_eq_true, and_self, or_self, tn_c, ne_eq, dite_true, dite_false, K0_198, K0_199, L0_199, K0_200, L0_200, K0_201, L0_201, K0_202, L0_202, K0_203, L0_203, K0_204, L0_204, K0_205, L0_205, K0_206, L0_206, K0_207, L0_207, K0_208, L0_208, K0_209, L0_209, K0_210, L0_210, K0_211, L0_211, K0_212, L0_212, K0_213, L0_213, K0_214, L0_214, K0_215, L0_215, K0_216, L0_216, K0_217, L0_217, K0_218, L0_218, K0_219, L0_219, K0_220, L0_220, K0_221, L0_221, K0_222, L0_222, K0_223, L0_223, K0_224, L0_224, K0_225, L0_225, K0_226, L0_226, K0_227, L0_227, K0_228, L0_228, K0_229, L0_229, K0_230, L0_230, K0_231, L0_231, K0_232, L0_232, K0_233, L0_233, K0_234, L0_234, K0_235, L0_235, K0_236, L0_236, K0_237, L0_237, K0_238, L0_238, K0_239, L0_239, K0_240, L0_240, R0_0, R0_2, R0_6, R0_12, R0_14, R0_15, R0_16, R0_17, R0_18, R0_19, R0_20, R0_21, R0_22, R0_23, R0_24, R0_25, R0_30, R0_31, R0_32, R0_34, R0_36, R0_43, R0_44, R0_45, R0_47, R0_48, R0_49, R0_50, R0_53, R0_55, R0_57, R0_59, R0_60, R0_62, R0_63, R0_64, R0_65, R0_66, R0_67, R0_69, R0_70, R0_71, R0_72]
          refine w_ret ⟨?_, fun _ => rfl, fun n w h => ?_⟩
          · refine Sq.sI (Sq.sI hSX3 ?_) ?_ <;> unfold WX <;> omega
          · rw [hm] at h; cases h
        · obtain ⟨v, N4, e4, rfl, hK4, hS4⟩ := back_ok hK hb3 hu (m := T.1) (by omega) (by omega) he
          have qk4 := (hT.q (hSX3.tr (hS4.weak (T := WX) (by unfold WX; omega)))).k
          have p13 := (hS4.I 198 13 (by omega)).trans o13
          have e5 := back_no hK4 (m := T.1) (by omega) (by omega)
          simp -implicitDefEqProofs (disch := omega) only [fX13_toldWeights, qk0, e1, qk1, e2, qk2, e3, qk3, o13, e4, qk4, p13, e5, iJ_I, bo_s, bd_s, bn_s, gI_s, gJ_s, gR_s, pI_s, pZ_s, pJ_s, pR_s, chk_s, chN_s, chN_n, aL_s, aI_c, aJ_c, aR_c, wI_c, wB_c, wS_c, wZ_c, wJ_c, wR_c, mK_sI, mK_sJ, mK_sR, mK_cpI, mL_sI, mL_sJ, mL_sR, mL_cpI, mI_sI, mI_sJ, mI_sR, mI_cpI, mJ_sI, mJ_sJ, mJ_sR, mJ_cpI, mR_sI, mR_sJ, mR_sR, mR_cpI, i2b_i2b, i2b_sb, iI_lit, iI_add, iI_sub, iI_mul, iI_neg, iI_lt, iI_le, iI_eq, iI_J, lt_T, lt_F, le_T, le_F, eq_T, eq_F, eqN_T, eqN_F, leN_T, leN_F, ltN_T, ltN_F, if_true, if_false, and_true, true_and, and_false, false_and, or_true, true_or, or_false, false_or, not_true_eq_false, not_false_eq_true, and_self, or_self, tn_c, ne_eq, dite_true, dite_false, K0_198, K0_199, L0_199, K0_200, L0_200, K0_201, L0_201, K0_202, L0_202, K0_203, L0_203, K0_204, L0_204, K0_205, L0_205, K0_206, L0_206, K0_207, L0_207, K0_208, L0_208, K0_209, L0_209, K0_210, L0_210, K0_211, L0_211, K0_212, L0_212, K0_213, L0_213, K0_214, L0_214, K0_215, L0_215, K0_216, L0_216, K0_217, L0_217, K0_218, L0_218, K0_219, L0_219, K0_220, L0_220, K0_221, L0_221, K0_222, L0_222, K0_223, L0_223, K0_224, L0_224, K0_225, L0_225, K0_226, L0_226, K0_227, L0_227, K0_228, L0_228, K0_229, L0_229, K0_230, L0_230, K0_231, L0_231, K0_232, L0_232, K0_233, L0_233, K0_234, L0_234, K0_235, L0_235, K0_236, L0_236, K0_237, L0_237, K0_238, L0_238, K0_239, L0_239, K0_240, L0_240, R0_0, R0_2, R0_6, R0_12, R0_14, R0_15, R0_16, R0_17, R0_18, R0_19, R0_20, R0_21, R0_22, R0_23, R0_24, R0_25, R0_30, R0_31, R0_32, R0_34, R0_36, R0_43, R0_44, R0_45, R0_47, R0_48, R0_49, R0_50, R0_53, R0_55, R0_57, R0_59, R0_60, R0_62, R0_63, R0_64, R0_65, R0_66, R0_67, R0_69, R0_70, R0_71, R0_72]
          refine w_ret ⟨?_, fun _ => rfl, fun n w h => ?_⟩
          · refine Sq.sI (hSX3.tr (hS4.weak ?_)) ?_ <;> unfold WX <;> omega
          · rw [hm] at h; cases h
      · rw [if_neg c2] at hm
        obtain ⟨v, N4, e4, rfl, hK4, hS4⟩ := back_ok hK hb3 hu (m := T.1) (by omega) (by omega) he
        have hSX4 : Sq WX M N4 := hSX3.tr (hS4.weak (by unfold WX; omega))
        have qk4 := (hT.q hSX4).k
        have p13 := (hS4.I 198 13 (by omega)).trans o13
        obtain ⟨v, N5, e5, rfl, hK5, hS5⟩ := back_ok hK4 (hb.sm hSX4.sm (by unfold WX TC; omega)) hu (m := T.1) (by omega) (by omega) (by omega)
        have hSX5 : Sq WX M N5 := hSX4.tr (hS5.weak (by unfold WX; omega))
        have qk5 := (hT.q hSX5).k
        have p9 := hK5.2.2.2.2
        rw [show 8 * p + (L - T.1) - T.1 = 8 * p + L - 2 * T.1 by omega] at e5
        rw [show L - T.1 - T.1 = L - 2 * T.1 by omega] at hK5
        have hTM5 : TbM N5 6 T := by
          have hS35 : Sq (fun a j => a = 198) N2 N5 := ((hS3.weak (by omega)).tr (hS4.weak (by omega))).tr (hS5.weak (by omega))
          exact ⟨(hS35.I 205 6 (by omega)).trans hTM.1, (hS35.I 206 6 (by omega)).trans hTM.2.1, fun q hq => ⟨(hS35.I 202 _ (by omega)).trans (hTM.2.2 q hq).1, (hS35.I 203 _ (by omega)).trans (hTM.2.2 q hq).2.1, (hS35.I 204 _ (by omega)).trans (hTM.2.2 q hq).2.2⟩⟩
        obtain ⟨v, N6, e6, hS6, hA6, hB6⟩ := mturn_ok (hT.q hSX5) hTM5 hTR hK5 (hb.sm hSX5.sm (by unfold WX TC; omega)) hu (by omega) (bits_lt u T.1 (8 * p + L - T.1)) (bits_lt u T.1 (8 * p + L - 2 * T.1))
        simp -implicitDefEqProofs (disch := omega) only [fX13_toldWeights, qk0, e1, qk1, e2, qk2, e3, qk3, o13, e4, qk4, p13, e5, iJ_I, qk5, p9, bo_s, bd_s, bn_s, gI_s, gJ_s, gR_s, pI_s, pZ_s, pJ_s, pR_s, chk_s, chN_s, chN_n, aL_s, aI_c, aJ_c, aR_c, wI_c, wB_c, wS_c, wZ_c, wJ_c, wR_c, mK_sI, mK_sJ, mK_sR, mK_cpI, mL_sI, mL_sJ, mL_sR, mL_cpI, mI_sI, mI_sJ, mI_sR, mI_cpI, mJ_sI, mJ_sJ, mJ_sR, mJ_cpI, mR_sI, mR_sJ, mR_sR, mR_cpI, i2b_i2b, i2b_sb, iI_lit, iI_add, iI_sub, iI_mul, iI_neg, iI_lt, iI_le, iI_eq, iI_J, lt_T, lt_F, le_T, le_F, eq_T, eq_F, eqN_T, eqN_F, leN_T, leN_F, ltN_T, ltN_F, if_true, if_false, and_true, true_and, and_false, false_and, or_true, true_or, or_false, false_or, not_true_eq_false, not_false_eq_true, and_self, or_self, tn_c, ne_eq, dite_true, dite_false, K0_198, K0_199, L0_199, K0_200, L0_200, K0_201, L0_201, K0_202, L0_202, K0_203, L0_203, K0_204, L0_204, K0_205, L0_205, K0_206, L0_206, K0_207, L0_207, K0_208, L0_208, K0_209, L0_209, K0_210, L0_210, K0_211, L0_211, K0_212, L0_212, K0_213, L0_213, K0_214, L0_214, K0_215, L0_215, K0_216, L0_216, K0_217, L0_217, K0_218, L0_218, K0_219, L0_219, K0_220, L0_220, K0_221, L0_221, K0_222, L0_222, K0_223, L0_223, K0_224, L0_224, K0_225, L0_225, K0_226, L0_226, K0_227, L0_227, K0_228, L0_228, K0_229, L0_229, K0_230, L0_230, K0_231, L0_231, K0_232, L0_232, K0_233, L0_233, K0_234, L0_234, K0_235, L0_235, K0_236, L0_236, K0_237, L0_237, K0_238, L0_238, K0_239, L0_239, K0_240, L0_240, R0_0, R0_2, R0_6, R0_12, R0_14, R0_15, R0_16, R0_17, R0_18, R0_19, R0_20, R0_21, R0_22, R0_23, R0_24, R0_25, R0_30, R0_31, R0_32, R0_34, R0_36, R0_43, R0_44, R0_45, R0_47, R0_48, R0_49, R0_50, R0_53, R0_55, R0_57, R0_59, R0_60, R0_62, R0_63, R0_64, R0_65, R0_66, R0_67, R0_69, R0_70, R0_71, R0_72]
        exact ⟨v, N6, e6, hSX5.tr (hS6.weak (by unfold WX; omega)), fun h => hA6 (hm ▸ h), fun n w h => hB6 n w (hm ▸ h)⟩
end MCODE
