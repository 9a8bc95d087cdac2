/-! the reference reads counts -/
def WM (a j : Nat) : Prop := (a = 198 ∧ (j = 7 ∨ j = 8 ∨ j = 9 ∨ j = 13)) ∨ a = 201
def WL (a j : Nat) : Prop := (a = 198 ∧ (j = 7 ∨ j = 9)) ∨ a = 201
theorem rdZ_le {u : Nat → Nat} {q : Nat} : ∀ {j s p s' p'}, rdZ u q j s p = some (s', p') → s' ≤ s + 3 * j := by
  intro j
  induction j with
  | zero => intro s p s' p' h; cases h
  | succ j ih =>
    intro s p s' p' h
    rw [rdZ] at h
    split at h
    · cases h
    · split at h
      · have := ih h; omega
      · have hb : bits u p 2 < 4 := bits_lt u 2 p
        cases h; omega
section MTOLD
variable {M : Mem} {e q gr l : Nat} {u : Nat → Nat}
theorem noCounts_ok (hT : RSt M) : Wp (fX13_noCounts (some 198) M) fun _ N => Sq (fun a _ => a = 201) M N ∧ ∀ i, i < 256 → mI N 201 i = iI 0 := by
  simp -implicitDefEqProofs (disch := omega) only [fX13_noCounts, fX13_noCounts_L2, bo_s, bd_s, bn_s, gI_s, gJ_s, gR_s, pI_s, pZ_s, pJ_s, pR_s, chk_s, chN_s, chN_n, aL_s, aI_c, aJ_c, aR_c, wI_c, wB_c, wS_c, wZ_c, wJ_c, wR_c, mK_sI, mK_sJ, mK_sR, mK_cpI, mL_sI, mL_sJ, mL_sR, mL_cpI, mI_sI, mI_sJ, mI_sR, mI_cpI, mJ_sI, mJ_sJ, mJ_sR, mJ_cpI, mR_sI, mR_sJ, mR_sR, mR_cpI, i2b_i2b, i2b_sb, iI_lit, iI_add, iI_sub, iI_mul, iI_neg, iI_lt, iI_le, iI_eq, iI_J, lt_T, lt_F, le_T, le_F, eq_T, eq_F, eqN_T, eqN_F, leN_T, leN_F, ltN_T, ltN_F, if_true, if_false, and_true, true_and, and_false, false_and, or_true, true_or, or_false, false_or, not_true_eq_false, not_false_eq_true, and_self, or_self, tn_c, ne_eq, dite_true, dite_false]
  refine w_lpF (fun d x O => ∃ i : Nat, i + d = 256 ∧ Sq (fun a _ => a = 201) M O ∧ (∀ j, j < i → mI O 201 j = iI 0) ∧ x = (some 198, iI i)) 256 (by omega) ⟨0, by omega, Sq.rf, fun j hj => by omega, rfl⟩ ?_
  rintro g d x O ⟨i, hd, hS, hz, rfl⟩ ih
  have hq := hT.q hS
  have qk := hq.k
  have ql := hq.l
  have qr := hq.r
  by_cases c : d = 0
  · obtain rfl : i = 256 := by omega
    simp -implicitDefEqProofs (disch := omega) only [fX13_noCounts_B2, bo_s, bd_s, bn_s, gI_s, gJ_s, gR_s, pI_s, pZ_s, pJ_s, pR_s, chk_s, chN_s, chN_n, aL_s, aI_c, aJ_c, aR_c, wI_c, wB_c, wS_c, wZ_c, wJ_c, wR_c, mK_sI, mK_sJ, mK_sR, mK_cpI, mL_sI, mL_sJ, mL_sR, mL_cpI, mI_sI, mI_sJ, mI_sR, mI_cpI, mJ_sI, mJ_sJ, mJ_sR, mJ_cpI, mR_sI, mR_sJ, mR_sR, mR_cpI, i2b_i2b, i2b_sb, iI_lit, iI_add, iI_sub, iI_mul, iI_neg, iI_lt, iI_le, iI_eq, iI_J, lt_T, lt_F, le_T, le_F, eq_T, eq_F, eqN_T, eqN_F, leN_T, leN_F, ltN_T, ltN_F, if_true, if_false, and_true, true_and, and_false, false_and, or_true, true_or, or_false, false_or, not_true_eq_false, not_false_eq_true, and_self, or_self, tn_c, ne_eq, dite_true, dite_false, K0_198, K0_199, L0_199, K0_200, L0_200, K0_201, L0_201, K0_202, L0_202, K0_203, L0_203, K0_204, L0_204, K0_205, L0_205, K0_206, L0_206, K0_207, L0_207, K0_208, L0_208, K0_209, L0_209, K0_210, L0_210, K0_211, L0_211, K0_212, L0_212, K0_213, L0_213, K0_214, L0_214, K0_215, L0_215, K0_216, L0_216, K0_217, L0_217, K0_218, L0_218, K0_219, L0_219, K0_220, L0_220, K0_221, L0_221, K0_222, L0_222, K0_223, L0_223, K0_224, L0_224, K0_225, L0_225, K0_226, L0_226, K0_227, L0_227, K0_228, L0_228, K0_229, L0_229, K0_230, L0_230, K0_231, L0_231, K0_232, L0_232, K0_233, L0_233, K0_234, L0_234, K0_235, L0_235, K0_236, L0_236, K0_237, L0_237, K0_238, L0_238, K0_239, L0_239, K0_240, L0_240, R0_0, R0_2, R0_6, R0_12, R0_14, R0_15, R0_16, R0_17, R0_18, R0_19, R0_20, R0_21, R0_22, R0_23, R0_24, R0_25, R0_30, R0_31, R0_32, R0_34, R0_36, R0_43, R0_44, R0_45, R0_47, R0_48, R0_49, R0_50, R0_53, R0_55, R0_57, R0_59, R0_60, R0_62, R0_63, R0_64, R0_65, R0_66, R0_67, R0_69, R0_70, R0_71, R0_72]
    exact w_ret ⟨hS, hz⟩
  · simp -implicitDefEqProofs (disch := omega) only [fX13_noCounts_B2, qk, ql, qr, bo_s, bd_s, bn_s, gI_s, gJ_s, gR_s, pI_s, pZ_s, pJ_s, pR_s, chk_s, chN_s, chN_n, aL_s, aI_c, aJ_c, aR_c, wI_c, wB_c, wS_c, wZ_c, wJ_c, wR_c, mK_sI, mK_sJ, mK_sR, mK_cpI, mL_sI, mL_sJ, mL_sR, mL_cpI, mI_sI, mI_sJ, mI_sR, mI_cpI, mJ_sI, mJ_sJ, mJ_sR, mJ_cpI, mR_sI, mR_sJ, mR_sR, mR_cpI, i2b_i2b, i2b_sb, iI_lit, iI_add, iI_sub, iI_mul, iI_neg, iI_lt, iI_le, iI_eq, iI_J, lt_T, lt_F, le_T, le_F, eq_T, eq_F, eqN_T, eqN_F, leN_T, leN_F, ltN_T, ltN_F, if_true, if_false, and_true, true_and, and_false, false_and, or_true, true_or, or_false, false_or, not_true_eq_false, not_false_eq_true, and_self, or_self, tn_c, ne_eq, dite_true, dite_false, K0_198, K0_199, L0_199, K0_200, L0_200, K0_201, L0_201, K0_202, L0_202, K0_203, L0_203, K0_204, L0_204, K0_205, L0_205, K0_206, L0_206, K0_207, L0_207, K0_208, L0_208, K0_209, L0_209, K0_210, L0_210, K0_211, L0_211, K0_212, L0_212, K0_213, L0_213, K0_214, L0_214, K0_215, L0_215, K0_216, L0_216, K0_217, L0_217, K0_218, L0_218, K0_219, L0_219, K0_220, L0_220, K0_221, L0_221, K0_222, L0_222, K0_223, L0_223, K0_224, L0_224, K0_225, L0_225, K0_226, L0_226, K0_227, L0_227, K0_228, L0_228, K0_229, L0_229, K0_230, L0_230, K0_231, L0_231, K0_232, L0_232, K0_233, L0_233, K0_234, L0_234, K0_235, L0_235, K0_236, L0_236, K0_237, L0_237, K0_238, L0_238, K0_239, L0_239, K0_240, L0_240, R0_0, R0_2, R0_6, R0_12, R0_14, R0_15, R0_16, R0_17, R0_18, R0_19, R0_20, R0_21, R0_22, R0_23, R0_24, R0_25, R0_30, R0_31, R0_32, R0_34, R0_36, R0_43, R0_44, R0_45, R0_47, R0_48, R0_49, R0_50, R0_53, R0_55, R0_57, R0_59, R0_60, R0_62, R0_63, R0_64, R0_65, R0_66, R0_67, R0_69, R0_70, R0_71, R0_72]
    refine ih (d - 1) _ _ (by omega) ⟨i + 1, by omega, hS.sI rfl, fun j hj => ?_, rfl⟩
    by_cases ej : j = i
    · subst ej
      simp -implicitDefEqProofs (disch := omega) only [mK_sI, mK_sJ, mK_sR, mK_cpI, mL_sI, mL_sJ, mL_sR, mL_cpI, mI_sI, mI_sJ, mI_sR, mI_cpI, mJ_sI, mJ_sJ, mJ_sR, mJ_cpI, mR_sI, mR_sJ, mR_sR, mR_cpI, eqN_T, eqN_F, if_true, if_false, and_true, true_and, and_false, false_and, or_true, true_or, or_false, false_or, not_true_eq_false, not_false_eq_true, and_self, or_self, tn_c, ne_eq, dite_true, dite_false]
    · simp -implicitDefEqProofs (disch := omega) only [mK_sI, mK_sJ, mK_sR, mK_cpI, mL_sI, mL_sJ, mL_sR, mL_cpI, mI_sI, mI_sJ, mI_sR, mI_cpI, mJ_sI, mJ_sJ, mJ_sR, mJ_cpI, mR_sI, mR_sJ, mR_sR, mR_cpI, eqN_T, eqN_F, if_true, if_false, and_true, true_and, and_false, false_and, or_true, true_or, or_false, false_or, not_true_eq_false, not_false_eq_true, and_self, or_self, tn_c, ne_eq, dite_true, dite_false]
      exact hz j (by omega)
abbrev MR (M N : Mem) (p : Nat) (c : Nat → Int) : Prop := Sq WL M N ∧ mI N 198 7 = iI p ∧ mI N 198 9 = iI 0 ∧ ∀ i, i < 256 → mI N 201 i = iI (c i)
theorem zloop {Q : Int32 → Mem → Prop} {k r s p j : Nat} {c : Nat → Int} {R : Option (Nat × Nat × (Nat → Int))} {N : Mem} {g : Option Nat × Int32 × Int32 × Int32 → Mem → Option (Int32 × Mem)} (hT : RSt M) (h8 : mI M 198 8 = iI q) (hb : BV M 199 8000 e u) (hu : ∀ i, u i < 256) (hq : q ≤ 8 * e) (hs : s + 3 * j < 1000000) (hj : j < 100000) (hRes : (bz (rdZ u q j s p) fun s' p'' => rdL u q gr k r s' p'' c) = R) (hqp : q ≤ p + 2 * j) (hp : p ≤ q) (hM : MR M N p c)
    (hg : ∀ s' p' N', rdL u q gr k r s' p' c = R → s ≤ s' → s' ≤ s + 3 * j → p' ≤ q → MR M N' p' c → Wp (g (some 198, iI gr, iI (r : Nat), iI (s' : Nat)) N') Q) (hn : R = none → ∀ N', Sq WL M N' → Q (iI (-1)) N') :
    Wp (fX13_toldCounts_L209 g (some 198) (iI gr) (iI (r : Nat)) (iI (s : Nat)) (iI 3) N) Q := by
  have g3 := hb.2.2.1
  unfold fX13_toldCounts_L209
  refine w_lpF (fun d x O => (∃ j' s' p', d = j' + 1 ∧ (bz (rdZ u q j' s' p') fun s' p'' => rdL u q gr k r s' p'' c) = R ∧ q ≤ p' + 2 * j' ∧ s ≤ s' ∧ s' + 3 * j' ≤ s + 3 * j ∧ p' ≤ q ∧ MR M O p' c ∧ x = (some 198, iI gr, iI (r : Nat), iI (s' : Nat), iI 3)) ∨ (∃ w s' p' : Nat, w < 3 ∧ rdL u q gr k r s' p' c = R ∧ s ≤ s' ∧ s' ≤ s + 3 * j ∧ p' ≤ q ∧ MR M O p' c ∧ x = (some 198, iI gr, iI (r : Nat), iI (s' : Nat), iI w))) (j + 1) (by omega) (Or.inl ⟨j, s, p, rfl, hRes, hqp, Nat.le_refl _, Nat.le_refl _, hp, hM, rfl⟩) ?_
  rintro g2 d x O (⟨j', s', p', rfl, hRes, hqp, hs1, hs2, hp, hM, rfl⟩ | ⟨w, s', p', hw, hRes, hs1, hs2, hp, hM, rfl⟩) ih
  · obtain ⟨hS, o7, o9, oc⟩ := hM
    have hq' := hT.q hS
    have qk := hq'.k
    have ql := hq'.l
    have qr := hq'.r
    have k0 : mK O 198 = 13 := qk 198 (by omega) (by omega)
    have k6 : mR O 198 6 = some 199 := qr 6
    have o8 := (hS.I 198 8 (by unfold WL; omega)).trans h8
    have ob := hb.sm hS.sm (by unfold WL; omega)
    by_cases c1 : q < p' + 2
    · have hRn : R = none := by
        rw [← hRes]
        cases j' with
        | zero => rfl
        | succ j => rw [rdZ, if_pos c1]; rfl
      have e1 := forward_no (k := 2) k0 o7 o8 (by omega) (by omega) (by omega) (by omega)
      rw [show ((2 : Nat) : Int) = 2 from rfl] at e1
      simp -implicitDefEqProofs (disch := omega) only [fX13_toldCounts_B209, qk, e1, bo_s, bd_s, bn_s, gI_s, gJ_s, gR_s, pI_s, pZ_s, pJ_s, pR_s, chk_s, chN_s, chN_n, aL_s, aI_c, aJ_c, aR_c, wI_c, wB_c, wS_c, wZ_c, wJ_c, wR_c, mK_sI, mK_sJ, mK_sR, mK_cpI, mL_sI, mL_sJ, mL_sR, mL_cpI, mI_sI, mI_sJ, mI_sR, mI_cpI, mJ_sI, mJ_sJ, mJ_sR, mJ_cpI, mR_sI, mR_sJ, mR_sR, mR_cpI, i2b_i2b, i2b_sb, iI_lit, iI_add, iI_sub, iI_mul, iI_neg, iI_lt, iI_le, iI_eq, iI_J, lt_T, lt_F, le_T, le_F, eq_T, eq_F, eqN_T, eqN_F, leN_T, leN_F, ltN_T, ltN_F, if_true, if_false, and_true, true_and, and_false, false_and, or_true, true_or, or_false, false_or, not_true_eq_false, not_false_eq_true, and_self, or_self, tn_c, ne_eq, dite_true, dite_false, K0_198, K0_199, L0_199, K0_200, L0_200, K0_201, L0_201, K0_202, L0_202, K0_203, L0_203, K0_204, L0_204, K0_205, L0_205, K0_206, L0_206, K0_207, L0_207, K0_208, L0_208, K0_209, L0_209, K0_210, L0_210, K0_211, L0_211, K0_212, L0_212, K0_213, L0_213, K0_214, L0_214, K0_215, L0_215, K0_216, L0_216, K0_217, L0_217, K0_218, L0_218, K0_219, L0_219, K0_220, L0_220, K0_221, L0_221, K0_222, L0_222, K0_223, L0_223, K0_224, L0_224, K0_225, L0_225, K0_226, L0_226, K0_227, L0_227, K0_228, L0_228, K0_229, L0_229, K0_230, L0_230, K0_231, L0_231, K0_232, L0_232, K0_233, L0_233, K0_234, L0_234, K0_235, L0_235, K0_236, L0_236, K0_237, L0_237, K0_238, L0_238, K0_239, L0_239, K0_240, L0_240, R0_0, R0_2, R0_6, R0_12, R0_14, R0_15, R0_16, R0_17, R0_18, R0_19, R0_20, R0_21, R0_22, R0_23, R0_24, R0_25, R0_30, R0_31, R0_32, R0_34, R0_36, R0_43, R0_44, R0_45, R0_47, R0_48, R0_49, R0_50, R0_53, R0_55, R0_57, R0_59, R0_60, R0_62, R0_63, R0_64, R0_65, R0_66, R0_67, R0_69, R0_70, R0_71, R0_72]
      refine w_ret (hn hRn _ (hS.sI ?_))
      unfold WL; omega
    · obtain ⟨j', rfl⟩ : ∃ j, j' = j + 1 := ⟨j' - 1, by omega⟩
      rw [rdZ, if_neg c1] at hRes
      obtain ⟨v, N2, e1, rfl, n7, hS2⟩ := forward_ok (k := 2) k0 k6 o7 o8 ob hu hq (by omega) (by omega)
      rw [show ((2 : Nat) : Int) = 2 from rfl] at e1 n7
      have hw : bits u p' 2 < 4 := bits_lt u 2 p'
      generalize bits u p' 2 = w at *
      have hS3 : Sq WL M N2 := hS.tr (hS2.weak (by unfold WL; omega))
      have nk := (hT.q hS3).k
      have n9 := (hS2.I 198 9 (by omega)).trans o9
      have hM2 : MR M N2 (p' + 2) c := ⟨hS3, n7, n9, fun i hi => (hS2.I 201 i (by omega)).trans (oc i hi)⟩
      by_cases c2 : w = 3
      · rw [if_pos c2] at hRes
        subst c2
        simp -implicitDefEqProofs (disch := omega) only [fX13_toldCounts_B209, qk, e1, nk, n9, bo_s, bd_s, bn_s, gI_s, gJ_s, gR_s, pI_s, pZ_s, pJ_s, pR_s, chk_s, chN_s, chN_n, aL_s, aI_c, aJ_c, aR_c, wI_c, wB_c, wS_c, wZ_c, wJ_c, wR_c, mK_sI, mK_sJ, mK_sR, mK_cpI, mL_sI, mL_sJ, mL_sR, mL_cpI, mI_sI, mI_sJ, mI_sR, mI_cpI, mJ_sI, mJ_sJ, mJ_sR, mJ_cpI, mR_sI, mR_sJ, mR_sR, mR_cpI, i2b_i2b, i2b_sb, iI_lit, iI_add, iI_sub, iI_mul, iI_neg, iI_lt, iI_le, iI_eq, iI_J, lt_T, lt_F, le_T, le_F, eq_T, eq_F, eqN_T, eqN_F, leN_T, leN_F, ltN_T, ltN_F, if_true, if_false, and_true, true_and, and_false, false_and, or_true, true_or, or_false, false_or, not_true_eq_false, not_false_eq_true, and_self, or_self, tn_c, ne_eq, dite_true, dite_false, K0_198, K0_199, L0_199, K0_200, L0_200, K0_201, L0_201, K0_202, L0_202, K0_203, L0_203, K0_204, L0_204, K0_205, L0_205, K0_206, L0_206, K0_207, L0_207, K0_208, L0_208, K0_209, L0_209, K0_210, L0_210, K0_211, L0_211, K0_212, L0_212, K0_213, L0_213, K0_214, L0_214, K0_215, L0_215, K0_216, L0_216, K0_217, L0_217, K0_218, L0_218, K0_219, L0_219, K0_220, L0_220, K0_221, L0_221, K0_222, L0_222, K0_223, L0_223, K0_224, L0_224, K0_225, L0_225, K0_226, L0_226, K0_227, L0_227, K0_228, L0_228, K0_229, L0_229, K0_230, L0_230, K0_231, L0_231, K0_232, L0_232, K0_233, L0_233, K0_234, L0_234, K0_235, L0_235, K0_236, L0_236, K0_237, L0_237, K0_238, L0_238, K0_239, L0_239, K0_240, L0_240, R0_0, R0_2, R0_6, R0_12, R0_14, R0_15, R0_16, R0_17, R0_18, R0_19, R0_20, R0_21, R0_22, R0_23, R0_24, R0_25, R0_30, R0_31, R0_32, R0_34, R0_36, R0_43, R0_44, R0_45, R0_47, R0_48, R0_49, R0_50, R0_53, R0_55, R0_57, R0_59, R0_60, R0_62, R0_63, R0_64, R0_65, R0_66, R0_67, R0_69, R0_70, R0_71, R0_72]
        exact ih (j' + 1) _ _ (by omega) (Or.inl ⟨j', s' + 3, p' + 2, rfl, hRes, by omega, by omega, by omega, by omega, hM2, rfl⟩)
      · rw [if_neg c2, bz_s] at hRes
        simp -implicitDefEqProofs (disch := omega) only [fX13_toldCounts_B209, qk, e1, nk, n9, bo_s, bd_s, bn_s, gI_s, gJ_s, gR_s, pI_s, pZ_s, pJ_s, pR_s, chk_s, chN_s, chN_n, aL_s, aI_c, aJ_c, aR_c, wI_c, wB_c, wS_c, wZ_c, wJ_c, wR_c, mK_sI, mK_sJ, mK_sR, mK_cpI, mL_sI, mL_sJ, mL_sR, mL_cpI, mI_sI, mI_sJ, mI_sR, mI_cpI, mJ_sI, mJ_sJ, mJ_sR, mJ_cpI, mR_sI, mR_sJ, mR_sR, mR_cpI, i2b_i2b, i2b_sb, iI_lit, iI_add, iI_sub, iI_mul, iI_neg, iI_lt, iI_le, iI_eq, iI_J, lt_T, lt_F, le_T, le_F, eq_T, eq_F, eqN_T, eqN_F, leN_T, leN_F, ltN_T, ltN_F, if_true, if_false, and_true, true_and, and_false, false_and, or_true, true_or, or_false, false_or, not_true_eq_false, not_false_eq_true, and_self, or_self, tn_c, ne_eq, dite_true, dite_false, K0_198, K0_199, L0_199, K0_200, L0_200, K0_201, L0_201, K0_202, L0_202, K0_203, L0_203, K0_204, L0_204, K0_205, L0_205, K0_206, L0_206, K0_207, L0_207, K0_208, L0_208, K0_209, L0_209, K0_210, L0_210, K0_211, L0_211, K0_212, L0_212, K0_213, L0_213, K0_214, L0_214, K0_215, L0_215, K0_216, L0_216, K0_217, L0_217, K0_218, L0_218, K0_219, L0_219, K0_220, L0_220, K0_221, L0_221, K0_222, L0_222, K0_223, L0_223, K0_224, L0_224, K0_225, L0_225, K0_226, L0_226, K0_227, L0_227, K0_228, L0_228, K0_229, L0_229, K0_230, L0_230, K0_231, L0_231, K0_232, L0_232, K0_233, L0_233, K0_234, L0_234, K0_235, L0_235, K0_236, L0_236, K0_237, L0_237, K0_238, L0_238, K0_239, L0_239, K0_240, L0_240, R0_0, R0_2, R0_6, R0_12, R0_14, R0_15, R0_16, R0_17, R0_18, R0_19, R0_20, R0_21, R0_22, R0_23, R0_24, R0_25, R0_30, R0_31, R0_32, R0_34, R0_36, R0_43, R0_44, R0_45, R0_47, R0_48, R0_49, R0_50, R0_53, R0_55, R0_57, R0_59, R0_60, R0_62, R0_63, R0_64, R0_65, R0_66, R0_67, R0_69, R0_70, R0_71, R0_72]
        exact ih 0 _ _ (by omega) (Or.inr ⟨w, s' + w, p' + 2, by omega, hRes, by omega, by omega, by omega, hM2, rfl⟩)
  · simp -implicitDefEqProofs (disch := omega) only [fX13_toldCounts_B209, bo_s, bd_s, bn_s, gI_s, gJ_s, gR_s, pI_s, pZ_s, pJ_s, pR_s, chk_s, chN_s, chN_n, aL_s, aI_c, aJ_c, aR_c, wI_c, wB_c, wS_c, wZ_c, wJ_c, wR_c, mK_sI, mK_sJ, mK_sR, mK_cpI, mL_sI, mL_sJ, mL_sR, mL_cpI, mI_sI, mI_sJ, mI_sR, mI_cpI, mJ_sI, mJ_sJ, mJ_sR, mJ_cpI, mR_sI, mR_sJ, mR_sR, mR_cpI, i2b_i2b, i2b_sb, iI_lit, iI_add, iI_sub, iI_mul, iI_neg, iI_lt, iI_le, iI_eq, iI_J, lt_T, lt_F, le_T, le_F, eq_T, eq_F, eqN_T, eqN_F, leN_T, leN_F, ltN_T, ltN_F, if_true, if_false, and_true, true_and, and_false, false_and, or_true, true_or, or_false, false_or, not_true_eq_false, not_false_eq_true, and_self, or_self, tn_c, ne_eq, dite_true, dite_false, K0_198, K0_199, L0_199, K0_200, L0_200, K0_201, L0_201, K0_202, L0_202, K0_203, L0_203, K0_204, L0_204, K0_205, L0_205, K0_206, L0_206, K0_207, L0_207, K0_208, L0_208, K0_209, L0_209, K0_210, L0_210, K0_211, L0_211, K0_212, L0_212, K0_213, L0_213, K0_214, L0_214, K0_215, L0_215, K0_216, L0_216, K0_217, L0_217, K0_218, L0_218, K0_219, L0_219, K0_220, L0_220, K0_221, L0_221, K0_222, L0_222, K0_223, L0_223, K0_224, L0_224, K0_225, L0_225, K0_226, L0_226, K0_227, L0_227, K0_228, L0_228, K0_229, L0_229, K0_230, L0_230, K0_231, L0_231, K0_232, L0_232, K0_233, L0_233, K0_234, L0_234, K0_235, L0_235, K0_236, L0_236, K0_237, L0_237, K0_238, L0_238, K0_239, L0_239, K0_240, L0_240, R0_0, R0_2, R0_6, R0_12, R0_14, R0_15, R0_16, R0_17, R0_18, R0_19, R0_20, R0_21, R0_22, R0_23, R0_24, R0_25, R0_30, R0_31, R0_32, R0_34, R0_36, R0_43, R0_44, R0_45, R0_47, R0_48, R0_49, R0_50, R0_53, R0_55, R0_57, R0_59, R0_60, R0_62, R0_63, R0_64, R0_65, R0_66, R0_67, R0_69, R0_70, R0_71, R0_72]
    exact hg s' p' O hRes hs1 hs2 hp hM
theorem mtoldL_ok {p0 : Nat} (hT : RSt M) (h8 : mI M 198 8 = iI q) (hb : BV M 199 8000 e u) (hu : ∀ i, u i < 256) (hq : q ≤ 8 * e) (hgr : gr < 256) (hl : l ≤ 9) (hp0 : p0 ≤ q) (h0 : MR M M p0 (fun _ => 0)) :
    Wp (fX13_toldCounts_L65 (some 198) (iI gr) (iI ((2 ^ l : Nat) : Int)) (iI 0) M) fun v N => Sq WL M N ∧ (rdL u q gr 300 (2 ^ l) 0 p0 (fun _ => 0) = none → v = iI (-1)) ∧ ∀ p s c, rdL u q gr 300 (2 ^ l) 0 p0 (fun _ => 0) = some (p, s, c) → v = iI (((p : Int) + 7) / 8) ∧ MR M N p c := by
  have h9 : 2 ^ l ≤ 512 := pow_le2 (b := 9) hl
  have g3 := hb.2.2.1
  generalize hR : rdL u q gr 300 (2 ^ l) 0 p0 (fun _ => 0) = R
  unfold fX13_toldCounts_L65
  refine w_lpF (fun d x O => ∃ r s p c, rdL u q gr d r s p c = R ∧ r < 1000 ∧ s < 300000 ∧ 300 ≤ d + s ∧ (r = 0 → s ≤ gr + 1) ∧ p ≤ q ∧ MR M O p c ∧ (∀ i, s ≤ i → c i = 0) ∧ x = (some 198, iI gr, iI (r : Nat), iI (s : Nat))) 300 (by omega) ⟨2 ^ l, 0, p0, _, hR, by omega, by omega, by omega, by omega, hp0, h0, fun _ _ => rfl, rfl⟩ ?_
  rintro g d x O ⟨r, s, p, c, hRes, hr, hs, hd, hz, hp, hM, hc, rfl⟩ ih
  have hM0 := hM
  obtain ⟨hS, o7, o9, oc⟩ := hM
  have hq' := hT.q hS
  have qk := hq'.k
  have ql := hq'.l
  have qr := hq'.r
  by_cases c1 : r = 0
  · subst c1
    obtain ⟨k, rfl⟩ : ∃ k, d = k + 1 := ⟨d - 1, by omega⟩
    rw [rdL, if_pos rfl] at hRes
    simp -implicitDefEqProofs (disch := omega) only [fX13_toldCounts_B65, qk, o7, shr_3, bo_s, bd_s, bn_s, gI_s, gJ_s, gR_s, pI_s, pZ_s, pJ_s, pR_s, chk_s, chN_s, chN_n, aL_s, aI_c, aJ_c, aR_c, wI_c, wB_c, wS_c, wZ_c, wJ_c, wR_c, mK_sI, mK_sJ, mK_sR, mK_cpI, mL_sI, mL_sJ, mL_sR, mL_cpI, mI_sI, mI_sJ, mI_sR, mI_cpI, mJ_sI, mJ_sJ, mJ_sR, mJ_cpI, mR_sI, mR_sJ, mR_sR, mR_cpI, i2b_i2b, i2b_sb, iI_lit, iI_add, iI_sub, iI_mul, iI_neg, iI_lt, iI_le, iI_eq, iI_J, lt_T, lt_F, le_T, le_F, eq_T, eq_F, eqN_T, eqN_F, leN_T, leN_F, ltN_T, ltN_F, if_true, if_false, and_true, true_and, and_false, false_and, or_true, true_or, or_false, false_or, not_true_eq_false, not_false_eq_true, and_self, or_self, tn_c, ne_eq, dite_true, dite_false, K0_198, K0_199, L0_199, K0_200, L0_200, K0_201, L0_201, K0_202, L0_202, K0_203, L0_203, K0_204, L0_204, K0_205, L0_205, K0_206, L0_206, K0_207, L0_207, K0_208, L0_208, K0_209, L0_209, K0_210, L0_210, K0_211, L0_211, K0_212, L0_212, K0_213, L0_213, K0_214, L0_214, K0_215, L0_215, K0_216, L0_216, K0_217, L0_217, K0_218, L0_218, K0_219, L0_219, K0_220, L0_220, K0_221, L0_221, K0_222, L0_222, K0_223, L0_223, K0_224, L0_224, K0_225, L0_225, K0_226, L0_226, K0_227, L0_227, K0_228, L0_228, K0_229, L0_229, K0_230, L0_230, K0_231, L0_231, K0_232, L0_232, K0_233, L0_233, K0_234, L0_234, K0_235, L0_235, K0_236, L0_236, K0_237, L0_237, K0_238, L0_238, K0_239, L0_239, K0_240, L0_240, R0_0, R0_2, R0_6, R0_12, R0_14, R0_15, R0_16, R0_17, R0_18, R0_19, R0_20, R0_21, R0_22, R0_23, R0_24, R0_25, R0_30, R0_31, R0_32, R0_34, R0_36, R0_43, R0_44, R0_45, R0_47, R0_48, R0_49, R0_50, R0_53, R0_55, R0_57, R0_59, R0_60, R0_62, R0_63, R0_64, R0_65, R0_66, R0_67, R0_69, R0_70, R0_71, R0_72]
    refine w_ret ⟨hS, fun h => ?_, fun p' s' c' h => ?_⟩
    · rw [← hRes] at h; cases h
    · rw [← hRes] at h
      cases h
      exact ⟨rfl, hM0⟩
  · by_cases c2 : gr < s
    · rw [rdL_gt (by omega) c2] at hRes
      simp -implicitDefEqProofs (disch := omega) only [fX13_toldCounts_B65, bo_s, bd_s, bn_s, gI_s, gJ_s, gR_s, pI_s, pZ_s, pJ_s, pR_s, chk_s, chN_s, chN_n, aL_s, aI_c, aJ_c, aR_c, wI_c, wB_c, wS_c, wZ_c, wJ_c, wR_c, mK_sI, mK_sJ, mK_sR, mK_cpI, mL_sI, mL_sJ, mL_sR, mL_cpI, mI_sI, mI_sJ, mI_sR, mI_cpI, mJ_sI, mJ_sJ, mJ_sR, mJ_cpI, mR_sI, mR_sJ, mR_sR, mR_cpI, i2b_i2b, i2b_sb, iI_lit, iI_add, iI_sub, iI_mul, iI_neg, iI_lt, iI_le, iI_eq, iI_J, lt_T, lt_F, le_T, le_F, eq_T, eq_F, eqN_T, eqN_F, leN_T, leN_F, ltN_T, ltN_F, if_true, if_false, and_true, true_and, and_false, false_and, or_true, true_or, or_false, false_or, not_true_eq_false, not_false_eq_true, and_self, or_self, tn_c, ne_eq, dite_true, dite_false, K0_198, K0_199, L0_199, K0_200, L0_200, K0_201, L0_201, K0_202, L0_202, K0_203, L0_203, K0_204, L0_204, K0_205, L0_205, K0_206, L0_206, K0_207, L0_207, K0_208, L0_208, K0_209, L0_209, K0_210, L0_210, K0_211, L0_211, K0_212, L0_212, K0_213, L0_213, K0_214, L0_214, K0_215, L0_215, K0_216, L0_216, K0_217, L0_217, K0_218, L0_218, K0_219, L0_219, K0_220, L0_220, K0_221, L0_221, K0_222, L0_222, K0_223, L0_223, K0_224, L0_224, K0_225, L0_225, K0_226, L0_226, K0_227, L0_227, K0_228, L0_228, K0_229, L0_229, K0_230, L0_230, K0_231, L0_231, K0_232, L0_232, K0_233, L0_233, K0_234, L0_234, K0_235, L0_235, K0_236, L0_236, K0_237, L0_237, K0_238, L0_238, K0_239, L0_239, K0_240, L0_240, R0_0, R0_2, R0_6, R0_12, R0_14, R0_15, R0_16, R0_17, R0_18, R0_19, R0_20, R0_21, R0_22, R0_23, R0_24, R0_25, R0_30, R0_31, R0_32, R0_34, R0_36, R0_43, R0_44, R0_45, R0_47, R0_48, R0_49, R0_50, R0_53, R0_55, R0_57, R0_59, R0_60, R0_62, R0_63, R0_64, R0_65, R0_66, R0_67, R0_69, R0_70, R0_71, R0_72]
      refine w_ret ⟨hS, fun _ => rfl, fun p' s' c' h => ?_⟩
      rw [← hRes] at h; cases h
    · obtain ⟨k, rfl⟩ : ∃ k, d = k + 1 := ⟨d - 1, by omega⟩
      rw [rdL, if_neg c1, if_neg c2] at hRes
      have o8 := (hS.I 198 8 (by unfold WL; omega)).trans h8
      have ob := hb.sm hS.sm (by unfold WL; omega)
      have key : ∀ N v p', rdC u q r p = some (v, p') → MR M N p' c → Wp (fX13_toldCounts_L147 g (some 198) (iI gr) (iI (r : Nat)) (iI (s : Nat)) (iI (v : Nat)) N) fun v N => Sq WL M N ∧ (R = none → v = iI (-1)) ∧ ∀ p s c, R = some (p, s, c) → v = iI (((p : Int) + 7) / 8) ∧ MR M N p c := by
        intro N v p' hC hM
        obtain ⟨v1, v2, v3⟩ := rdC_v hr hC
        rw [hC, bz_s] at hRes
        obtain ⟨hS, o7, o9, oc⟩ := hM
        have hq' := hT.q hS
        have qk := hq'.k
        have ql := hq'.l
        have qr := hq'.r
        by_cases c3 : r + 1 < v
        · rw [if_pos c3] at hRes
          simp -implicitDefEqProofs (disch := omega) only [fX13_toldCounts_L147, fX13_toldCounts_L167, qk, o9, bo_s, bd_s, bn_s, gI_s, gJ_s, gR_s, pI_s, pZ_s, pJ_s, pR_s, chk_s, chN_s, chN_n, aL_s, aI_c, aJ_c, aR_c, wI_c, wB_c, wS_c, wZ_c, wJ_c, wR_c, mK_sI, mK_sJ, mK_sR, mK_cpI, mL_sI, mL_sJ, mL_sR, mL_cpI, mI_sI, mI_sJ, mI_sR, mI_cpI, mJ_sI, mJ_sJ, mJ_sR, mJ_cpI, mR_sI, mR_sJ, mR_sR, mR_cpI, i2b_i2b, i2b_sb, iI_lit, iI_add, iI_sub, iI_mul, iI_neg, iI_lt, iI_le, iI_eq, iI_J, lt_T, lt_F, le_T, le_F, eq_T, eq_F, eqN_T, eqN_F, leN_T, leN_F, ltN_T, ltN_F, if_true, if_false, and_true, true_and, and_false, false_and, or_true, true_or, or_false, false_or, not_true_eq_false, not_false_eq_true, and_self, or_self, tn_c, ne_eq, dite_true, dite_false, K0_198, K0_199, L0_199, K0_200, L0_200, K0_201, L0_201, K0_202, L0_202, K0_203, L0_203, K0_204, L0_204, K0_205, L0_205, K0_206, L0_206, K0_207, L0_207, K0_208, L0_208, K0_209, L0_209, K0_210, L0_210, K0_211, L0_211, K0_212, L0_212, K0_213, L0_213, K0_214, L0_214, K0_215, L0_215, K0_216, L0_216, K0_217, L0_217, K0_218, L0_218, K0_219, L0_219, K0_220, L0_220, K0_221, L0_221, K0_222, L0_222, K0_223, L0_223, K0_224, L0_224, K0_225, L0_225, K0_226, L0_226, K0_227, L0_227, K0_228, L0_228, K0_229, L0_229, K0_230, L0_230, K0_231, L0_231, K0_232, L0_232, K0_233, L0_233, K0_234, L0_234, K0_235, L0_235, K0_236, L0_236, K0_237, L0_237, K0_238, L0_238, K0_239, L0_239, K0_240, L0_240, R0_0, R0_2, R0_6, R0_12, R0_14, R0_15, R0_16, R0_17, R0_18, R0_19, R0_20, R0_21, R0_22, R0_23, R0_24, R0_25, R0_30, R0_31, R0_32, R0_34, R0_36, R0_43, R0_44, R0_45, R0_47, R0_48, R0_49, R0_50, R0_53, R0_55, R0_57, R0_59, R0_60, R0_62, R0_63, R0_64, R0_65, R0_66, R0_67, R0_69, R0_70, R0_71, R0_72]
          refine w_ret ⟨hS, fun _ => rfl, fun p' s' c' h => ?_⟩
          rw [← hRes] at h; cases h
        · rw [if_neg c3] at hRes
          have hS2 : Sq WL M (sI N 201 s (iI ((v : Int) - 1))) := by
            refine hS.sI ?_
            unfold WL; omega
          have hM2 : MR M (sI N 201 s (iI ((v : Int) - 1))) p' (up c s ((v : Int) - 1)) := by
            refine ⟨hS2, ?_, ?_, ?_⟩
            · simp -implicitDefEqProofs (disch := omega) only [mK_sI, mK_sJ, mK_sR, mK_cpI, mL_sI, mL_sJ, mL_sR, mL_cpI, mI_sI, mI_sJ, mI_sR, mI_cpI, mJ_sI, mJ_sJ, mJ_sR, mJ_cpI, mR_sI, mR_sJ, mR_sR, mR_cpI, eqN_T, eqN_F, if_true, if_false, and_true, true_and, and_false, false_and, or_true, true_or, or_false, false_or, not_true_eq_false, not_false_eq_true, and_self, or_self, tn_c, ne_eq, dite_true, dite_false]
              exact o7
            · simp -implicitDefEqProofs (disch := omega) only [mK_sI, mK_sJ, mK_sR, mK_cpI, mL_sI, mL_sJ, mL_sR, mL_cpI, mI_sI, mI_sJ, mI_sR, mI_cpI, mJ_sI, mJ_sJ, mJ_sR, mJ_cpI, mR_sI, mR_sJ, mR_sR, mR_cpI, eqN_T, eqN_F, if_true, if_false, and_true, true_and, and_false, false_and, or_true, true_or, or_false, false_or, not_true_eq_false, not_false_eq_true, and_self, or_self, tn_c, ne_eq, dite_true, dite_false]
              exact o9
            · intro i hi
              unfold up
              by_cases ei : i = s
              · subst ei
                simp -implicitDefEqProofs (disch := omega) only [mK_sI, mK_sJ, mK_sR, mK_cpI, mL_sI, mL_sJ, mL_sR, mL_cpI, mI_sI, mI_sJ, mI_sR, mI_cpI, mJ_sI, mJ_sJ, mJ_sR, mJ_cpI, mR_sI, mR_sJ, mR_sR, mR_cpI, eqN_T, eqN_F, if_true, if_false, and_true, true_and, and_false, false_and, or_true, true_or, or_false, false_or, not_true_eq_false, not_false_eq_true, and_self, or_self, tn_c, ne_eq, dite_true, dite_false]
              · simp -implicitDefEqProofs (disch := omega) only [mK_sI, mK_sJ, mK_sR, mK_cpI, mL_sI, mL_sJ, mL_sR, mL_cpI, mI_sI, mI_sJ, mI_sR, mI_cpI, mJ_sI, mJ_sJ, mJ_sR, mJ_cpI, mR_sI, mR_sJ, mR_sR, mR_cpI, eqN_T, eqN_F, if_true, if_false, and_true, true_and, and_false, false_and, or_true, true_or, or_false, false_or, not_true_eq_false, not_false_eq_true, and_self, or_self, tn_c, ne_eq, dite_true, dite_false]
                exact oc i hi
          by_cases c4 : v = 1
          · subst c4
            rw [if_pos rfl] at hRes
            have hM3 : MR M (sI N 201 s (iI (((1 : Nat) : Int) - 1))) p' c := by
              refine ⟨hS2, hM2.2.1, hM2.2.2.1, fun i hi => ?_⟩
              rw [hM2.2.2.2 i hi]
              unfold up
              by_cases ei : i = s
              · rw [if_pos ei, ei, hc s (Nat.le_refl _)]; rfl
              · rw [if_neg ei]
            simp -implicitDefEqProofs (disch := omega) only [fX13_toldCounts_L147, fX13_toldCounts_L194, fX13_toldCounts_L207, qk, ql, qr, o9, bo_s, bd_s, bn_s, gI_s, gJ_s, gR_s, pI_s, pZ_s, pJ_s, pR_s, chk_s, chN_s, chN_n, aL_s, aI_c, aJ_c, aR_c, wI_c, wB_c, wS_c, wZ_c, wJ_c, wR_c, mK_sI, mK_sJ, mK_sR, mK_cpI, mL_sI, mL_sJ, mL_sR, mL_cpI, mI_sI, mI_sJ, mI_sR, mI_cpI, mJ_sI, mJ_sJ, mJ_sR, mJ_cpI, mR_sI, mR_sJ, mR_sR, mR_cpI, i2b_i2b, i2b_sb, iI_lit, iI_add, iI_sub, iI_mul, iI_neg, iI_lt, iI_le, iI_eq, iI_J, lt_T, lt_F, le_T, le_F, eq_T, eq_F, eqN_T, eqN_F, leN_T, leN_F, ltN_T, ltN_F, if_true, if_false, and_true, true_and, and_false, false_and, or_true, true_or, or_false, false_or, not_true_eq_false, not_false_eq_true, and_self, or_self, tn_c, ne_eq, dite_true, dite_false, K0_198, K0_199, L0_199, K0_200, L0_200, K0_201, L0_201, K0_202, L0_202, K0_203, L0_203, K0_204, L0_204, K0_205, L0_205, K0_206, L0_206, K0_207, L0_207, K0_208, L0_208, K0_209, L0_209, K0_210, L0_210, K0_211, L0_211, K0_212, L0_212, K0_213, L0_213, K0_214, L0_214, K0_215, L0_215, K0_216, L0_216, K0_217, L0_217, K0_218, L0_218, K0_219, L0_219, K0_220, L0_220, K0_221, L0_221, K0_222, L0_222, K0_223, L0_223, K0_224, L0_224, K0_225, L0_225, K0_226, L0_226, K0_227, L0_227, K0_228, L0_228, K0_229, L0_229, K0_230, L0_230, K0_231, L0_231, K0_232, L0_232, K0_233, L0_233, K0_234, L0_234, K0_235, L0_235, K0_236, L0_236, K0_237, L0_237, K0_238, L0_238, K0_239, L0_239, K0_240, L0_240, R0_0, R0_2, R0_6, R0_12, R0_14, R0_15, R0_16, R0_17, R0_18, R0_19, R0_20, R0_21, R0_22, R0_23, R0_24, R0_25, R0_30, R0_31, R0_32, R0_34, R0_36, R0_43, R0_44, R0_45, R0_47, R0_48, R0_49, R0_50, R0_53, R0_55, R0_57, R0_59, R0_60, R0_62, R0_63, R0_64, R0_65, R0_66, R0_67, R0_69, R0_70, R0_71, R0_72]
            refine zloop (r := r) (j := q) (s := s + 1) hT h8 hb hu hq (by omega) (by omega) hRes (by omega) v3 hM3 (fun s' p' N' h1 h2 h3 h4 h5 => ?_) fun hn N' hS' => ⟨hS', fun _ => rfl, fun p' s' c' h => by rw [hn] at h; cases h⟩
            refine ih k _ _ (by omega) ⟨r, s', p', c, h1, hr, by omega, by omega, by omega, h4, h5, fun i hi => hc i (by omega), ?_⟩
            rfl
          · rw [if_neg c4] at hRes
            by_cases c5 : v = 0
            · subst c5
              rw [if_pos rfl] at hRes
              simp -implicitDefEqProofs (disch := omega) only [fX13_toldCounts_L147, fX13_toldCounts_L194, fX13_toldCounts_L207, qk, ql, qr, o9, bo_s, bd_s, bn_s, gI_s, gJ_s, gR_s, pI_s, pZ_s, pJ_s, pR_s, chk_s, chN_s, chN_n, aL_s, aI_c, aJ_c, aR_c, wI_c, wB_c, wS_c, wZ_c, wJ_c, wR_c, mK_sI, mK_sJ, mK_sR, mK_cpI, mL_sI, mL_sJ, mL_sR, mL_cpI, mI_sI, mI_sJ, mI_sR, mI_cpI, mJ_sI, mJ_sJ, mJ_sR, mJ_cpI, mR_sI, mR_sJ, mR_sR, mR_cpI, i2b_i2b, i2b_sb, iI_lit, iI_add, iI_sub, iI_mul, iI_neg, iI_lt, iI_le, iI_eq, iI_J, lt_T, lt_F, le_T, le_F, eq_T, eq_F, eqN_T, eqN_F, leN_T, leN_F, ltN_T, ltN_F, if_true, if_false, and_true, true_and, and_false, false_and, or_true, true_or, or_false, false_or, not_true_eq_false, not_false_eq_true, and_self, or_self, tn_c, ne_eq, dite_true, dite_false, K0_198, K0_199, L0_199, K0_200, L0_200, K0_201, L0_201, K0_202, L0_202, K0_203, L0_203, K0_204, L0_204, K0_205, L0_205, K0_206, L0_206, K0_207, L0_207, K0_208, L0_208, K0_209, L0_209, K0_210, L0_210, K0_211, L0_211, K0_212, L0_212, K0_213, L0_213, K0_214, L0_214, K0_215, L0_215, K0_216, L0_216, K0_217, L0_217, K0_218, L0_218, K0_219, L0_219, K0_220, L0_220, K0_221, L0_221, K0_222, L0_222, K0_223, L0_223, K0_224, L0_224, K0_225, L0_225, K0_226, L0_226, K0_227, L0_227, K0_228, L0_228, K0_229, L0_229, K0_230, L0_230, K0_231, L0_231, K0_232, L0_232, K0_233, L0_233, K0_234, L0_234, K0_235, L0_235, K0_236, L0_236, K0_237, L0_237, K0_238, L0_238, K0_239, L0_239, K0_240, L0_240, R0_0, R0_2, R0_6, R0_12, R0_14, R0_15, R0_16, R0_17, R0_18, R0_19, R0_20, R0_21, R0_22, R0_23, R0_24, R0_25, R0_30, R0_31, R0_32, R0_34, R0_36, R0_43, R0_44, R0_45, R0_47, R0_48, R0_49, R0_50, R0_53, R0_55, R0_57, R0_59, R0_60, R0_62, R0_63, R0_64, R0_65, R0_66, R0_67, R0_69, R0_70, R0_71, R0_72]
              unfold fX13_toldCounts_L209
              refine w_lpF (fun d x O => d = 0 ∧ O = sI N 201 s (iI (((0 : Nat) : Int) - 1)) ∧ x = (some 198, iI gr, iI ((r : Int) - 1), iI ((s : Int) + 1), iI 0)) 0 (by omega) ⟨rfl, rfl, rfl⟩ ?_
              rintro g2 d2 x2 O2 ⟨rfl, rfl, rfl⟩ ih2
              simp -implicitDefEqProofs (disch := omega) only [fX13_toldCounts_B209, bo_s, bd_s, bn_s, gI_s, gJ_s, gR_s, pI_s, pZ_s, pJ_s, pR_s, chk_s, chN_s, chN_n, aL_s, aI_c, aJ_c, aR_c, wI_c, wB_c, wS_c, wZ_c, wJ_c, wR_c, mK_sI, mK_sJ, mK_sR, mK_cpI, mL_sI, mL_sJ, mL_sR, mL_cpI, mI_sI, mI_sJ, mI_sR, mI_cpI, mJ_sI, mJ_sJ, mJ_sR, mJ_cpI, mR_sI, mR_sJ, mR_sR, mR_cpI, i2b_i2b, i2b_sb, iI_lit, iI_add, iI_sub, iI_mul, iI_neg, iI_lt, iI_le, iI_eq, iI_J, lt_T, lt_F, le_T, le_F, eq_T, eq_F, eqN_T, eqN_F, leN_T, leN_F, ltN_T, ltN_F, if_true, if_false, and_true, true_and, and_false, false_and, or_true, true_or, or_false, false_or, not_true_eq_false, not_false_eq_true, and_self, or_self, tn_c, ne_eq, dite_true, dite_false, K0_198, K0_199, L0_199, K0_200, L0_200, K0_201, L0_201, K0_202, L0_202, K0_203, L0_203, K0_204, L0_204, K0_205, L0_205, K0_206, L0_206, K0_207, L0_207, K0_208, L0_208, K0_209, L0_209, K0_210, L0_210, K0_211, L0_211, K0_212, L0_212, K0_213, L0_213, K0_214, L0_214, K0_215, L0_215, K0_216, L0_216, K0_217, L0_217, K0_218, L0_218, K0_219, L0_219, K0_220, L0_220, K0_221, L0_221, K0_222, L0_222, K0_223, L0_223, K0_224, L0_224, K0_225, L0_225, K0_226, L0_226, K0_227, L0_227, K0_228, L0_228, K0_229, L0_229, K0_230, L0_230, K0_231, L0_231, K0_232, L0_232, K0_233, L0_233, K0_234, L0_234, K0_235, L0_235, K0_236, L0_236, K0_237, L0_237, K0_238, L0_238, K0_239, L0_239, K0_240, L0_240, R0_0, R0_2, R0_6, R0_12, R0_14, R0_15, R0_16, R0_17, R0_18, R0_19, R0_20, R0_21, R0_22, R0_23, R0_24, R0_25, R0_30, R0_31, R0_32, R0_34, R0_36, R0_43, R0_44, R0_45, R0_47, R0_48, R0_49, R0_50, R0_53, R0_55, R0_57, R0_59, R0_60, R0_62, R0_63, R0_64, R0_65, R0_66, R0_67, R0_69, R0_70, R0_71, R0_72]
              refine ih k _ _ (by omega) ⟨r - 1, s + 1, p', _, hRes, by omega, by omega, by omega, by omega, v3, hM2, fun i hi => ?_, ?_⟩
              · unfold up
                rw [if_neg (by omega)]
                exact hc i (by omega)
              · rw [show ((r - 1 : Nat) : Int) = (r : Int) - 1 by omega]
                rfl
            · rw [if_neg c5] at hRes
              simp -implicitDefEqProofs (disch := omega) only [fX13_toldCounts_L147, fX13_toldCounts_L194, fX13_toldCounts_L207, qk, ql, qr, o9, bo_s, bd_s, bn_s, gI_s, gJ_s, gR_s, pI_s, pZ_s, pJ_s, pR_s, chk_s, chN_s, chN_n, aL_s, aI_c, aJ_c, aR_c, wI_c, wB_c, wS_c, wZ_c, wJ_c, wR_c, mK_sI, mK_sJ, mK_sR, mK_cpI, mL_sI, mL_sJ, mL_sR, mL_cpI, mI_sI, mI_sJ, mI_sR, mI_cpI, mJ_sI, mJ_sJ, mJ_sR, mJ_cpI, mR_sI, mR_sJ, mR_sR, mR_cpI, i2b_i2b, i2b_sb, iI_lit, iI_add, iI_sub, iI_mul, iI_neg, iI_lt, iI_le, iI_eq, iI_J, lt_T, lt_F, le_T, le_F, eq_T, eq_F, eqN_T, eqN_F, leN_T, leN_F, ltN_T, ltN_F, if_true, if_false, and_true, true_and, and_false, false_and, or_true, true_or, or_false, false_or, not_true_eq_false, not_false_eq_true, and_self, or_self, tn_c, ne_eq, dite_true, dite_false, K0_198, K0_199, L0_199, K0_200, L0_200, K0_201, L0_201, K0_202, L0_202, K0_203, L0_203, K0_204, L0_204, K0_205, L0_205, K0_206, L0_206, K0_207, L0_207, K0_208, L0_208, K0_209, L0_209, K0_210, L0_210, K0_211, L0_211, K0_212, L0_212, K0_213, L0_213, K0_214, L0_214, K0_215, L0_215, K0_216, L0_216, K0_217, L0_217, K0_218, L0_218, K0_219, L0_219, K0_220, L0_220, K0_221, L0_221, K0_222, L0_222, K0_223, L0_223, K0_224, L0_224, K0_225, L0_225, K0_226, L0_226, K0_227, L0_227, K0_228, L0_228, K0_229, L0_229, K0_230, L0_230, K0_231, L0_231, K0_232, L0_232, K0_233, L0_233, K0_234, L0_234, K0_235, L0_235, K0_236, L0_236, K0_237, L0_237, K0_238, L0_238, K0_239, L0_239, K0_240, L0_240, R0_0, R0_2, R0_6, R0_12, R0_14, R0_15, R0_16, R0_17, R0_18, R0_19, R0_20, R0_21, R0_22, R0_23, R0_24, R0_25, R0_30, R0_31, R0_32, R0_34, R0_36, R0_43, R0_44, R0_45, R0_47, R0_48, R0_49, R0_50, R0_53, R0_55, R0_57, R0_59, R0_60, R0_62, R0_63, R0_64, R0_65, R0_66, R0_67, R0_69, R0_70, R0_71, R0_72]
              unfold fX13_toldCounts_L209
              refine w_lpF (fun d x O => d = 0 ∧ O = sI N 201 s (iI ((v : Int) - 1)) ∧ x = (some 198, iI gr, iI ((r : Int) - ((v : Int) - 1)), iI ((s : Int) + 1), iI 0)) 0 (by omega) ⟨rfl, rfl, rfl⟩ ?_
              rintro g2 d2 x2 O2 ⟨rfl, rfl, rfl⟩ ih2
              simp -implicitDefEqProofs (disch := omega) only [fX13_toldCounts_B209, bo_s, bd_s, bn_s, gI_s, gJ_s, gR_s, pI_s, pZ_s, pJ_s, pR_s, chk_s, chN_s, chN_n, aL_s, aI_c, aJ_c, aR_c, wI_c, wB_c, wS_c, wZ_c, wJ_c, wR_c, mK_sI, mK_sJ, mK_sR, mK_cpI, mL_sI, mL_sJ, mL_sR, mL_cpI, mI_sI, mI_sJ, mI_sR, mI_cpI, mJ_sI, mJ_sJ, mJ_sR, mJ_cpI, mR_sI, mR_sJ, mR_sR, mR_cpI, i2b_i2b, i2b_sb, iI_lit, iI_add, iI_sub, iI_mul, iI_neg, iI_lt, iI_le, iI_eq, iI_J, lt_T, lt_F, le_T, le_F, eq_T, eq_F, eqN_T, eqN_F, leN_T, leN_F, ltN_T, ltN_F, if_true, if_false, and_true, true_and, and_false, false_and, or_true, true_or, or_false, false_or, not_true_eq_false, not_false_eq_true, and_self, or_self, tn_c, ne_eq, dite_true, dite_false, K0_198, K0_199, L0_199, K0_200, L0_200, K0_201, L0_201, K0_202, L0_202, K0_203, L0_203, K0_204, L0_204, K0_205, L0_205, K0_206, L0_206, K0_207, L0_207, K0_208, L0_208, K0_209, L0_209, K0_210, L0_210, K0_211, L0_211, K0_212, L0_212, K0_213, L0_213, K0_214, L0_214, K0_215, L0_215, K0_216, L0_216, K0_217, L0_217, K0_218, L0_218, K0_219, L0_219, K0_220, L0_220, K0_221, L0_221, K0_222, L0_222, K0_223, L0_223, K0_224, L0_224, K0_225, L0_225, K0_226, L0_226, K0_227, L0_227, K0_228, L0_228, K0_229, L0_229, K0_230, L0_230, K0_231, L0_231, K0_232, L0_232, K0_233, L0_233, K0_234, L0_234, K0_235, L0_235, K0_236, L0_236, K0_237, L0_237, K0_238, L0_238, K0_239, L0_239, K0_240, L0_240, R0_0, R0_2, R0_6, R0_12, R0_14, R0_15, R0_16, R0_17, R0_18, R0_19, R0_20, R0_21, R0_22, R0_23, R0_24, R0_25, R0_30, R0_31, R0_32, R0_34, R0_36, R0_43, R0_44, R0_45, R0_47, R0_48, R0_49, R0_50, R0_53, R0_55, R0_57, R0_59, R0_60, R0_62, R0_63, R0_64, R0_65, R0_66, R0_67, R0_69, R0_70, R0_71, R0_72]
              refine ih k _ _ (by omega) ⟨r - (v - 1), s + 1, p', _, hRes, by omega, by omega, by omega, by omega, v3, hM2, fun i hi => ?_, ?_⟩
              · unfold up
                rw [if_neg (by omega)]
                exact hc i (by omega)
              · rw [show ((r - (v - 1) : Nat) : Int) = (r : Int) - ((v : Int) - 1) by omega]
                rfl
      obtain ⟨f1, f2, f3, f4⟩ := few_le hr
      have el := log_ok (M := O) (r + 1) (by omega)
      rw [show ((r + 1 : Nat) : Int) = (r : Int) + 1 by omega] at el
      have hv := bits_lt u (Nat.log2 (r + 1)) p
      have k0 : mK O 198 = 13 := qk 198 (by omega) (by omega)
      have k6 : mR O 198 6 = some 199 := qr 6
      unfold rdC at key hRes
      generalize Nat.log2 (r + 1) = m at *
      have es : shlI (iI 1) (iI ((m : Int) + 1)) = iI (2 ^ (m + 1)) := by
        have := shl_n (a := 1) (k := m + 1) (by omega)
        rwa [Nat.one_mul, ← p2] at this
      have es2 : shlI (iI 1) (iI ((m : Int) + 1 - 1)) = iI ((2 ^ m : Nat) : Int) := by
        have := shl_n (a := 1) (k := m) (by omega)
        rwa [Nat.one_mul, show (m : Int) = (m : Int) + 1 - 1 by omega] at this
      have f2s := f2.symm
      have dead : ∀ N y, R = none → Sq WL M N → mI N 198 9 = iI 1 → Wp (fX13_toldCounts_L147 g (some 198) (iI gr) (iI (r : Nat)) (iI (s : Nat)) y N) fun v N => Sq WL M N ∧ (R = none → v = iI (-1)) ∧ ∀ p s c, R = some (p, s, c) → v = iI (((p : Int) + 7) / 8) ∧ MR M N p c := by
        intro N y hn hS n9
        have qk := (hT.q hS).k
        simp -implicitDefEqProofs (disch := omega) only [fX13_toldCounts_L147, fX13_toldCounts_L167, qk, n9, bo_s, bd_s, bn_s, gI_s, gJ_s, gR_s, pI_s, pZ_s, pJ_s, pR_s, chk_s, chN_s, chN_n, aL_s, aI_c, aJ_c, aR_c, wI_c, wB_c, wS_c, wZ_c, wJ_c, wR_c, mK_sI, mK_sJ, mK_sR, mK_cpI, mL_sI, mL_sJ, mL_sR, mL_cpI, mI_sI, mI_sJ, mI_sR, mI_cpI, mJ_sI, mJ_sJ, mJ_sR, mJ_cpI, mR_sI, mR_sJ, mR_sR, mR_cpI, i2b_i2b, i2b_sb, iI_lit, iI_add, iI_sub, iI_mul, iI_neg, iI_lt, iI_le, iI_eq, iI_J, lt_T, lt_F, le_T, le_F, eq_T, eq_F, eqN_T, eqN_F, leN_T, leN_F, ltN_T, ltN_F, if_true, if_false, and_true, true_and, and_false, false_and, or_true, true_or, or_false, false_or, not_true_eq_false, not_false_eq_true, and_self, or_self, tn_c, ne_eq, dite_true, dite_false, K0_198, K0_199, L0_199, K0_200, L0_200, K0_201, L0_201, K0_202, L0_202, K0_203, L0_203, K0_204, L0_204, K0_205, L0_205, K0_206, L0_206, K0_207, L0_207, K0_208, L0_208, K0_209, L0_209, K0_210, L0_210, K0_211, L0_211, K0_212, L0_212, K0_213, L0_213, K0_214, L0_214, K0_215, L0_215, K0_216, L0_216, K0_217, L0_217, K0_218, L0_218, K0_219, L0_219, K0_220, L0_220, K0_221, L0_221, K0_222, L0_222, K0_223, L0_223, K0_224, L0_224, K0_225, L0_225, K0_226, L0_226, K0_227, L0_227, K0_228, L0_228, K0_229, L0_229, K0_230, L0_230, K0_231, L0_231, K0_232, L0_232, K0_233, L0_233, K0_234, L0_234, K0_235, L0_235, K0_236, L0_236, K0_237, L0_237, K0_238, L0_238, K0_239, L0_239, K0_240, L0_240, R0_0, R0_2, R0_6, R0_12, R0_14, R0_15, R0_16, R0_17, R0_18, R0_19, R0_20, R0_21, R0_22, R0_23, R0_24, R0_25, R0_30, R0_31, R0_32, R0_34, R0_36, R0_43, R0_44, R0_45, R0_47, R0_48, R0_49, R0_50, R0_53, R0_55, R0_57, R0_59, R0_60, R0_62, R0_63, R0_64, R0_65, R0_66, R0_67, R0_69, R0_70, R0_71, R0_72]
        exact w_ret ⟨hS, fun _ => rfl, fun p' s' c' h => by rw [hn] at h; cases h⟩
      by_cases c3 : q < p + m
      · rw [if_pos c3, bz_n] at hRes
        have et := forward_no k0 o7 o8 m (by omega) (by omega) (by omega) (by omega)
        rw [show (m : Int) = (m : Int) + 1 - 1 by omega] at et
        simp -implicitDefEqProofs (disch := omega) only [fX13_toldCounts_B65, el, es, f2s, qk, et, bo_s, bd_s, bn_s, gI_s, gJ_s, gR_s, pI_s, pZ_s, pJ_s, pR_s, chk_s, chN_s, chN_n, aL_s, aI_c, aJ_c, aR_c, wI_c, wB_c, wS_c, wZ_c, wJ_c, wR_c, mK_sI, mK_sJ, mK_sR, mK_cpI, mL_sI, mL_sJ, mL_sR, mL_cpI, mI_sI, mI_sJ, mI_sR, mI_cpI, mJ_sI, mJ_sJ, mJ_sR, mJ_cpI, mR_sI, mR_sJ, mR_sR, mR_cpI, i2b_i2b, i2b_sb, iI_lit, iI_add, iI_sub, iI_mul, iI_neg, iI_lt, iI_le, iI_eq, iI_J, lt_T, lt_F, le_T, le_F, eq_T, eq_F, eqN_T, eqN_F, leN_T, leN_F, ltN_T, ltN_F, if_true, if_false, and_true, true_and, and_false, false_and, or_true, true_or, or_false, false_or, not_true_eq_false, not_false_eq_true, and_self, or_self, tn_c, ne_eq, dite_true, dite_false, K0_198, K0_199, L0_199, K0_200, L0_200, K0_201, L0_201, K0_202, L0_202, K0_203, L0_203, K0_204, L0_204, K0_205, L0_205, K0_206, L0_206, K0_207, L0_207, K0_208, L0_208, K0_209, L0_209, K0_210, L0_210, K0_211, L0_211, K0_212, L0_212, K0_213, L0_213, K0_214, L0_214, K0_215, L0_215, K0_216, L0_216, K0_217, L0_217, K0_218, L0_218, K0_219, L0_219, K0_220, L0_220, K0_221, L0_221, K0_222, L0_222, K0_223, L0_223, K0_224, L0_224, K0_225, L0_225, K0_226, L0_226, K0_227, L0_227, K0_228, L0_228, K0_229, L0_229, K0_230, L0_230, K0_231, L0_231, K0_232, L0_232, K0_233, L0_233, K0_234, L0_234, K0_235, L0_235, K0_236, L0_236, K0_237, L0_237, K0_238, L0_238, K0_239, L0_239, K0_240, L0_240, R0_0, R0_2, R0_6, R0_12, R0_14, R0_15, R0_16, R0_17, R0_18, R0_19, R0_20, R0_21, R0_22, R0_23, R0_24, R0_25, R0_30, R0_31, R0_32, R0_34, R0_36, R0_43, R0_44, R0_45, R0_47, R0_48, R0_49, R0_50, R0_53, R0_55, R0_57, R0_59, R0_60, R0_62, R0_63, R0_64, R0_65, R0_66, R0_67, R0_69, R0_70, R0_71, R0_72]
        refine dead _ _ hRes.symm (hS.sI ?_) ?_
        · unfold WL; omega
        · simp -implicitDefEqProofs (disch := omega) only [mK_sI, mK_sJ, mK_sR, mK_cpI, mL_sI, mL_sJ, mL_sR, mL_cpI, mI_sI, mI_sJ, mI_sR, mI_cpI, mJ_sI, mJ_sJ, mJ_sR, mJ_cpI, mR_sI, mR_sJ, mR_sR, mR_cpI, eqN_T, eqN_F, if_true, if_false, and_true, true_and, and_false, false_and, or_true, true_or, or_false, false_or, not_true_eq_false, not_false_eq_true, and_self, or_self, tn_c, ne_eq, dite_true, dite_false]
      · obtain ⟨x, N, et, rfl, n7, hS2⟩ := forward_ok k0 k6 o7 o8 ob hu hq m (by omega) (by omega)
        rw [show (m : Int) = (m : Int) + 1 - 1 by omega] at et n7
        have hS3 : Sq WL M N := hS.tr (hS2.weak (by unfold WL; omega))
        have hq2 := hT.q hS3
        have nk := hq2.k
        have n0 : mK N 198 = 13 := nk 198 (by omega) (by omega)
        have n6 : mR N 198 6 = some 199 := hq2.r 6
        have n9 := (hS2.I 198 9 (by omega)).trans o9
        have n8 := (hS2.I 198 8 (by omega)).trans o8
        have nc : ∀ i, i < 256 → mI N 201 i = iI (c i) := fun i hi => (hS2.I 201 i (by omega)).trans (oc i hi)
        have n7' : mI N 198 7 = iI ((p + m : Nat) : Int) := by rw [n7]; refine congrArg iI ?_; omega
        rw [if_neg c3] at hRes
        by_cases c4 : bits u p m < few r
        · have := key N (bits u p m) (p + m) (by rw [if_neg c3, if_pos c4]) ⟨hS3, n7', n9, nc⟩
          simp -implicitDefEqProofs (disch := omega) only [fX13_toldCounts_B65, el, es, f2s, qk, et, nk, n9, bo_s, bd_s, bn_s, gI_s, gJ_s, gR_s, pI_s, pZ_s, pJ_s, pR_s, chk_s, chN_s, chN_n, aL_s, aI_c, aJ_c, aR_c, wI_c, wB_c, wS_c, wZ_c, wJ_c, wR_c, mK_sI, mK_sJ, mK_sR, mK_cpI, mL_sI, mL_sJ, mL_sR, mL_cpI, mI_sI, mI_sJ, mI_sR, mI_cpI, mJ_sI, mJ_sJ, mJ_sR, mJ_cpI, mR_sI, mR_sJ, mR_sR, mR_cpI, i2b_i2b, i2b_sb, iI_lit, iI_add, iI_sub, iI_mul, iI_neg, iI_lt, iI_le, iI_eq, iI_J, lt_T, lt_F, le_T, le_F, eq_T, eq_F, eqN_T, eqN_F, leN_T, leN_F, ltN_T, ltN_F, if_true, if_false, and_true, true_and, and_false, false_and, or_true, true_or, or_false, false_or, not_true_eq_false, not_false_eq_true, and_self, or_self, tn_c, ne_eq, dite_true, dite_false, K0_198, K0_199, L0_199, K0_200, L0_200, K0_201, L0_201, K0_202, L0_202, K0_203, L0_203, K0_204, L0_204, K0_205, L0_205, K0_206, L0_206, K0_207, L0_207, K0_208, L0_208, K0_209, L0_209, K0_210, L0_210, K0_211, L0_211, K0_212, L0_212, K0_213, L0_213, K0_214, L0_214, K0_215, L0_215, K0_216, L0_216, K0_217, L0_217, K0_218, L0_218, K0_219, L0_219, K0_220, L0_220, K0_221, L0_221, K0_222, L0_222, K0_223, L0_223, K0_224, L0_224, K0_225, L0_225, K0_226, L0_226, K0_227, L0_227, K0_228, L0_228, K0_229, L0_229, K0_230, L0_230, K0_231, L0_231, K0_232, L0_232, K0_233, L0_233, K0_234, L0_234, K0_235, L0_235, K0_236, L0_236, K0_237, L0_237, K0_238, L0_238, K0_239, L0_239, K0_240, L0_240, R0_0, R0_2, R0_6, R0_12, R0_14, R0_15, R0_16, R0_17, R0_18, R0_19, R0_20, R0_21, R0_22, R0_23, R0_24, R0_25, R0_30, R0_31, R0_32, R0_34, R0_36, R0_43, R0_44, R0_45, R0_47, R0_48, R0_49, R0_50, R0_53, R0_55, R0_57, R0_59, R0_60, R0_62, R0_63, R0_64, R0_65, R0_66, R0_67, R0_69, R0_70, R0_71, R0_72]
          exact this
        · rw [if_neg c4] at hRes
          by_cases c5 : q < p + m + 1
          · rw [if_pos c5, bz_n] at hRes
            have et2 := forward_no (k := 1) n0 n7' n8 (by omega) (by omega) (by omega) (by omega)
            rw [show ((1 : Nat) : Int) = 1 from rfl] at et2
            simp -implicitDefEqProofs (disch := omega) only [fX13_toldCounts_B65, el, es, f2s, qk, et, nk, n9, et2, bo_s, bd_s, bn_s, gI_s, gJ_s, gR_s, pI_s, pZ_s, pJ_s, pR_s, chk_s, chN_s, chN_n, aL_s, aI_c, aJ_c, aR_c, wI_c, wB_c, wS_c, wZ_c, wJ_c, wR_c, mK_sI, mK_sJ, mK_sR, mK_cpI, mL_sI, mL_sJ, mL_sR, mL_cpI, mI_sI, mI_sJ, mI_sR, mI_cpI, mJ_sI, mJ_sJ, mJ_sR, mJ_cpI, mR_sI, mR_sJ, mR_sR, mR_cpI, i2b_i2b, i2b_sb, iI_lit, iI_add, iI_sub, iI_mul, iI_neg, iI_lt, iI_le, iI_eq, iI_J, lt_T, lt_F, le_T, le_F, eq_T, eq_F, eqN_T, eqN_F, leN_T, leN_F, ltN_T, ltN_F, if_true, if_false, and_true, true_and, and_false, false_and, or_true, true_or, or_false, false_or, not_true_eq_false, not_false_eq_true, and_self, or_self, tn_c, ne_eq, dite_true, dite_false, K0_198, K0_199, L0_199, K0_200, L0_200, K0_201, L0_201, K0_202, L0_202, K0_203, L0_203, K0_204, L0_204, K0_205, L0_205, K0_206, L0_206, K0_207, L0_207, K0_208, L0_208, K0_209, L0_209, K0_210, L0_210, K0_211, L0_211, K0_212, L0_212, K0_213, L0_213, K0_214, L0_214, K0_215, L0_215, K0_216, L0_216, K0_217, L0_217, K0_218, L0_218, K0_219, L0_219, K0_220, L0_220, K0_221, L0_221, K0_222, L0_222, K0_223, L0_223, K0_224, L0_224, K0_225, L0_225, K0_226, L0_226, K0_227, L0_227, K0_228, L0_228, K0_229, L0_229, K0_230, L0_230, K0_231, L0_231, K0_232, L0_232, K0_233, L0_233, K0_234, L0_234, K0_235, L0_235, K0_236, L0_236, K0_237, L0_237, K0_238, L0_238, K0_239, L0_239, K0_240, L0_240, R0_0, R0_2, R0_6, R0_12, R0_14, R0_15, R0_16, R0_17, R0_18, R0_19, R0_20, R0_21, R0_22, R0_23, R0_24, R0_25, R0_30, R0_31, R0_32, R0_34, R0_36, R0_43, R0_44, R0_45, R0_47, R0_48, R0_49, R0_50, R0_53, R0_55, R0_57, R0_59, R0_60, R0_62, R0_63, R0_64, R0_65, R0_66, R0_67, R0_69, R0_70, R0_71, R0_72]
            refine dead _ _ hRes.symm (hS3.sI ?_) ?_
            · unfold WL; omega
            · simp -implicitDefEqProofs (disch := omega) only [mK_sI, mK_sJ, mK_sR, mK_cpI, mL_sI, mL_sJ, mL_sR, mL_cpI, mI_sI, mI_sJ, mI_sR, mI_cpI, mJ_sI, mJ_sJ, mJ_sR, mJ_cpI, mR_sI, mR_sJ, mR_sR, mR_cpI, eqN_T, eqN_F, if_true, if_false, and_true, true_and, and_false, false_and, or_true, true_or, or_false, false_or, not_true_eq_false, not_false_eq_true, and_self, or_self, tn_c, ne_eq, dite_true, dite_false]
          · obtain ⟨x, N2, et2, rfl, m7, hS4⟩ := forward_ok (k := 1) n0 n6 n7' n8 (ob.sm hS2.sm (by omega)) hu hq (by omega) (by omega)
            have hbt := bt_lt u (p + m)
            rw [show bits u (p + m) 1 = bt u (p + m) by rw [bits, bits]; rfl, show ((1 : Nat) : Int) = 1 from rfl] at et2
            have hS5 : Sq WL M N2 := hS3.tr (hS4.weak (by unfold WL; omega))
            have m9 := (hS4.I 198 9 (by omega)).trans n9
            have mc : ∀ i, i < 256 → mI N2 201 i = iI (c i) := fun i hi => (hS4.I 201 i (by omega)).trans (nc i hi)
            have m7' : mI N2 198 7 = iI ((p + m + 1 : Nat) : Int) := m7
            have kk := key N2 _ _ (by rw [if_neg c3, if_neg c4, if_neg c5]) ⟨hS5, m7', m9, mc⟩
            by_cases c6 : bt u (p + m) = 1
            · rw [if_pos c6, show ((bits u p m + (2 ^ m - few r) : Nat) : Int) = (bits u p m : Int) + (((2 ^ m : Nat) : Int) - few r) by omega] at kk
              rw [c6] at et2
              simp -implicitDefEqProofs (disch := omega) only [fX13_toldCounts_B65, el, es, es2, f2s, qk, et, nk, n9, et2, bo_s, bd_s, bn_s, gI_s, gJ_s, gR_s, pI_s, pZ_s, pJ_s, pR_s, chk_s, chN_s, chN_n, aL_s, aI_c, aJ_c, aR_c, wI_c, wB_c, wS_c, wZ_c, wJ_c, wR_c, mK_sI, mK_sJ, mK_sR, mK_cpI, mL_sI, mL_sJ, mL_sR, mL_cpI, mI_sI, mI_sJ, mI_sR, mI_cpI, mJ_sI, mJ_sJ, mJ_sR, mJ_cpI, mR_sI, mR_sJ, mR_sR, mR_cpI, i2b_i2b, i2b_sb, iI_lit, iI_add, iI_sub, iI_mul, iI_neg, iI_lt, iI_le, iI_eq, iI_J, lt_T, lt_F, le_T, le_F, eq_T, eq_F, eqN_T, eqN_F, leN_T, leN_F, ltN_T, ltN_F, if_true, if_false, and_true, true_and, and_false, false_and, or_true, true_or, or_false, false_or, not_true_eq_false, not_false_eq_true, and_self, or_self, tn_c, ne_eq, dite_true, dite_false, K0_198, K0_199, L0_199, K0_200, L0_200, K0_201, L0_201, K0_202, L0_202, K0_203, L0_203, K0_204, L0_204, K0_205, L0_205, K0_206, L0_206, K0_207, L0_207, K0_208, L0_208, K0_209, L0_209, K0_210, L0_210, K0_211, L0_211, K0_212, L0_212, K0_213, L0_213, K0_214, L0_214, K0_215, L0_215, K0_216, L0_216, K0_217, L0_217, K0_218, L0_218, K0_219, L0_219, K0_220, L0_220, K0_221, L0_221, K0_222, L0_222, K0_223, L0_223, K0_224, L0_224, K0_225, L0_225, K0_226, L0_226, K0_227, L0_227, K0_228, L0_228, K0_229, L0_229, K0_230, L0_230, K0_231, L0_231, K0_232, L0_232, K0_233, L0_233, K0_234, L0_234, K0_235, L0_235, K0_236, L0_236, K0_237, L0_237, K0_238, L0_238, K0_239, L0_239, K0_240, L0_240, R0_0, R0_2, R0_6, R0_12, R0_14, R0_15, R0_16, R0_17, R0_18, R0_19, R0_20, R0_21, R0_22, R0_23, R0_24, R0_25, R0_30, R0_31, R0_32, R0_34, R0_36, R0_43, R0_44, R0_45, R0_47, R0_48, R0_49, R0_50, R0_53, R0_55, R0_57, R0_59, R0_60, R0_62, R0_63, R0_64, R0_65, R0_66, R0_67, R0_69, R0_70, R0_71, R0_72]
              exact kk
            · rw [if_neg c6, Nat.add_zero] at kk
              simp -implicitDefEqProofs (disch := omega) only [fX13_toldCounts_B65, el, es, es2, f2s, qk, et, nk, n9, et2, bo_s, bd_s, bn_s, gI_s, gJ_s, gR_s, pI_s, pZ_s, pJ_s, pR_s, chk_s, chN_s, chN_n, aL_s, aI_c, aJ_c, aR_c, wI_c, wB_c, wS_c, wZ_c, wJ_c, wR_c, mK_sI, mK_sJ, mK_sR, mK_cpI, mL_sI, mL_sJ, mL_sR, mL_cpI, mI_sI, mI_sJ, mI_sR, mI_cpI, mJ_sI, mJ_sJ, mJ_sR, mJ_cpI, mR_sI, mR_sJ, mR_sR, mR_cpI, i2b_i2b, i2b_sb, iI_lit, iI_add, iI_sub, iI_mul, iI_neg, iI_lt, iI_le, iI_eq, iI_J, lt_T, lt_F, le_T, le_F, eq_T, eq_F, eqN_T, eqN_F, leN_T, leN_F, ltN_T, ltN_F, if_true, if_false, and_true, true_and, and_false, false_and, or_true, true_or, or_false, false_or, not_true_eq_false, not_false_eq_true, and_self, or_self, tn_c, ne_eq, dite_true, dite_false, K0_198, K0_199, L0_199, K0_200, L0_200, K0_201, L0_201, K0_202, L0_202, K0_203, L0_203, K0_204, L0_204, K0_205, L0_205, K0_206, L0_206, K0_207, L0_207, K0_208, L0_208, K0_209, L0_209, K0_210, L0_210, K0_211, L0_211, K0_212, L0_212, K0_213, L0_213, K0_214, L0_214, K0_215, L0_215, K0_216, L0_216, K0_217, L0_217, K0_218, L0_218, K0_219, L0_219, K0_220, L0_220, K0_221, L0_221, K0_222, L0_222, K0_223, L0_223, K0_224, L0_224, K0_225, L0_225, K0_226, L0_226, K0_227, L0_227, K0_228, L0_228, K0_229, L0_229, K0_230, L0_230, K0_231, L0_231, K0_232, L0_232, K0_233, L0_233, K0_234, L0_234, K0_235, L0_235, K0_236, L0_236, K0_237, L0_237, K0_238, L0_238, K0_239, L0_239, K0_240, L0_240, R0_0, R0_2, R0_6, R0_12, R0_14, R0_15, R0_16, R0_17, R0_18, R0_19, R0_20, R0_21, R0_22, R0_23, R0_24, R0_25, R0_30, R0_31, R0_32, R0_34, R0_36, R0_43, R0_44, R0_45, R0_47, R0_48, R0_49, R0_50, R0_53, R0_55, R0_57, R0_59, R0_60, R0_62, R0_63, R0_64, R0_65, R0_66, R0_67, R0_69, R0_70, R0_71, R0_72]
              exact kk
theorem toldCounts_ok {a g most : Nat} (hT : RSt M) (hb : BV M 199 8000 e u) (hu : ∀ i, u i < 256) (hg : g ≤ e) (ha : a < 1000000) (hgr : gr < 256) (hm : most ≤ 9) :
    Wp (fX13_toldCounts (some 198) (iI a) (iI g) (iI gr) (iI most) M) fun v N => Sq WM M N ∧ (rdT u a g gr most = none → v = iI (-1)) ∧ ∀ p T, rdT u a g gr most = some (p, T) → v = iI p ∧ ∃ S c, T = tbOf T.1 S c ∧ CO T.1 S c ∧ mI N 198 13 = iI T.1 ∧ ∀ i, i < 256 → mI N 201 i = iI (c i) := by
  have g3 := hb.2.2.1
  have qk0 := hT.k
  obtain ⟨w, N1, e1, hS1, hz⟩ := noCounts_ok hT
  have qk1 := (hT.q hS1).k
  obtain ⟨N0, hN0⟩ : ∃ N0, sI (sI (sI N1 198 7 (iI (8 * (a : Int)))) 198 8 (iI (8 * (g : Int)))) 198 9 (iI 0) = N0 := ⟨_, rfl⟩
  have hS0 : Sq WM M N0 := by
    rw [← hN0]
    refine Sq.sI (Sq.sI (Sq.sI (hS1.weak ?_) ?_) ?_) ?_ <;> unfold WM <;> omega
  have hq0 := hT.q hS0
  have qk := hq0.k
  have n0 : mK N0 198 = 13 := qk 198 (by omega) (by omega)
  have n6 : mR N0 198 6 = some 199 := hq0.r 6
  have n7 : mI N0 198 7 = iI ((8 * a : Nat) : Int) := by rw [← hN0]; simp -implicitDefEqProofs (disch := omega) only [mK_sI, mK_sJ, mK_sR, mK_cpI, mL_sI, mL_sJ, mL_sR, mL_cpI, mI_sI, mI_sJ, mI_sR, mI_cpI, mJ_sI, mJ_sJ, mJ_sR, mJ_cpI, mR_sI, mR_sJ, mR_sR, mR_cpI, eqN_T, eqN_F, if_true, if_false, and_true, true_and, and_false, false_and, or_true, true_or, or_false, false_or, not_true_eq_false, not_false_eq_true, and_self, or_self, tn_c, ne_eq, dite_true, dite_false]; rfl
  have n8 : mI N0 198 8 = iI ((8 * g : Nat) : Int) := by rw [← hN0]; simp -implicitDefEqProofs (disch := omega) only [mK_sI, mK_sJ, mK_sR, mK_cpI, mL_sI, mL_sJ, mL_sR, mL_cpI, mI_sI, mI_sJ, mI_sR, mI_cpI, mJ_sI, mJ_sJ, mJ_sR, mJ_cpI, mR_sI, mR_sJ, mR_sR, mR_cpI, eqN_T, eqN_F, if_true, if_false, and_true, true_and, and_false, false_and, or_true, true_or, or_false, false_or, not_true_eq_false, not_false_eq_true, and_self, or_self, tn_c, ne_eq, dite_true, dite_false]; rfl
  have n9 : mI N0 198 9 = iI 0 := by rw [← hN0]; simp -implicitDefEqProofs (disch := omega) only [mK_sI, mK_sJ, mK_sR, mK_cpI, mL_sI, mL_sJ, mL_sR, mL_cpI, mI_sI, mI_sJ, mI_sR, mI_cpI, mJ_sI, mJ_sJ, mJ_sR, mJ_cpI, mR_sI, mR_sJ, mR_sR, mR_cpI, eqN_T, eqN_F, if_true, if_false, and_true, true_and, and_false, false_and, or_true, true_or, or_false, false_or, not_true_eq_false, not_false_eq_true, and_self, or_self, tn_c, ne_eq, dite_true, dite_false]
  have nc : ∀ i, i < 256 → mI N0 201 i = iI 0 := fun i hi => by rw [← hN0]; simp -implicitDefEqProofs (disch := omega) only [mK_sI, mK_sJ, mK_sR, mK_cpI, mL_sI, mL_sJ, mL_sR, mL_cpI, mI_sI, mI_sJ, mI_sR, mI_cpI, mJ_sI, mJ_sJ, mJ_sR, mJ_cpI, mR_sI, mR_sJ, mR_sR, mR_cpI, eqN_T, eqN_F, if_true, if_false, and_true, true_and, and_false, false_and, or_true, true_or, or_false, false_or, not_true_eq_false, not_false_eq_true, and_self, or_self, tn_c, ne_eq, dite_true, dite_false]; exact hz i hi
  have hb0 := hb.sm hS0.sm (by unfold WM; omega)
  by_cases c1 : 8 * g < 8 * a + 4
  · have hR : rdT u a g gr most = none := by unfold rdT; rw [if_pos c1]
    have e2 := forward_no (k := 4) n0 n7 n8 (by omega) (by omega) (by omega) (by omega)
    rw [show ((4 : Nat) : Int) = 4 from rfl] at e2
    simp -implicitDefEqProofs (disch := omega) only [fX13_toldCounts, fX13_toldCounts_L48, qk0, e1, qk1, hN0, qk, e2, bo_s, bd_s, bn_s, gI_s, gJ_s, gR_s, pI_s, pZ_s, pJ_s, pR_s, chk_s, chN_s, chN_n, aL_s, aI_c, aJ_c, aR_c, wI_c, wB_c, wS_c, wZ_c, wJ_c, wR_c, mK_sI, mK_sJ, mK_sR, mK_cpI, mL_sI, mL_sJ, mL_sR, mL_cpI, mI_sI, mI_sJ, mI_sR, mI_cpI, mJ_sI, mJ_sJ, mJ_sR, mJ_cpI, mR_sI, mR_sJ, mR_sR, mR_cpI, i2b_i2b, i2b_sb, iI_lit, iI_add, iI_sub, iI_mul, iI_neg, iI_lt, iI_le, iI_eq, iI_J, lt_T, lt_F, le_T, le_F, eq_T, eq_F, eqN_T, eqN_F, leN_T, leN_F, ltN_T, ltN_F, if_true, if_false, and_true, true_and, and_false, false_and, or_true, true_or, or_false, false_or, not_true_eq_false, not_false_eq_true, and_self, or_self, tn_c, ne_eq, dite_true, dite_false, K0_198, K0_199, L0_199, K0_200, L0_200, K0_201, L0_201, K0_202, L0_202, K0_203, L0_203, K0_204, L0_204, K0_205, L0_205, K0_206, L0_206, K0_207, L0_207, K0_208, L0_208, K0_209, L0_209, K0_210, L0_210, K0_211, L0_211, K0_212, L0_212, K0_213, L0_213, K0_214, L0_214, K0_215, L0_215, K0_216, L0_216, K0_217, L0_217, K0_218, L0_218, K0_219, L0_219, K0_220, L0_220, K0_221, L0_221, K0_222, L0_222, K0_223, L0_223, K0_224, L0_224, K0_225, L0_225, K0_226, L0_226, K0_227, L0_227, K0_228, L0_228, K0_229, L0_229, K0_230, L0_230, K0_231, L0_231, K0_232, L0_232, K0_233, L0_233, K0_234, L0_234, K0_235, L0_235, K0_236, L0_236, K0_237, L0_237, K0_238, L0_238, K0_239, L0_239, K0_240, L0_240, R0_0, R0_2, R0_6, R0_12, R0_14, R0_15, R0_16, R0_17, R0_18, R0_19, R0_20, R0_21, R0_22, R0_23, R0_24, R0_25, R0_30, R0_31, R0_32, R0_34, R0_36, R0_43, R0_44, R0_45, R0_47, R0_48, R0_49, R0_50, R0_53, R0_55, R0_57, R0_59, R0_60, R0_62, R0_63, R0_64, R0_65, R0_66, R0_67, R0_69, R0_70, R0_71, R0_72]
    refine w_ret ⟨hS0.sI ?_, fun _ => rfl, fun p T h => ?_⟩
    · unfold WM; omega
    · rw [hR] at h; cases h
  · obtain ⟨x, N2, e2, rfl, m7, hS2⟩ := forward_ok (k := 4) n0 n6 n7 n8 hb0 hu (by omega) (by omega) (by omega)
    rw [show ((4 : Nat) : Int) = 4 from rfl] at e2
    have hl16 : bits u (8 * a) 4 < 16 := bits_lt u 4 (8 * a)
    have hRd : rdT u a g gr most = if most < 5 + bits u (8 * a) 4 then none else
        match rdL u (8 * g) gr 300 (2 ^ (5 + bits u (8 * a) 4)) 0 (8 * a + 4) (fun _ => 0) with
        | none => none
        | some x => some ((x.1 + 7) / 8, tbOf (5 + bits u (8 * a) 4) x.2.1 x.2.2) := by
      unfold rdT
      rw [if_neg c1]
      rfl
    have hS3 : Sq WM M N2 := hS0.tr (hS2.weak (by unfold WM; omega))
    have m9 := (hS2.I 198 9 (by omega)).trans n9
    have mk := (hT.q hS3).k
    generalize hL : bits u (8 * a) 4 = l4 at *
    by_cases c2 : most < 5 + l4
    · rw [if_pos c2] at hRd
      simp -implicitDefEqProofs (disch := omega) only [fX13_toldCounts, fX13_toldCounts_L48, qk0, e1, qk1, hN0, qk, e2, mk, m9, bo_s, bd_s, bn_s, gI_s, gJ_s, gR_s, pI_s, pZ_s, pJ_s, pR_s, chk_s, chN_s, chN_n, aL_s, aI_c, aJ_c, aR_c, wI_c, wB_c, wS_c, wZ_c, wJ_c, wR_c, mK_sI, mK_sJ, mK_sR, mK_cpI, mL_sI, mL_sJ, mL_sR, mL_cpI, mI_sI, mI_sJ, mI_sR, mI_cpI, mJ_sI, mJ_sJ, mJ_sR, mJ_cpI, mR_sI, mR_sJ, mR_sR, mR_cpI, i2b_i2b, i2b_sb, iI_lit, iI_add, iI_sub, iI_mul, iI_neg, iI_lt, iI_le, iI_eq, iI_J, lt_T, lt_F, le_T, le_F, eq_T, eq_F, eqN_T, eqN_F, leN_T, leN_F, ltN_T, ltN_F, if_true, if_false, and_true, true_and, and_false, false_and, or_true, true_or, or_false, false_or, not_true_eq_false, not_false_eq_true, and_self, or_self, tn_c, ne_eq, dite_true, dite_false, K0_198, K0_199, L0_199, K0_200, L0_200, K0_201, L0_201, K0_202, L0_202, K0_203, L0_203, K0_204, L0_204, K0_205, L0_205, K0_206, L0_206, K0_207, L0_207, K0_208, L0_208, K0_209, L0_209, K0_210, L0_210, K0_211, L0_211, K0_212, L0_212, K0_213, L0_213, K0_214, L0_214, K0_215, L0_215, K0_216, L0_216, K0_217, L0_217, K0_218, L0_218, K0_219, L0_219, K0_220, L0_220, K0_221, L0_221, K0_222, L0_222, K0_223, L0_223, K0_224, L0_224, K0_225, L0_225, K0_226, L0_226, K0_227, L0_227, K0_228, L0_228, K0_229, L0_229, K0_230, L0_230, K0_231, L0_231, K0_232, L0_232, K0_233, L0_233, K0_234, L0_234, K0_235, L0_235, K0_236, L0_236, K0_237, L0_237, K0_238, L0_238, K0_239, L0_239, K0_240, L0_240, R0_0, R0_2, R0_6, R0_12, R0_14, R0_15, R0_16, R0_17, R0_18, R0_19, R0_20, R0_21, R0_22, R0_23, R0_24, R0_25, R0_30, R0_31, R0_32, R0_34, R0_36, R0_43, R0_44, R0_45, R0_47, R0_48, R0_49, R0_50, R0_53, R0_55, R0_57, R0_59, R0_60, R0_62, R0_63, R0_64, R0_65, R0_66, R0_67, R0_69, R0_70, R0_71, R0_72]
      refine w_ret ⟨hS3, fun _ => rfl, fun p T h => ?_⟩
      rw [hRd] at h; cases h
    · rw [if_neg c2] at hRd
      obtain ⟨l, hl⟩ : ∃ l, 5 + l4 = l := ⟨_, rfl⟩
      rw [hl] at hRd c2
      have el : (5 : Int) + l4 = l := by omega
      have es := shl_n (a := 1) (k := l) (by omega)
      rw [Nat.one_mul, show ((1 : Nat) : Int) = 1 from rfl] at es
      obtain ⟨N3, hN3⟩ : ∃ N3, sI N2 198 13 (iI l) = N3 := ⟨_, rfl⟩
      have hS4 : Sq WM M N3 := by
        rw [← hN3]
        refine hS3.sI ?_
        unfold WM; omega
      have o7 : mI N3 198 7 = iI ((8 * a + 4 : Nat) : Int) := by rw [← hN3]; simp -implicitDefEqProofs (disch := omega) only [mK_sI, mK_sJ, mK_sR, mK_cpI, mL_sI, mL_sJ, mL_sR, mL_cpI, mI_sI, mI_sJ, mI_sR, mI_cpI, mJ_sI, mJ_sJ, mJ_sR, mJ_cpI, mR_sI, mR_sJ, mR_sR, mR_cpI, eqN_T, eqN_F, if_true, if_false, and_true, true_and, and_false, false_and, or_true, true_or, or_false, false_or, not_true_eq_false, not_false_eq_true, and_self, or_self, tn_c, ne_eq, dite_true, dite_false]; rw [m7]; rfl
      have o8 : mI N3 198 8 = iI ((8 * g : Nat) : Int) := by rw [← hN3]; simp -implicitDefEqProofs (disch := omega) only [mK_sI, mK_sJ, mK_sR, mK_cpI, mL_sI, mL_sJ, mL_sR, mL_cpI, mI_sI, mI_sJ, mI_sR, mI_cpI, mJ_sI, mJ_sJ, mJ_sR, mJ_cpI, mR_sI, mR_sJ, mR_sR, mR_cpI, eqN_T, eqN_F, if_true, if_false, and_true, true_and, and_false, false_and, or_true, true_or, or_false, false_or, not_true_eq_false, not_false_eq_true, and_self, or_self, tn_c, ne_eq, dite_true, dite_false]; exact (hS2.I 198 8 (by omega)).trans n8
      have o9 : mI N3 198 9 = iI 0 := by rw [← hN3]; simp -implicitDefEqProofs (disch := omega) only [mK_sI, mK_sJ, mK_sR, mK_cpI, mL_sI, mL_sJ, mL_sR, mL_cpI, mI_sI, mI_sJ, mI_sR, mI_cpI, mJ_sI, mJ_sJ, mJ_sR, mJ_cpI, mR_sI, mR_sJ, mR_sR, mR_cpI, eqN_T, eqN_F, if_true, if_false, and_true, true_and, and_false, false_and, or_true, true_or, or_false, false_or, not_true_eq_false, not_false_eq_true, and_self, or_self, tn_c, ne_eq, dite_true, dite_false]; exact m9
      have o13 : mI N3 198 13 = iI l := by rw [← hN3]; simp -implicitDefEqProofs (disch := omega) only [mK_sI, mK_sJ, mK_sR, mK_cpI, mL_sI, mL_sJ, mL_sR, mL_cpI, mI_sI, mI_sJ, mI_sR, mI_cpI, mJ_sI, mJ_sJ, mJ_sR, mJ_cpI, mR_sI, mR_sJ, mR_sR, mR_cpI, eqN_T, eqN_F, if_true, if_false, and_true, true_and, and_false, false_and, or_true, true_or, or_false, false_or, not_true_eq_false, not_false_eq_true, and_self, or_self, tn_c, ne_eq, dite_true, dite_false]
      have oc : ∀ i, i < 256 → mI N3 201 i = iI 0 := fun i hi => by rw [← hN3]; simp -implicitDefEqProofs (disch := omega) only [mK_sI, mK_sJ, mK_sR, mK_cpI, mL_sI, mL_sJ, mL_sR, mL_cpI, mI_sI, mI_sJ, mI_sR, mI_cpI, mJ_sI, mJ_sJ, mJ_sR, mJ_cpI, mR_sI, mR_sJ, mR_sR, mR_cpI, eqN_T, eqN_F, if_true, if_false, and_true, true_and, and_false, false_and, or_true, true_or, or_false, false_or, not_true_eq_false, not_false_eq_true, and_self, or_self, tn_c, ne_eq, dite_true, dite_false]; exact (hS2.I 201 i (by omega)).trans (nc i hi)
      obtain ⟨v, N4, e3, hS5, hA, hB⟩ := mtoldL_ok (M := N3) (gr := gr) (l := l) (p0 := 8 * a + 4) (hT.q hS4) o8 (hb.sm hS4.sm (by unfold WM; omega)) hu (by omega) hgr (by omega) (by omega) ⟨Sq.rf, o7, o9, oc⟩
      simp -implicitDefEqProofs (disch := omega) only [fX13_toldCounts, fX13_toldCounts_L48, qk0, e1, qk1, hN0, qk, e2, mk, m9, el, es, hN3, bo_s, bd_s, bn_s, gI_s, gJ_s, gR_s, pI_s, pZ_s, pJ_s, pR_s, chk_s, chN_s, chN_n, aL_s, aI_c, aJ_c, aR_c, wI_c, wB_c, wS_c, wZ_c, wJ_c, wR_c, mK_sI, mK_sJ, mK_sR, mK_cpI, mL_sI, mL_sJ, mL_sR, mL_cpI, mI_sI, mI_sJ, mI_sR, mI_cpI, mJ_sI, mJ_sJ, mJ_sR, mJ_cpI, mR_sI, mR_sJ, mR_sR, mR_cpI, i2b_i2b, i2b_sb, iI_lit, iI_add, iI_sub, iI_mul, iI_neg, iI_lt, iI_le, iI_eq, iI_J, lt_T, lt_F, le_T, le_F, eq_T, eq_F, eqN_T, eqN_F, leN_T, leN_F, ltN_T, ltN_F, if_true, if_false, and_true, true_and, and_false, false_and, or_true, true_or, or_false, false_or, not_true_eq_false, not_false_eq_true, and_self, or_self, tn_c, ne_eq, dite_true, dite_false, K0_198, K0_199, L0_199, K0_200, L0_200, K0_201, L0_201, K0_202, L0_202, K0_203, L0_203, K0_204, L0_204, K0_205, L0_205, K0_206, L0_206, K0_207, L0_207, K0_208, L0_208, K0_209, L0_209, K0_210, L0_210, K0_211, L0_211, K0_212, L0_212, K0_213, L0_213, K0_214, L0_214, K0_215, L0_215, K0_216, L0_216, K0_217, L0_217, K0_218, L0_218, K0_219, L0_219, K0_220, L0_220, K0_221, L0_221, K0_222, L0_222, K0_223, L0_223, K0_224, L0_224, K0_225, L0_225, K0_226, L0_226, K0_227, L0_227, K0_228, L0_228, K0_229, L0_229, K0_230, L0_230, K0_231, L0_231, K0_232, L0_232, K0_233, L0_233, K0_234, L0_234, K0_235, L0_235, K0_236, L0_236, K0_237, L0_237, K0_238, L0_238, K0_239, L0_239, K0_240, L0_240, R0_0, R0_2, R0_6, R0_12, R0_14, R0_15, R0_16, R0_17, R0_18, R0_19, R0_20, R0_21, R0_22, R0_23, R0_24, R0_25, R0_30, R0_31, R0_32, R0_34, R0_36, R0_43, R0_44, R0_45, R0_47, R0_48, R0_49, R0_50, R0_53, R0_55, R0_57, R0_59, R0_60, R0_62, R0_63, R0_64, R0_65, R0_66, R0_67, R0_69, R0_70, R0_71, R0_72]
      have hS6 : Sq WM M N4 := hS4.tr (hS5.weak (by unfold WL WM; omega))
      cases hR : rdL u (8 * g) gr 300 (2 ^ l) 0 (8 * a + 4) (fun _ => 0) with
      | none =>
        rw [hR] at hRd hA
        exact ⟨v, N4, e3, hS6, fun _ => hA rfl, fun p T h => by rw [hRd] at h; cases h⟩
      | some x =>
        obtain ⟨p1, s1, c1⟩ := x
        have hp5 := pow_r (l := l) (by omega) (by omega)
        obtain ⟨a1, a2, a3, a4, a5, a6⟩ := rdL_co (R := 2 ^ l) hR (by show 0 + 0 + _ = _; omega) (by omega) (fun _ _ => rfl) (fun _ => by omega) (by omega) (by omega)
        have hs1 : 0 < s1 := by
          by_cases q : s1 = 0
          · rw [q] at a1
            have : cum c1 0 + neg c1 0 = 0 := rfl
            omega
          · omega
        rw [hR] at hRd hB
        obtain ⟨b1, b2, b3, b4, b5⟩ := hB _ _ _ rfl
        refine ⟨v, N4, e3, hS6, fun h => (by rw [hRd] at h; cases h), fun p T h => ?_⟩
        rw [hRd] at h
        cases h
        refine ⟨?_, s1, c1, rfl, ⟨by show 5 ≤ l; omega, by show l ≤ 9; omega, hs1, by omega, a1, a3, a2⟩, (hS5.I 198 13 (by unfold WL; omega)).trans o13, b5⟩
        rw [b1]; rfl
end MTOLD
