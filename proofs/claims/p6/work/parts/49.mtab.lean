/-! the reference's table -/
theorem i2s_iI (a : Int) : i2s (iI a) = iI (Int.bmod a 65536) := by
  unfold i2s
  rw [iI, iI]
  apply Int32.toInt_inj.mp
  rw [Int16.toInt_toInt32, Int32.toInt_ofInt_of_le (by have := Int.le_bmod (x := a) (m := 65536) (by omega); omega) (by have := Int.bmod_lt (x := a) (m := 65536) (by omega); omega), Int32.toInt_toInt16, Int32.toInt_ofInt]
  exact Int.bmod_bmod_of_dvd (by decide)
theorem i2s_n {a : Int} (h : -32768 ≤ a ∧ a < 32768) : i2s (iI a) = iI a := by
  rw [i2s_iI]
  refine congrArg iI ?_
  rw [Int.bmod_def]
  split <;> omega
theorem i2b_n {a : Int} (h : -128 ≤ a ∧ a < 128) : i2b (iI a) = iI a := by
  rw [i2b_iI]
  refine congrArg iI ?_
  rw [Int.bmod_def]
  split <;> omega
theorem shr_1 {a : Int} (ha : -2147483648 ≤ a ∧ a < 2147483648) : shrI (iI a) (iI 1) = iI (a / 2) := shr_i (by omega) ha
theorem cum_ge {c : Nat → Int} {S : Nat} (h : ∀ i, S ≤ i → c i = 0) : ∀ d, cum c (S + d) = cum c S := by
  intro d
  induction d with
  | zero => rfl
  | succ d ih =>
    show cum c (S + d) + (c (S + d)).toNat = _
    rw [ih, h (S + d) (by omega)]
    rfl
theorem neg_ge {c : Nat → Int} {S : Nat} (h : ∀ i, S ≤ i → c i = 0) : ∀ d, neg c (S + d) = neg c S := by
  intro d
  induction d with
  | zero => rfl
  | succ d ih =>
    show neg c (S + d) + (if c (S + d) = -1 then 1 else 0) = _
    rw [ih, h (S + d) (by omega)]
    rfl
theorem c_le2 {l S : Nat} {c : Nat → Int} (h : CO l S c) (s : Nat) : -1 ≤ c s ∧ c s ≤ 512 ∧ (cum c (s + 1) : Int) = cum c s + max 0 (c s) ∧ (c s ≠ 0 → s < S) := by
  have e3 : cum c (s + 1) = cum c s + (c s).toNat := rfl
  have e4 := h.2.2.2.2.2.1 s
  by_cases q : s < S
  · have := c_le h q
    omega
  · have := h.2.2.2.2.2.2 s (by omega)
    omega
abbrev MTV (M : Mem) (k l : Nat) (f g h : Nat → Nat) : Prop := mI M 205 k = iI l ∧ mI M 206 k = iI 1 ∧ ∀ q, q < 2 ^ l → mI M 202 (512 * k + q) = iI (f q) ∧ mI M 203 (512 * k + q) = iI (g q) ∧ mI M 204 (512 * k + q) = iI (h q)
def TC (k a j : Nat) : Prop := (a = 205 ∧ j = k) ∨ (a = 206 ∧ j = k) ∨ ((a = 202 ∨ a = 203 ∨ a = 204) ∧ 512 * k ≤ j ∧ j < 512 * k + 512) ∨ a = 207
theorem mt3_ok {M : Mem} {k l S n : Nat} {c : Nat → Int} (hT : RSt M) (hC : CO l S c) (hk : k < 10) (hn : 2 ^ l = n) (h0 : mI M 205 k = iI l) (h1 : mI M 206 k = iI 1) (hx : ∀ i, i < 256 → mI M 207 i = iI ((c i).natAbs : Nat)) (hs : ∀ q, q < n → mI M 202 (512 * k + q) = iI (sy l S c q)) :
    Wp (fX13_table_L188 (some 198) (iI l) (iI n) (iI (512 * (k : Int))) (iI 0) M) fun _ N => Sq (TC k) M N ∧ MTV N k l (sy l S c) (bb l S c) (ba l S c) := by
  have hr := pow_r hC.1 hC.2.1
  rw [hn] at hr
  have hS2 := hC.2.2.2.1
  have hl := hC.2.1
  unfold fX13_table_L188
  refine w_lpF (fun d x M' => ∃ i : Nat, i + d = n ∧ Sq (fun a j => ((a = 203 ∨ a = 204) ∧ 512 * k ≤ j ∧ j < 512 * k + 512) ∨ a = 207) M M' ∧ (∀ s, s < S → mI M' 207 s = iI (((c s).natAbs + oc l S c s i : Nat) : Int)) ∧ (∀ q, q < i → mI M' 203 (512 * k + q) = iI (bb l S c q) ∧ mI M' 204 (512 * k + q) = iI (ba l S c q)) ∧ x = (some 198, iI l, iI n, iI (512 * (k : Int)), iI i)) n (by omega) ⟨0, by omega, Sq.rf, fun s h => hx s (by omega), fun q hq => by omega, rfl⟩ ?_
  rintro g d x M' ⟨i, hd, hS, h3, hf, rfl⟩ ih
  have hq := hT.q hS
  have qk := hq.k
  have ql := hq.l
  have qr := hq.r
  by_cases q : d = 0
  · obtain rfl : i = n := by omega
    simp -implicitDefEqProofs (disch := (first | decide | omega)) only [fX13_table_B188, bo_s, bd_s, bn_s, gI_s, gJ_s, gR_s, pI_s, pZ_s, pJ_s, pR_s, chk_s, chN_s, chN_n, aL_s, aI_c, aJ_c, aR_c, wI_c, wB_c, wS_c, wZ_c, wJ_c, wR_c, mK_sI, mK_sJ, mK_sR, mK_cpI, mL_sI, mL_sJ, mL_sR, mL_cpI, mI_sI, mI_sJ, mI_sR, mI_cpI, mJ_sI, mJ_sJ, mJ_sR, mJ_cpI, mR_sI, mR_sJ, mR_sR, mR_cpI, i2b_i2b, i2b_sb, iI_lit, iI_add, iI_sub, iI_mul, iI_neg, iI_lt, iI_le, iI_eq, iI_J, lt_T, lt_F, le_T, le_F, eq_T, eq_F, eqN_T, eqN_F, leN_T, leN_F, ltN_T, ltN_F, if_true, if_false, and_true, true_and, and_false, false_and, or_true, true_or, or_false, false_or, not_true_eq_false, not_false_eq_true, and_self, or_self, tn_c, ne_eq, dite_true, dite_false, K0_198, K0_199, L0_199, K0_200, L0_200, K0_201, L0_201, K0_202, L0_202, K0_203, L0_203, K0_204, L0_204, K0_205, L0_205, K0_206, L0_206, K0_207, L0_207, K0_208, L0_208, K0_209, L0_209, K0_210, L0_210, K0_211, L0_211, K0_212, L0_212, K0_213, L0_213, K0_214, L0_214, K0_215, L0_215, K0_216, L0_216, K0_217, L0_217, K0_218, L0_218, K0_219, L0_219, K0_220, L0_220, K0_221, L0_221, K0_222, L0_222, K0_223, L0_223, K0_224, L0_224, K0_225, L0_225, K0_226, L0_226, K0_227, L0_227, K0_228, L0_228, K0_229, L0_229, K0_230, L0_230, K0_231, L0_231, K0_232, L0_232, K0_233, L0_233, K0_234, L0_234, K0_235, L0_235, K0_236, L0_236, K0_237, L0_237, K0_238, L0_238, K0_239, L0_239, K0_240, L0_240, R0_0, R0_2, R0_6, R0_12, R0_14, R0_15, R0_16, R0_17, R0_18, R0_19, R0_20, R0_21, R0_22, R0_23, R0_24, R0_25, R0_30, R0_31, R0_32, R0_34, R0_36, R0_43, R0_44, R0_45, R0_47, R0_48, R0_49, R0_50, R0_53, R0_55, R0_57, R0_59, R0_60, R0_62, R0_63, R0_64, R0_65, R0_66, R0_67, R0_69, R0_70, R0_71, R0_72]
    exact w_ret ⟨hS.weak (by unfold TC; omega), (hS.I 205 k (by omega)).trans h0, (hS.I 206 k (by omega)).trans h1, fun q hq => ⟨(hS.I 202 _ (by omega)).trans (hs q (by omega)), (hf q (by omega)).1, (hf q (by omega)).2⟩⟩
  · have hy := sy_lt (l := l) (c := c) (q := i) hC.2.2.1
    have ei : (512 * (k : Int) + i).toNat = 512 * k + i := by omega
    have e1 : mI M' 202 (512 * k + i) = iI (sy l S c i) := (hS.I 202 _ (by omega)).trans (hs i (by omega))
    have e3 := h3 _ hy
    obtain ⟨b1, b2, b3, b4, b5⟩ := bb_sp hC (k := i) (by omega)
    rw [Nat.add_mul, Nat.one_mul] at b2
    have hp := two_pos (bb l S c i)
    have e4 : (c (sy l S c i)).natAbs + oc l S c (sy l S c i) i = xx l S c i := rfl
    rw [e4] at e3
    have e5 := log_ok (M := sI M' 207 (sy l S c i) (iI ((xx l S c i : Int) + 1))) (xx l S c i) (by omega)
    have e6 : (l : Int) - Nat.log2 (xx l S c i) = bb l S c i := by unfold bb; omega
    have hb : bb l S c i ≤ 9 := by unfold bb; omega
    have e7 := shl_n (a := xx l S c i) (k := bb l S c i) (by omega)
    have e8 : ((xx l S c i * 2 ^ bb l S c i : Nat) : Int) - n = ba l S c i := by unfold ba; omega
    simp -implicitDefEqProofs (disch := (first | decide | omega)) only [fX13_table_B188, qk, ql, qr, ei, e1, e3, e5, e6, i2b_n, e7, e8, bo_s, bd_s, bn_s, gI_s, gJ_s, gR_s, pI_s, pZ_s, pJ_s, pR_s, chk_s, chN_s, chN_n, aL_s, aI_c, aJ_c, aR_c, wI_c, wB_c, wS_c, wZ_c, wJ_c, wR_c, mK_sI, mK_sJ, mK_sR, mK_cpI, mL_sI, mL_sJ, mL_sR, mL_cpI, mI_sI, mI_sJ, mI_sR, mI_cpI, mJ_sI, mJ_sJ, mJ_sR, mJ_cpI, mR_sI, mR_sJ, mR_sR, mR_cpI, i2b_i2b, i2b_sb, iI_lit, iI_add, iI_sub, iI_mul, iI_neg, iI_lt, iI_le, iI_eq, iI_J, lt_T, lt_F, le_T, le_F, eq_T, eq_F, eqN_T, eqN_F, leN_T, leN_F, ltN_T, ltN_F, if_true, if_false, and_true, true_and, and_false, false_and, or_true, true_or, or_false, false_or, not_true_eq_false, not_false_eq_true, and_self, or_self, tn_c, ne_eq, dite_true, dite_false, K0_198, K0_199, L0_199, K0_200, L0_200, K0_201, L0_201, K0_202, L0_202, K0_203, L0_203, K0_204, L0_204, K0_205, L0_205, K0_206, L0_206, K0_207, L0_207, K0_208, L0_208, K0_209, L0_209, K0_210, L0_210, K0_211, L0_211, K0_212, L0_212, K0_213, L0_213, K0_214, L0_214, K0_215, L0_215, K0_216, L0_216, K0_217, L0_217, K0_218, L0_218, K0_219, L0_219, K0_220, L0_220, K0_221, L0_221, K0_222, L0_222, K0_223, L0_223, K0_224, L0_224, K0_225, L0_225, K0_226, L0_226, K0_227, L0_227, K0_228, L0_228, K0_229, L0_229, K0_230, L0_230, K0_231, L0_231, K0_232, L0_232, K0_233, L0_233, K0_234, L0_234, K0_235, L0_235, K0_236, L0_236, K0_237, L0_237, K0_238, L0_238, K0_239, L0_239, K0_240, L0_240, R0_0, R0_2, R0_6, R0_12, R0_14, R0_15, R0_16, R0_17, R0_18, R0_19, R0_20, R0_21, R0_22, R0_23, R0_24, R0_25, R0_30, R0_31, R0_32, R0_34, R0_36, R0_43, R0_44, R0_45, R0_47, R0_48, R0_49, R0_50, R0_53, R0_55, R0_57, R0_59, R0_60, R0_62, R0_63, R0_64, R0_65, R0_66, R0_67, R0_69, R0_70, R0_71, R0_72]
    refine ih (d - 1) _ _ (by omega) ⟨i + 1, by omega, ?_, ?_, ?_, rfl⟩
    · (repeat' first | assumption | exact Sq.rf | refine Sq.sI ?_ (by first | omega | rfl) | refine Sq.sJ ?_ (by first | omega | rfl))
    · intro s hs
      rw [oc_s]
      by_cases ei : s = sy l S c i
      · simp -implicitDefEqProofs (disch := (first | decide | omega)) only [mK_sI, mK_sJ, mK_sR, mK_cpI, mL_sI, mL_sJ, mL_sR, mL_cpI, mI_sI, mI_sJ, mI_sR, mI_cpI, mJ_sI, mJ_sJ, mJ_sR, mJ_cpI, mR_sI, mR_sJ, mR_sR, mR_cpI, eqN_T, eqN_F, if_true, if_false, and_true, true_and, and_false, false_and, or_true, true_or, or_false, false_or, not_true_eq_false, not_false_eq_true, and_self, or_self, tn_c, ne_eq, dite_true, dite_false]
        rw [ei, ← Nat.add_assoc, e4]
        rfl
      · simp -implicitDefEqProofs (disch := (first | decide | omega)) only [mK_sI, mK_sJ, mK_sR, mK_cpI, mL_sI, mL_sJ, mL_sR, mL_cpI, mI_sI, mI_sJ, mI_sR, mI_cpI, mJ_sI, mJ_sJ, mJ_sR, mJ_cpI, mR_sI, mR_sJ, mR_sR, mR_cpI, eqN_T, eqN_F, if_true, if_false, and_true, true_and, and_false, false_and, or_true, true_or, or_false, false_or, not_true_eq_false, not_false_eq_true, and_self, or_self, tn_c, ne_eq, dite_true, dite_false]
        exact h3 s hs
    · intro q hq1
      by_cases eq : q = i
      · subst eq
        constructor <;> simp -implicitDefEqProofs (disch := (first | decide | omega)) only [mK_sI, mK_sJ, mK_sR, mK_cpI, mL_sI, mL_sJ, mL_sR, mL_cpI, mI_sI, mI_sJ, mI_sR, mI_cpI, mJ_sI, mJ_sJ, mJ_sR, mJ_cpI, mR_sI, mR_sJ, mR_sR, mR_cpI, eqN_T, eqN_F, if_true, if_false, and_true, true_and, and_false, false_and, or_true, true_or, or_false, false_or, not_true_eq_false, not_false_eq_true, and_self, or_self, tn_c, ne_eq, dite_true, dite_false]
      · constructor <;> simp -implicitDefEqProofs (disch := (first | decide | omega)) only [mK_sI, mK_sJ, mK_sR, mK_cpI, mL_sI, mL_sJ, mL_sR, mL_cpI, mI_sI, mI_sJ, mI_sR, mI_cpI, mJ_sI, mJ_sJ, mJ_sR, mJ_cpI, mR_sI, mR_sJ, mR_sR, mR_cpI, eqN_T, eqN_F, if_true, if_false, and_true, true_and, and_false, false_and, or_true, true_or, or_false, false_or, not_true_eq_false, not_false_eq_true, and_self, or_self, tn_c, ne_eq, dite_true, dite_false]
        · exact (hf q (by omega)).1
        · exact (hf q (by omega)).2
theorem mt2_ok {M : Mem} {k l S n : Nat} {c : Nat → Int} (hT : RSt M) (hC : CO l S c) (hk : k < 10) (hn : 2 ^ l = n) (hc : ∀ i, i < 256 → mI M 201 i = iI (c i)) (h0 : mI M 205 k = iI l) (h1 : mI M 206 k = iI 1) (hx : ∀ i, i < 256 → mI M 207 i = iI ((c i).natAbs : Nat)) (hs : ∀ q, cum c S ≤ q → q < n → mI M 202 (512 * k + q) = iI (sy l S c q)) :
    Wp (fX13_table_L112 (some 198) (iI l) (iI n) (iI (512 * (k : Int))) (iI (cum c S)) (iI 0) (iI 0) M) fun _ N => Sq (TC k) M N ∧ MTV N k l (sy l S c) (bb l S c) (ba l S c) := by
  have hr := pow_r hC.1 hC.2.1
  have hS1 := hC.2.2.1
  have hS2 := hC.2.2.2.1
  have hE := hC.2.2.2.2.1
  rw [hn] at hr hE
  have hst : (st l : Int) = (n : Int) / 2 + n / 8 + 3 := by unfold st; rw [hn]; omega
  have cg := cum_ge hC.2.2.2.2.2.2
  unfold fX13_table_L112
  refine w_lpF (fun d x M' => ∃ s j, s + d = 256 ∧ Sq (fun a i => a = 202 ∧ 512 * k ≤ i ∧ i < 512 * k + cum c S) M M' ∧ SP l S c 202 (512 * k) M' (cum c s) j ∧ (cum c s < cum c S → orb l j < cum c S) ∧ x = (some 198, iI l, iI n, iI (512 * (k : Int)), iI (cum c S), iI (orb l j), iI s)) 256 (by omega) ⟨0, 0, by omega, Sq.rf, ⟨rk_0 _ _, by omega, fun q _ h => by omega⟩, fun h => by rw [orb_0]; exact Nat.lt_of_le_of_lt (Nat.zero_le _) h, by rw [orb_0]; rfl⟩ ?_
  rintro g d x M' ⟨s, j, hd, hS, hP, ho, rfl⟩ ih
  by_cases q : d = 0
  · obtain rfl : s = 256 := by omega
    have e1 := cg (256 - S)
    rw [show S + (256 - S) = 256 by omega] at e1
    rw [e1] at hP
    show Wp (fX13_table_B112 g (some 198) (iI l) (iI n) (iI (512 * (k : Int))) (iI (cum c S)) (iI (orb l j)) (iI 256) M') _
    rw [fX13_table_B112, iI_lit, if_pos (by rw [iI_le (by omega) (by omega)]; omega), bn, iI_0]
    refine w_mono (mt3_ok (hT.q hS) hC hk hn ((hS.I 205 k (by omega)).trans h0) ((hS.I 206 k (by omega)).trans h1) (fun i hi => (hS.I 207 i (by omega)).trans (hx i hi)) fun q hq => ?_) fun v O h => ⟨(hS.weak (by unfold TC; omega)).tr h.1, h.2⟩
    by_cases c1 : q < cum c S
    · exact hP.all c1
    · exact (hS.I 202 _ (by omega)).trans (hs q (by omega) hq)
  · have cl := c_le2 hC s
    simp -implicitDefEqProofs (disch := (first | decide | omega)) only [fX13_table_B112, fX13_table_L123, bo_s, bd_s, bn_s, gI_s, gJ_s, gR_s, pI_s, pZ_s, pJ_s, pR_s, chk_s, chN_s, chN_n, aL_s, aI_c, aJ_c, aR_c, wI_c, wB_c, wS_c, wZ_c, wJ_c, wR_c, mK_sI, mK_sJ, mK_sR, mK_cpI, mL_sI, mL_sJ, mL_sR, mL_cpI, mI_sI, mI_sJ, mI_sR, mI_cpI, mJ_sI, mJ_sJ, mJ_sR, mJ_cpI, mR_sI, mR_sJ, mR_sR, mR_cpI, i2b_i2b, i2b_sb, iI_lit, iI_add, iI_sub, iI_mul, iI_neg, iI_lt, iI_le, iI_eq, iI_J, lt_T, lt_F, le_T, le_F, eq_T, eq_F, eqN_T, eqN_F, leN_T, leN_F, ltN_T, ltN_F, if_true, if_false, and_true, true_and, and_false, false_and, or_true, true_or, or_false, false_or, not_true_eq_false, not_false_eq_true, and_self, or_self, tn_c, ne_eq, dite_true, dite_false, K0_198, K0_199, L0_199, K0_200, L0_200, K0_201, L0_201, K0_202, L0_202, K0_203, L0_203, K0_204, L0_204, K0_205, L0_205, K0_206, L0_206, K0_207, L0_207, K0_208, L0_208, K0_209, L0_209, K0_210, L0_210, K0_211, L0_211, K0_212, L0_212, K0_213, L0_213, K0_214, L0_214, K0_215, L0_215, K0_216, L0_216, K0_217, L0_217, K0_218, L0_218, K0_219, L0_219, K0_220, L0_220, K0_221, L0_221, K0_222, L0_222, K0_223, L0_223, K0_224, L0_224, K0_225, L0_225, K0_226, L0_226, K0_227, L0_227, K0_228, L0_228, K0_229, L0_229, K0_230, L0_230, K0_231, L0_231, K0_232, L0_232, K0_233, L0_233, K0_234, L0_234, K0_235, L0_235, K0_236, L0_236, K0_237, L0_237, K0_238, L0_238, K0_239, L0_239, K0_240, L0_240, R0_0, R0_2, R0_6, R0_12, R0_14, R0_15, R0_16, R0_17, R0_18, R0_19, R0_20, R0_21, R0_22, R0_23, R0_24, R0_25, R0_30, R0_31, R0_32, R0_34, R0_36, R0_43, R0_44, R0_45, R0_47, R0_48, R0_49, R0_50, R0_53, R0_55, R0_57, R0_59, R0_60, R0_62, R0_63, R0_64, R0_65, R0_66, R0_67, R0_69, R0_70, R0_71, R0_72]
    refine w_lpF (fun e x M' => ∃ i j : Nat, (i : Int) + e = max 0 (c s) ∧ Sq (fun a i => a = 202 ∧ 512 * k ≤ i ∧ i < 512 * k + cum c S) M M' ∧ SP l S c 202 (512 * k) M' (cum c s + i) j ∧ (cum c s + i < cum c S → orb l j < cum c S) ∧ x = (some 198, iI l, iI n, iI (512 * (k : Int)), iI (cum c S), iI (orb l j), iI s, iI i)) (max 0 (c s)).toNat (by omega) ⟨0, j, by omega, hS, hP, ho, rfl⟩ ?_
    rintro g2 e x M2 ⟨i, j, he, hS, hP, ho, rfl⟩ ih2
    have hq := hT.q hS
    have qk := hq.k
    have ql := hq.l
    have qr := hq.r
    have fc := (hS.I 201 s (by omega)).trans (hc s (by omega))
    by_cases q2 : e = 0
    · simp -implicitDefEqProofs (disch := (first | decide | omega)) only [fX13_table_B123, qk, ql, qr, fc, bo_s, bd_s, bn_s, gI_s, gJ_s, gR_s, pI_s, pZ_s, pJ_s, pR_s, chk_s, chN_s, chN_n, aL_s, aI_c, aJ_c, aR_c, wI_c, wB_c, wS_c, wZ_c, wJ_c, wR_c, mK_sI, mK_sJ, mK_sR, mK_cpI, mL_sI, mL_sJ, mL_sR, mL_cpI, mI_sI, mI_sJ, mI_sR, mI_cpI, mJ_sI, mJ_sJ, mJ_sR, mJ_cpI, mR_sI, mR_sJ, mR_sR, mR_cpI, i2b_i2b, i2b_sb, iI_lit, iI_add, iI_sub, iI_mul, iI_neg, iI_lt, iI_le, iI_eq, iI_J, lt_T, lt_F, le_T, le_F, eq_T, eq_F, eqN_T, eqN_F, leN_T, leN_F, ltN_T, ltN_F, if_true, if_false, and_true, true_and, and_false, false_and, or_true, true_or, or_false, false_or, not_true_eq_false, not_false_eq_true, and_self, or_self, tn_c, ne_eq, dite_true, dite_false, K0_198, K0_199, L0_199, K0_200, L0_200, K0_201, L0_201, K0_202, L0_202, K0_203, L0_203, K0_204, L0_204, K0_205, L0_205, K0_206, L0_206, K0_207, L0_207, K0_208, L0_208, K0_209, L0_209, K0_210, L0_210, K0_211, L0_211, K0_212, L0_212, K0_213, L0_213, K0_214, L0_214, K0_215, L0_215, K0_216, L0_216, K0_217, L0_217, K0_218, L0_218, K0_219, L0_219, K0_220, L0_220, K0_221, L0_221, K0_222, L0_222, K0_223, L0_223, K0_224, L0_224, K0_225, L0_225, K0_226, L0_226, K0_227, L0_227, K0_228, L0_228, K0_229, L0_229, K0_230, L0_230, K0_231, L0_231, K0_232, L0_232, K0_233, L0_233, K0_234, L0_234, K0_235, L0_235, K0_236, L0_236, K0_237, L0_237, K0_238, L0_238, K0_239, L0_239, K0_240, L0_240, R0_0, R0_2, R0_6, R0_12, R0_14, R0_15, R0_16, R0_17, R0_18, R0_19, R0_20, R0_21, R0_22, R0_23, R0_24, R0_25, R0_30, R0_31, R0_32, R0_34, R0_36, R0_43, R0_44, R0_45, R0_47, R0_48, R0_49, R0_50, R0_53, R0_55, R0_57, R0_59, R0_60, R0_62, R0_63, R0_64, R0_65, R0_66, R0_67, R0_69, R0_70, R0_71, R0_72]
      exact ih (d - 1) _ _ (by omega) ⟨s + 1, j, by omega, hS, by rw [show cum c (s + 1) = cum c s + i by omega]; exact hP, fun h => ho (by omega), rfl⟩
    · have hsS := cl.2.2.2 (by omega)
      have cm := cum_m c (show s + 1 ≤ S by omega)
      have ho2 := ho (by omega)
      have hP2 := hP.w hC ho2 (s := s) (by omega) (by omega) (by omega)
      have ei : (512 * (k : Int) + orb l j).toNat = 512 * k + orb l j := by omega
      simp -implicitDefEqProofs (disch := (first | decide | omega)) only [fX13_table_B123, fX13_table_L148, qk, ql, qr, fc, ei, i2s_n, bo_s, bd_s, bn_s, gI_s, gJ_s, gR_s, pI_s, pZ_s, pJ_s, pR_s, chk_s, chN_s, chN_n, aL_s, aI_c, aJ_c, aR_c, wI_c, wB_c, wS_c, wZ_c, wJ_c, wR_c, mK_sI, mK_sJ, mK_sR, mK_cpI, mL_sI, mL_sJ, mL_sR, mL_cpI, mI_sI, mI_sJ, mI_sR, mI_cpI, mJ_sI, mJ_sJ, mJ_sR, mJ_cpI, mR_sI, mR_sJ, mR_sR, mR_cpI, i2b_i2b, i2b_sb, iI_lit, iI_add, iI_sub, iI_mul, iI_neg, iI_lt, iI_le, iI_eq, iI_J, lt_T, lt_F, le_T, le_F, eq_T, eq_F, eqN_T, eqN_F, leN_T, leN_F, ltN_T, ltN_F, if_true, if_false, and_true, true_and, and_false, false_and, or_true, true_or, or_false, false_or, not_true_eq_false, not_false_eq_true, and_self, or_self, tn_c, ne_eq, dite_true, dite_false, K0_198, K0_199, L0_199, K0_200, L0_200, K0_201, L0_201, K0_202, L0_202, K0_203, L0_203, K0_204, L0_204, K0_205, L0_205, K0_206, L0_206, K0_207, L0_207, K0_208, L0_208, K0_209, L0_209, K0_210, L0_210, K0_211, L0_211, K0_212, L0_212, K0_213, L0_213, K0_214, L0_214, K0_215, L0_215, K0_216, L0_216, K0_217, L0_217, K0_218, L0_218, K0_219, L0_219, K0_220, L0_220, K0_221, L0_221, K0_222, L0_222, K0_223, L0_223, K0_224, L0_224, K0_225, L0_225, K0_226, L0_226, K0_227, L0_227, K0_228, L0_228, K0_229, L0_229, K0_230, L0_230, K0_231, L0_231, K0_232, L0_232, K0_233, L0_233, K0_234, L0_234, K0_235, L0_235, K0_236, L0_236, K0_237, L0_237, K0_238, L0_238, K0_239, L0_239, K0_240, L0_240, R0_0, R0_2, R0_6, R0_12, R0_14, R0_15, R0_16, R0_17, R0_18, R0_19, R0_20, R0_21, R0_22, R0_23, R0_24, R0_25, R0_30, R0_31, R0_32, R0_34, R0_36, R0_43, R0_44, R0_45, R0_47, R0_48, R0_49, R0_50, R0_53, R0_55, R0_57, R0_59, R0_60, R0_62, R0_63, R0_64, R0_65, R0_66, R0_67, R0_69, R0_70, R0_71, R0_72]
      have hS3 : Sq (fun a i => a = 202 ∧ 512 * k ≤ i ∧ i < 512 * k + cum c S) M (sI M2 202 (512 * k + orb l j) (iI s)) := hS.sI ⟨rfl, by omega, by omega⟩
      refine w_lpF (fun r x M' => ∃ v : Nat, j + 1 + v + r = n ∧ M' = sI M2 202 (512 * k + orb l j) (iI s) ∧ SP l S c 202 (512 * k) M' (cum c s + i + 1) (j + 1 + v) ∧ x = (some 198, iI l, iI n, iI (512 * (k : Int)), iI (cum c S), iI (orb l (j + v)), iI s, iI i)) (n - (j + 1)) (by omega) ⟨0, by have := hP2.2.1; omega, rfl, hP2, rfl⟩ ?_
      rintro g3 r x M3 ⟨v, hv, rfl, hP3, rfl⟩ ih3
      have ol := orb_lt l (j + v)
      have ol2 := orb_lt l (j + 1 + v)
      have e2 := orb_i hn (l := l) (j := j + v) (by omega) (e := (orb l (j + v) : Int) + (n : Int) / 2 + n / 8 + 3) (by omega)
      rw [show j + v + 1 = j + 1 + v by omega] at e2
      by_cases q3 : orb l (j + 1 + v) < cum c S
      · simp -implicitDefEqProofs (disch := (first | decide | omega)) only [fX13_table_B148, shr_1, shr_3, e2, bo_s, bd_s, bn_s, gI_s, gJ_s, gR_s, pI_s, pZ_s, pJ_s, pR_s, chk_s, chN_s, chN_n, aL_s, aI_c, aJ_c, aR_c, wI_c, wB_c, wS_c, wZ_c, wJ_c, wR_c, mK_sI, mK_sJ, mK_sR, mK_cpI, mL_sI, mL_sJ, mL_sR, mL_cpI, mI_sI, mI_sJ, mI_sR, mI_cpI, mJ_sI, mJ_sJ, mJ_sR, mJ_cpI, mR_sI, mR_sJ, mR_sR, mR_cpI, i2b_i2b, i2b_sb, iI_lit, iI_add, iI_sub, iI_mul, iI_neg, iI_lt, iI_le, iI_eq, iI_J, lt_T, lt_F, le_T, le_F, eq_T, eq_F, eqN_T, eqN_F, leN_T, leN_F, ltN_T, ltN_F, if_true, if_false, and_true, true_and, and_false, false_and, or_true, true_or, or_false, false_or, not_true_eq_false, not_false_eq_true, and_self, or_self, tn_c, ne_eq, dite_true, dite_false, K0_198, K0_199, L0_199, K0_200, L0_200, K0_201, L0_201, K0_202, L0_202, K0_203, L0_203, K0_204, L0_204, K0_205, L0_205, K0_206, L0_206, K0_207, L0_207, K0_208, L0_208, K0_209, L0_209, K0_210, L0_210, K0_211, L0_211, K0_212, L0_212, K0_213, L0_213, K0_214, L0_214, K0_215, L0_215, K0_216, L0_216, K0_217, L0_217, K0_218, L0_218, K0_219, L0_219, K0_220, L0_220, K0_221, L0_221, K0_222, L0_222, K0_223, L0_223, K0_224, L0_224, K0_225, L0_225, K0_226, L0_226, K0_227, L0_227, K0_228, L0_228, K0_229, L0_229, K0_230, L0_230, K0_231, L0_231, K0_232, L0_232, K0_233, L0_233, K0_234, L0_234, K0_235, L0_235, K0_236, L0_236, K0_237, L0_237, K0_238, L0_238, K0_239, L0_239, K0_240, L0_240, R0_0, R0_2, R0_6, R0_12, R0_14, R0_15, R0_16, R0_17, R0_18, R0_19, R0_20, R0_21, R0_22, R0_23, R0_24, R0_25, R0_30, R0_31, R0_32, R0_34, R0_36, R0_43, R0_44, R0_45, R0_47, R0_48, R0_49, R0_50, R0_53, R0_55, R0_57, R0_59, R0_60, R0_62, R0_63, R0_64, R0_65, R0_66, R0_67, R0_69, R0_70, R0_71, R0_72]
        exact ih2 (e - 1) _ _ (by omega) ⟨i + 1, j + 1 + v, by omega, hS3, hP3, fun _ => q3, rfl⟩
      · have hP4 := hP3.n hC q3 (by omega)
        simp -implicitDefEqProofs (disch := (first | decide | omega)) only [fX13_table_B148, shr_1, shr_3, e2, bo_s, bd_s, bn_s, gI_s, gJ_s, gR_s, pI_s, pZ_s, pJ_s, pR_s, chk_s, chN_s, chN_n, aL_s, aI_c, aJ_c, aR_c, wI_c, wB_c, wS_c, wZ_c, wJ_c, wR_c, mK_sI, mK_sJ, mK_sR, mK_cpI, mL_sI, mL_sJ, mL_sR, mL_cpI, mI_sI, mI_sJ, mI_sR, mI_cpI, mJ_sI, mJ_sJ, mJ_sR, mJ_cpI, mR_sI, mR_sJ, mR_sR, mR_cpI, i2b_i2b, i2b_sb, iI_lit, iI_add, iI_sub, iI_mul, iI_neg, iI_lt, iI_le, iI_eq, iI_J, lt_T, lt_F, le_T, le_F, eq_T, eq_F, eqN_T, eqN_F, leN_T, leN_F, ltN_T, ltN_F, if_true, if_false, and_true, true_and, and_false, false_and, or_true, true_or, or_false, false_or, not_true_eq_false, not_false_eq_true, and_self, or_self, tn_c, ne_eq, dite_true, dite_false, K0_198, K0_199, L0_199, K0_200, L0_200, K0_201, L0_201, K0_202, L0_202, K0_203, L0_203, K0_204, L0_204, K0_205, L0_205, K0_206, L0_206, K0_207, L0_207, K0_208, L0_208, K0_209, L0_209, K0_210, L0_210, K0_211, L0_211, K0_212, L0_212, K0_213, L0_213, K0_214, L0_214, K0_215, L0_215, K0_216, L0_216, K0_217, L0_217, K0_218, L0_218, K0_219, L0_219, K0_220, L0_220, K0_221, L0_221, K0_222, L0_222, K0_223, L0_223, K0_224, L0_224, K0_225, L0_225, K0_226, L0_226, K0_227, L0_227, K0_228, L0_228, K0_229, L0_229, K0_230, L0_230, K0_231, L0_231, K0_232, L0_232, K0_233, L0_233, K0_234, L0_234, K0_235, L0_235, K0_236, L0_236, K0_237, L0_237, K0_238, L0_238, K0_239, L0_239, K0_240, L0_240, R0_0, R0_2, R0_6, R0_12, R0_14, R0_15, R0_16, R0_17, R0_18, R0_19, R0_20, R0_21, R0_22, R0_23, R0_24, R0_25, R0_30, R0_31, R0_32, R0_34, R0_36, R0_43, R0_44, R0_45, R0_47, R0_48, R0_49, R0_50, R0_53, R0_55, R0_57, R0_59, R0_60, R0_62, R0_63, R0_64, R0_65, R0_66, R0_67, R0_69, R0_70, R0_71, R0_72]
        exact ih3 (r - 1) _ _ (by omega) ⟨v + 1, by omega, rfl, hP4.1, by rw [show j + (v + 1) = j + 1 + v by omega]⟩
