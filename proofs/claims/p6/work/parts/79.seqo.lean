/-! what comes out by a SEQUENCE: the class's pieces -/
section SEQO
variable {M : Mem}
theorem cmp_le {a b : Int} (ha : -9223372036854775808 ≤ a ∧ a < 9223372036854775808) (hb : -9223372036854775808 ≤ b ∧ b < 9223372036854775808) : (lg_cmp (iJ a) (iJ b) ≤ iI 0) = (a ≤ b) := by
  rw [cmp_eq ha hb]
  by_cases h1 : b < a
  · rw [if_pos h1, iI_le (by omega) (by omega)]
    exact propext (by omega)
  · rw [if_neg h1]
    by_cases h2 : a = b
    · rw [if_pos h2, iI_le (by omega) (by omega)]
      exact propext (by omega)
    · rw [if_neg h2, iI_le (by omega) (by omega)]
      exact propext (by omega)
theorem cmp_lt {a b : Int} (ha : -9223372036854775808 ≤ a ∧ a < 9223372036854775808) (hb : -9223372036854775808 ≤ b ∧ b < 9223372036854775808) : (iI 0 < lg_cmp (iJ a) (iJ b)) = (b < a) := by
  have h := cmp_le ha hb
  have e : (iI 0 < lg_cmp (iJ a) (iJ b)) = ¬ (lg_cmp (iJ a) (iJ b) ≤ iI 0) := propext Int32.not_le.symm
  rw [e, h]
  exact propext (by omega)
theorem which_ok {v n : Nat} (hv : v < 10000000000) (hn : n < 1000000000) : fX12_whichOf (iJ v) (iI n) M = some (iI (whK v n : Nat), M) := by
  have e3 : (3 : Int64) = iJ 3 := iJ_lit 3
  have ec := cmp_le (a := (v : Int)) (b := 3) (by omega) (by omega)
  unfold whK
  by_cases c : 3 < v
  · rw [if_pos c]
    simp -implicitDefEqProofs (disch := (first | decide | omega)) only [fX12_whichOf, fX12_whichOf_L24, e3, ec, bo_s, bd_s, bn_s, gI_s, gJ_s, gR_s, pI_s, pZ_s, pJ_s, pR_s, chk_s, chN_s, chN_n, aL_s, aI_c, aJ_c, aR_c, wI_c, wB_c, wS_c, wZ_c, wJ_c, wR_c, mK_sI, mK_sJ, mK_sR, mK_cpI, mL_sI, mL_sJ, mL_sR, mL_cpI, mI_sI, mI_sJ, mI_sR, mI_cpI, mJ_sI, mJ_sJ, mJ_sR, mJ_cpI, mR_sI, mR_sJ, mR_sR, mR_cpI, i2b_i2b, i2b_sb, iI_lit, iI_add, iI_sub, iI_mul, iI_neg, iI_lt, iI_le, iI_eq, iI_J, lt_T, lt_F, le_T, le_F, eq_T, eq_F, eqN_T, eqN_F, leN_T, leN_F, ltN_T, ltN_F, if_true, if_false, and_true, true_and, and_false, false_and, or_true, true_or, or_false, false_or, not_true_eq_false, not_false_eq_true, and_self, or_self, tn_c, ne_eq, dite_true, dite_false]
    rfl
  · rw [if_neg c]
    by_cases c2 : n = 0
    · rw [if_pos c2]
      simp -implicitDefEqProofs (disch := (first | decide | omega)) only [fX12_whichOf, fX12_whichOf_L24, fX12_whichOf_L23, e3, ec, iJ_I, bo_s, bd_s, bn_s, gI_s, gJ_s, gR_s, pI_s, pZ_s, pJ_s, pR_s, chk_s, chN_s, chN_n, aL_s, aI_c, aJ_c, aR_c, wI_c, wB_c, wS_c, wZ_c, wJ_c, wR_c, mK_sI, mK_sJ, mK_sR, mK_cpI, mL_sI, mL_sJ, mL_sR, mL_cpI, mI_sI, mI_sJ, mI_sR, mI_cpI, mJ_sI, mJ_sJ, mJ_sR, mJ_cpI, mR_sI, mR_sJ, mR_sR, mR_cpI, i2b_i2b, i2b_sb, iI_lit, iI_add, iI_sub, iI_mul, iI_neg, iI_lt, iI_le, iI_eq, iI_J, lt_T, lt_F, le_T, le_F, eq_T, eq_F, eqN_T, eqN_F, leN_T, leN_F, ltN_T, ltN_F, if_true, if_false, and_true, true_and, and_false, false_and, or_true, true_or, or_false, false_or, not_true_eq_false, not_false_eq_true, and_self, or_self, tn_c, ne_eq, dite_true, dite_false]
      rfl
    · rw [if_neg c2]
      simp -implicitDefEqProofs (disch := (first | decide | omega)) only [fX12_whichOf, fX12_whichOf_L24, fX12_whichOf_L23, e3, ec, iJ_I, bo_s, bd_s, bn_s, gI_s, gJ_s, gR_s, pI_s, pZ_s, pJ_s, pR_s, chk_s, chN_s, chN_n, aL_s, aI_c, aJ_c, aR_c, wI_c, wB_c, wS_c, wZ_c, wJ_c, wR_c, mK_sI, mK_sJ, mK_sR, mK_cpI, mL_sI, mL_sJ, mL_sR, mL_cpI, mI_sI, mI_sJ, mI_sR, mI_cpI, mJ_sI, mJ_sJ, mJ_sR, mJ_cpI, mR_sI, mR_sJ, mR_sR, mR_cpI, i2b_i2b, i2b_sb, iI_lit, iI_add, iI_sub, iI_mul, iI_neg, iI_lt, iI_le, iI_eq, iI_J, lt_T, lt_F, le_T, le_F, eq_T, eq_F, eqN_T, eqN_F, leN_T, leN_F, ltN_T, ltN_F, if_true, if_false, and_true, true_and, and_false, false_and, or_true, true_or, or_false, false_or, not_true_eq_false, not_false_eq_true, and_self, or_self, tn_c, ne_eq, dite_true, dite_false]
      rfl
theorem wh_r {v n : Nat} (h : 1 ≤ v) : whK v n ≤ 4 ∧ (3 < v → whK v n = 0) ∧ (v ≤ 3 → 1 ≤ whK v n) := by
  unfold whK
  split
  · omega
  · split <;> omega
theorem off_ok {ra v n : Nat} {r : Nat → Nat} (h1 : mK M ra = 15) (h2 : mL M ra = 3) (hr : ∀ i, i < 3 → mI M ra i = iI (r i : Nat) ∧ 1 ≤ r i ∧ r i < 1000000000) (hv : v < 10000000000) (hv1 : 1 ≤ v) (hn : n < 1000000000) : fX12_offsetOf (some ra) (iJ v) (iI n) M = some (iJ (ofK r v n : Nat), M) := by
  have e1 := which_ok (M := M) hv hn
  obtain ⟨w1, w2, w3⟩ := wh_r (n := n) hv1
  have e3 : (3 : Int64) = iJ 3 := iJ_lit 3
  have r0 := hr 0 (by omega)
  have r1 := hr 1 (by omega)
  have r2 := hr 2 (by omega)
  have a0 := r0.1
  have mz : (0 : Int).toNat = 0 := rfl
  unfold ofK
  generalize whK v n = w at *
  by_cases c0 : w = 0
  · rw [if_pos c0]
    subst c0
    rw [show ((0 : Nat) : Int) = 0 from rfl] at e1
    simp -implicitDefEqProofs (disch := (first | decide | omega)) only [fX12_offsetOf, e1, e3, iJ_sub, bo_s, bd_s, bn_s, gI_s, gJ_s, gR_s, pI_s, pZ_s, pJ_s, pR_s, chk_s, chN_s, chN_n, aL_s, aI_c, aJ_c, aR_c, wI_c, wB_c, wS_c, wZ_c, wJ_c, wR_c, mK_sI, mK_sJ, mK_sR, mK_cpI, mL_sI, mL_sJ, mL_sR, mL_cpI, mI_sI, mI_sJ, mI_sR, mI_cpI, mJ_sI, mJ_sJ, mJ_sR, mJ_cpI, mR_sI, mR_sJ, mR_sR, mR_cpI, i2b_i2b, i2b_sb, iI_lit, iI_add, iI_sub, iI_mul, iI_neg, iI_lt, iI_le, iI_eq, iI_J, lt_T, lt_F, le_T, le_F, eq_T, eq_F, eqN_T, eqN_F, leN_T, leN_F, ltN_T, ltN_F, if_true, if_false, and_true, true_and, and_false, false_and, or_true, true_or, or_false, false_or, not_true_eq_false, not_false_eq_true, and_self, or_self, tn_c, ne_eq, dite_true, dite_false]
    refine congrArg (fun x => some (iJ x, M)) ?_
    omega
  · rw [if_neg c0]
    by_cases c4 : w = 4
    · rw [if_pos c4]
      subst c4
      rw [show ((4 : Nat) : Int) = 4 from rfl] at e1
      simp -implicitDefEqProofs (disch := (first | decide | omega)) only [fX12_offsetOf, fX12_offsetOf_L44, e1, h1, h2, mz, a0, bo_s, bd_s, bn_s, gI_s, gJ_s, gR_s, pI_s, pZ_s, pJ_s, pR_s, chk_s, chN_s, chN_n, aL_s, aI_c, aJ_c, aR_c, wI_c, wB_c, wS_c, wZ_c, wJ_c, wR_c, mK_sI, mK_sJ, mK_sR, mK_cpI, mL_sI, mL_sJ, mL_sR, mL_cpI, mI_sI, mI_sJ, mI_sR, mI_cpI, mJ_sI, mJ_sJ, mJ_sR, mJ_cpI, mR_sI, mR_sJ, mR_sR, mR_cpI, i2b_i2b, i2b_sb, iI_lit, iI_add, iI_sub, iI_mul, iI_neg, iI_lt, iI_le, iI_eq, iI_J, lt_T, lt_F, le_T, le_F, eq_T, eq_F, eqN_T, eqN_F, leN_T, leN_F, ltN_T, ltN_F, if_true, if_false, and_true, true_and, and_false, false_and, or_true, true_or, or_false, false_or, not_true_eq_false, not_false_eq_true, and_self, or_self, tn_c, ne_eq, dite_true, dite_false]
      refine congrArg (fun x => some (iJ x, M)) ?_
      omega
    · rw [if_neg c4]
      have em := maxI_iI (a := (w : Int)) (b := 1) (by omega) (by omega)
      rw [show max (w : Int) 1 = w by omega] at em
      have ei : ((w : Int) - 1).toNat = w - 1 := by omega
      have aw := hr (w - 1) (by omega)
      have aw0 := aw.1
      simp -implicitDefEqProofs (disch := (first | decide | omega)) only [fX12_offsetOf, fX12_offsetOf_L44, e1, em, h1, h2, ei, aw0, bo_s, bd_s, bn_s, gI_s, gJ_s, gR_s, pI_s, pZ_s, pJ_s, pR_s, chk_s, chN_s, chN_n, aL_s, aI_c, aJ_c, aR_c, wI_c, wB_c, wS_c, wZ_c, wJ_c, wR_c, mK_sI, mK_sJ, mK_sR, mK_cpI, mL_sI, mL_sJ, mL_sR, mL_cpI, mI_sI, mI_sJ, mI_sR, mI_cpI, mJ_sI, mJ_sJ, mJ_sR, mJ_cpI, mR_sI, mR_sJ, mR_sR, mR_cpI, i2b_i2b, i2b_sb, iI_lit, iI_add, iI_sub, iI_mul, iI_neg, iI_lt, iI_le, iI_eq, iI_J, lt_T, lt_F, le_T, le_F, eq_T, eq_F, eqN_T, eqN_F, leN_T, leN_F, ltN_T, ltN_F, if_true, if_false, and_true, true_and, and_false, false_and, or_true, true_or, or_false, false_or, not_true_eq_false, not_false_eq_true, and_self, or_self, tn_c, ne_eq, dite_true, dite_false]
theorem rem_ok {ra wh off : Nat} {r : Nat → Nat} (h1 : mK M ra = 15) (h2 : mL M ra = 3) (hr : ∀ i, i < 3 → mI M ra i = iI (r i : Nat)) (hw : wh ≤ 4) : Wp (fX12_remember (some ra) (iI wh) (iI off) M) fun _ N => Sm (fun a _ => a = ra) M N ∧ ∀ i, i < 3 → mI N ra i = iI (rmK r wh off i : Nat) := by
  have a0 := hr 0 (by omega)
  have a1 := hr 1 (by omega)
  have m0 : (0 : Int).toNat = 0 := rfl
  have m1 : (1 : Int).toNat = 1 := rfl
  have m2 : (2 : Int).toNat = 2 := rfl
  by_cases c1 : wh = 1
  · simp -implicitDefEqProofs (disch := (first | decide | omega)) only [fX12_remember, bo_s, bd_s, bn_s, gI_s, gJ_s, gR_s, pI_s, pZ_s, pJ_s, pR_s, chk_s, chN_s, chN_n, aL_s, aI_c, aJ_c, aR_c, wI_c, wB_c, wS_c, wZ_c, wJ_c, wR_c, mK_sI, mK_sJ, mK_sR, mK_cpI, mL_sI, mL_sJ, mL_sR, mL_cpI, mI_sI, mI_sJ, mI_sR, mI_cpI, mJ_sI, mJ_sJ, mJ_sR, mJ_cpI, mR_sI, mR_sJ, mR_sR, mR_cpI, i2b_i2b, i2b_sb, iI_lit, iI_add, iI_sub, iI_mul, iI_neg, iI_lt, iI_le, iI_eq, iI_J, lt_T, lt_F, le_T, le_F, eq_T, eq_F, eqN_T, eqN_F, leN_T, leN_F, ltN_T, ltN_F, if_true, if_false, and_true, true_and, and_false, false_and, or_true, true_or, or_false, false_or, not_true_eq_false, not_false_eq_true, and_self, or_self, tn_c, ne_eq, dite_true, dite_false]
    refine w_ret ⟨Sm.rf, fun i hi => ?_⟩
    unfold rmK
    rw [if_pos c1]; exact hr i hi
  · by_cases c2 : wh = 2
    · simp -implicitDefEqProofs (disch := (first | decide | omega)) only [fX12_remember, fX12_remember_L17, h1, h2, m0, m1, a0, bo_s, bd_s, bn_s, gI_s, gJ_s, gR_s, pI_s, pZ_s, pJ_s, pR_s, chk_s, chN_s, chN_n, aL_s, aI_c, aJ_c, aR_c, wI_c, wB_c, wS_c, wZ_c, wJ_c, wR_c, mK_sI, mK_sJ, mK_sR, mK_cpI, mL_sI, mL_sJ, mL_sR, mL_cpI, mI_sI, mI_sJ, mI_sR, mI_cpI, mJ_sI, mJ_sJ, mJ_sR, mJ_cpI, mR_sI, mR_sJ, mR_sR, mR_cpI, i2b_i2b, i2b_sb, iI_lit, iI_add, iI_sub, iI_mul, iI_neg, iI_lt, iI_le, iI_eq, iI_J, lt_T, lt_F, le_T, le_F, eq_T, eq_F, eqN_T, eqN_F, leN_T, leN_F, ltN_T, ltN_F, if_true, if_false, and_true, true_and, and_false, false_and, or_true, true_or, or_false, false_or, not_true_eq_false, not_false_eq_true, and_self, or_self, tn_c, ne_eq, dite_true, dite_false]
      refine w_ret ⟨Sm.sI (Sm.sI Sm.rf rfl) rfl, fun i hi => ?_⟩
      unfold rmK
      rw [if_neg c1]
      have : i = 0 ∨ i = 1 ∨ i = 2 := by omega
      rcases this with rfl | rfl | rfl
      · rw [if_pos rfl]
        simp -implicitDefEqProofs (disch := (first | decide | omega)) only [mK_sI, mK_sJ, mK_sR, mK_cpI, mL_sI, mL_sJ, mL_sR, mL_cpI, mI_sI, mI_sJ, mI_sR, mI_cpI, mJ_sI, mJ_sJ, mJ_sR, mJ_cpI, mR_sI, mR_sJ, mR_sR, mR_cpI, eqN_T, eqN_F, if_true, if_false, and_true, true_and, and_false, false_and, or_true, true_or, or_false, false_or, not_true_eq_false, not_false_eq_true, and_self, or_self, tn_c, ne_eq, dite_true, dite_false]
      · rw [if_neg (by omega), if_pos rfl]
        simp -implicitDefEqProofs (disch := (first | decide | omega)) only [mK_sI, mK_sJ, mK_sR, mK_cpI, mL_sI, mL_sJ, mL_sR, mL_cpI, mI_sI, mI_sJ, mI_sR, mI_cpI, mJ_sI, mJ_sJ, mJ_sR, mJ_cpI, mR_sI, mR_sJ, mR_sR, mR_cpI, eqN_T, eqN_F, if_true, if_false, and_true, true_and, and_false, false_and, or_true, true_or, or_false, false_or, not_true_eq_false, not_false_eq_true, and_self, or_self, tn_c, ne_eq, dite_true, dite_false]
      · rw [if_neg (by omega), if_neg (by omega), if_pos c2]
        simp -implicitDefEqProofs (disch := (first | decide | omega)) only [mK_sI, mK_sJ, mK_sR, mK_cpI, mL_sI, mL_sJ, mL_sR, mL_cpI, mI_sI, mI_sJ, mI_sR, mI_cpI, mJ_sI, mJ_sJ, mJ_sR, mJ_cpI, mR_sI, mR_sJ, mR_sR, mR_cpI, eqN_T, eqN_F, if_true, if_false, and_true, true_and, and_false, false_and, or_true, true_or, or_false, false_or, not_true_eq_false, not_false_eq_true, and_self, or_self, tn_c, ne_eq, dite_true, dite_false]
        exact hr 2 (by omega)
    · simp -implicitDefEqProofs (disch := (first | decide | omega)) only [fX12_remember, fX12_remember_L17, h1, h2, m0, m1, m2, a0, a1, bo_s, bd_s, bn_s, gI_s, gJ_s, gR_s, pI_s, pZ_s, pJ_s, pR_s, chk_s, chN_s, chN_n, aL_s, aI_c, aJ_c, aR_c, wI_c, wB_c, wS_c, wZ_c, wJ_c, wR_c, mK_sI, mK_sJ, mK_sR, mK_cpI, mL_sI, mL_sJ, mL_sR, mL_cpI, mI_sI, mI_sJ, mI_sR, mI_cpI, mJ_sI, mJ_sJ, mJ_sR, mJ_cpI, mR_sI, mR_sJ, mR_sR, mR_cpI, i2b_i2b, i2b_sb, iI_lit, iI_add, iI_sub, iI_mul, iI_neg, iI_lt, iI_le, iI_eq, iI_J, lt_T, lt_F, le_T, le_F, eq_T, eq_F, eqN_T, eqN_F, leN_T, leN_F, ltN_T, ltN_F, if_true, if_false, and_true, true_and, and_false, false_and, or_true, true_or, or_false, false_or, not_true_eq_false, not_false_eq_true, and_self, or_self, tn_c, ne_eq, dite_true, dite_false]
      refine w_ret ⟨Sm.sI (Sm.sI (Sm.sI Sm.rf rfl) rfl) rfl, fun i hi => ?_⟩
      unfold rmK
      rw [if_neg c1]
      have : i = 0 ∨ i = 1 ∨ i = 2 := by omega
      rcases this with rfl | rfl | rfl
      · rw [if_pos rfl]
        simp -implicitDefEqProofs (disch := (first | decide | omega)) only [mK_sI, mK_sJ, mK_sR, mK_cpI, mL_sI, mL_sJ, mL_sR, mL_cpI, mI_sI, mI_sJ, mI_sR, mI_cpI, mJ_sI, mJ_sJ, mJ_sR, mJ_cpI, mR_sI, mR_sJ, mR_sR, mR_cpI, eqN_T, eqN_F, if_true, if_false, and_true, true_and, and_false, false_and, or_true, true_or, or_false, false_or, not_true_eq_false, not_false_eq_true, and_self, or_self, tn_c, ne_eq, dite_true, dite_false]
      · rw [if_neg (by omega), if_pos rfl]
        simp -implicitDefEqProofs (disch := (first | decide | omega)) only [mK_sI, mK_sJ, mK_sR, mK_cpI, mL_sI, mL_sJ, mL_sR, mL_cpI, mI_sI, mI_sJ, mI_sR, mI_cpI, mJ_sI, mJ_sJ, mJ_sR, mJ_cpI, mR_sI, mR_sJ, mR_sR, mR_cpI, eqN_T, eqN_F, if_true, if_false, and_true, true_and, and_false, false_and, or_true, true_or, or_false, false_or, not_true_eq_false, not_false_eq_true, and_self, or_self, tn_c, ne_eq, dite_true, dite_false]
      · rw [if_neg (by omega), if_neg (by omega), if_neg c2]
        simp -implicitDefEqProofs (disch := (first | decide | omega)) only [mK_sI, mK_sJ, mK_sR, mK_cpI, mL_sI, mL_sJ, mL_sR, mL_cpI, mI_sI, mI_sJ, mI_sR, mI_cpI, mJ_sI, mJ_sJ, mJ_sR, mJ_cpI, mR_sI, mR_sJ, mR_sR, mR_cpI, eqN_T, eqN_F, if_true, if_false, and_true, true_and, and_false, false_and, or_true, true_or, or_false, false_or, not_true_eq_false, not_false_eq_true, and_self, or_self, tn_c, ne_eq, dite_true, dite_false]
theorem ptL_v {w ls : Nat → Nat} {t us : Nat} : ∀ {n} (i : Nat), ptL w ls t us n i = if t ≤ i ∧ i < t + n then ls (us + (i - t)) else w i := by
  intro n
  induction n with
  | zero => intro i; rw [ptL, if_neg (by omega)]
  | succ n ih =>
    intro i
    rw [ptL, uN]
    by_cases c : i = t + n
    · rw [if_pos c, if_pos (by omega)]
      congr 1; omega
    · rw [if_neg c, ih i]
      by_cases c2 : t ≤ i ∧ i < t + n
      · rw [if_pos c2, if_pos (by omega)]
      · rw [if_neg c2, if_neg (by omega)]
theorem ptC_lo {w ct : Nat → Nat} {t off cs : Nat} : ∀ {n} (i : Nat), i < t → ptC w ct t off cs n i = w i := by
  intro n
  induction n with
  | zero => intro i _; rfl
  | succ n ih => intro i hi; rw [ptC, uN, if_neg (by omega), ih i hi]
theorem ptC_st {w ct : Nat → Nat} {t off cs : Nat} : ∀ {n m} (i : Nat), n ≤ m → i < t + n → ptC w ct t off cs m i = ptC w ct t off cs n i := by
  intro n m
  induction m with
  | zero => intro i h _; rw [show n = 0 by omega]
  | succ m ih =>
    intro i h hi
    by_cases e : n = m + 1
    · rw [e]
    · rw [ptC, uN, if_neg (by omega), ih i (by omega) hi]
end SEQO
