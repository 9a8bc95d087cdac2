/-! one SEQUENCE: the reference's pieces -/
section MSEQ
variable {M : Mem}
theorem meant_ok {v n : Nat} (hv1 : 1 ≤ v) (hv : v < 10000000000) (hn : n < 1000000000) : fX13_meant (iJ v) (iI n) M = some (iI (if whK v n = 0 then 4 else whK v n - 1 : Nat), M) := by
  have e3 : (3 : Int64) = iJ 3 := iJ_lit 3
  have ec := cmp_le (a := (v : Int)) (b := 3) (by omega) (by omega)
  unfold whK
  by_cases c : 3 < v
  · rw [if_pos c, if_pos rfl]
    simp -implicitDefEqProofs (disch := (first | decide | omega)) only [fX13_meant, fX13_meant_L24, e3, ec, bo_s, bd_s, bn_s, gI_s, gJ_s, gR_s, pI_s, pZ_s, pJ_s, pR_s, chk_s, chN_s, chN_n, aL_s, aI_c, aJ_c, aR_c, wI_c, wB_c, wS_c, wZ_c, wJ_c, wR_c, mK_sI, mK_sJ, mK_sR, mK_cpI, mL_sI, mL_sJ, mL_sR, mL_cpI, mI_sI, mI_sJ, mI_sR, mI_cpI, mJ_sI, mJ_sJ, mJ_sR, mJ_cpI, mR_sI, mR_sJ, mR_sR, mR_cpI, i2b_i2b, i2b_sb, iI_lit, iI_add, iI_sub, iI_mul, iI_neg, iI_lt, iI_le, iI_eq, iI_J, lt_T, lt_F, le_T, le_F, eq_T, eq_F, eqN_T, eqN_F, leN_T, leN_F, ltN_T, ltN_F, if_true, if_false, and_true, true_and, and_false, false_and, or_true, true_or, or_false, false_or, not_true_eq_false, not_false_eq_true, and_self, or_self, tn_c, ne_eq, dite_true, dite_false]
    rfl
  · rw [if_neg c]
    by_cases c2 : n = 0
    · rw [if_pos c2, if_neg (by omega)]
      simp -implicitDefEqProofs (disch := (first | decide | omega)) only [fX13_meant, fX13_meant_L24, fX13_meant_L23, e3, ec, iJ_I, bo_s, bd_s, bn_s, gI_s, gJ_s, gR_s, pI_s, pZ_s, pJ_s, pR_s, chk_s, chN_s, chN_n, aL_s, aI_c, aJ_c, aR_c, wI_c, wB_c, wS_c, wZ_c, wJ_c, wR_c, mK_sI, mK_sJ, mK_sR, mK_cpI, mL_sI, mL_sJ, mL_sR, mL_cpI, mI_sI, mI_sJ, mI_sR, mI_cpI, mJ_sI, mJ_sJ, mJ_sR, mJ_cpI, mR_sI, mR_sJ, mR_sR, mR_cpI, i2b_i2b, i2b_sb, iI_lit, iI_add, iI_sub, iI_mul, iI_neg, iI_lt, iI_le, iI_eq, iI_J, lt_T, lt_F, le_T, le_F, eq_T, eq_F, eqN_T, eqN_F, leN_T, leN_F, ltN_T, ltN_F, if_true, if_false, and_true, true_and, and_false, false_and, or_true, true_or, or_false, false_or, not_true_eq_false, not_false_eq_true, and_self, or_self, tn_c, ne_eq, dite_true, dite_false]
      refine congrArg (fun x => some (iI x, M)) ?_
      omega
    · rw [if_neg c2, if_neg (by omega)]
      simp -implicitDefEqProofs (disch := (first | decide | omega)) only [fX13_meant, fX13_meant_L24, fX13_meant_L23, e3, ec, iJ_I, bo_s, bd_s, bn_s, gI_s, gJ_s, gR_s, pI_s, pZ_s, pJ_s, pR_s, chk_s, chN_s, chN_n, aL_s, aI_c, aJ_c, aR_c, wI_c, wB_c, wS_c, wZ_c, wJ_c, wR_c, mK_sI, mK_sJ, mK_sR, mK_cpI, mL_sI, mL_sJ, mL_sR, mL_cpI, mI_sI, mI_sJ, mI_sR, mI_cpI, mJ_sI, mJ_sJ, mJ_sR, mJ_cpI, mR_sI, mR_sJ, mR_sR, mR_cpI, i2b_i2b, i2b_sb, iI_lit, iI_add, iI_sub, iI_mul, iI_neg, iI_lt, iI_le, iI_eq, iI_J, lt_T, lt_F, le_T, le_F, eq_T, eq_F, eqN_T, eqN_F, leN_T, leN_F, ltN_T, ltN_F, if_true, if_false, and_true, true_and, and_false, false_and, or_true, true_or, or_false, false_or, not_true_eq_false, not_false_eq_true, and_self, or_self, tn_c, ne_eq, dite_true, dite_false]
      refine congrArg (fun x => some (iI x, M)) ?_
      omega
/-- the reference's REMEMBERED, of cell ra -/
abbrev RJ (M : Mem) (ra : Nat) (r : Nat → Nat) : Prop := ∀ i, i < 3 → mJ M ra i = iJ (r i : Nat) ∧ 1 ≤ r i ∧ r i < 1000000000
theorem moff_ok {ra v n : Nat} {r : Nat → Nat} (h1 : mK M ra = 16) (h2 : mL M ra = 3) (hr : RJ M ra r) (hv1 : 1 ≤ v) (hv : v < 10000000000) (hn : n < 1000000000) : Wp (fX13_offsetOf (some 198) (some ra) (iJ v) (iI n) M) fun x N => x = iJ (ofK r v n : Nat) ∧ Sq (fun a _ => a = ra) M N ∧ ∀ i, i < 3 → mJ N ra i = iJ (rmK r (whK v n) (ofK r v n) i : Nat) := by
  have e1 := meant_ok (M := M) hv1 hv hn
  obtain ⟨w1, w2, w3⟩ := wh_r (n := n) hv1
  have e3 : (3 : Int64) = iJ 3 := iJ_lit 3
  have eo : (1 : Int64) = iJ 1 := iJ_lit 1
  have a0 := (hr 0 (by omega)).1
  have a1 := (hr 1 (by omega)).1
  have b0 := (hr 0 (by omega)).2
  have m0 : (0 : Int).toNat = 0 := rfl
  have m1 : (1 : Int).toNat = 1 := rfl
  have m2 : (2 : Int).toNat = 2 := rfl
  have key : ∀ (k : Nat) (x : Nat), k = (if whK v n = 0 then 4 else whK v n - 1) → (whK v n = 1 → x = r 0) → Wp (fX13_offsetOf_L40 (some ra) (iI k) (iJ x) M) fun y N => y = iJ x ∧ Sq (fun a _ => a = ra) M N ∧ ∀ i, i < 3 → mJ N ra i = iJ (rmK r (whK v n) x i : Nat) := by
    intro k x hk hx
    generalize whK v n = w at *
    clear e1
    have i3 : ∀ i, i < 3 → i = 0 ∨ i = 1 ∨ i = 2 := by omega
    by_cases c1 : w = 1
    · rw [if_neg (by omega)] at hk
      have hx := hx c1
      simp -implicitDefEqProofs (disch := (first | decide | omega)) only [fX13_offsetOf_L40, fX13_offsetOf_L54, fX13_offsetOf_L65, h1, h2, m0, bo_s, bd_s, bn_s, gI_s, gJ_s, gR_s, pI_s, pZ_s, pJ_s, pR_s, chk_s, chN_s, chN_n, aL_s, aI_c, aJ_c, aR_c, wI_c, wB_c, wS_c, wZ_c, wJ_c, wR_c, mK_sI, mK_sJ, mK_sR, mK_cpI, mL_sI, mL_sJ, mL_sR, mL_cpI, mI_sI, mI_sJ, mI_sR, mI_cpI, mJ_sI, mJ_sJ, mJ_sR, mJ_cpI, mR_sI, mR_sJ, mR_sR, mR_cpI, i2b_i2b, i2b_sb, iI_lit, iI_add, iI_sub, iI_mul, iI_neg, iI_lt, iI_le, iI_eq, iI_J, lt_T, lt_F, le_T, le_F, eq_T, eq_F, eqN_T, eqN_F, leN_T, leN_F, ltN_T, ltN_F, if_true, if_false, and_true, true_and, and_false, false_and, or_true, true_or, or_false, false_or, not_true_eq_false, not_false_eq_true, and_self, or_self, tn_c, ne_eq, dite_true, dite_false]
      refine w_ret ⟨rfl, Sq.rf.sJ rfl, fun i hi => ?_⟩
      unfold rmK
      rw [if_pos c1]
      rcases i3 i hi with rfl | rfl | rfl
      · simp -implicitDefEqProofs (disch := (first | decide | omega)) only [mK_sI, mK_sJ, mK_sR, mK_cpI, mL_sI, mL_sJ, mL_sR, mL_cpI, mI_sI, mI_sJ, mI_sR, mI_cpI, mJ_sI, mJ_sJ, mJ_sR, mJ_cpI, mR_sI, mR_sJ, mR_sR, mR_cpI, eqN_T, eqN_F, if_true, if_false, and_true, true_and, and_false, false_and, or_true, true_or, or_false, false_or, not_true_eq_false, not_false_eq_true, and_self, or_self, tn_c, ne_eq, dite_true, dite_false]
        rw [hx]
      · simp -implicitDefEqProofs (disch := (first | decide | omega)) only [mK_sI, mK_sJ, mK_sR, mK_cpI, mL_sI, mL_sJ, mL_sR, mL_cpI, mI_sI, mI_sJ, mI_sR, mI_cpI, mJ_sI, mJ_sJ, mJ_sR, mJ_cpI, mR_sI, mR_sJ, mR_sR, mR_cpI, eqN_T, eqN_F, if_true, if_false, and_true, true_and, and_false, false_and, or_true, true_or, or_false, false_or, not_true_eq_false, not_false_eq_true, and_self, or_self, tn_c, ne_eq, dite_true, dite_false]
        exact a1
      · simp -implicitDefEqProofs (disch := (first | decide | omega)) only [mK_sI, mK_sJ, mK_sR, mK_cpI, mL_sI, mL_sJ, mL_sR, mL_cpI, mI_sI, mI_sJ, mI_sR, mI_cpI, mJ_sI, mJ_sJ, mJ_sR, mJ_cpI, mR_sI, mR_sJ, mR_sR, mR_cpI, eqN_T, eqN_F, if_true, if_false, and_true, true_and, and_false, false_and, or_true, true_or, or_false, false_or, not_true_eq_false, not_false_eq_true, and_self, or_self, tn_c, ne_eq, dite_true, dite_false]
        exact (hr 2 (by omega)).1
    · by_cases c2 : w = 2
      · rw [if_neg (by omega)] at hk
        simp -implicitDefEqProofs (disch := (first | decide | omega)) only [fX13_offsetOf_L40, fX13_offsetOf_L54, fX13_offsetOf_L65, h1, h2, m0, m1, a0, bo_s, bd_s, bn_s, gI_s, gJ_s, gR_s, pI_s, pZ_s, pJ_s, pR_s, chk_s, chN_s, chN_n, aL_s, aI_c, aJ_c, aR_c, wI_c, wB_c, wS_c, wZ_c, wJ_c, wR_c, mK_sI, mK_sJ, mK_sR, mK_cpI, mL_sI, mL_sJ, mL_sR, mL_cpI, mI_sI, mI_sJ, mI_sR, mI_cpI, mJ_sI, mJ_sJ, mJ_sR, mJ_cpI, mR_sI, mR_sJ, mR_sR, mR_cpI, i2b_i2b, i2b_sb, iI_lit, iI_add, iI_sub, iI_mul, iI_neg, iI_lt, iI_le, iI_eq, iI_J, lt_T, lt_F, le_T, le_F, eq_T, eq_F, eqN_T, eqN_F, leN_T, leN_F, ltN_T, ltN_F, if_true, if_false, and_true, true_and, and_false, false_and, or_true, true_or, or_false, false_or, not_true_eq_false, not_false_eq_true, and_self, or_self, tn_c, ne_eq, dite_true, dite_false]
        refine w_ret ⟨rfl, by refine Sq.sJ (Sq.sJ Sq.rf ?_) ?_ <;> rfl, fun i hi => ?_⟩
        unfold rmK
        rw [if_neg c1]
        rcases i3 i hi with rfl | rfl | rfl
        · rw [if_pos rfl]
          simp -implicitDefEqProofs (disch := (first | decide | omega)) only [mK_sI, mK_sJ, mK_sR, mK_cpI, mL_sI, mL_sJ, mL_sR, mL_cpI, mI_sI, mI_sJ, mI_sR, mI_cpI, mJ_sI, mJ_sJ, mJ_sR, mJ_cpI, mR_sI, mR_sJ, mR_sR, mR_cpI, eqN_T, eqN_F, if_true, if_false, and_true, true_and, and_false, false_and, or_true, true_or, or_false, false_or, not_true_eq_false, not_false_eq_true, and_self, or_self, tn_c, ne_eq, dite_true, dite_false]
        · rw [if_neg (by omega), if_pos rfl]
          simp -implicitDefEqProofs (disch := (first | decide | omega)) only [mK_sI, mK_sJ, mK_sR, mK_cpI, mL_sI, mL_sJ, mL_sR, mL_cpI, mI_sI, mI_sJ, mI_sR, mI_cpI, mJ_sI, mJ_sJ, mJ_sR, mJ_cpI, mR_sI, mR_sJ, mR_sR, mR_cpI, eqN_T, eqN_F, if_true, if_false, and_true, true_and, and_false, false_and, or_true, true_or, or_false, false_or, not_true_eq_false, not_false_eq_true, and_self, or_self, tn_c, ne_eq, dite_true, dite_false]
        · rw [if_neg (by omega), if_neg (by omega), if_pos c2]
          simp -implicitDefEqProofs (disch := (first | decide | omega)) only [mK_sI, mK_sJ, mK_sR, mK_cpI, mL_sI, mL_sJ, mL_sR, mL_cpI, mI_sI, mI_sJ, mI_sR, mI_cpI, mJ_sI, mJ_sJ, mJ_sR, mJ_cpI, mR_sI, mR_sJ, mR_sR, mR_cpI, eqN_T, eqN_F, if_true, if_false, and_true, true_and, and_false, false_and, or_true, true_or, or_false, false_or, not_true_eq_false, not_false_eq_true, and_self, or_self, tn_c, ne_eq, dite_true, dite_false]
          exact (hr 2 (by omega)).1
      · have hk2 : 2 ≤ k ∧ k ≤ 4 := by
          by_cases c0 : w = 0
          · rw [if_pos c0] at hk; omega
          · rw [if_neg c0] at hk; omega
        simp -implicitDefEqProofs (disch := (first | decide | omega)) only [fX13_offsetOf_L40, fX13_offsetOf_L54, fX13_offsetOf_L65, h1, h2, m0, m1, m2, a0, a1, bo_s, bd_s, bn_s, gI_s, gJ_s, gR_s, pI_s, pZ_s, pJ_s, pR_s, chk_s, chN_s, chN_n, aL_s, aI_c, aJ_c, aR_c, wI_c, wB_c, wS_c, wZ_c, wJ_c, wR_c, mK_sI, mK_sJ, mK_sR, mK_cpI, mL_sI, mL_sJ, mL_sR, mL_cpI, mI_sI, mI_sJ, mI_sR, mI_cpI, mJ_sI, mJ_sJ, mJ_sR, mJ_cpI, mR_sI, mR_sJ, mR_sR, mR_cpI, i2b_i2b, i2b_sb, iI_lit, iI_add, iI_sub, iI_mul, iI_neg, iI_lt, iI_le, iI_eq, iI_J, lt_T, lt_F, le_T, le_F, eq_T, eq_F, eqN_T, eqN_F, leN_T, leN_F, ltN_T, ltN_F, if_true, if_false, and_true, true_and, and_false, false_and, or_true, true_or, or_false, false_or, not_true_eq_false, not_false_eq_true, and_self, or_self, tn_c, ne_eq, dite_true, dite_false]
        refine w_ret ⟨rfl, by refine Sq.sJ (Sq.sJ (Sq.sJ Sq.rf ?_) ?_) ?_ <;> rfl, fun i hi => ?_⟩
        unfold rmK
        rw [if_neg c1]
        rcases i3 i hi with rfl | rfl | rfl
        · rw [if_pos rfl]
          simp -implicitDefEqProofs (disch := (first | decide | omega)) only [mK_sI, mK_sJ, mK_sR, mK_cpI, mL_sI, mL_sJ, mL_sR, mL_cpI, mI_sI, mI_sJ, mI_sR, mI_cpI, mJ_sI, mJ_sJ, mJ_sR, mJ_cpI, mR_sI, mR_sJ, mR_sR, mR_cpI, eqN_T, eqN_F, if_true, if_false, and_true, true_and, and_false, false_and, or_true, true_or, or_false, false_or, not_true_eq_false, not_false_eq_true, and_self, or_self, tn_c, ne_eq, dite_true, dite_false]
        · rw [if_neg (by omega), if_pos rfl]
          simp -implicitDefEqProofs (disch := (first | decide | omega)) only [mK_sI, mK_sJ, mK_sR, mK_cpI, mL_sI, mL_sJ, mL_sR, mL_cpI, mI_sI, mI_sJ, mI_sR, mI_cpI, mJ_sI, mJ_sJ, mJ_sR, mJ_cpI, mR_sI, mR_sJ, mR_sR, mR_cpI, eqN_T, eqN_F, if_true, if_false, and_true, true_and, and_false, false_and, or_true, true_or, or_false, false_or, not_true_eq_false, not_false_eq_true, and_self, or_self, tn_c, ne_eq, dite_true, dite_false]
        · rw [if_neg (by omega), if_neg (by omega), if_neg c2]
          simp -implicitDefEqProofs (disch := (first | decide | omega)) only [mK_sI, mK_sJ, mK_sR, mK_cpI, mL_sI, mL_sJ, mL_sR, mL_cpI, mI_sI, mI_sJ, mI_sR, mI_cpI, mJ_sI, mJ_sJ, mJ_sR, mJ_cpI, mR_sI, mR_sJ, mR_sR, mR_cpI, eqN_T, eqN_F, if_true, if_false, and_true, true_and, and_false, false_and, or_true, true_or, or_false, false_or, not_true_eq_false, not_false_eq_true, and_self, or_self, tn_c, ne_eq, dite_true, dite_false]
  by_cases c0 : whK v n = 0
  · have eo2 : ofK r v n = v - 3 := by unfold ofK; rw [if_pos c0]
    have := key 4 (v - 3) (by rw [if_pos c0]) (by omega)
    rw [eo2]
    rw [if_pos c0, show ((4 : Nat) : Int) = 4 from rfl] at e1
    rw [show ((4 : Nat) : Int) = 4 from rfl, show ((v - 3 : Nat) : Int) = (v : Int) - 3 by omega] at this
    rw [show ((v - 3 : Nat) : Int) = (v : Int) - 3 by omega]
    clear key hr
    simp -implicitDefEqProofs (disch := (first | decide | omega)) only [fX13_offsetOf, e1, e3, iJ_sub, bo_s, bd_s, bn_s, gI_s, gJ_s, gR_s, pI_s, pZ_s, pJ_s, pR_s, chk_s, chN_s, chN_n, aL_s, aI_c, aJ_c, aR_c, wI_c, wB_c, wS_c, wZ_c, wJ_c, wR_c, mK_sI, mK_sJ, mK_sR, mK_cpI, mL_sI, mL_sJ, mL_sR, mL_cpI, mI_sI, mI_sJ, mI_sR, mI_cpI, mJ_sI, mJ_sJ, mJ_sR, mJ_cpI, mR_sI, mR_sJ, mR_sR, mR_cpI, i2b_i2b, i2b_sb, iI_lit, iI_add, iI_sub, iI_mul, iI_neg, iI_lt, iI_le, iI_eq, iI_J, lt_T, lt_F, le_T, le_F, eq_T, eq_F, eqN_T, eqN_F, leN_T, leN_F, ltN_T, ltN_F, if_true, if_false, and_true, true_and, and_false, false_and, or_true, true_or, or_false, false_or, not_true_eq_false, not_false_eq_true, and_self, or_self, tn_c, ne_eq, dite_true, dite_false]
    exact this
  · rw [if_neg c0] at e1
    by_cases c4 : whK v n = 4
    · have eo2 : ofK r v n = r 0 - 1 := by unfold ofK; rw [if_neg c0, if_pos c4]
      have := key 3 (r 0 - 1) (by rw [if_neg c0, c4]) (by omega)
      rw [eo2]
      rw [c4, show ((4 - 1 : Nat) : Int) = 3 from rfl] at e1
      rw [show ((3 : Nat) : Int) = 3 from rfl, show ((r 0 - 1 : Nat) : Int) = (r 0 : Int) - 1 by omega] at this
      rw [show ((r 0 - 1 : Nat) : Int) = (r 0 : Int) - 1 by omega]
      clear key hr
      simp -implicitDefEqProofs (disch := (first | decide | omega)) only [fX13_offsetOf, e1, h1, h2, m0, a0, eo, iJ_sub, bo_s, bd_s, bn_s, gI_s, gJ_s, gR_s, pI_s, pZ_s, pJ_s, pR_s, chk_s, chN_s, chN_n, aL_s, aI_c, aJ_c, aR_c, wI_c, wB_c, wS_c, wZ_c, wJ_c, wR_c, mK_sI, mK_sJ, mK_sR, mK_cpI, mL_sI, mL_sJ, mL_sR, mL_cpI, mI_sI, mI_sJ, mI_sR, mI_cpI, mJ_sI, mJ_sJ, mJ_sR, mJ_cpI, mR_sI, mR_sJ, mR_sR, mR_cpI, i2b_i2b, i2b_sb, iI_lit, iI_add, iI_sub, iI_mul, iI_neg, iI_lt, iI_le, iI_eq, iI_J, lt_T, lt_F, le_T, le_F, eq_T, eq_F, eqN_T, eqN_F, leN_T, leN_F, ltN_T, ltN_F, if_true, if_false, and_true, true_and, and_false, false_and, or_true, true_or, or_false, false_or, not_true_eq_false, not_false_eq_true, and_self, or_self, tn_c, ne_eq, dite_true, dite_false]
      exact this
    · have eo2 : ofK r v n = r (whK v n - 1) := by unfold ofK; rw [if_neg c0, if_neg c4]
      have aw := (hr (whK v n - 1) (by omega)).1
      have := key (whK v n - 1) (r (whK v n - 1)) (by rw [if_neg c0]) (fun h => by rw [h])
      rw [eo2]
      clear key hr
      generalize whK v n = w at *
      simp -implicitDefEqProofs (disch := (first | decide | omega)) only [fX13_offsetOf, e1, h1, h2, aw, bo_s, bd_s, bn_s, gI_s, gJ_s, gR_s, pI_s, pZ_s, pJ_s, pR_s, chk_s, chN_s, chN_n, aL_s, aI_c, aJ_c, aR_c, wI_c, wB_c, wS_c, wZ_c, wJ_c, wR_c, mK_sI, mK_sJ, mK_sR, mK_cpI, mL_sI, mL_sJ, mL_sR, mL_cpI, mI_sI, mI_sJ, mI_sR, mI_cpI, mJ_sI, mJ_sJ, mJ_sR, mJ_cpI, mR_sI, mR_sJ, mR_sR, mR_cpI, i2b_i2b, i2b_sb, iI_lit, iI_add, iI_sub, iI_mul, iI_neg, iI_lt, iI_le, iI_eq, iI_J, lt_T, lt_F, le_T, le_F, eq_T, eq_F, eqN_T, eqN_F, leN_T, leN_F, ltN_T, ltN_F, if_true, if_false, and_true, true_and, and_false, false_and, or_true, true_or, or_false, false_or, not_true_eq_false, not_false_eq_true, and_self, or_self, tn_c, ne_eq, dite_true, dite_false]
      exact this
end MSEQ
