/-! the class reads the counts of a table -/
def WS (t a j : Nat) : Prop := (a = t ∧ (j = 4 ∨ j = 6 ∨ j = 8)) ∨ a = t + 2
section READ
variable {M : Mem} {b n e t q gr l : Nat} {u : Nat → Nat} {Q : Int32 → Mem → Prop}
abbrev RM (t : Nat) (M N : Mem) (s p : Nat) (c : Nat → Int) : Prop := Sm (WS t) M N ∧ mI N t 4 = iI s ∧ mI N t 6 = iI p ∧ mI N t 8 = iI 0 ∧ ∀ i, i < s → mI N (t + 2) i = iI (c i)
theorem exit_no {N : Mem} {y : Int32} (h0 : mK N t = 10) (h : mI N t 8 = iI 1 ∨ (mI N t 8 = iI 0 ∧ ∃ z : Int, y = iI z ∧ z ≠ 0 ∧ -100000 < z ∧ z < 100000)) (hQ : Q (iI (-1)) N) : Wp (fX10_read_L245 (some t) (iI l) y N) Q := by
  rcases h with h | ⟨h, z, rfl, h1, h2, h3⟩
  · simp -implicitDefEqProofs (disch := (first | decide | omega)) only [fX10_read_L245, fX10_read_L257, h0, h, bo_s, bd_s, bn_s, gI_s, gJ_s, gR_s, pI_s, pZ_s, pJ_s, pR_s, chk_s, chN_s, chN_n, aL_s, aI_c, aJ_c, aR_c, wI_c, wB_c, wS_c, wZ_c, wJ_c, wR_c, mK_sI, mK_sJ, mK_sR, mK_cpI, mL_sI, mL_sJ, mL_sR, mL_cpI, mI_sI, mI_sJ, mI_sR, mI_cpI, mJ_sI, mJ_sJ, mJ_sR, mJ_cpI, mR_sI, mR_sJ, mR_sR, mR_cpI, i2b_i2b, i2b_sb, iI_lit, iI_add, iI_sub, iI_mul, iI_neg, iI_lt, iI_le, iI_eq, iI_J, lt_T, lt_F, le_T, le_F, eq_T, eq_F, eqN_T, eqN_F, leN_T, leN_F, ltN_T, ltN_F, if_true, if_false, and_true, true_and, and_false, false_and, or_true, true_or, or_false, false_or, not_true_eq_false, not_false_eq_true, and_self, or_self, tn_c, ne_eq, dite_true, dite_false]
    exact w_ret hQ
  · simp -implicitDefEqProofs (disch := (first | decide | omega)) only [fX10_read_L245, fX10_read_L257, h0, h, bo_s, bd_s, bn_s, gI_s, gJ_s, gR_s, pI_s, pZ_s, pJ_s, pR_s, chk_s, chN_s, chN_n, aL_s, aI_c, aJ_c, aR_c, wI_c, wB_c, wS_c, wZ_c, wJ_c, wR_c, mK_sI, mK_sJ, mK_sR, mK_cpI, mL_sI, mL_sJ, mL_sR, mL_cpI, mI_sI, mI_sJ, mI_sR, mI_cpI, mJ_sI, mJ_sJ, mJ_sR, mJ_cpI, mR_sI, mR_sJ, mR_sR, mR_cpI, i2b_i2b, i2b_sb, iI_lit, iI_add, iI_sub, iI_mul, iI_neg, iI_lt, iI_le, iI_eq, iI_J, lt_T, lt_F, le_T, le_F, eq_T, eq_F, eqN_T, eqN_F, leN_T, leN_F, ltN_T, ltN_F, if_true, if_false, and_true, true_and, and_false, false_and, or_true, true_or, or_false, false_or, not_true_eq_false, not_false_eq_true, and_self, or_self, tn_c, ne_eq, dite_true, dite_false]
    exact w_ret hQ
theorem zrun {N : Mem} {s p w r T : Nat} {c : Nat → Int} {g : Option Nat × Int32 × Int32 × Int32 × Int32 × Int32 → Mem → Option (Int32 × Mem)} (hT : TS M t) (h : RM t M N s p c) (hc : ∀ i, s ≤ i → c i = 0) (hs : s ≤ gr + 1) (hgr : gr < 256) (hw : w < 4)
    (hg : ∀ O, RM t M O (min (s + w) (gr + 1)) p c → Wp (g (some t, iI gr, iI l, iI r, iI (if w = 3 then 1 else 0), iI ((T : Int) + 1)) O) Q) :
    Wp (fX10_read_L130 g (some t) (iI gr) (iI l) (iI r) (iI T) (iI w) (iI 0) N) Q := by
  unfold fX10_read_L130
  refine w_lpF (fun d x O => ∃ i : Nat, i + d = min w (gr + 1 - s) ∧ RM t M O (s + i) p c ∧ x = (some t, iI gr, iI l, iI r, iI T, iI w, iI i)) (min w (gr + 1 - s)) (by omega) ⟨0, by omega, h, rfl⟩ ?_
  rintro g2 d x O ⟨i, hd, ⟨hS, o4, o6, o8, oc⟩, rfl⟩ ih
  obtain ⟨t0, t1, t2, t3, t4, t5, t6, t7, t8, t9⟩ := hT.sm hS (by unfold WS; omega) (by unfold WS; omega) (by unfold WS; omega)
  by_cases c1 : d = 0
  · have hg2 := hg O (by rw [show min (s + w) (gr + 1) = s + i by omega]; exact ⟨hS, o4, o6, o8, oc⟩)
    by_cases c2 : w ≤ i
    · by_cases c3 : w = 3
      · rw [if_pos c3] at hg2
        simp -implicitDefEqProofs (disch := (first | decide | omega)) only [fX10_read_B130, fX10_read_L172, fX10_read_L183, fX10_read_L239, bo_s, bd_s, bn_s, gI_s, gJ_s, gR_s, pI_s, pZ_s, pJ_s, pR_s, chk_s, chN_s, chN_n, aL_s, aI_c, aJ_c, aR_c, wI_c, wB_c, wS_c, wZ_c, wJ_c, wR_c, mK_sI, mK_sJ, mK_sR, mK_cpI, mL_sI, mL_sJ, mL_sR, mL_cpI, mI_sI, mI_sJ, mI_sR, mI_cpI, mJ_sI, mJ_sJ, mJ_sR, mJ_cpI, mR_sI, mR_sJ, mR_sR, mR_cpI, i2b_i2b, i2b_sb, iI_lit, iI_add, iI_sub, iI_mul, iI_neg, iI_lt, iI_le, iI_eq, iI_J, lt_T, lt_F, le_T, le_F, eq_T, eq_F, eqN_T, eqN_F, leN_T, leN_F, ltN_T, ltN_F, if_true, if_false, and_true, true_and, and_false, false_and, or_true, true_or, or_false, false_or, not_true_eq_false, not_false_eq_true, and_self, or_self, tn_c, ne_eq, dite_true, dite_false]
        exact hg2
      · rw [if_neg c3] at hg2
        simp -implicitDefEqProofs (disch := (first | decide | omega)) only [fX10_read_B130, fX10_read_L172, fX10_read_L183, fX10_read_L239, bo_s, bd_s, bn_s, gI_s, gJ_s, gR_s, pI_s, pZ_s, pJ_s, pR_s, chk_s, chN_s, chN_n, aL_s, aI_c, aJ_c, aR_c, wI_c, wB_c, wS_c, wZ_c, wJ_c, wR_c, mK_sI, mK_sJ, mK_sR, mK_cpI, mL_sI, mL_sJ, mL_sR, mL_cpI, mI_sI, mI_sJ, mI_sR, mI_cpI, mJ_sI, mJ_sJ, mJ_sR, mJ_cpI, mR_sI, mR_sJ, mR_sR, mR_cpI, i2b_i2b, i2b_sb, iI_lit, iI_add, iI_sub, iI_mul, iI_neg, iI_lt, iI_le, iI_eq, iI_J, lt_T, lt_F, le_T, le_F, eq_T, eq_F, eqN_T, eqN_F, leN_T, leN_F, ltN_T, ltN_F, if_true, if_false, and_true, true_and, and_false, false_and, or_true, true_or, or_false, false_or, not_true_eq_false, not_false_eq_true, and_self, or_self, tn_c, ne_eq, dite_true, dite_false]
        exact hg2
    · by_cases c3 : w = 3
      · rw [if_pos c3] at hg2
        simp -implicitDefEqProofs (disch := (first | decide | omega)) only [fX10_read_B130, fX10_read_L172, fX10_read_L183, fX10_read_L239, t0, o4, bo_s, bd_s, bn_s, gI_s, gJ_s, gR_s, pI_s, pZ_s, pJ_s, pR_s, chk_s, chN_s, chN_n, aL_s, aI_c, aJ_c, aR_c, wI_c, wB_c, wS_c, wZ_c, wJ_c, wR_c, mK_sI, mK_sJ, mK_sR, mK_cpI, mL_sI, mL_sJ, mL_sR, mL_cpI, mI_sI, mI_sJ, mI_sR, mI_cpI, mJ_sI, mJ_sJ, mJ_sR, mJ_cpI, mR_sI, mR_sJ, mR_sR, mR_cpI, i2b_i2b, i2b_sb, iI_lit, iI_add, iI_sub, iI_mul, iI_neg, iI_lt, iI_le, iI_eq, iI_J, lt_T, lt_F, le_T, le_F, eq_T, eq_F, eqN_T, eqN_F, leN_T, leN_F, ltN_T, ltN_F, if_true, if_false, and_true, true_and, and_false, false_and, or_true, true_or, or_false, false_or, not_true_eq_false, not_false_eq_true, and_self, or_self, tn_c, ne_eq, dite_true, dite_false]
        exact hg2
      · rw [if_neg c3] at hg2
        simp -implicitDefEqProofs (disch := (first | decide | omega)) only [fX10_read_B130, fX10_read_L172, fX10_read_L183, fX10_read_L239, t0, o4, bo_s, bd_s, bn_s, gI_s, gJ_s, gR_s, pI_s, pZ_s, pJ_s, pR_s, chk_s, chN_s, chN_n, aL_s, aI_c, aJ_c, aR_c, wI_c, wB_c, wS_c, wZ_c, wJ_c, wR_c, mK_sI, mK_sJ, mK_sR, mK_cpI, mL_sI, mL_sJ, mL_sR, mL_cpI, mI_sI, mI_sJ, mI_sR, mI_cpI, mJ_sI, mJ_sJ, mJ_sR, mJ_cpI, mR_sI, mR_sJ, mR_sR, mR_cpI, i2b_i2b, i2b_sb, iI_lit, iI_add, iI_sub, iI_mul, iI_neg, iI_lt, iI_le, iI_eq, iI_J, lt_T, lt_F, le_T, le_F, eq_T, eq_F, eqN_T, eqN_F, leN_T, leN_F, ltN_T, ltN_F, if_true, if_false, and_true, true_and, and_false, false_and, or_true, true_or, or_false, false_or, not_true_eq_false, not_false_eq_true, and_self, or_self, tn_c, ne_eq, dite_true, dite_false]
        exact hg2
  · simp -implicitDefEqProofs (disch := (first | decide | omega)) only [fX10_read_B130, t0, t2, t6, t7, o4, bo_s, bd_s, bn_s, gI_s, gJ_s, gR_s, pI_s, pZ_s, pJ_s, pR_s, chk_s, chN_s, chN_n, aL_s, aI_c, aJ_c, aR_c, wI_c, wB_c, wS_c, wZ_c, wJ_c, wR_c, mK_sI, mK_sJ, mK_sR, mK_cpI, mL_sI, mL_sJ, mL_sR, mL_cpI, mI_sI, mI_sJ, mI_sR, mI_cpI, mJ_sI, mJ_sJ, mJ_sR, mJ_cpI, mR_sI, mR_sJ, mR_sR, mR_cpI, i2b_i2b, i2b_sb, iI_lit, iI_add, iI_sub, iI_mul, iI_neg, iI_lt, iI_le, iI_eq, iI_J, lt_T, lt_F, le_T, le_F, eq_T, eq_F, eqN_T, eqN_F, leN_T, leN_F, ltN_T, ltN_F, if_true, if_false, and_true, true_and, and_false, false_and, or_true, true_or, or_false, false_or, not_true_eq_false, not_false_eq_true, and_self, or_self, tn_c, ne_eq, dite_true, dite_false]
    refine ih (d - 1) _ _ (by omega) ⟨i + 1, by omega, ⟨?_, ?_, ?_, ?_, ?_⟩, rfl⟩
    · refine Sm.sI (Sm.sI hS ?_) ?_ <;> unfold WS <;> omega
    · simp -implicitDefEqProofs (disch := (first | decide | omega)) only [mK_sI, mK_sJ, mK_sR, mK_cpI, mL_sI, mL_sJ, mL_sR, mL_cpI, mI_sI, mI_sJ, mI_sR, mI_cpI, mJ_sI, mJ_sJ, mJ_sR, mJ_cpI, mR_sI, mR_sJ, mR_sR, mR_cpI, eqN_T, eqN_F, if_true, if_false, and_true, true_and, and_false, false_and, or_true, true_or, or_false, false_or, not_true_eq_false, not_false_eq_true, and_self, or_self, tn_c, ne_eq, dite_true, dite_false]
      refine congrArg iI ?_
      omega
    · simp -implicitDefEqProofs (disch := (first | decide | omega)) only [mK_sI, mK_sJ, mK_sR, mK_cpI, mL_sI, mL_sJ, mL_sR, mL_cpI, mI_sI, mI_sJ, mI_sR, mI_cpI, mJ_sI, mJ_sJ, mJ_sR, mJ_cpI, mR_sI, mR_sJ, mR_sR, mR_cpI, eqN_T, eqN_F, if_true, if_false, and_true, true_and, and_false, false_and, or_true, true_or, or_false, false_or, not_true_eq_false, not_false_eq_true, and_self, or_self, tn_c, ne_eq, dite_true, dite_false]
      exact o6
    · simp -implicitDefEqProofs (disch := (first | decide | omega)) only [mK_sI, mK_sJ, mK_sR, mK_cpI, mL_sI, mL_sJ, mL_sR, mL_cpI, mI_sI, mI_sJ, mI_sR, mI_cpI, mJ_sI, mJ_sJ, mJ_sR, mJ_cpI, mR_sI, mR_sJ, mR_sR, mR_cpI, eqN_T, eqN_F, if_true, if_false, and_true, true_and, and_false, false_and, or_true, true_or, or_false, false_or, not_true_eq_false, not_false_eq_true, and_self, or_self, tn_c, ne_eq, dite_true, dite_false]
      exact o8
    · intro k hk
      by_cases ek : k = s + i
      · subst ek
        rw [hc (s + i) (by omega)]
        simp -implicitDefEqProofs (disch := (first | decide | omega)) only [mK_sI, mK_sJ, mK_sR, mK_cpI, mL_sI, mL_sJ, mL_sR, mL_cpI, mI_sI, mI_sJ, mI_sR, mI_cpI, mJ_sI, mJ_sJ, mJ_sR, mJ_cpI, mR_sI, mR_sJ, mR_sR, mR_cpI, eqN_T, eqN_F, if_true, if_false, and_true, true_and, and_false, false_and, or_true, true_or, or_false, false_or, not_true_eq_false, not_false_eq_true, and_self, or_self, tn_c, ne_eq, dite_true, dite_false]
      · simp -implicitDefEqProofs (disch := (first | decide | omega)) only [mK_sI, mK_sJ, mK_sR, mK_cpI, mL_sI, mL_sJ, mL_sR, mL_cpI, mI_sI, mI_sJ, mI_sR, mI_cpI, mJ_sI, mJ_sJ, mJ_sR, mJ_cpI, mR_sI, mR_sJ, mR_sR, mR_cpI, eqN_T, eqN_F, if_true, if_false, and_true, true_and, and_false, false_and, or_true, true_or, or_false, false_or, not_true_eq_false, not_false_eq_true, and_self, or_self, tn_c, ne_eq, dite_true, dite_false]
        exact oc k (by omega)
theorem readL_ok {p0 : Nat} (hT : TS M t) (h5 : mR M t 5 = some b) (h7 : mI M t 7 = iI q) (hb : BV M b n e u) (hbt : b ≠ t) (hbt2 : b ≠ t + 2) (hu : ∀ i, u i < 256) (hq : q ≤ 8 * e) (hgr : gr < 256) (hl : l ≤ 9) (hp0 : p0 ≤ q) (h0 : RM t M M 0 p0 (fun _ => 0))
    (hQ1 : rdL u q gr 300 (2 ^ l) 0 p0 (fun _ => 0) = none → ∀ N, Sm (WS t) M N → Q (iI (-1)) N)
    (hQ2 : ∀ p s c N, rdL u q gr 300 (2 ^ l) 0 p0 (fun _ => 0) = some (p, s, c) → p ≤ q → RM t M N s p c → Wp (fX10_read_L245 (some t) (iI l) (iI 0) N) Q) :
    Wp (fX10_read_L86 (some t) (iI gr) (iI l) (iI ((2 ^ l : Nat) : Int)) (iI 0) (iI 0) M) Q := by
  have h9 : 2 ^ l ≤ 512 := pow_le2 (b := 9) hl
  have g3 := hb.2.2.1
  have g4 := hb.2.2.2.1
  generalize hR : rdL u q gr 300 (2 ^ l) 0 p0 (fun _ => 0) = R at hQ1 hQ2
  unfold fX10_read_L86
  refine w_lpF (fun d x O => ∃ T : Nat, T + d = 600 ∧
      ((∃ k r s p c, rdL u q gr k r s p c = R ∧ r < 1000 ∧ s ≤ gr + 1 ∧ 300 ≤ k + s ∧ T ≤ 2 * s ∧ p ≤ q ∧ RM t M O s p c ∧ (∀ i, s ≤ i → c i = 0) ∧ x = (some t, iI gr, iI l, iI (r : Nat), iI 0, iI T))
      ∨ (∃ k j r s p c, (bz (rdZ u q j s p) fun s' p'' => rdL u q gr k r s' p'' c) = R ∧ 0 < r ∧ r < 1000 ∧ s ≤ gr + 1 ∧ 300 ≤ k + s ∧ T + 1 ≤ 2 * s ∧ p ≤ q ∧ q ≤ p + 2 * j ∧ RM t M O s p c ∧ (∀ i, s ≤ i → c i = 0) ∧ x = (some t, iI gr, iI l, iI (r : Nat), iI 1, iI T))
      ∨ (R = none ∧ Sm (WS t) M O ∧ T < 1000 ∧ ∃ y z, x = (some t, iI gr, iI l, y, z, iI T) ∧ (mI O t 8 = iI 1 ∨ (mI O t 8 = iI 0 ∧ ∃ w : Int, y = iI w ∧ w ≠ 0 ∧ -100000 < w ∧ w < 100000 ∧ (w < 0 ∨ mI O t 4 = iI ((gr : Int) + 1))))))) 600 (by omega) ⟨0, by omega, Or.inl ⟨300, 2 ^ l, 0, p0, _, hR, by omega, by omega, by omega, by omega, hp0, h0, fun _ _ => rfl, rfl⟩⟩ ?_
  rintro g d x O ⟨T, hd, ⟨k, r, s, p, c, hRes, hr, hs, hk, hTs, hp, hM, hc, rfl⟩ | ⟨k, j, r, s, p, c, hRes, hr0, hr, hs, hk, hTs, hp, hj, hM, hc, rfl⟩ | ⟨hN, hS, hT1, y, z, rfl, hdead⟩⟩ ih
  · have hM0 := hM
    obtain ⟨hS, o4, o6, o8, oc⟩ := hM
    obtain ⟨t0, t1, t2, t3, t4, t5, t6, t7, t8, t9⟩ := hT.sm hS (by unfold WS; omega) (by unfold WS; omega) (by unfold WS; omega)
    obtain ⟨k, rfl⟩ : ∃ k', k = k' + 1 := ⟨k - 1, by omega⟩
    by_cases c1 : r = 0
    · subst c1
      rw [rdL, if_pos rfl] at hRes
      simp -implicitDefEqProofs (disch := (first | decide | omega)) only [fX10_read_B86, bo_s, bd_s, bn_s, gI_s, gJ_s, gR_s, pI_s, pZ_s, pJ_s, pR_s, chk_s, chN_s, chN_n, aL_s, aI_c, aJ_c, aR_c, wI_c, wB_c, wS_c, wZ_c, wJ_c, wR_c, mK_sI, mK_sJ, mK_sR, mK_cpI, mL_sI, mL_sJ, mL_sR, mL_cpI, mI_sI, mI_sJ, mI_sR, mI_cpI, mJ_sI, mJ_sJ, mJ_sR, mJ_cpI, mR_sI, mR_sJ, mR_sR, mR_cpI, i2b_i2b, i2b_sb, iI_lit, iI_add, iI_sub, iI_mul, iI_neg, iI_lt, iI_le, iI_eq, iI_J, lt_T, lt_F, le_T, le_F, eq_T, eq_F, eqN_T, eqN_F, leN_T, leN_F, ltN_T, ltN_F, if_true, if_false, and_true, true_and, and_false, false_and, or_true, true_or, or_false, false_or, not_true_eq_false, not_false_eq_true, and_self, or_self, tn_c, ne_eq, dite_true, dite_false]
      exact hQ2 p s c O hRes.symm hp hM0
    · by_cases c2 : gr < s
      · rw [rdL_gt (by omega) c2] at hRes
        simp -implicitDefEqProofs (disch := (first | decide | omega)) only [fX10_read_B86, t0, o4, bo_s, bd_s, bn_s, gI_s, gJ_s, gR_s, pI_s, pZ_s, pJ_s, pR_s, chk_s, chN_s, chN_n, aL_s, aI_c, aJ_c, aR_c, wI_c, wB_c, wS_c, wZ_c, wJ_c, wR_c, mK_sI, mK_sJ, mK_sR, mK_cpI, mL_sI, mL_sJ, mL_sR, mL_cpI, mI_sI, mI_sJ, mI_sR, mI_cpI, mJ_sI, mJ_sJ, mJ_sR, mJ_cpI, mR_sI, mR_sJ, mR_sR, mR_cpI, i2b_i2b, i2b_sb, iI_lit, iI_add, iI_sub, iI_mul, iI_neg, iI_lt, iI_le, iI_eq, iI_J, lt_T, lt_F, le_T, le_F, eq_T, eq_F, eqN_T, eqN_F, leN_T, leN_F, ltN_T, ltN_F, if_true, if_false, and_true, true_and, and_false, false_and, or_true, true_or, or_false, false_or, not_true_eq_false, not_false_eq_true, and_self, or_self, tn_c, ne_eq, dite_true, dite_false]
        exact exit_no t0 (Or.inr ⟨o8, r, rfl, by omega, by omega, by omega⟩) (hQ1 hRes.symm O hS)
      · rw [rdL, if_neg c1, if_neg c2] at hRes
        have o5 := (hS.R t 5 (by unfold WS; omega)).trans h5
        have o7 := (hS.I t 7 (by unfold WS; omega)).trans h7
        have ob := hb.sm hS (by unfold WS; omega)
        cases hC : rdC u q r p with
        | none =>
          rw [hC] at hRes
          obtain ⟨x, N, e1, hN, n8⟩ := takeCount_no t0 o5 o6 o7 ob hu hq hp hr hC
          have n0 := (hN.K t).trans t0
          have n2 := (hN.R t 2 (by omega)).trans t2
          have n4 := (hN.I t 4 (by omega)).trans o4
          have n6 := (hN.K (t + 2)).trans t6
          have n7 := (hN.L (t + 2)).trans t7
          have hD : ∀ y z, Wp (g (some t, iI gr, iI l, y, z, iI ((T : Int) + 1)) (sI (sI N (t + 2) s x) t 4 (iI ((s : Int) + 1)))) Q := fun y z => by
            refine ih (d - 1) _ _ (by omega) ⟨T + 1, by omega, Or.inr (Or.inr ⟨hRes.symm, ?_, by omega, y, z, rfl, Or.inl ?_⟩)⟩
            · refine Sm.sI (Sm.sI (hS.tr (hN.weak ?_)) ?_) ?_ <;> unfold WS <;> omega
            · simp -implicitDefEqProofs (disch := (first | decide | omega)) only [mK_sI, mK_sJ, mK_sR, mK_cpI, mL_sI, mL_sJ, mL_sR, mL_cpI, mI_sI, mI_sJ, mI_sR, mI_cpI, mJ_sI, mJ_sJ, mJ_sR, mJ_cpI, mR_sI, mR_sJ, mR_sR, mR_cpI, eqN_T, eqN_F, if_true, if_false, and_true, true_and, and_false, false_and, or_true, true_or, or_false, false_or, not_true_eq_false, not_false_eq_true, and_self, or_self, tn_c, ne_eq, dite_true, dite_false]
              exact n8
          by_cases cx : x = iI 0
          · simp -implicitDefEqProofs (disch := (first | decide | omega)) only [fX10_read_B86, fX10_read_L237, fX10_read_L239, t0, o4, o8, e1, n0, n2, n4, n6, n7, bo_s, bd_s, bn_s, gI_s, gJ_s, gR_s, pI_s, pZ_s, pJ_s, pR_s, chk_s, chN_s, chN_n, aL_s, aI_c, aJ_c, aR_c, wI_c, wB_c, wS_c, wZ_c, wJ_c, wR_c, mK_sI, mK_sJ, mK_sR, mK_cpI, mL_sI, mL_sJ, mL_sR, mL_cpI, mI_sI, mI_sJ, mI_sR, mI_cpI, mJ_sI, mJ_sJ, mJ_sR, mJ_cpI, mR_sI, mR_sJ, mR_sR, mR_cpI, i2b_i2b, i2b_sb, iI_lit, iI_add, iI_sub, iI_mul, iI_neg, iI_lt, iI_le, iI_eq, iI_J, lt_T, lt_F, le_T, le_F, eq_T, eq_F, eqN_T, eqN_F, leN_T, leN_F, ltN_T, ltN_F, if_true, if_false, and_true, true_and, and_false, false_and, or_true, true_or, or_false, false_or, not_true_eq_false, not_false_eq_true, and_self, or_self, tn_c, ne_eq, dite_true, dite_false]
            rw [if_pos cx]
            exact hD _ _
          · simp -implicitDefEqProofs (disch := (first | decide | omega)) only [fX10_read_B86, fX10_read_L237, fX10_read_L239, t0, o4, o8, e1, n0, n2, n4, n6, n7, bo_s, bd_s, bn_s, gI_s, gJ_s, gR_s, pI_s, pZ_s, pJ_s, pR_s, chk_s, chN_s, chN_n, aL_s, aI_c, aJ_c, aR_c, wI_c, wB_c, wS_c, wZ_c, wJ_c, wR_c, mK_sI, mK_sJ, mK_sR, mK_cpI, mL_sI, mL_sJ, mL_sR, mL_cpI, mI_sI, mI_sJ, mI_sR, mI_cpI, mJ_sI, mJ_sJ, mJ_sR, mJ_cpI, mR_sI, mR_sJ, mR_sR, mR_cpI, i2b_i2b, i2b_sb, iI_lit, iI_add, iI_sub, iI_mul, iI_neg, iI_lt, iI_le, iI_eq, iI_J, lt_T, lt_F, le_T, le_F, eq_T, eq_F, eqN_T, eqN_F, leN_T, leN_F, ltN_T, ltN_F, if_true, if_false, and_true, true_and, and_false, false_and, or_true, true_or, or_false, false_or, not_true_eq_false, not_false_eq_true, and_self, or_self, tn_c, ne_eq, dite_true, dite_false]
            rw [if_neg cx]
            exact hD _ _
        | some vp =>
          obtain ⟨v, p'⟩ := vp
          rw [hC, bz_s] at hRes
          obtain ⟨v1, v2, v3⟩ := rdC_v hr hC
          obtain ⟨x, N, e1, rfl, hN, n6p⟩ := takeCount_ok t0 o5 o6 o7 ob hu hq hr hC
          have n0 := (hN.K t).trans t0
          have n2 := (hN.R t 2 (by omega)).trans t2
          have n4 := (hN.I t 4 (by omega)).trans o4
          have n8 := (hN.I t 8 (by omega)).trans o8
          have n6 := (hN.K (t + 2)).trans t6
          have n7 := (hN.L (t + 2)).trans t7
          have ea := absI_iI (a := (v : Int) - 1) (by omega)
          have hS2 : Sm (WS t) M (sI (sI N (t + 2) s (iI ((v : Int) - 1))) t 4 (iI ((s : Int) + 1))) := by
            refine Sm.sI (Sm.sI (hS.tr (hN.weak ?_)) ?_) ?_ <;> unfold WS <;> omega
          have hM2 : RM t M (sI (sI N (t + 2) s (iI ((v : Int) - 1))) t 4 (iI ((s : Int) + 1))) (s + 1) p' (up c s ((v : Int) - 1)) := by
            refine ⟨hS2, ?_, ?_, ?_, ?_⟩
            · simp -implicitDefEqProofs (disch := (first | decide | omega)) only [mK_sI, mK_sJ, mK_sR, mK_cpI, mL_sI, mL_sJ, mL_sR, mL_cpI, mI_sI, mI_sJ, mI_sR, mI_cpI, mJ_sI, mJ_sJ, mJ_sR, mJ_cpI, mR_sI, mR_sJ, mR_sR, mR_cpI, eqN_T, eqN_F, if_true, if_false, and_true, true_and, and_false, false_and, or_true, true_or, or_false, false_or, not_true_eq_false, not_false_eq_true, and_self, or_self, tn_c, ne_eq, dite_true, dite_false]
              rfl
            · simp -implicitDefEqProofs (disch := (first | decide | omega)) only [mK_sI, mK_sJ, mK_sR, mK_cpI, mL_sI, mL_sJ, mL_sR, mL_cpI, mI_sI, mI_sJ, mI_sR, mI_cpI, mJ_sI, mJ_sJ, mJ_sR, mJ_cpI, mR_sI, mR_sJ, mR_sR, mR_cpI, eqN_T, eqN_F, if_true, if_false, and_true, true_and, and_false, false_and, or_true, true_or, or_false, false_or, not_true_eq_false, not_false_eq_true, and_self, or_self, tn_c, ne_eq, dite_true, dite_false]
              exact n6p
            · simp -implicitDefEqProofs (disch := (first | decide | omega)) only [mK_sI, mK_sJ, mK_sR, mK_cpI, mL_sI, mL_sJ, mL_sR, mL_cpI, mI_sI, mI_sJ, mI_sR, mI_cpI, mJ_sI, mJ_sJ, mJ_sR, mJ_cpI, mR_sI, mR_sJ, mR_sR, mR_cpI, eqN_T, eqN_F, if_true, if_false, and_true, true_and, and_false, false_and, or_true, true_or, or_false, false_or, not_true_eq_false, not_false_eq_true, and_self, or_self, tn_c, ne_eq, dite_true, dite_false]
              exact n8
            · intro i hi
              unfold up
              by_cases ei : i = s
              · subst ei
                simp -implicitDefEqProofs (disch := (first | decide | omega)) only [mK_sI, mK_sJ, mK_sR, mK_cpI, mL_sI, mL_sJ, mL_sR, mL_cpI, mI_sI, mI_sJ, mI_sR, mI_cpI, mJ_sI, mJ_sJ, mJ_sR, mJ_cpI, mR_sI, mR_sJ, mR_sR, mR_cpI, eqN_T, eqN_F, if_true, if_false, and_true, true_and, and_false, false_and, or_true, true_or, or_false, false_or, not_true_eq_false, not_false_eq_true, and_self, or_self, tn_c, ne_eq, dite_true, dite_false]
              · simp -implicitDefEqProofs (disch := (first | decide | omega)) only [mK_sI, mK_sJ, mK_sR, mK_cpI, mL_sI, mL_sJ, mL_sR, mL_cpI, mI_sI, mI_sJ, mI_sR, mI_cpI, mJ_sI, mJ_sJ, mJ_sR, mJ_cpI, mR_sI, mR_sJ, mR_sR, mR_cpI, eqN_T, eqN_F, if_true, if_false, and_true, true_and, and_false, false_and, or_true, true_or, or_false, false_or, not_true_eq_false, not_false_eq_true, and_self, or_self, tn_c, ne_eq, dite_true, dite_false]
                exact (hN.I _ _ (by omega)).trans (oc i (by omega))
          by_cases c3 : v = 1
          · subst c3
            rw [if_neg (by omega), if_pos rfl] at hRes
            rw [show (if 0 ≤ ((1 : Nat) : Int) - 1 then ((1 : Nat) : Int) - 1 else -(((1 : Nat) : Int) - 1)) = 0 by decide] at ea
            simp -implicitDefEqProofs (disch := (first | decide | omega)) only [fX10_read_B86, fX10_read_L237, fX10_read_L239, t0, o4, o8, e1, n0, n2, n4, n6, n7, ea, bo_s, bd_s, bn_s, gI_s, gJ_s, gR_s, pI_s, pZ_s, pJ_s, pR_s, chk_s, chN_s, chN_n, aL_s, aI_c, aJ_c, aR_c, wI_c, wB_c, wS_c, wZ_c, wJ_c, wR_c, mK_sI, mK_sJ, mK_sR, mK_cpI, mL_sI, mL_sJ, mL_sR, mL_cpI, mI_sI, mI_sJ, mI_sR, mI_cpI, mJ_sI, mJ_sJ, mJ_sR, mJ_cpI, mR_sI, mR_sJ, mR_sR, mR_cpI, i2b_i2b, i2b_sb, iI_lit, iI_add, iI_sub, iI_mul, iI_neg, iI_lt, iI_le, iI_eq, iI_J, lt_T, lt_F, le_T, le_F, eq_T, eq_F, eqN_T, eqN_F, leN_T, leN_F, ltN_T, ltN_F, if_true, if_false, and_true, true_and, and_false, false_and, or_true, true_or, or_false, false_or, not_true_eq_false, not_false_eq_true, and_self, or_self, tn_c, ne_eq, dite_true, dite_false]
            refine ih (d - 1) _ _ (by omega) ⟨T + 1, by omega, Or.inr (Or.inl ⟨k, q, r, s + 1, p', c, hRes, by omega, hr, by omega, by omega, by omega, v3, by omega, ⟨hS2, hM2.2.1, hM2.2.2.1, hM2.2.2.2.1, fun i hi => ?_⟩, fun i hi => hc i (by omega), by rw [show (r : Int) - 0 = r by omega]; rfl⟩)⟩
            rw [hM2.2.2.2.2 i hi]
            unfold up
            by_cases ei : i = s
            · rw [if_pos ei, ei, hc s (Nat.le_refl _)]; rfl
            · rw [if_neg ei]
          · have c4 : (v : Int) - 1 ≠ 0 := by omega
            by_cases c5 : r + 1 < v
            · rw [if_pos c5] at hRes
              simp -implicitDefEqProofs (disch := (first | decide | omega)) only [fX10_read_B86, fX10_read_L237, fX10_read_L239, t0, o4, o8, e1, n0, n2, n4, n6, n7, ea, bo_s, bd_s, bn_s, gI_s, gJ_s, gR_s, pI_s, pZ_s, pJ_s, pR_s, chk_s, chN_s, chN_n, aL_s, aI_c, aJ_c, aR_c, wI_c, wB_c, wS_c, wZ_c, wJ_c, wR_c, mK_sI, mK_sJ, mK_sR, mK_cpI, mL_sI, mL_sJ, mL_sR, mL_cpI, mI_sI, mI_sJ, mI_sR, mI_cpI, mJ_sI, mJ_sJ, mJ_sR, mJ_cpI, mR_sI, mR_sJ, mR_sR, mR_cpI, i2b_i2b, i2b_sb, iI_lit, iI_add, iI_sub, iI_mul, iI_neg, iI_lt, iI_le, iI_eq, iI_J, lt_T, lt_F, le_T, le_F, eq_T, eq_F, eqN_T, eqN_F, leN_T, leN_F, ltN_T, ltN_F, if_true, if_false, and_true, true_and, and_false, false_and, or_true, true_or, or_false, false_or, not_true_eq_false, not_false_eq_true, and_self, or_self, tn_c, ne_eq, dite_true, dite_false]
              refine ih (d - 1) _ _ (by omega) ⟨T + 1, by omega, Or.inr (Or.inr ⟨hRes.symm, hS2, by omega, _, _, rfl, Or.inr ⟨hM2.2.2.2.1, _, rfl, by omega, by omega, by omega, Or.inl (by omega)⟩⟩)⟩
            · rw [if_neg c5, if_neg c3] at hRes
              simp -implicitDefEqProofs (disch := (first | decide | omega)) only [fX10_read_B86, fX10_read_L237, fX10_read_L239, t0, o4, o8, e1, n0, n2, n4, n6, n7, ea, bo_s, bd_s, bn_s, gI_s, gJ_s, gR_s, pI_s, pZ_s, pJ_s, pR_s, chk_s, chN_s, chN_n, aL_s, aI_c, aJ_c, aR_c, wI_c, wB_c, wS_c, wZ_c, wJ_c, wR_c, mK_sI, mK_sJ, mK_sR, mK_cpI, mL_sI, mL_sJ, mL_sR, mL_cpI, mI_sI, mI_sJ, mI_sR, mI_cpI, mJ_sI, mJ_sJ, mJ_sR, mJ_cpI, mR_sI, mR_sJ, mR_sR, mR_cpI, i2b_i2b, i2b_sb, iI_lit, iI_add, iI_sub, iI_mul, iI_neg, iI_lt, iI_le, iI_eq, iI_J, lt_T, lt_F, le_T, le_F, eq_T, eq_F, eqN_T, eqN_F, leN_T, leN_F, ltN_T, ltN_F, if_true, if_false, and_true, true_and, and_false, false_and, or_true, true_or, or_false, false_or, not_true_eq_false, not_false_eq_true, and_self, or_self, tn_c, ne_eq, dite_true, dite_false]
              refine ih (d - 1) _ _ (by omega) ⟨T + 1, by omega, Or.inl ⟨k, r - (if v = 0 then 1 else v - 1), s + 1, p', _, hRes, by omega, by omega, by omega, by omega, v3, hM2, fun i hi => ?_, ?_⟩⟩
              · unfold up
                rw [if_neg (by omega)]
                exact hc i (by omega)
              · by_cases c6 : v = 0
                · subst c6
                  rw [if_pos rfl, show ((r - 1 : Nat) : Int) = (r : Int) - 1 by omega]
                  rfl
                · rw [if_neg c6, show (((r - (v - 1) : Nat)) : Int) = (r : Int) - ((v : Int) - 1) by omega]
                  rw [if_pos (by omega)]
                  rfl
  · have hM0 := hM
    obtain ⟨hS, o4, o6, o8, oc⟩ := hM
    obtain ⟨t0, t1, t2, t3, t4, t5, t6, t7, t8, t9⟩ := hT.sm hS (by unfold WS; omega) (by unfold WS; omega) (by unfold WS; omega)
    have o5 := (hS.R t 5 (by unfold WS; omega)).trans h5
    have o7 := (hS.I t 7 (by unfold WS; omega)).trans h7
    have ob := hb.sm hS (by unfold WS; omega)
    by_cases c2 : gr < s
    · rw [rdZ_gt hr0 c2] at hRes
      simp -implicitDefEqProofs (disch := (first | decide | omega)) only [fX10_read_B86, t0, o4, bo_s, bd_s, bn_s, gI_s, gJ_s, gR_s, pI_s, pZ_s, pJ_s, pR_s, chk_s, chN_s, chN_n, aL_s, aI_c, aJ_c, aR_c, wI_c, wB_c, wS_c, wZ_c, wJ_c, wR_c, mK_sI, mK_sJ, mK_sR, mK_cpI, mL_sI, mL_sJ, mL_sR, mL_cpI, mI_sI, mI_sJ, mI_sR, mI_cpI, mJ_sI, mJ_sJ, mJ_sR, mJ_cpI, mR_sI, mR_sJ, mR_sR, mR_cpI, i2b_i2b, i2b_sb, iI_lit, iI_add, iI_sub, iI_mul, iI_neg, iI_lt, iI_le, iI_eq, iI_J, lt_T, lt_F, le_T, le_F, eq_T, eq_F, eqN_T, eqN_F, leN_T, leN_F, ltN_T, ltN_F, if_true, if_false, and_true, true_and, and_false, false_and, or_true, true_or, or_false, false_or, not_true_eq_false, not_false_eq_true, and_self, or_self, tn_c, ne_eq, dite_true, dite_false]
      exact exit_no t0 (Or.inr ⟨o8, r, rfl, by omega, by omega, by omega⟩) (hQ1 hRes.symm O hS)
    · by_cases c3 : q < p + 2
      · have hRn : R = none := by
          rw [← hRes]
          cases j with
          | zero => rfl
          | succ j => rw [rdZ, if_pos c3]; rfl
        have e1 := takeBits_no (k := 2) t0 o6 o7 (by omega) (by omega) (by omega) (by omega)
        rw [show ((2 : Nat) : Int) = 2 from rfl] at e1
        simp -implicitDefEqProofs (disch := (first | decide | omega)) only [fX10_read_B86, t0, o4, o8, e1, bo_s, bd_s, bn_s, gI_s, gJ_s, gR_s, pI_s, pZ_s, pJ_s, pR_s, chk_s, chN_s, chN_n, aL_s, aI_c, aJ_c, aR_c, wI_c, wB_c, wS_c, wZ_c, wJ_c, wR_c, mK_sI, mK_sJ, mK_sR, mK_cpI, mL_sI, mL_sJ, mL_sR, mL_cpI, mI_sI, mI_sJ, mI_sR, mI_cpI, mJ_sI, mJ_sJ, mJ_sR, mJ_cpI, mR_sI, mR_sJ, mR_sR, mR_cpI, i2b_i2b, i2b_sb, iI_lit, iI_add, iI_sub, iI_mul, iI_neg, iI_lt, iI_le, iI_eq, iI_J, lt_T, lt_F, le_T, le_F, eq_T, eq_F, eqN_T, eqN_F, leN_T, leN_F, ltN_T, ltN_F, if_true, if_false, and_true, true_and, and_false, false_and, or_true, true_or, or_false, false_or, not_true_eq_false, not_false_eq_true, and_self, or_self, tn_c, ne_eq, dite_true, dite_false]
        unfold fX10_read_L130
        refine w_lpF (fun d2 x2 O2 => O2 = sI O t 8 (iI 1) ∧ x2 = (some t, iI gr, iI l, iI (r : Nat), iI T, iI 0, iI 0)) 1 (by omega) ⟨rfl, rfl⟩ ?_
        rintro g2 d2 x2 O2 ⟨rfl, rfl⟩ ih2
        simp -implicitDefEqProofs (disch := (first | decide | omega)) only [fX10_read_B130, fX10_read_L172, fX10_read_L183, fX10_read_L239, bo_s, bd_s, bn_s, gI_s, gJ_s, gR_s, pI_s, pZ_s, pJ_s, pR_s, chk_s, chN_s, chN_n, aL_s, aI_c, aJ_c, aR_c, wI_c, wB_c, wS_c, wZ_c, wJ_c, wR_c, mK_sI, mK_sJ, mK_sR, mK_cpI, mL_sI, mL_sJ, mL_sR, mL_cpI, mI_sI, mI_sJ, mI_sR, mI_cpI, mJ_sI, mJ_sJ, mJ_sR, mJ_cpI, mR_sI, mR_sJ, mR_sR, mR_cpI, i2b_i2b, i2b_sb, iI_lit, iI_add, iI_sub, iI_mul, iI_neg, iI_lt, iI_le, iI_eq, iI_J, lt_T, lt_F, le_T, le_F, eq_T, eq_F, eqN_T, eqN_F, leN_T, leN_F, ltN_T, ltN_F, if_true, if_false, and_true, true_and, and_false, false_and, or_true, true_or, or_false, false_or, not_true_eq_false, not_false_eq_true, and_self, or_self, tn_c, ne_eq, dite_true, dite_false]
        refine ih (d - 1) _ _ (by omega) ⟨T + 1, by omega, Or.inr (Or.inr ⟨hRn, ?_, by omega, _, _, rfl, Or.inl ?_⟩)⟩
        · refine hS.sI ?_
          unfold WS; omega
        · simp -implicitDefEqProofs (disch := (first | decide | omega)) only [mK_sI, mK_sJ, mK_sR, mK_cpI, mL_sI, mL_sJ, mL_sR, mL_cpI, mI_sI, mI_sJ, mI_sR, mI_cpI, mJ_sI, mJ_sJ, mJ_sR, mJ_cpI, mR_sI, mR_sJ, mR_sR, mR_cpI, eqN_T, eqN_F, if_true, if_false, and_true, true_and, and_false, false_and, or_true, true_or, or_false, false_or, not_true_eq_false, not_false_eq_true, and_self, or_self, tn_c, ne_eq, dite_true, dite_false]
      · have e1 := takeBits_ok (k := 2) t0 o5 o6 o7 ob hu hq (by omega) (by omega)
        rw [show ((2 : Nat) : Int) = 2 from rfl] at e1
        obtain ⟨j, rfl⟩ : ∃ j', j = j' + 1 := ⟨j - 1, by omega⟩
        rw [rdZ, if_neg c3] at hRes
        have hw := bits_lt u 2 p
        generalize bits u p 2 = w at *
        have hw4 : w < 4 := hw
        have hM2 : RM t M (sI O t 6 (iI ((p : Int) + 2))) s (p + 2) c := by
          refine ⟨hS.sI ?_, ?_, ?_, ?_, ?_⟩
          · unfold WS; omega
          · simp -implicitDefEqProofs (disch := (first | decide | omega)) only [mK_sI, mK_sJ, mK_sR, mK_cpI, mL_sI, mL_sJ, mL_sR, mL_cpI, mI_sI, mI_sJ, mI_sR, mI_cpI, mJ_sI, mJ_sJ, mJ_sR, mJ_cpI, mR_sI, mR_sJ, mR_sR, mR_cpI, eqN_T, eqN_F, if_true, if_false, and_true, true_and, and_false, false_and, or_true, true_or, or_false, false_or, not_true_eq_false, not_false_eq_true, and_self, or_self, tn_c, ne_eq, dite_true, dite_false]
            exact o4
          · simp -implicitDefEqProofs (disch := (first | decide | omega)) only [mK_sI, mK_sJ, mK_sR, mK_cpI, mL_sI, mL_sJ, mL_sR, mL_cpI, mI_sI, mI_sJ, mI_sR, mI_cpI, mJ_sI, mJ_sJ, mJ_sR, mJ_cpI, mR_sI, mR_sJ, mR_sR, mR_cpI, eqN_T, eqN_F, if_true, if_false, and_true, true_and, and_false, false_and, or_true, true_or, or_false, false_or, not_true_eq_false, not_false_eq_true, and_self, or_self, tn_c, ne_eq, dite_true, dite_false]
            rfl
          · simp -implicitDefEqProofs (disch := (first | decide | omega)) only [mK_sI, mK_sJ, mK_sR, mK_cpI, mL_sI, mL_sJ, mL_sR, mL_cpI, mI_sI, mI_sJ, mI_sR, mI_cpI, mJ_sI, mJ_sJ, mJ_sR, mJ_cpI, mR_sI, mR_sJ, mR_sR, mR_cpI, eqN_T, eqN_F, if_true, if_false, and_true, true_and, and_false, false_and, or_true, true_or, or_false, false_or, not_true_eq_false, not_false_eq_true, and_self, or_self, tn_c, ne_eq, dite_true, dite_false]
            exact o8
          · intro i hi
            simp -implicitDefEqProofs (disch := (first | decide | omega)) only [mK_sI, mK_sJ, mK_sR, mK_cpI, mL_sI, mL_sJ, mL_sR, mL_cpI, mI_sI, mI_sJ, mI_sR, mI_cpI, mJ_sI, mJ_sJ, mJ_sR, mJ_cpI, mR_sI, mR_sJ, mR_sR, mR_cpI, eqN_T, eqN_F, if_true, if_false, and_true, true_and, and_false, false_and, or_true, true_or, or_false, false_or, not_true_eq_false, not_false_eq_true, and_self, or_self, tn_c, ne_eq, dite_true, dite_false]
            exact oc i hi
        simp -implicitDefEqProofs (disch := (first | decide | omega)) only [fX10_read_B86, t0, o4, o8, e1, bo_s, bd_s, bn_s, gI_s, gJ_s, gR_s, pI_s, pZ_s, pJ_s, pR_s, chk_s, chN_s, chN_n, aL_s, aI_c, aJ_c, aR_c, wI_c, wB_c, wS_c, wZ_c, wJ_c, wR_c, mK_sI, mK_sJ, mK_sR, mK_cpI, mL_sI, mL_sJ, mL_sR, mL_cpI, mI_sI, mI_sJ, mI_sR, mI_cpI, mJ_sI, mJ_sJ, mJ_sR, mJ_cpI, mR_sI, mR_sJ, mR_sR, mR_cpI, i2b_i2b, i2b_sb, iI_lit, iI_add, iI_sub, iI_mul, iI_neg, iI_lt, iI_le, iI_eq, iI_J, lt_T, lt_F, le_T, le_F, eq_T, eq_F, eqN_T, eqN_F, leN_T, leN_F, ltN_T, ltN_F, if_true, if_false, and_true, true_and, and_false, false_and, or_true, true_or, or_false, false_or, not_true_eq_false, not_false_eq_true, and_self, or_self, tn_c, ne_eq, dite_true, dite_false]
        refine zrun hT hM2 hc hs hgr hw4 fun O2 hO2 => ?_
        by_cases c4 : w = 3
        · subst c4
          rw [if_pos rfl] at hRes ⊢
          by_cases c5 : s + 3 ≤ gr + 1
          · rw [show min (s + 3) (gr + 1) = s + 3 by omega] at hO2
            exact ih (d - 1) _ _ (by omega) ⟨T + 1, by omega, Or.inr (Or.inl ⟨k, j, r, s + 3, p + 2, c, hRes, hr0, hr, by omega, by omega, by omega, by omega, by omega, hO2, fun i hi => hc i (by omega), rfl⟩)⟩
          · rw [show min (s + 3) (gr + 1) = gr + 1 by omega] at hO2
            rw [rdZ_gt hr0 (by omega)] at hRes
            exact ih (d - 1) _ _ (by omega) ⟨T + 1, by omega, Or.inr (Or.inr ⟨hRes.symm, hO2.1, by omega, _, _, rfl, Or.inr ⟨hO2.2.2.2.1, r, rfl, by omega, by omega, by omega, Or.inr hO2.2.1⟩⟩)⟩
        · rw [if_neg c4] at hRes ⊢
          rw [bz_s] at hRes
          by_cases c5 : s + w ≤ gr + 1
          · rw [show min (s + w) (gr + 1) = s + w by omega] at hO2
            exact ih (d - 1) _ _ (by omega) ⟨T + 1, by omega, Or.inl ⟨k, r, s + w, p + 2, c, hRes, hr, by omega, by omega, by omega, by omega, hO2, fun i hi => hc i (by omega), rfl⟩⟩
          · rw [show min (s + w) (gr + 1) = gr + 1 by omega] at hO2
            rw [rdL_gt hr0 (by omega)] at hRes
            exact ih (d - 1) _ _ (by omega) ⟨T + 1, by omega, Or.inr (Or.inr ⟨hRes.symm, hO2.1, by omega, _, _, rfl, Or.inr ⟨hO2.2.2.2.1, r, rfl, by omega, by omega, by omega, Or.inr hO2.2.1⟩⟩)⟩
  · have t0 := (hS.K t).trans hT.1
    have hX : Wp (fX10_read_L245 (some t) (iI l) y O) Q := exit_no t0 (by
      rcases hdead with h | ⟨h, w, rfl, h1, h2, h3, h4⟩
      · exact Or.inl h
      · exact Or.inr ⟨h, w, rfl, h1, h2, h3⟩) (hQ1 hN O hS)
    show Wp (fX10_read_B86 g (some t) (iI gr) (iI l) y z (iI T) O) Q
    rw [fX10_read_B86]
    refine w_if (fun _ => hX) fun _ => w_if (fun _ => hX) fun hy => ?_
    rw [gI_s, if_pos t0, bo_s]
    refine w_if (fun _ => hX) fun h4 => ?_
    rw [gI_s, if_pos t0, bo_s]
    rcases hdead with h | ⟨h, w, rfl, h1, h2, h3, h4'⟩
    · rw [h, if_neg (by rw [iI_0, iI_eq (by omega) (by omega)]; omega)]
      exact hX
    · exfalso
      rw [iI_0, iI_le (by omega) (by omega)] at hy
      rcases h4' with h4' | h4'
      · omega
      · rw [h4', iI_lt (by omega) (by omega)] at h4
        omega
end READ
