/-! a COPY comes out, a SEQUENCE is noted: the class's -/
theorem ptC_lt {w ct : Nat → Nat} {t off cs : Nat} (hw : ∀ i, w i < 256) (hc : ∀ i, ct i < 256) : ∀ n i, ptC w ct t off cs n i < 256 := by
  intro n
  induction n with
  | zero => exact hw
  | succ n ih =>
    intro i
    rw [ptC, uN]
    split
    · split
      · exact ih _
      · exact hc _
    · exact ih i
theorem ptL_lt {w ls : Nat → Nat} {t us : Nat} (hw : ∀ i, w i < 256) (hc : ∀ i, ls i < 256) (n i : Nat) : ptL w ls t us n i < 256 := by
  rw [ptL_v]
  split
  · exact hc _
  · exact hw _
theorem frW_lt {old w : Nat → Nat} {ff : Nat} (ho : ∀ i, old i < 256) (hw : ∀ i, w i < 256) (i : Nat) : frW old w ff i < 256 := by
  unfold frW
  split
  · exact ho _
  · exact hw _
section SEQN
variable {M : Mem} {m mb cr cb cn cs ff t lim span blk : Nat} {ct w old : Nat → Nat}
theorem putC_ok {off n : Nat} (hC : CSt M) (f1 : mR M 134 10 = some m) (f2 : mR M 134 11 = some cr) (f4 : mI M 134 12 = iI ff) (hm2 : m < 18) (hmb : mb < 18) (hmm : m ≠ mb) (hcr : 18 ≤ cr) (hcb : 18 ≤ cb) (hV : RV M m mb 8000 (ff + t) (frW old w ff)) (hR : RV M cr cb cn cs ct) (hcn : cs ≤ cn ∧ cn < 900000) (ho : ∀ i, old i < 256) (hw : ∀ i, w i < 256) (hct : ∀ i, ct i < 256) (hoff : 1 ≤ off ∧ off ≤ t + cs) (hb : ff + t < 900000) (hn : n < 900000) (hcr1 : ¬ (cr = 134)) :
    Wp (fX9_putCopy (some 134) (iI off) (iI n) M) fun _ N => Sm (Rw m mb) M N ∧ RV N m mb 8000 (ff + (t + n)) (frW old (ptC w ct t off cs n) ff) := by
  have k134 : mK M 134 = 9 := hC.k 134 (by decide) (by decide)
  have m1 := hV.1.1
  have m2 := hV.2.1
  obtain ⟨h, hh⟩ : ∃ h : Nat, max (0 : Int) (min (n : Int) (8000 - (ff + t : Nat))) = h := ⟨(max (0 : Int) (min (n : Int) (8000 - (ff + t : Nat)))).toNat, by omega⟩
  have e1 := minI_iI (a := (n : Int)) (b := 8000 - (ff + t : Nat)) (by omega) (by omega)
  have e2 := maxI_iI (a := (0 : Int)) (b := min (n : Int) (8000 - (ff + t : Nat))) (by omega) (by omega)
  rw [hh] at e2
  simp -implicitDefEqProofs (disch := (first | decide | omega)) only [fX9_putCopy, fX9_putCopy_L23, k134, f1, m1, m2, e1, e2, bo_s, bd_s, bn_s, gI_s, gJ_s, gR_s, pI_s, pZ_s, pJ_s, pR_s, chk_s, chN_s, chN_n, aL_s, aI_c, aJ_c, aR_c, wI_c, wB_c, wS_c, wZ_c, wJ_c, wR_c, mK_sI, mK_sJ, mK_sR, mK_cpI, mL_sI, mL_sJ, mL_sR, mL_cpI, mI_sI, mI_sJ, mI_sR, mI_cpI, mJ_sI, mJ_sJ, mJ_sR, mJ_cpI, mR_sI, mR_sJ, mR_sR, mR_cpI, i2b_i2b, i2b_sb, iI_lit, iI_add, iI_sub, iI_mul, iI_neg, iI_lt, iI_le, iI_eq, iI_J, lt_T, lt_F, le_T, le_F, eq_T, eq_F, eqN_T, eqN_F, leN_T, leN_F, ltN_T, ltN_F, if_true, if_false, and_true, true_and, and_false, false_and, or_true, true_or, or_false, false_or, not_true_eq_false, not_false_eq_true, and_self, or_self, tn_c, ne_eq, dite_true, dite_false]
  refine w_lpF (fun d x O => ∃ i : Nat, i + d = h ∧ Sm (Rw m mb) M O ∧ RV O m mb 8000 (ff + (t + i)) (frW old (ptC w ct t off cs i) ff) ∧ x = (some 134, iI off, iI n, iI h, iI i)) h (by omega) ⟨0, by omega, Sm.rf, hV, rfl⟩ ?_
  rintro g d x O ⟨i, hd, hS, hV, rfl⟩ ih
  have k134 := (hS.K 134).trans k134
  have f1 := (hS.R 134 10 (by unfold Rw; omega)).trans f1
  have m1 := hV.1.1
  have m2 := hV.2.1
  by_cases z : d = 0
  · obtain rfl : i = h := by omega
    have en : ((ff + (t + i) : Nat) : Int) + ((n : Int) - i) = (ff + (t + n) : Nat) := by omega
    simp -implicitDefEqProofs (disch := (first | decide | omega)) only [fX9_putCopy_B23, k134, f1, m1, m2, en, bo_s, bd_s, bn_s, gI_s, gJ_s, gR_s, pI_s, pZ_s, pJ_s, pR_s, chk_s, chN_s, chN_n, aL_s, aI_c, aJ_c, aR_c, wI_c, wB_c, wS_c, wZ_c, wJ_c, wR_c, mK_sI, mK_sJ, mK_sR, mK_cpI, mL_sI, mL_sJ, mL_sR, mL_cpI, mI_sI, mI_sJ, mI_sR, mI_cpI, mJ_sI, mJ_sJ, mJ_sR, mJ_cpI, mR_sI, mR_sJ, mR_sR, mR_cpI, i2b_i2b, i2b_sb, iI_lit, iI_add, iI_sub, iI_mul, iI_neg, iI_lt, iI_le, iI_eq, iI_J, lt_T, lt_F, le_T, le_F, eq_T, eq_F, eqN_T, eqN_F, leN_T, leN_F, ltN_T, ltN_F, if_true, if_false, and_true, true_and, and_false, false_and, or_true, true_or, or_false, false_or, not_true_eq_false, not_false_eq_true, and_self, or_self, tn_c, ne_eq, dite_true, dite_false]
    refine w_ret ⟨Sm.sI hS (Or.inl ⟨rfl, rfl⟩), hV.1, ?_, fun j hj hj2 => ?_⟩
    · simp -implicitDefEqProofs (disch := (first | decide | omega)) only [mK_sI, mK_sJ, mK_sR, mK_cpI, mL_sI, mL_sJ, mL_sR, mL_cpI, mI_sI, mI_sJ, mI_sR, mI_cpI, mJ_sI, mJ_sJ, mJ_sR, mJ_cpI, mR_sI, mR_sJ, mR_sR, mR_cpI, eqN_T, eqN_F, if_true, if_false, and_true, true_and, and_false, false_and, or_true, true_or, or_false, false_or, not_true_eq_false, not_false_eq_true, and_self, or_self, tn_c, ne_eq, dite_true, dite_false]
    · simp -implicitDefEqProofs (disch := (first | decide | omega)) only [mK_sI, mK_sJ, mK_sR, mK_cpI, mL_sI, mL_sJ, mL_sR, mL_cpI, mI_sI, mI_sJ, mI_sR, mI_cpI, mJ_sI, mJ_sJ, mJ_sR, mJ_cpI, mR_sI, mR_sJ, mR_sR, mR_cpI, eqN_T, eqN_F, if_true, if_false, and_true, true_and, and_false, false_and, or_true, true_or, or_false, false_or, not_true_eq_false, not_false_eq_true, and_self, or_self, tn_c, ne_eq, dite_true, dite_false]
      rw [hV.2.2 j (by omega) hj2]
      refine congrArg sb ?_
      unfold frW
      by_cases c : j < ff
      · rw [if_pos c, if_pos c]
      · rw [if_neg c, if_neg c]
        exact (ptC_st (n := i) (m := n) _ (by omega) (by omega)).symm
  · have f2 := (hS.R 134 11 (by unfold Rw; omega)).trans f2
    have f4 := (hS.I 134 12 (by unfold Rw; omega)).trans f4
    have hR := hR.sm hS (by unfold Rw; omega) (by unfold Rw; omega) (by unfold Rw; omega)
    have c1 := hR.1.1
    have c2 := hR.2.1
    have hu : ∀ i', frW old (ptC w ct t off cs i) ff i' < 256 := frW_lt ho (ptC_lt hw hct i)
    have step : ∀ val : Nat, val < 256 → val = (if off ≤ t + i then ptC w ct t off cs i (t + i - off) else ct (cs + (t + i) - off)) → Wp (fX9_putCopy_L87 g (some 134) (iI off) (iI n) (iI h) (iI i) (some m) (iI val) O) fun _ N => Sm (Rw m mb) M N ∧ RV N m mb 8000 (ff + (t + n)) (frW old (ptC w ct t off cs n) ff) := by
      intro val hval hv
      obtain ⟨v, P, e3, hV2, hS2⟩ := add_v (r := m) (b := mb) (n := 8000) (c := ff + (t + i)) (u := frW old (ptC w ct t off cs (i + 1)) ff) (hV.ext fun j hj _ => by
        unfold frW
        by_cases c : j < ff
        · rw [if_pos c, if_pos c]
        · rw [if_neg c, if_neg c]
          exact (ptC_st (n := i) (m := i + 1) _ (by omega) (by omega)).symm) (by omega) (by omega) hmm (iI val) (by
        unfold frW
        rw [if_neg (by omega), show ff + (t + i) - ff = t + i by omega, ptC, uN, if_pos rfl, ← hv, bN_iI]
        omega)
      have s3 : Sm (Rw m mb) M P := hS.tr hS2
      have := ih (d - 1) (some 134, iI off, iI n, iI h, iI ((i : Int) + 1)) P (by omega) ⟨i + 1, by omega, s3, by rw [show ff + (t + (i + 1)) = ff + (t + i) + 1 by omega]; exact hV2, rfl⟩
      clear ih hV hV2 hR
      simp -implicitDefEqProofs (disch := (first | decide | omega)) only [fX9_putCopy_L87, m1, e3, bo_s, bd_s, bn_s, gI_s, gJ_s, gR_s, pI_s, pZ_s, pJ_s, pR_s, chk_s, chN_s, chN_n, aL_s, aI_c, aJ_c, aR_c, wI_c, wB_c, wS_c, wZ_c, wJ_c, wR_c, mK_sI, mK_sJ, mK_sR, mK_cpI, mL_sI, mL_sJ, mL_sR, mL_cpI, mI_sI, mI_sJ, mI_sR, mI_cpI, mJ_sI, mJ_sJ, mJ_sR, mJ_cpI, mR_sI, mR_sJ, mR_sR, mR_cpI, i2b_i2b, i2b_sb, iI_lit, iI_add, iI_sub, iI_mul, iI_neg, iI_lt, iI_le, iI_eq, iI_J, lt_T, lt_F, le_T, le_F, eq_T, eq_F, eqN_T, eqN_F, leN_T, leN_F, ltN_T, ltN_F, if_true, if_false, and_true, true_and, and_false, false_and, or_true, true_or, or_false, false_or, not_true_eq_false, not_false_eq_true, and_self, or_self, tn_c, ne_eq, dite_true, dite_false]
      exact this
    by_cases c : off ≤ t + i
    · have eg := get_v hV hu (i := ((ff + (t + i) : Nat) : Int) - off) (by omega) (by omega)
      rw [show (((ff + (t + i) : Nat) : Int) - off).toNat = ff + (t + i - off) by omega] at eg
      have ev : frW old (ptC w ct t off cs i) ff (ff + (t + i - off)) = ptC w ct t off cs i (t + i - off) := by
        unfold frW
        rw [if_neg (by omega)]
        congr 1; omega
      rw [ev] at eg
      have := step _ (ptC_lt hw hct i _) (by rw [if_pos c])
      clear step ih hV hR hu
      simp -implicitDefEqProofs (disch := (first | decide | omega)) only [fX9_putCopy_B23, k134, f1, m1, m2, f4, eg, bo_s, bd_s, bn_s, gI_s, gJ_s, gR_s, pI_s, pZ_s, pJ_s, pR_s, chk_s, chN_s, chN_n, aL_s, aI_c, aJ_c, aR_c, wI_c, wB_c, wS_c, wZ_c, wJ_c, wR_c, mK_sI, mK_sJ, mK_sR, mK_cpI, mL_sI, mL_sJ, mL_sR, mL_cpI, mI_sI, mI_sJ, mI_sR, mI_cpI, mJ_sI, mJ_sJ, mJ_sR, mJ_cpI, mR_sI, mR_sJ, mR_sR, mR_cpI, i2b_i2b, i2b_sb, iI_lit, iI_add, iI_sub, iI_mul, iI_neg, iI_lt, iI_le, iI_eq, iI_J, lt_T, lt_F, le_T, le_F, eq_T, eq_F, eqN_T, eqN_F, leN_T, leN_F, ltN_T, ltN_F, if_true, if_false, and_true, true_and, and_false, false_and, or_true, true_or, or_false, false_or, not_true_eq_false, not_false_eq_true, and_self, or_self, tn_c, ne_eq, dite_true, dite_false]
      exact this
    · have eg := get_v hR hct (i := (cs : Int) + (((ff + (t + i) : Nat) : Int) - off) - ff) (by omega) (by omega)
      rw [show ((cs : Int) + (((ff + (t + i) : Nat) : Int) - off) - ff).toNat = cs + (t + i) - off by omega] at eg
      have := step _ (hct _) (by rw [if_neg c])
      clear step ih hV hR hu
      simp -implicitDefEqProofs (disch := (first | decide | omega)) only [fX9_putCopy_B23, k134, f1, m1, m2, f4, f2, c1, c2, eg, bo_s, bd_s, bn_s, gI_s, gJ_s, gR_s, pI_s, pZ_s, pJ_s, pR_s, chk_s, chN_s, chN_n, aL_s, aI_c, aJ_c, aR_c, wI_c, wB_c, wS_c, wZ_c, wJ_c, wR_c, mK_sI, mK_sJ, mK_sR, mK_cpI, mL_sI, mL_sJ, mL_sR, mL_cpI, mI_sI, mI_sJ, mI_sR, mI_cpI, mJ_sI, mJ_sJ, mJ_sR, mJ_cpI, mR_sI, mR_sJ, mR_sR, mR_cpI, i2b_i2b, i2b_sb, iI_lit, iI_add, iI_sub, iI_mul, iI_neg, iI_lt, iI_le, iI_eq, iI_J, lt_T, lt_F, le_T, le_F, eq_T, eq_F, eqN_T, eqN_F, leN_T, leN_F, ltN_T, ltN_F, if_true, if_false, and_true, true_and, and_false, false_and, or_true, true_or, or_false, false_or, not_true_eq_false, not_false_eq_true, and_self, or_self, tn_c, ne_eq, dite_true, dite_false]
      exact this
def NTd (M : Mem) (ts : Nat) (nt : Nat → Nat → Int) : Prop := mI M 31 4 = iI ts ∧ ∀ i j, i < ts → i < 2000 → j < 4 → mI M 32 (4 * i + j) = iI (nt i j)
theorem note_ok {ts a1 a2 a3 a4 : Nat} {nt : Nat → Nat → Int} (hC : CSt M) (hN : NTd M ts nt) (ht : ts < 1000000000) : Wp (fX7_note (some 30) (iI a1) (iI a2) (iI a3) (iI a4) M) fun _ N => Sm (fun a j => (a = 31 ∧ j = 4) ∨ a = 32) M N ∧ NTd N (ts + 1) (ntK nt ts a1 a2 a3 a4) := by
  obtain ⟨k30, r30_2, r30_3, k31, l31, k32, l32⟩ : mK M 30 = 7 ∧ mR M 30 2 = some 31 ∧ mR M 30 3 = some 32 ∧ mK M 31 = 15 ∧ mL M 31 = 12 ∧ mK M 32 = 15 ∧ mL M 32 = 8000 := ⟨hC.k 30 (by decide) (by decide), hC.r 30 2 (by decide) (by decide) (by decide), hC.r 30 3 (by decide) (by decide) (by decide), hC.k 31 (by decide) (by decide), hC.l 31 (by decide) (by decide), hC.k 32 (by decide) (by decide), hC.l 32 (by decide) (by decide)⟩
  obtain ⟨h4, hz⟩ := hN
  have m4 : (4 : Int).toNat = 4 := rfl
  clear hC
  by_cases c : ts < 2000
  · have i0 : (4 * (ts : Int)).toNat = 4 * ts := by omega
    have i1 : (4 * (ts : Int) + 1).toNat = 4 * ts + 1 := by omega
    have i2 : (4 * (ts : Int) + 2).toNat = 4 * ts + 2 := by omega
    have i3 : (4 * (ts : Int) + 3).toNat = 4 * ts + 3 := by omega
    simp -implicitDefEqProofs (disch := (first | decide | omega)) only [fX7_note, fX7_note_L68, k30, r30_2, k31, l31, m4, h4, r30_3, k32, l32, i0, i1, i2, i3, bo_s, bd_s, bn_s, gI_s, gJ_s, gR_s, pI_s, pZ_s, pJ_s, pR_s, chk_s, chN_s, chN_n, aL_s, aI_c, aJ_c, aR_c, wI_c, wB_c, wS_c, wZ_c, wJ_c, wR_c, mK_sI, mK_sJ, mK_sR, mK_cpI, mL_sI, mL_sJ, mL_sR, mL_cpI, mI_sI, mI_sJ, mI_sR, mI_cpI, mJ_sI, mJ_sJ, mJ_sR, mJ_cpI, mR_sI, mR_sJ, mR_sR, mR_cpI, i2b_i2b, i2b_sb, iI_lit, iI_add, iI_sub, iI_mul, iI_neg, iI_lt, iI_le, iI_eq, iI_J, lt_T, lt_F, le_T, le_F, eq_T, eq_F, eqN_T, eqN_F, leN_T, leN_F, ltN_T, ltN_F, if_true, if_false, and_true, true_and, and_false, false_and, or_true, true_or, or_false, false_or, not_true_eq_false, not_false_eq_true, and_self, or_self, tn_c, ne_eq, dite_true, dite_false]
    refine w_ret ⟨?_, ?_, fun i j hi hi2 hj => ?_⟩
    · refine Sm.sI (Sm.sI (Sm.sI (Sm.sI (Sm.sI Sm.rf ?_) ?_) ?_) ?_) ?_ <;> omega
    · simp -implicitDefEqProofs (disch := (first | decide | omega)) only [mK_sI, mK_sJ, mK_sR, mK_cpI, mL_sI, mL_sJ, mL_sR, mL_cpI, mI_sI, mI_sJ, mI_sR, mI_cpI, mJ_sI, mJ_sJ, mJ_sR, mJ_cpI, mR_sI, mR_sJ, mR_sR, mR_cpI, eqN_T, eqN_F, if_true, if_false, and_true, true_and, and_false, false_and, or_true, true_or, or_false, false_or, not_true_eq_false, not_false_eq_true, and_self, or_self, tn_c, ne_eq, dite_true, dite_false]
      rfl
    · unfold ntK
      by_cases ei : i = ts
      · subst ei
        rw [if_pos rfl]
        have : j = 0 ∨ j = 1 ∨ j = 2 ∨ j = 3 := by omega
        rcases this with rfl | rfl | rfl | rfl
        · simp -implicitDefEqProofs (disch := (first | decide | omega)) only [mK_sI, mK_sJ, mK_sR, mK_cpI, mL_sI, mL_sJ, mL_sR, mL_cpI, mI_sI, mI_sJ, mI_sR, mI_cpI, mJ_sI, mJ_sJ, mJ_sR, mJ_cpI, mR_sI, mR_sJ, mR_sR, mR_cpI, eqN_T, eqN_F, if_true, if_false, and_true, true_and, and_false, false_and, or_true, true_or, or_false, false_or, not_true_eq_false, not_false_eq_true, and_self, or_self, tn_c, ne_eq, dite_true, dite_false]
        · rw [if_neg (by omega), if_pos rfl]
          simp -implicitDefEqProofs (disch := (first | decide | omega)) only [mK_sI, mK_sJ, mK_sR, mK_cpI, mL_sI, mL_sJ, mL_sR, mL_cpI, mI_sI, mI_sJ, mI_sR, mI_cpI, mJ_sI, mJ_sJ, mJ_sR, mJ_cpI, mR_sI, mR_sJ, mR_sR, mR_cpI, eqN_T, eqN_F, if_true, if_false, and_true, true_and, and_false, false_and, or_true, true_or, or_false, false_or, not_true_eq_false, not_false_eq_true, and_self, or_self, tn_c, ne_eq, dite_true, dite_false]
        · rw [if_neg (by omega), if_neg (by omega), if_pos rfl]
          simp -implicitDefEqProofs (disch := (first | decide | omega)) only [mK_sI, mK_sJ, mK_sR, mK_cpI, mL_sI, mL_sJ, mL_sR, mL_cpI, mI_sI, mI_sJ, mI_sR, mI_cpI, mJ_sI, mJ_sJ, mJ_sR, mJ_cpI, mR_sI, mR_sJ, mR_sR, mR_cpI, eqN_T, eqN_F, if_true, if_false, and_true, true_and, and_false, false_and, or_true, true_or, or_false, false_or, not_true_eq_false, not_false_eq_true, and_self, or_self, tn_c, ne_eq, dite_true, dite_false]
        · rw [if_neg (by omega), if_neg (by omega), if_neg (by omega)]
          simp -implicitDefEqProofs (disch := (first | decide | omega)) only [mK_sI, mK_sJ, mK_sR, mK_cpI, mL_sI, mL_sJ, mL_sR, mL_cpI, mI_sI, mI_sJ, mI_sR, mI_cpI, mJ_sI, mJ_sJ, mJ_sR, mJ_cpI, mR_sI, mR_sJ, mR_sR, mR_cpI, eqN_T, eqN_F, if_true, if_false, and_true, true_and, and_false, false_and, or_true, true_or, or_false, false_or, not_true_eq_false, not_false_eq_true, and_self, or_self, tn_c, ne_eq, dite_true, dite_false]
      · rw [if_neg ei]
        simp -implicitDefEqProofs (disch := (first | decide | omega)) only [mK_sI, mK_sJ, mK_sR, mK_cpI, mL_sI, mL_sJ, mL_sR, mL_cpI, mI_sI, mI_sJ, mI_sR, mI_cpI, mJ_sI, mJ_sJ, mJ_sR, mJ_cpI, mR_sI, mR_sJ, mR_sR, mR_cpI, eqN_T, eqN_F, if_true, if_false, and_true, true_and, and_false, false_and, or_true, true_or, or_false, false_or, not_true_eq_false, not_false_eq_true, and_self, or_self, tn_c, ne_eq, dite_true, dite_false]
        exact hz i j (by omega) hi2 hj
  · simp -implicitDefEqProofs (disch := (first | decide | omega)) only [fX7_note, fX7_note_L68, k30, r30_2, k31, l31, m4, h4, bo_s, bd_s, bn_s, gI_s, gJ_s, gR_s, pI_s, pZ_s, pJ_s, pR_s, chk_s, chN_s, chN_n, aL_s, aI_c, aJ_c, aR_c, wI_c, wB_c, wS_c, wZ_c, wJ_c, wR_c, mK_sI, mK_sJ, mK_sR, mK_cpI, mL_sI, mL_sJ, mL_sR, mL_cpI, mI_sI, mI_sJ, mI_sR, mI_cpI, mJ_sI, mJ_sJ, mJ_sR, mJ_cpI, mR_sI, mR_sJ, mR_sR, mR_cpI, i2b_i2b, i2b_sb, iI_lit, iI_add, iI_sub, iI_mul, iI_neg, iI_lt, iI_le, iI_eq, iI_J, lt_T, lt_F, le_T, le_F, eq_T, eq_F, eqN_T, eqN_F, leN_T, leN_F, ltN_T, ltN_F, if_true, if_false, and_true, true_and, and_false, false_and, or_true, true_or, or_false, false_or, not_true_eq_false, not_false_eq_true, and_self, or_self, tn_c, ne_eq, dite_true, dite_false]
    refine w_ret ⟨Sm.sI Sm.rf (Or.inl ⟨rfl, rfl⟩), ?_, fun i j hi hi2 hj => ?_⟩
    · simp -implicitDefEqProofs (disch := (first | decide | omega)) only [mK_sI, mK_sJ, mK_sR, mK_cpI, mL_sI, mL_sJ, mL_sR, mL_cpI, mI_sI, mI_sJ, mI_sR, mI_cpI, mJ_sI, mJ_sJ, mJ_sR, mJ_cpI, mR_sI, mR_sJ, mR_sR, mR_cpI, eqN_T, eqN_F, if_true, if_false, and_true, true_and, and_false, false_and, or_true, true_or, or_false, false_or, not_true_eq_false, not_false_eq_true, and_self, or_self, tn_c, ne_eq, dite_true, dite_false]
      rfl
    · unfold ntK
      rw [if_neg (by omega)]
      simp -implicitDefEqProofs (disch := (first | decide | omega)) only [mK_sI, mK_sJ, mK_sR, mK_cpI, mL_sI, mL_sJ, mL_sR, mL_cpI, mI_sI, mI_sJ, mI_sR, mI_cpI, mJ_sI, mJ_sJ, mJ_sR, mJ_cpI, mR_sI, mR_sJ, mR_sR, mR_cpI, eqN_T, eqN_F, if_true, if_false, and_true, true_and, and_false, false_and, or_true, true_or, or_false, false_or, not_true_eq_false, not_false_eq_true, and_self, or_self, tn_c, ne_eq, dite_true, dite_false]
      exact hz i j (by omega) hi2 hj
theorem noteR_ok {r : Nat → Nat} (hC : CSt M) (hr : ∀ i, i < 3 → mI M 139 i = iI (r i : Nat)) : Wp (fX7_noteRemembered (some 30) (some 139) M) fun _ N => Sm (fun a j => a = 31 ∧ 6 ≤ j ∧ j < 9) M N ∧ ∀ i, i < 3 → mI N 31 (6 + i) = iI (r i : Nat) := by
  obtain ⟨k30, r30_2, k31, l31, k139, l139⟩ : mK M 30 = 7 ∧ mR M 30 2 = some 31 ∧ mK M 31 = 15 ∧ mL M 31 = 12 ∧ mK M 139 = 15 ∧ mL M 139 = 3 := ⟨hC.k 30 (by decide) (by decide), hC.r 30 2 (by decide) (by decide) (by decide), hC.k 31 (by decide) (by decide), hC.l 31 (by decide) (by decide), hC.k 139 (by decide) (by decide), hC.l 139 (by decide) (by decide)⟩
  have ec : cI M (some 139) 0 (some 31) 6 3 = some (cpI M 139 0 31 6 3) := by
    show (if (mK M 139 = 15 ∨ mK M 139 = 21) ∧ mK M 31 = 15 ∧ ¬ (0 : Int32) < 0 ∧ ¬ (6 : Int32) < 0 ∧ ¬ (3 : Int32) < 0 ∧ (0 : Int32).toNatClampNeg + (3 : Int32).toNatClampNeg ≤ mL M 139 ∧ (6 : Int32).toNatClampNeg + (3 : Int32).toNatClampNeg ≤ mL M 31 then some (cpI M 139 0 31 6 3) else none) = _
    rw [if_pos ⟨Or.inl k139, k31, by decide, by decide, by decide, by rw [l139]; decide, by rw [l31]; decide⟩]
  rw [fX7_noteRemembered, gR_s, if_pos k30, r30_2, bo_s, ec, bo_s]
  refine w_ret ⟨?_, fun i hi => ?_⟩
  · refine Sm.mk ⟨rfl, rfl, rfl, fun a j ha => ⟨?_, rfl, rfl⟩⟩
    show (if a = 31 ∧ 6 ≤ j ∧ j < 6 + 3 then _ else _) = _
    rw [if_neg (by omega)]
    rfl
  · show (if (31 : Nat) = 31 ∧ 6 ≤ 6 + i ∧ 6 + i < 6 + 3 then mI M 139 (0 + (6 + i - 6)) else _) = _
    rw [if_pos ⟨rfl, by omega, by omega⟩, show 0 + (6 + i - 6) = i by omega]
    exact hr i hi
end SEQN
