/-! the class reads a CODE's weights -/
def WI (a j : Nat) : Prop := (a = 18 ∧ j = 1) ∨ a = 19 ∨ (a = 25 ∧ (j = 2 ∨ j = 3))
def WW (a j : Nat) : Prop := (a = 18 ∧ (j = 1 ∨ j = 2)) ∨ a = 19 ∨ (a = 20 ∧ (j = 0 ∨ 4 ≤ j)) ∨ (21 ≤ a ∧ a ≤ 23) ∨ a = 25
theorem trn_ok {u : Nat → Nat} {F : Nat} {T : Tb} (hT : TbR T) : ∀ {k L a b n w n' w'}, trn u F T k L a b n w = some (n', w') → a < 2 ^ T.1 → b < 2 ^ T.1 → (∀ i, i < n → w i < 256) → n' ≤ n + k + 1 ∧ ∀ i, i < n' → w' i < 256 := by
  intro k
  induction k with
  | zero => intro L a b n w n' w' h; cases h
  | succ k ih =>
    intro L a b n w n' w' h ha hb hw
    have h1 := hT.2 a ha
    have h2 := hT.2 b hb
    have hw1 : ∀ i, i < n + 1 → uN w n (T.2.1 a) i < 256 := fun i hi => by
      unfold uN
      split
      · exact h1.1
      · exact hw i (by omega)
    rw [trn] at h
    split at h
    · cases h
      refine ⟨by omega, fun i hi => ?_⟩
      unfold uN at *
      split
      · exact h2.1
      · exact hw1 i (by omega)
    · have hbt := bits_lt u (T.2.2.1 a) (8 * F + L - T.2.2.1 a)
      obtain ⟨i1, i2⟩ := ih h hb (by omega) hw1
      exact ⟨by omega, i2⟩
section TURN
variable {M : Mem} {rb rn e F : Nat} {u : Nat → Nat} {T : Tb}
theorem inTurnL_ok {L a b : Nat} (hC : CW M) (hTV : TbV M 20 T) (hTR : TbR T) (hK : BK M 25 rb F L 0) (hb : BV M rb rn e u) (hb2 : rb ≠ 18 ∧ rb ≠ 19 ∧ rb ≠ 25) (hu : ∀ i, u i < 256) (he : 8 * F + L ≤ 8 * e) (ha : a < 2 ^ T.1) (hbb : b < 2 ^ T.1) :
    Wp (fX11_readInTurn_L46 (some 18) (iI a) (iI b) (iI 0) M) fun v N => Sm WI M N ∧ (trn u F T 254 L a b 0 (fun _ => 0) = none → v = iI 0) ∧ ∀ n w, trn u F T 254 L a b 0 (fun _ => 0) = some (n, w) → v = iI 1 ∧ WV N n w := by
  have g3 := hb.2.2.1
  have g4 := hb.2.2.2.1
  have h9 : 2 ^ T.1 ≤ 512 := pow_le2 (b := 9) hTR.1
  generalize hR : trn u F T 254 L a b 0 (fun _ => 0) = R
  unfold fX11_readInTurn_L46
  refine w_lpF (fun d x O => ∃ n L a b : Nat, ∃ w, n + d = 254 ∧ trn u F T d L a b n w = R ∧ 8 * F + L ≤ 8 * e ∧ a < 2 ^ T.1 ∧ b < 2 ^ T.1 ∧ Sm WI M O ∧ BK O 25 rb F L 0 ∧ (∀ i, i < n → mI O 19 i = iI (w i : Nat)) ∧ x = (some 18, iI a, iI b, iI n)) 254 (by omega) ⟨0, L, a, b, fun _ => 0, by omega, hR, he, ha, hbb, Sm.rf, hK, fun i hi => by omega, rfl⟩ ?_
  rintro g d x O ⟨n, L, a, b, w, hd, hRes, he, ha, hbb, hS, hK, hz, rfl⟩ ih
  by_cases c : d = 0
  · subst c
    rw [trn] at hRes
    simp -implicitDefEqProofs (disch := omega) only [fX11_readInTurn_B46, rtZ, bo_s, bd_s, bn_s, gI_s, gJ_s, gR_s, pI_s, pZ_s, pJ_s, pR_s, chk_s, chN_s, chN_n, aL_s, aI_c, aJ_c, aR_c, wI_c, wB_c, wS_c, wZ_c, wJ_c, wR_c, mK_sI, mK_sJ, mK_sR, mK_cpI, mL_sI, mL_sJ, mL_sR, mL_cpI, mI_sI, mI_sJ, mI_sR, mI_cpI, mJ_sI, mJ_sJ, mJ_sR, mJ_cpI, mR_sI, mR_sJ, mR_sR, mR_cpI, i2b_i2b, i2b_sb, iI_lit, iI_add, iI_sub, iI_mul, iI_neg, iI_lt, iI_le, iI_eq, iI_J, lt_T, lt_F, le_T, le_F, eq_T, eq_F, eqN_T, eqN_F, leN_T, leN_F, ltN_T, ltN_F, if_true, if_false, and_true, true_and, and_false, false_and, or_true, true_or, or_false, false_or, not_true_eq_false, not_false_eq_true, and_self, or_self, tn_c, ne_eq, dite_true, dite_false]
    refine w_ret ⟨hS, fun _ => rfl, fun n w h => ?_⟩
    rw [← hRes] at h; cases h
  · obtain ⟨d, rfl⟩ : ∃ k, d = k + 1 := ⟨d - 1, by omega⟩
    rw [trn] at hRes
    have hC' := hC.sm hS (by unfold WI; omega)
    obtain ⟨c1, c2, c3, c4, c5, c6, hTS, c8⟩ := hC'
    have hTV' : TbV O 20 T := ⟨(hS.I 20 0 (by unfold WI; omega)).trans hTV.1, fun q hq => (hS.I 21 q (by unfold WI; omega)).trans (hTV.2 q hq)⟩
    have e1 := symbolAt_ok hTS hTR hTV' ha
    obtain ⟨N1, hN1⟩ : ∃ N1, sI (sI O 19 n (iI (T.2.1 a : Nat))) 18 1 (iI ((n : Int) + 1)) = N1 := ⟨_, rfl⟩
    have hS1 : Sm WI O N1 := by
      rw [← hN1]
      refine Sm.sI (Sm.sI Sm.rf ?_) ?_ <;> unfold WI <;> omega
    have hC1 := (hC.sm hS (by unfold WI; omega)).sm hS1 (by unfold WI; omega)
    have hC10 := hC1
    obtain ⟨d1, d2, d3, d4, d5, d6, hTS1, d8⟩ := hC1
    have hTV1 : TbV N1 20 T := ⟨(hS1.I 20 0 (by unfold WI; omega)).trans hTV'.1, fun q hq => (hS1.I 21 q (by unfold WI; omega)).trans (hTV'.2 q hq)⟩
    have e2 := bitsAt_ok hTS1 hTR hTV1 ha
    have e3 := baseAt_ok hTS1 hTR hTV1 ha
    have e4 := symbolAt_ok hTS1 hTR hTV1 hbb
    have k10 := d8
    have hK1 : BK N1 25 rb F L 0 := by
      obtain ⟨k0, k1, k2, k3, k4⟩ := hK
      rw [← hN1]
      refine ⟨k0, k1, ?_, ?_, ?_⟩ <;> simp -implicitDefEqProofs (disch := omega) only [mK_sI, mK_sJ, mK_sR, mK_cpI, mL_sI, mL_sJ, mL_sR, mL_cpI, mI_sI, mI_sJ, mI_sR, mI_cpI, mJ_sI, mJ_sJ, mJ_sR, mJ_cpI, mR_sI, mR_sJ, mR_sR, mR_cpI, eqN_T, eqN_F, if_true, if_false, and_true, true_and, and_false, false_and, or_true, true_or, or_false, false_or, not_true_eq_false, not_false_eq_true, and_self, or_self, tn_c, ne_eq, dite_true, dite_false] <;> assumption
    have k3 := hK1.2.2.2.1
    have n1 : mI N1 18 1 = iI ((n + 1 : Nat) : Int) := by rw [← hN1]; simp -implicitDefEqProofs (disch := omega) only [mK_sI, mK_sJ, mK_sR, mK_cpI, mL_sI, mL_sJ, mL_sR, mL_cpI, mI_sI, mI_sJ, mI_sR, mI_cpI, mJ_sI, mJ_sJ, mJ_sR, mJ_cpI, mR_sI, mR_sJ, mR_sR, mR_cpI, eqN_T, eqN_F, if_true, if_false, and_true, true_and, and_false, false_and, or_true, true_or, or_false, false_or, not_true_eq_false, not_false_eq_true, and_self, or_self, tn_c, ne_eq, dite_true, dite_false]; rfl
    have nz : ∀ i, i < n + 1 → mI N1 19 i = iI (uN w n (T.2.1 a) i : Nat) := fun i hi => by
      rw [← hN1]
      unfold uN
      by_cases ei : i = n
      · subst ei
        simp -implicitDefEqProofs (disch := omega) only [mK_sI, mK_sJ, mK_sR, mK_cpI, mL_sI, mL_sJ, mL_sR, mL_cpI, mI_sI, mI_sJ, mI_sR, mI_cpI, mJ_sI, mJ_sJ, mJ_sR, mJ_cpI, mR_sI, mR_sJ, mR_sR, mR_cpI, eqN_T, eqN_F, if_true, if_false, and_true, true_and, and_false, false_and, or_true, true_or, or_false, false_or, not_true_eq_false, not_false_eq_true, and_self, or_self, tn_c, ne_eq, dite_true, dite_false]
      · simp -implicitDefEqProofs (disch := omega) only [mK_sI, mK_sJ, mK_sR, mK_cpI, mL_sI, mL_sJ, mL_sR, mL_cpI, mI_sI, mI_sJ, mI_sR, mI_cpI, mJ_sI, mJ_sJ, mJ_sR, mJ_cpI, mR_sI, mR_sJ, mR_sR, mR_cpI, eqN_T, eqN_F, if_true, if_false, and_true, true_and, and_false, false_and, or_true, true_or, or_false, false_or, not_true_eq_false, not_false_eq_true, and_self, or_self, tn_c, ne_eq, dite_true, dite_false]
        exact hz i (by omega)
    have t20 := hTS.1
    have t21 := hTS1.1
    obtain ⟨hf, hg9, hh⟩ := hTR.2 a ha
    have hbt := bits_lt u (T.2.2.1 a) (8 * F + L - T.2.2.1 a)
    by_cases c7 : L < T.2.2.1 a
    · rw [if_pos c7] at hRes
      have e5 := endWith_ok hC10 n1 (by omega) (iI (T.2.1 b : Nat))
      have e6 := endWith_v (M := N1) (n := n + 1) (w := uN w n (T.2.1 a)) ⟨n1, nz⟩ (T.2.1 b)
      simp -implicitDefEqProofs (disch := omega) only [fX11_readInTurn_B46, c1, c2, c3, c5, c6, t20, e1, hN1, d1, d3, d4, t21, e2, k10, k3, e4, e5, rtZ, bo_s, bd_s, bn_s, gI_s, gJ_s, gR_s, pI_s, pZ_s, pJ_s, pR_s, chk_s, chN_s, chN_n, aL_s, aI_c, aJ_c, aR_c, wI_c, wB_c, wS_c, wZ_c, wJ_c, wR_c, mK_sI, mK_sJ, mK_sR, mK_cpI, mL_sI, mL_sJ, mL_sR, mL_cpI, mI_sI, mI_sJ, mI_sR, mI_cpI, mJ_sI, mJ_sJ, mJ_sR, mJ_cpI, mR_sI, mR_sJ, mR_sR, mR_cpI, i2b_i2b, i2b_sb, iI_lit, iI_add, iI_sub, iI_mul, iI_neg, iI_lt, iI_le, iI_eq, iI_J, lt_T, lt_F, le_T, le_F, eq_T, eq_F, eqN_T, eqN_F, leN_T, leN_F, ltN_T, ltN_F, if_true, if_false, and_true, true_and, and_false, false_and, or_true, true_or, or_false, false_or, not_true_eq_false, not_false_eq_true, and_self, or_self, tn_c, ne_eq, dite_true, dite_false]
      refine w_ret ⟨?_, fun h => (by rw [← hRes] at h; cases h), fun n' w' h => ?_⟩
      · refine Sm.sI (Sm.sI (hS.tr hS1) ?_) ?_ <;> unfold WI <;> omega
      · rw [← hRes] at h
        cases h
        exact ⟨rfl, e6⟩
    · rw [if_neg c7] at hRes
      have hb1 := (hb.sm hS (by unfold WI; omega)).sm hS1 (by unfold WI; omega)
      have e5 := take_ok hK1 hb1 hu (m := T.2.2.1 a) (by omega) (by omega) he
      simp -implicitDefEqProofs (disch := omega) only [fX11_readInTurn_B46, c1, c2, c3, c5, c6, t20, e1, hN1, d1, d3, d4, t21, e2, k10, k3, e3, e5, iJ_I, bo_s, bd_s, bn_s, gI_s, gJ_s, gR_s, pI_s, pZ_s, pJ_s, pR_s, chk_s, chN_s, chN_n, aL_s, aI_c, aJ_c, aR_c, wI_c, wB_c, wS_c, wZ_c, wJ_c, wR_c, mK_sI, mK_sJ, mK_sR, mK_cpI, mL_sI, mL_sJ, mL_sR, mL_cpI, mI_sI, mI_sJ, mI_sR, mI_cpI, mJ_sI, mJ_sJ, mJ_sR, mJ_cpI, mR_sI, mR_sJ, mR_sR, mR_cpI, i2b_i2b, i2b_sb, iI_lit, iI_add, iI_sub, iI_mul, iI_neg, iI_lt, iI_le, iI_eq, iI_J, lt_T, lt_F, le_T, le_F, eq_T, eq_F, eqN_T, eqN_F, leN_T, leN_F, ltN_T, ltN_F, if_true, if_false, and_true, true_and, and_false, false_and, or_true, true_or, or_false, false_or, not_true_eq_false, not_false_eq_true, and_self, or_self, tn_c, ne_eq, dite_true, dite_false]
      have hS2 : Sm WI N1 (sI N1 25 2 (iI ((L - T.2.2.1 a : Nat) : Int))) := by
        refine Sm.rf.sI ?_
        unfold WI; omega
      refine ih d _ _ (by omega) ⟨n + 1, L - T.2.2.1 a, b, T.2.2.2 a + bits u (8 * F + L - T.2.2.1 a) (T.2.2.1 a), _, by omega, hRes, by omega, hbb, by omega, (hS.tr hS1).tr hS2, ?_, fun i hi => ?_, rfl⟩
      · obtain ⟨k0, k1, k2, k3, k4⟩ := hK1
        refine ⟨k0, k1, ?_, ?_, ?_⟩ <;> simp -implicitDefEqProofs (disch := omega) only [mK_sI, mK_sJ, mK_sR, mK_cpI, mL_sI, mL_sJ, mL_sR, mL_cpI, mI_sI, mI_sJ, mI_sR, mI_cpI, mJ_sI, mJ_sJ, mJ_sR, mJ_cpI, mR_sI, mR_sJ, mR_sR, mR_cpI, eqN_T, eqN_F, if_true, if_false, and_true, true_and, and_false, false_and, or_true, true_or, or_false, false_or, not_true_eq_false, not_false_eq_true, and_self, or_self, tn_c, ne_eq, dite_true, dite_false] <;> assumption
      · simp -implicitDefEqProofs (disch := omega) only [mK_sI, mK_sJ, mK_sR, mK_cpI, mL_sI, mL_sJ, mL_sR, mL_cpI, mI_sI, mI_sJ, mI_sR, mI_cpI, mJ_sI, mJ_sJ, mJ_sR, mJ_cpI, mR_sI, mR_sJ, mR_sR, mR_cpI, eqN_T, eqN_F, if_true, if_false, and_true, true_and, and_false, false_and, or_true, true_or, or_false, false_or, not_true_eq_false, not_false_eq_true, and_self, or_self, tn_c, ne_eq, dite_true, dite_false]
        exact nz i hi
theorem readInTurn_ok {L : Nat} (hC : CW M) (hTV : TbV M 20 T) (hTR : TbR T) (hK : BK M 25 rb F L 0) (hb : BV M rb rn e u) (hb2 : rb ≠ 18 ∧ rb ≠ 19 ∧ rb ≠ 25) (hu : ∀ i, u i < 256) (he : 8 * F + L ≤ 8 * e) :
    Wp (fX11_readInTurn (some 18) M) fun v N => Sm WI M N ∧ (inT u F L T = none → v = iI 0) ∧ ∀ n w, inT u F L T = some (n, w) → v = iI 1 ∧ WV N n w := by
  have g3 := hb.2.2.1
  have g4 := hb.2.2.2.1
  have hl := hTR.1
  have hC0 := hC
  obtain ⟨c1, c2, c3, c4, c5, c6, hTS, c8⟩ := hC
  have t20 := hTS.1
  have l0 := hTV.1
  have hK0 := hK
  obtain ⟨k0, k1, k2, k3, k4⟩ := hK
  by_cases c : L < 2 * T.1
  · have hR : inT u F L T = none := by unfold inT; rw [if_pos c]
    by_cases c' : L < T.1
    · have e1 := take_no hK0 (m := T.1) (by omega) c'
      have e2 := take_no (M := sI M 25 3 (iI 1)) (k := 25) (b := rb) (F := F) (L := L) (z := 1) (m := T.1) ⟨k0, k1, by simp -implicitDefEqProofs (disch := omega) only [mK_sI, mK_sJ, mK_sR, mK_cpI, mL_sI, mL_sJ, mL_sR, mL_cpI, mI_sI, mI_sJ, mI_sR, mI_cpI, mJ_sI, mJ_sJ, mJ_sR, mJ_cpI, mR_sI, mR_sJ, mR_sR, mR_cpI, eqN_T, eqN_F, if_true, if_false, and_true, true_and, and_false, false_and, or_true, true_or, or_false, false_or, not_true_eq_false, not_false_eq_true, and_self, or_self, tn_c, ne_eq, dite_true, dite_false]; exact k2, by simp -implicitDefEqProofs (disch := omega) only [mK_sI, mK_sJ, mK_sR, mK_cpI, mL_sI, mL_sJ, mL_sR, mL_cpI, mI_sI, mI_sJ, mI_sR, mI_cpI, mJ_sI, mJ_sJ, mJ_sR, mJ_cpI, mR_sI, mR_sJ, mR_sR, mR_cpI, eqN_T, eqN_F, if_true, if_false, and_true, true_and, and_false, false_and, or_true, true_or, or_false, false_or, not_true_eq_false, not_false_eq_true, and_self, or_self, tn_c, ne_eq, dite_true, dite_false]; exact k3, by simp -implicitDefEqProofs (disch := omega) only [mK_sI, mK_sJ, mK_sR, mK_cpI, mL_sI, mL_sJ, mL_sR, mL_cpI, mI_sI, mI_sJ, mI_sR, mI_cpI, mJ_sI, mJ_sJ, mJ_sR, mJ_cpI, mR_sI, mR_sJ, mR_sR, mR_cpI, eqN_T, eqN_F, if_true, if_false, and_true, true_and, and_false, false_and, or_true, true_or, or_false, false_or, not_true_eq_false, not_false_eq_true, and_self, or_self, tn_c, ne_eq, dite_true, dite_false]⟩ (by omega) c'
      simp -implicitDefEqProofs (disch := omega) only [fX11_readInTurn, c1, c3, c4, t20, l0, k0, e1, e2, iJ_I, rtZ, bo_s, bd_s, bn_s, gI_s, gJ_s, gR_s, pI_s, pZ_s, pJ_s, pR_s, chk_s, chN_s, chN_n, aL_s, aI_c, aJ_c, aR_c, wI_c, wB_c, wS_c, wZ_c, wJ_c, wR_c, mK_sI, mK_sJ, mK_sR, mK_cpI, mL_sI, mL_sJ, mL_sR, mL_cpI, mI_sI, mI_sJ, mI_sR, mI_cpI, mJ_sI, mJ_sJ, mJ_sR, mJ_cpI, mR_sI, mR_sJ, mR_sR, mR_cpI, i2b_i2b, i2b_sb, iI_lit, iI_add, iI_sub, iI_mul, iI_neg, iI_lt, iI_le, iI_eq, iI_J, lt_T, lt_F, le_T, le_F, eq_T, eq_F, eqN_T, eqN_F, leN_T, leN_F, ltN_T, ltN_F, if_true, if_false, and_true, true_and, and_false, false_and, or_true, true_or, or_false, false_or, not_true_eq_false, not_false_eq_true, and_self, or_self, tn_c, ne_eq, dite_true, dite_false]
      refine w_ret ⟨?_, fun _ => rfl, fun n w h => ?_⟩
      · refine Sm.sI (Sm.sI Sm.rf ?_) ?_ <;> unfold WI <;> omega
      · rw [hR] at h; cases h
    · have e1 := take_ok hK0 hb hu (m := T.1) (by omega) (by omega) he
      have e2 := take_no (M := sI M 25 2 (iI ((L - T.1 : Nat) : Int))) (k := 25) (b := rb) (F := F) (L := L - T.1) (z := 0) (m := T.1) ⟨k0, k1, by simp -implicitDefEqProofs (disch := omega) only [mK_sI, mK_sJ, mK_sR, mK_cpI, mL_sI, mL_sJ, mL_sR, mL_cpI, mI_sI, mI_sJ, mI_sR, mI_cpI, mJ_sI, mJ_sJ, mJ_sR, mJ_cpI, mR_sI, mR_sJ, mR_sR, mR_cpI, eqN_T, eqN_F, if_true, if_false, and_true, true_and, and_false, false_and, or_true, true_or, or_false, false_or, not_true_eq_false, not_false_eq_true, and_self, or_self, tn_c, ne_eq, dite_true, dite_false]; exact k2, by simp -implicitDefEqProofs (disch := omega) only [mK_sI, mK_sJ, mK_sR, mK_cpI, mL_sI, mL_sJ, mL_sR, mL_cpI, mI_sI, mI_sJ, mI_sR, mI_cpI, mJ_sI, mJ_sJ, mJ_sR, mJ_cpI, mR_sI, mR_sJ, mR_sR, mR_cpI, eqN_T, eqN_F, if_true, if_false, and_true, true_and, and_false, false_and, or_true, true_or, or_false, false_or, not_true_eq_false, not_false_eq_true, and_self, or_self, tn_c, ne_eq, dite_true, dite_false], by simp -implicitDefEqProofs (disch := omega) only [mK_sI, mK_sJ, mK_sR, mK_cpI, mL_sI, mL_sJ, mL_sR, mL_cpI, mI_sI, mI_sJ, mI_sR, mI_cpI, mJ_sI, mJ_sJ, mJ_sR, mJ_cpI, mR_sI, mR_sJ, mR_sR, mR_cpI, eqN_T, eqN_F, if_true, if_false, and_true, true_and, and_false, false_and, or_true, true_or, or_false, false_or, not_true_eq_false, not_false_eq_true, and_self, or_self, tn_c, ne_eq, dite_true, dite_false]; exact k4⟩ (by omega) (by omega)
      simp -implicitDefEqProofs (disch := omega) only [fX11_readInTurn, c1, c3, c4, t20, l0, k0, e1, e2, iJ_I, rtZ, bo_s, bd_s, bn_s, gI_s, gJ_s, gR_s, pI_s, pZ_s, pJ_s, pR_s, chk_s, chN_s, chN_n, aL_s, aI_c, aJ_c, aR_c, wI_c, wB_c, wS_c, wZ_c, wJ_c, wR_c, mK_sI, mK_sJ, mK_sR, mK_cpI, mL_sI, mL_sJ, mL_sR, mL_cpI, mI_sI, mI_sJ, mI_sR, mI_cpI, mJ_sI, mJ_sJ, mJ_sR, mJ_cpI, mR_sI, mR_sJ, mR_sR, mR_cpI, i2b_i2b, i2b_sb, iI_lit, iI_add, iI_sub, iI_mul, iI_neg, iI_lt, iI_le, iI_eq, iI_J, lt_T, lt_F, le_T, le_F, eq_T, eq_F, eqN_T, eqN_F, leN_T, leN_F, ltN_T, ltN_F, if_true, if_false, and_true, true_and, and_false, false_and, or_true, true_or, or_false, false_or, not_true_eq_false, not_false_eq_true, and_self, or_self, tn_c, ne_eq, dite_true, dite_false]
      refine w_ret ⟨?_, fun _ => rfl, fun n w h => ?_⟩
      · refine Sm.sI (Sm.sI Sm.rf ?_) ?_ <;> unfold WI <;> omega
      · rw [hR] at h; cases h
  · have hR : inT u F L T = trn u F T 254 (L - 2 * T.1) (bits u (8 * F + L - T.1) T.1) (bits u (8 * F + L - 2 * T.1) T.1) 0 (fun _ => 0) := by unfold inT; rw [if_neg c]
    have e1 := take_ok hK0 hb hu (m := T.1) (by omega) (by omega) he
    have hS1 : Sm WI M (sI M 25 2 (iI ((L - T.1 : Nat) : Int))) := by
      refine Sm.rf.sI ?_
      unfold WI; omega
    have e2 := take_ok (M := sI M 25 2 (iI ((L - T.1 : Nat) : Int))) (k := 25) (b := rb) (F := F) (L := L - T.1) (z := 0) (m := T.1) ⟨k0, k1, by simp -implicitDefEqProofs (disch := omega) only [mK_sI, mK_sJ, mK_sR, mK_cpI, mL_sI, mL_sJ, mL_sR, mL_cpI, mI_sI, mI_sJ, mI_sR, mI_cpI, mJ_sI, mJ_sJ, mJ_sR, mJ_cpI, mR_sI, mR_sJ, mR_sR, mR_cpI, eqN_T, eqN_F, if_true, if_false, and_true, true_and, and_false, false_and, or_true, true_or, or_false, false_or, not_true_eq_false, not_false_eq_true, and_self, or_self, tn_c, ne_eq, dite_true, dite_false]; exact k2, by simp -implicitDefEqProofs (disch := omega) only [mK_sI, mK_sJ, mK_sR, mK_cpI, mL_sI, mL_sJ, mL_sR, mL_cpI, mI_sI, mI_sJ, mI_sR, mI_cpI, mJ_sI, mJ_sJ, mJ_sR, mJ_cpI, mR_sI, mR_sJ, mR_sR, mR_cpI, eqN_T, eqN_F, if_true, if_false, and_true, true_and, and_false, false_and, or_true, true_or, or_false, false_or, not_true_eq_false, not_false_eq_true, and_self, or_self, tn_c, ne_eq, dite_true, dite_false], by simp -implicitDefEqProofs (disch := omega) only [mK_sI, mK_sJ, mK_sR, mK_cpI, mL_sI, mL_sJ, mL_sR, mL_cpI, mI_sI, mI_sJ, mI_sR, mI_cpI, mJ_sI, mJ_sJ, mJ_sR, mJ_cpI, mR_sI, mR_sJ, mR_sR, mR_cpI, eqN_T, eqN_F, if_true, if_false, and_true, true_and, and_false, false_and, or_true, true_or, or_false, false_or, not_true_eq_false, not_false_eq_true, and_self, or_self, tn_c, ne_eq, dite_true, dite_false]; exact k4⟩ (hb.sm hS1 (by unfold WI; omega)) hu (by omega) (by omega) (by omega)
    rw [show 8 * F + (L - T.1) - T.1 = 8 * F + L - 2 * T.1 by omega] at e2
    obtain ⟨N, hN⟩ : ∃ N, sI (sI M 25 2 (iI ((L - T.1 : Nat) : Int))) 25 2 (iI ((L - T.1 - T.1 : Nat) : Int)) = N := ⟨_, rfl⟩
    have hS2 : Sm WI M N := by
      rw [← hN]
      refine hS1.sI ?_
      unfold WI; omega
    rw [hN] at e2
    have n1 := (hS2.K 18).trans c1
    have n4 := (hS2.R 18 4 (by unfold WI; omega)).trans c4
    have n25 := (hS2.K 25).trans k0
    have n3 : mI N 25 3 = iI 0 := by rw [← hN]; simp -implicitDefEqProofs (disch := omega) only [mK_sI, mK_sJ, mK_sR, mK_cpI, mL_sI, mL_sJ, mL_sR, mL_cpI, mI_sI, mI_sJ, mI_sR, mI_cpI, mJ_sI, mJ_sJ, mJ_sR, mJ_cpI, mR_sI, mR_sJ, mR_sR, mR_cpI, eqN_T, eqN_F, if_true, if_false, and_true, true_and, and_false, false_and, or_true, true_or, or_false, false_or, not_true_eq_false, not_false_eq_true, and_self, or_self, tn_c, ne_eq, dite_true, dite_false]; exact k4
    obtain ⟨v, O, e3, hS3, hA, hB⟩ := inTurnL_ok (M := N) (L := L - 2 * T.1) (a := bits u (8 * F + L - T.1) T.1) (b := bits u (8 * F + L - 2 * T.1) T.1) (F := F) (u := u) (T := T) (rb := rb) (rn := rn) (e := e) (hC0.sm hS2 (by unfold WI; omega)) ⟨(hS2.I 20 0 (by unfold WI; omega)).trans hTV.1, fun q hq => (hS2.I 21 q (by unfold WI; omega)).trans (hTV.2 q hq)⟩ hTR ⟨n25, (hS2.R 25 0 (by unfold WI; omega)).trans k1, (hS2.I 25 1 (by unfold WI; omega)).trans k2, by rw [← hN]; simp -implicitDefEqProofs (disch := omega) only [mK_sI, mK_sJ, mK_sR, mK_cpI, mL_sI, mL_sJ, mL_sR, mL_cpI, mI_sI, mI_sJ, mI_sR, mI_cpI, mJ_sI, mJ_sJ, mJ_sR, mJ_cpI, mR_sI, mR_sJ, mR_sR, mR_cpI, eqN_T, eqN_F, if_true, if_false, and_true, true_and, and_false, false_and, or_true, true_or, or_false, false_or, not_true_eq_false, not_false_eq_true, and_self, or_self, tn_c, ne_eq, dite_true, dite_false]; refine congrArg iI ?_; omega, n3⟩ (hb.sm hS2 (by unfold WI; omega)) hb2 hu (by omega) (bits_lt _ _ _) (bits_lt _ _ _)
    simp -implicitDefEqProofs (disch := omega) only [fX11_readInTurn, c1, c3, c4, t20, l0, k0, e1, e2, iJ_I, n1, n4, n25, n3, bo_s, bd_s, bn_s, gI_s, gJ_s, gR_s, pI_s, pZ_s, pJ_s, pR_s, chk_s, chN_s, chN_n, aL_s, aI_c, aJ_c, aR_c, wI_c, wB_c, wS_c, wZ_c, wJ_c, wR_c, mK_sI, mK_sJ, mK_sR, mK_cpI, mL_sI, mL_sJ, mL_sR, mL_cpI, mI_sI, mI_sJ, mI_sR, mI_cpI, mJ_sI, mJ_sJ, mJ_sR, mJ_cpI, mR_sI, mR_sJ, mR_sR, mR_cpI, i2b_i2b, i2b_sb, iI_lit, iI_add, iI_sub, iI_mul, iI_neg, iI_lt, iI_le, iI_eq, iI_J, lt_T, lt_F, le_T, le_F, eq_T, eq_F, eqN_T, eqN_F, leN_T, leN_F, ltN_T, ltN_F, if_true, if_false, and_true, true_and, and_false, false_and, or_true, true_or, or_false, false_or, not_true_eq_false, not_false_eq_true, and_self, or_self, tn_c, ne_eq, dite_true, dite_false]
    exact ⟨v, O, e3, hS2.tr hS3, fun h => hA (hR ▸ h), fun n w h => hB n w (hR ▸ h)⟩
end TURN
def wl (u : Nat → Nat) (a : Nat) : Nat := if u a ≤ 127 then u a else (u a - 126) / 2
def wraw (u : Nat → Nat) (a : Nat) : Option (Nat × (Nat → Nat)) :=
  if u a ≤ 127 then (match rdT u (a + 1) (a + 1 + u a) 255 6 with
    | none => none
    | some x => if a + 1 + u a ≤ x.1 ∨ u (a + 1 + u a - 1) = 0 then none else inT u x.1 (8 * (a + 1 + u a - 1 - x.1) + Nat.log2 (u (a + 1 + u a - 1))) x.2)
  else some (u a - 127, hv u (a + 1))
def rdW (u : Nat → Nat) (a g : Nat) : Option (Nat × Nat × Nat × (Nat → Nat)) :=
  if g ≤ a then none else if g < a + 1 + wl u a then none else match wraw u a with
    | none => none
    | some x => match cmpW x.1 x.2 with
      | none => none
      | some y => some (a + 1 + wl u a, y)
theorem wraw_ok {u : Nat → Nat} {a n : Nat} {w : Nat → Nat} (h : wraw u a = some (n, w)) (hu : ∀ i, u i < 256) : n ≤ 255 ∧ ∀ i, i < n → w i < 256 := by
  have hua := hu a
  unfold wraw at h
  split at h
  · cases hT : rdT u (a + 1) (a + 1 + u a) 255 6 with
    | none => rw [hT] at h; cases h
    | some x =>
      obtain ⟨p, T⟩ := x
      rw [hT] at h
      have hTR := rdT_R hT (by omega) (by omega)
      dsimp only at h
      split at h
      · cases h
      · unfold inT at h
        split at h
        · cases h
        · obtain ⟨h1, h2⟩ := trn_ok hTR h (bits_lt _ _ _) (bits_lt _ _ _) (fun i hi => by omega)
          exact ⟨by omega, h2⟩
  · have h1 := congrArg Prod.fst (Option.some.inj h)
    have h2 := congrArg Prod.snd (Option.some.inj h)
    dsimp only at h1 h2
    rw [← h1, ← h2]
    refine ⟨by omega, fun i _ => ?_⟩
    unfold hv
    have := hu (a + 1 + i / 2)
    split <;> omega
theorem sW_congr {w v : Nat → Nat} : ∀ {n}, (∀ i, i < n → w i = v i) → sW w n = sW v n := by
  intro n
  induction n with
  | zero => intro _; rfl
  | succ n ih => intro h; rw [sW, sW, ih fun i hi => h i (by omega), h n (by omega)]
theorem sW_ge {w : Nat → Nat} {i : Nat} (h0 : w i ≠ 0) : ∀ {n}, i < n → 2 ^ (w i - 1) ≤ sW w n := by
  intro n
  induction n with
  | zero => intro h; omega
  | succ n ih =>
    intro hi
    rw [sW]
    by_cases e : i = n
    · subst e
      rw [if_neg h0]; omega
    · have := ih (by omega)
      omega
set_option maxRecDepth 100000 in
theorem pw_2 : ∀ r, r < 2049 → r ≠ 0 → r &&& (r - 1) = 0 → 2 ^ Nat.log2 r = r := by decide +kernel
/-- a CODE's weights: most bits, how many, which -/
abbrev WO (m k : Nat) (w : Nat → Nat) : Prop := 1 ≤ m ∧ m ≤ 11 ∧ 0 < k ∧ k ≤ 256 ∧ (∀ i, i < k → w i ≤ m) ∧ sW w k = 2 ^ m
theorem cmpW_ok {n m k : Nat} {w w' : Nat → Nat} (h : cmpW n w = some (m, k, w')) (hn : n ≤ 255) : WO m k w' := by
  unfold cmpW at h
  split at h
  · cases h
  · rename_i ha
    have ha := eq_true_of_ne_false ha
    split at h
    · cases h
    · rename_i h0
      split at h
      · cases h
      · rename_i hm
        split at h
        · cases h
        · rename_i hp
          have l1 := log2_l h0
          have l2 := log2_u (sW w n)
          have l3 : 2 ^ (Nat.log2 (sW w n) + 1) ≤ 2 ^ 11 := pow_le2 (by omega)
          cases h
          generalize hs : sW w n = s at *
          obtain ⟨r, hr⟩ : ∃ r, 2 ^ (Nat.log2 s + 1) - s = r := ⟨_, rfl⟩
          rw [hr] at hp ⊢
          rw [Nat.pow_succ] at *
          have e1 := pw_2 r (by omega) (by omega) (by omega)
          have e2 : Nat.log2 r ≤ Nat.log2 s := by
            have : 2 ^ Nat.log2 r < 2 ^ (Nat.log2 s + 1) := by rw [e1, Nat.pow_succ]; omega
            have := pow_lt2 this
            omega
          refine ⟨by omega, by omega, by omega, by omega, fun i hi => ?_, ?_⟩
          · unfold uN
            split
            · omega
            · by_cases z : w i = 0
              · omega
              · have := sW_ge z (n := n) (by omega)
                rw [hs] at this
                have : 2 ^ (w i - 1) < 2 ^ (Nat.log2 s + 1) := by rw [Nat.pow_succ]; omega
                have := pow_lt2 this
                omega
          · rw [sW, sW_congr (w := uN w n (Nat.log2 r + 1)) (v := w) fun i hi => if_neg (by omega), hs]
            unfold uN
            rw [if_pos rfl, if_neg (by omega), Nat.add_sub_cancel, e1, Nat.pow_succ]
            omega
theorem rdW_ok {u : Nat → Nat} {a g p m k : Nat} {w : Nat → Nat} (h : rdW u a g = some (p, m, k, w)) (hu : ∀ i, u i < 256) : a < p ∧ p ≤ g ∧ WO m k w := by
  unfold rdW at h
  split at h
  · cases h
  · split at h
    · cases h
    · cases hr : wraw u a with
      | none => rw [hr] at h; cases h
      | some x =>
        obtain ⟨n, w1⟩ := x
        rw [hr] at h
        have h1 := wraw_ok hr hu
        dsimp only at h
        cases hc : cmpW n w1 with
        | none => rw [hc] at h; cases h
        | some y =>
          obtain ⟨m', k', w'⟩ := y
          rw [hc] at h
          cases h
          exact ⟨by omega, by omega, cmpW_ok hc h1.1⟩
theorem wread_ok {M : Mem} {r rb rn e a g : Nat} {u : Nat → Nat} (hC : CW M) (hr : RS M r rb rn) (hb : BV M rb rn e u) (hr2 : r < 18 ∨ 29 < r) (hb2 : rb < 18 ∨ 29 < rb) (hu : ∀ i, u i < 256) (hg : g ≤ e) (ha : a < 1000000) :
    Wp (fX11_read (some 18) (some r) (iI a) (iI g) M) fun v N => Sm WW M N ∧ (rdW u a g = none → v = iI (-1)) ∧ ∀ p m k w, rdW u a g = some (p, m, k, w) → v = iI p ∧ mI N 18 2 = iI m ∧ WV N k w := by
  have g3 := hb.2.2.1
  have g4 := hb.2.2.2.1
  by_cases c1 : g ≤ a
  · have hR : rdW u a g = none := by unfold rdW; rw [if_pos c1]
    simp -implicitDefEqProofs (disch := omega) only [fX11_read, bo_s, bd_s, bn_s, gI_s, gJ_s, gR_s, pI_s, pZ_s, pJ_s, pR_s, chk_s, chN_s, chN_n, aL_s, aI_c, aJ_c, aR_c, wI_c, wB_c, wS_c, wZ_c, wJ_c, wR_c, mK_sI, mK_sJ, mK_sR, mK_cpI, mL_sI, mL_sJ, mL_sR, mL_cpI, mI_sI, mI_sJ, mI_sR, mI_cpI, mJ_sI, mJ_sJ, mJ_sR, mJ_cpI, mR_sI, mR_sJ, mR_sR, mR_cpI, i2b_i2b, i2b_sb, iI_lit, iI_add, iI_sub, iI_mul, iI_neg, iI_lt, iI_le, iI_eq, iI_J, lt_T, lt_F, le_T, le_F, eq_T, eq_F, eqN_T, eqN_F, leN_T, leN_F, ltN_T, ltN_F, if_true, if_false, and_true, true_and, and_false, false_and, or_true, true_or, or_false, false_or, not_true_eq_false, not_false_eq_true, and_self, or_self, tn_c, ne_eq, dite_true, dite_false]
    refine w_ret ⟨Sm.rf, fun _ => rfl, fun p m k w h => ?_⟩
    rw [hR] at h; cases h
  · have hua := hu a
    have r1 := hr.1
    have e1 := get_ok hr (a : Int) (by omega) (by omega)
    rw [gB_u (hb.rd (i := (a : Int)) (j := a) rfl (by omega)) hua (by omega)] at e1
    have hwl : wl u a ≤ 127 := by unfold wl; split <;> omega
    -- both ways come to L36
    have key : Wp (fX11_read_L36 (some 18) (some r) (iI a) (iI g) (iI (u a)) (iI ((a : Int) + 1)) (iI (wl u a)) M) fun v N => Sm WW M N ∧ (rdW u a g = none → v = iI (-1)) ∧ ∀ p m k w, rdW u a g = some (p, m, k, w) → v = iI p ∧ mI N 18 2 = iI m ∧ WV N k w := by
      by_cases c2 : g < a + 1 + wl u a
      · have hR : rdW u a g = none := by unfold rdW; rw [if_neg c1, if_pos c2]
        simp -implicitDefEqProofs (disch := omega) only [fX11_read_L36, bo_s, bd_s, bn_s, gI_s, gJ_s, gR_s, pI_s, pZ_s, pJ_s, pR_s, chk_s, chN_s, chN_n, aL_s, aI_c, aJ_c, aR_c, wI_c, wB_c, wS_c, wZ_c, wJ_c, wR_c, mK_sI, mK_sJ, mK_sR, mK_cpI, mL_sI, mL_sJ, mL_sR, mL_cpI, mI_sI, mI_sJ, mI_sR, mI_cpI, mJ_sI, mJ_sJ, mJ_sR, mJ_cpI, mR_sI, mR_sJ, mR_sR, mR_cpI, i2b_i2b, i2b_sb, iI_lit, iI_add, iI_sub, iI_mul, iI_neg, iI_lt, iI_le, iI_eq, iI_J, lt_T, lt_F, le_T, le_F, eq_T, eq_F, eqN_T, eqN_F, leN_T, leN_F, ltN_T, ltN_F, if_true, if_false, and_true, true_and, and_false, false_and, or_true, true_or, or_false, false_or, not_true_eq_false, not_false_eq_true, and_self, or_self, tn_c, ne_eq, dite_true, dite_false]
        refine w_ret ⟨Sm.rf, fun _ => rfl, fun p m k w h => ?_⟩
        rw [hR] at h; cases h
      · have hR : rdW u a g = match wraw u a with
            | none => none
            | some x => match cmpW x.1 x.2 with
              | none => none
              | some y => some (a + 1 + wl u a, y) := by unfold rdW; rw [if_neg c1, if_neg c2]
        have last : ∀ N n w, wraw u a = some (n, w) → Sm WW M N → WV N n w → Wp (fX11_read_L119 (some 18) (iI ((a : Int) + 1 + wl u a)) N) fun v N => Sm WW M N ∧ (rdW u a g = none → v = iI (-1)) ∧ ∀ p m k w, rdW u a g = some (p, m, k, w) → v = iI p ∧ mI N 18 2 = iI m ∧ WV N k w := by
          intro N n w hw hS hV
          have hC' := hC.sm hS (by unfold WW; omega)
          have d1 := hC'.1
          obtain ⟨o1, o2⟩ := wraw_ok hw hu
          obtain ⟨v, O, e2, hS2, hA, hB⟩ := complete_ok hC' hV o1 o2
          rw [hw] at hR
          dsimp only at hR
          have hS3 : Sm WW M O := hS.tr (hS2.weak (by unfold WC WW; omega))
          cases hc : cmpW n w with
          | none =>
            rw [hc] at hR
            have hv := hA hc
            subst hv
            simp -implicitDefEqProofs (disch := omega) only [fX11_read_L119, fX11_read_L132, d1, e2, bo_s, bd_s, bn_s, gI_s, gJ_s, gR_s, pI_s, pZ_s, pJ_s, pR_s, chk_s, chN_s, chN_n, aL_s, aI_c, aJ_c, aR_c, wI_c, wB_c, wS_c, wZ_c, wJ_c, wR_c, mK_sI, mK_sJ, mK_sR, mK_cpI, mL_sI, mL_sJ, mL_sR, mL_cpI, mI_sI, mI_sJ, mI_sR, mI_cpI, mJ_sI, mJ_sJ, mJ_sR, mJ_cpI, mR_sI, mR_sJ, mR_sR, mR_cpI, i2b_i2b, i2b_sb, iI_lit, iI_add, iI_sub, iI_mul, iI_neg, iI_lt, iI_le, iI_eq, iI_J, lt_T, lt_F, le_T, le_F, eq_T, eq_F, eqN_T, eqN_F, leN_T, leN_F, ltN_T, ltN_F, if_true, if_false, and_true, true_and, and_false, false_and, or_true, true_or, or_false, false_or, not_true_eq_false, not_false_eq_true, and_self, or_self, tn_c, ne_eq, dite_true, dite_false]
            refine w_ret ⟨hS3, fun _ => rfl, fun p m k w h => ?_⟩
            rw [hR] at h; cases h
          | some y =>
            obtain ⟨m, k, w'⟩ := y
            rw [hc] at hR
            obtain ⟨hv, b1, b2⟩ := hB _ _ _ hc
            subst hv
            simp -implicitDefEqProofs (disch := omega) only [fX11_read_L119, fX11_read_L132, d1, e2, bo_s, bd_s, bn_s, gI_s, gJ_s, gR_s, pI_s, pZ_s, pJ_s, pR_s, chk_s, chN_s, chN_n, aL_s, aI_c, aJ_c, aR_c, wI_c, wB_c, wS_c, wZ_c, wJ_c, wR_c, mK_sI, mK_sJ, mK_sR, mK_cpI, mL_sI, mL_sJ, mL_sR, mL_cpI, mI_sI, mI_sJ, mI_sR, mI_cpI, mJ_sI, mJ_sJ, mJ_sR, mJ_cpI, mR_sI, mR_sJ, mR_sR, mR_cpI, i2b_i2b, i2b_sb, iI_lit, iI_add, iI_sub, iI_mul, iI_neg, iI_lt, iI_le, iI_eq, iI_J, lt_T, lt_F, le_T, le_F, eq_T, eq_F, eqN_T, eqN_F, leN_T, leN_F, ltN_T, ltN_F, if_true, if_false, and_true, true_and, and_false, false_and, or_true, true_or, or_false, false_or, not_true_eq_false, not_false_eq_true, and_self, or_self, tn_c, ne_eq, dite_true, dite_false]
            refine w_ret ⟨hS3, fun h => (by rw [hR] at h; cases h), fun p m' k' w'' h => ?_⟩
            rw [hR] at h
            cases h
            exact ⟨rfl, b1, b2⟩
        by_cases c3 : u a ≤ 127
        · have hwl2 : wl u a = u a := if_pos c3
          have hraw : wraw u a = match rdT u (a + 1) (a + 1 + u a) 255 6 with
              | none => none
              | some x => if a + 1 + u a ≤ x.1 ∨ u (a + 1 + u a - 1) = 0 then none else inT u x.1 (8 * (a + 1 + u a - 1 - x.1) + Nat.log2 (u (a + 1 + u a - 1))) x.2 := by unfold wraw; rw [if_pos c3]
          rw [hwl2] at c2 hR last ⊢
          obtain ⟨G, hG⟩ : ∃ G, a + 1 + u a = G := ⟨_, rfl⟩
          have eG : (a : Int) + 1 + u a = G := by omega
          rw [hG] at hraw c2 hR
          rw [eG] at last
          obtain ⟨d1, d2, d3, d4, d5, d6, hTS, d8⟩ := hC
          have t20 := hTS.1
          obtain ⟨v, N, e2, hA, hB⟩ := read_ok (M := M) (t := 20) (r := r) (a := a + 1) (g := G) (gr := 255) (most := 6) hTS hr hb (by omega) (by omega) hu (by omega) (by omega) (by omega) (by omega)
          rw [show ((a + 1 : Nat) : Int) = (a : Int) + 1 by omega, show ((255 : Nat) : Int) = 255 from rfl, show ((6 : Nat) : Int) = 6 from rfl] at e2
          cases hT : rdT u (a + 1) G 255 6 with
          | none =>
            obtain ⟨rfl, hS⟩ := hA hT
            rw [hT] at hraw
            rw [hraw] at hR
            simp -implicitDefEqProofs (disch := omega) only [fX11_read_L36, fX11_read_L117, eG, d1, d3, t20, e2, bo_s, bd_s, bn_s, gI_s, gJ_s, gR_s, pI_s, pZ_s, pJ_s, pR_s, chk_s, chN_s, chN_n, aL_s, aI_c, aJ_c, aR_c, wI_c, wB_c, wS_c, wZ_c, wJ_c, wR_c, mK_sI, mK_sJ, mK_sR, mK_cpI, mL_sI, mL_sJ, mL_sR, mL_cpI, mI_sI, mI_sJ, mI_sR, mI_cpI, mJ_sI, mJ_sJ, mJ_sR, mJ_cpI, mR_sI, mR_sJ, mR_sR, mR_cpI, i2b_i2b, i2b_sb, iI_lit, iI_add, iI_sub, iI_mul, iI_neg, iI_lt, iI_le, iI_eq, iI_J, lt_T, lt_F, le_T, le_F, eq_T, eq_F, eqN_T, eqN_F, leN_T, leN_F, ltN_T, ltN_F, if_true, if_false, and_true, true_and, and_false, false_and, or_true, true_or, or_false, false_or, not_true_eq_false, not_false_eq_true, and_self, or_self, tn_c, ne_eq, dite_true, dite_false]
            refine w_ret ⟨hS.weak (by unfold WN WW; omega), fun _ => rfl, fun p m k w h => ?_⟩
            rw [hR] at h; cases h
          | some x =>
            obtain ⟨st, T⟩ := x
            obtain ⟨rfl, hS, hTV⟩ := hB _ _ hT
            have hTR := rdT_R hT (by omega) (by omega)
            obtain ⟨-, -, -, -, -, t1, t2, -⟩ := rdT_ok hT (by omega) (by omega)
            have hSW : Sm WW M N := hS.weak (by unfold WT WW; omega)
            have hC' := (show CW M from ⟨d1, d2, d3, d4, d5, d6, hTS, d8⟩).sm hSW (by unfold WW; omega)
            have hr' := hr.sm hSW (by unfold WW; omega)
            have hb' := hb.sm hSW (by unfold WW; omega)
            obtain ⟨f1, f2, f3, f4, f5, f6, fTS, f8⟩ := hC'
            rw [hT] at hraw
            dsimp only at hraw
            by_cases c4 : G ≤ st ∨ u (G - 1) = 0
            · rw [if_pos c4] at hraw
              rw [hraw] at hR
              obtain ⟨v, O, e3, rfl, hS2, -⟩ := begin_no (k := 25) f8 hr' hb' hu (by omega) (by omega) c4
              simp -implicitDefEqProofs (disch := omega) only [fX11_read_L36, fX11_read_L117, eG, d1, d3, t20, e2, f1, f4, f8, e3, bo_s, bd_s, bn_s, gI_s, gJ_s, gR_s, pI_s, pZ_s, pJ_s, pR_s, chk_s, chN_s, chN_n, aL_s, aI_c, aJ_c, aR_c, wI_c, wB_c, wS_c, wZ_c, wJ_c, wR_c, mK_sI, mK_sJ, mK_sR, mK_cpI, mL_sI, mL_sJ, mL_sR, mL_cpI, mI_sI, mI_sJ, mI_sR, mI_cpI, mJ_sI, mJ_sJ, mJ_sR, mJ_cpI, mR_sI, mR_sJ, mR_sR, mR_cpI, i2b_i2b, i2b_sb, iI_lit, iI_add, iI_sub, iI_mul, iI_neg, iI_lt, iI_le, iI_eq, iI_J, lt_T, lt_F, le_T, le_F, eq_T, eq_F, eqN_T, eqN_F, leN_T, leN_F, ltN_T, ltN_F, if_true, if_false, and_true, true_and, and_false, false_and, or_true, true_or, or_false, false_or, not_true_eq_false, not_false_eq_true, and_self, or_self, tn_c, ne_eq, dite_true, dite_false]
              refine w_ret ⟨hSW.tr (hS2.weak (by unfold WW; omega)), fun _ => rfl, fun p m k w h => ?_⟩
              rw [hR] at h; cases h
            · rw [if_neg c4] at hraw
              obtain ⟨v, O, e3, rfl, hS2, hK⟩ := begin_ok (k := 25) (f := st) (g := G) f8 hr' hb' hu (by omega) (by omega) (by omega)
              have hSO : Sm WW M O := hSW.tr (hS2.weak (by unfold WW; omega))
              have hC2 := (show CW M from ⟨d1, d2, d3, d4, d5, d6, hTS, d8⟩).sm hSO (by unfold WW; omega)
              have hb2' := hb.sm hSO (by unfold WW; omega)
              have hlg : Nat.log2 (u (G - 1)) < 8 := by
                have := log2_l (a := u (G - 1)) (by omega)
                have := hu (G - 1)
                exact pow_lt2 (b := 8) (by omega)
              have hTV2 : TbV O 20 T := ⟨(hS2.I 20 0 (by omega)).trans hTV.1, fun q hq => (hS2.I 21 q (by omega)).trans (hTV.2 q hq)⟩
              obtain ⟨v, P, e4, hS3, hA3, hB3⟩ := readInTurn_ok hC2 hTV2 hTR hK hb2' (by omega) hu (by omega)
              have q1 := hC2.1
              have hSP : Sm WW M P := hSO.tr (hS3.weak (by unfold WI WW; omega))
              cases hI : inT u st (8 * (G - 1 - st) + Nat.log2 (u (G - 1))) T with
              | none =>
                have hv := hA3 hI
                subst hv
                rw [hI] at hraw
                rw [hraw] at hR
                simp -implicitDefEqProofs (disch := omega) only [fX11_read_L36, fX11_read_L117, eG, d1, d3, t20, e2, f1, f4, f8, e3, q1, e4, bo_s, bd_s, bn_s, gI_s, gJ_s, gR_s, pI_s, pZ_s, pJ_s, pR_s, chk_s, chN_s, chN_n, aL_s, aI_c, aJ_c, aR_c, wI_c, wB_c, wS_c, wZ_c, wJ_c, wR_c, mK_sI, mK_sJ, mK_sR, mK_cpI, mL_sI, mL_sJ, mL_sR, mL_cpI, mI_sI, mI_sJ, mI_sR, mI_cpI, mJ_sI, mJ_sJ, mJ_sR, mJ_cpI, mR_sI, mR_sJ, mR_sR, mR_cpI, i2b_i2b, i2b_sb, iI_lit, iI_add, iI_sub, iI_mul, iI_neg, iI_lt, iI_le, iI_eq, iI_J, lt_T, lt_F, le_T, le_F, eq_T, eq_F, eqN_T, eqN_F, leN_T, leN_F, ltN_T, ltN_F, if_true, if_false, and_true, true_and, and_false, false_and, or_true, true_or, or_false, false_or, not_true_eq_false, not_false_eq_true, and_self, or_self, tn_c, ne_eq, dite_true, dite_false]
                refine w_ret ⟨hSP, fun _ => rfl, fun p m k w h => ?_⟩
                rw [hR] at h; cases h
              | some x =>
                obtain ⟨n, w⟩ := x
                obtain ⟨hv, hV⟩ := hB3 _ _ hI
                subst hv
                rw [hI] at hraw
                have := last P n w hraw hSP hV
                simp -implicitDefEqProofs (disch := omega) only [fX11_read_L36, fX11_read_L117, eG, d1, d3, t20, e2, f1, f4, f8, e3, q1, e4, bo_s, bd_s, bn_s, gI_s, gJ_s, gR_s, pI_s, pZ_s, pJ_s, pR_s, chk_s, chN_s, chN_n, aL_s, aI_c, aJ_c, aR_c, wI_c, wB_c, wS_c, wZ_c, wJ_c, wR_c, mK_sI, mK_sJ, mK_sR, mK_cpI, mL_sI, mL_sJ, mL_sR, mL_cpI, mI_sI, mI_sJ, mI_sR, mI_cpI, mJ_sI, mJ_sJ, mJ_sR, mJ_cpI, mR_sI, mR_sJ, mR_sR, mR_cpI, i2b_i2b, i2b_sb, iI_lit, iI_add, iI_sub, iI_mul, iI_neg, iI_lt, iI_le, iI_eq, iI_J, lt_T, lt_F, le_T, le_F, eq_T, eq_F, eqN_T, eqN_F, leN_T, leN_F, ltN_T, ltN_F, if_true, if_false, and_true, true_and, and_false, false_and, or_true, true_or, or_false, false_or, not_true_eq_false, not_false_eq_true, and_self, or_self, tn_c, ne_eq, dite_true, dite_false]
                exact this
        · have hraw : wraw u a = some (u a - 127, hv u (a + 1)) := by unfold wraw; rw [if_neg c3]
          have hwl2 : wl u a = (u a - 126) / 2 := if_neg c3
          have d1 := hC.1
          obtain ⟨v, N, e2, hS, hV⟩ := readHalves_ok (n := u a - 127) (a := a + 1) hC hr hb (by omega) (by omega) hu (by omega) (by omega)
          rw [show ((a + 1 : Nat) : Int) = (a : Int) + 1 by omega, show ((u a - 127 : Nat) : Int) = (u a : Int) - 127 by omega] at e2
          have := last N _ _ hraw (hS.weak (by unfold WC WW; omega)) hV
          simp -implicitDefEqProofs (disch := omega) only [fX11_read_L36, d1, e2, bo_s, bd_s, bn_s, gI_s, gJ_s, gR_s, pI_s, pZ_s, pJ_s, pR_s, chk_s, chN_s, chN_n, aL_s, aI_c, aJ_c, aR_c, wI_c, wB_c, wS_c, wZ_c, wJ_c, wR_c, mK_sI, mK_sJ, mK_sR, mK_cpI, mL_sI, mL_sJ, mL_sR, mL_cpI, mI_sI, mI_sJ, mI_sR, mI_cpI, mJ_sI, mJ_sJ, mJ_sR, mJ_cpI, mR_sI, mR_sJ, mR_sR, mR_cpI, i2b_i2b, i2b_sb, iI_lit, iI_add, iI_sub, iI_mul, iI_neg, iI_lt, iI_le, iI_eq, iI_J, lt_T, lt_F, le_T, le_F, eq_T, eq_F, eqN_T, eqN_F, leN_T, leN_F, ltN_T, ltN_F, if_true, if_false, and_true, true_and, and_false, false_and, or_true, true_or, or_false, false_or, not_true_eq_false, not_false_eq_true, and_self, or_self, tn_c, ne_eq, dite_true, dite_false]
          exact this
    by_cases c3 : u a ≤ 127
    · have hwl2 : wl u a = u a := if_pos c3
      rw [hwl2] at key
      simp -implicitDefEqProofs (disch := omega) only [fX11_read, r1, e1, bo_s, bd_s, bn_s, gI_s, gJ_s, gR_s, pI_s, pZ_s, pJ_s, pR_s, chk_s, chN_s, chN_n, aL_s, aI_c, aJ_c, aR_c, wI_c, wB_c, wS_c, wZ_c, wJ_c, wR_c, mK_sI, mK_sJ, mK_sR, mK_cpI, mL_sI, mL_sJ, mL_sR, mL_cpI, mI_sI, mI_sJ, mI_sR, mI_cpI, mJ_sI, mJ_sJ, mJ_sR, mJ_cpI, mR_sI, mR_sJ, mR_sR, mR_cpI, i2b_i2b, i2b_sb, iI_lit, iI_add, iI_sub, iI_mul, iI_neg, iI_lt, iI_le, iI_eq, iI_J, lt_T, lt_F, le_T, le_F, eq_T, eq_F, eqN_T, eqN_F, leN_T, leN_F, ltN_T, ltN_F, if_true, if_false, and_true, true_and, and_false, false_and, or_true, true_or, or_false, false_or, not_true_eq_false, not_false_eq_true, and_self, or_self, tn_c, ne_eq, dite_true, dite_false]
      exact key
    · have hwl2 : (wl u a : Int) = ((u a : Int) - 126) / 2 := by unfold wl; rw [if_neg c3]; omega
      rw [hwl2] at key
      simp -implicitDefEqProofs (disch := omega) only [fX11_read, r1, e1, dv_i, bo_s, bd_s, bn_s, gI_s, gJ_s, gR_s, pI_s, pZ_s, pJ_s, pR_s, chk_s, chN_s, chN_n, aL_s, aI_c, aJ_c, aR_c, wI_c, wB_c, wS_c, wZ_c, wJ_c, wR_c, mK_sI, mK_sJ, mK_sR, mK_cpI, mL_sI, mL_sJ, mL_sR, mL_cpI, mI_sI, mI_sJ, mI_sR, mI_cpI, mJ_sI, mJ_sJ, mJ_sR, mJ_cpI, mR_sI, mR_sJ, mR_sR, mR_cpI, i2b_i2b, i2b_sb, iI_lit, iI_add, iI_sub, iI_mul, iI_neg, iI_lt, iI_le, iI_eq, iI_J, lt_T, lt_F, le_T, le_F, eq_T, eq_F, eqN_T, eqN_F, leN_T, leN_F, ltN_T, ltN_F, if_true, if_false, and_true, true_and, and_false, false_and, or_true, true_or, or_false, false_or, not_true_eq_false, not_false_eq_true, and_self, or_self, tn_c, ne_eq, dite_true, dite_false]
      exact key
