/-! the run of SEQUENCES: the class's, all of it -/
def tkS (Ts : Nat → Tb) (L : Nat) : Nat → Nat
  | 0 => L
  | k + 1 => tkL (tkS Ts L k) (Ts k).1
def zS (Ts : Nat → Tb) (L : Nat) : Nat → Nat
  | 0 => 0
  | k + 1 => tkZ (tkS Ts L k) (Ts k).1 (zS Ts L k)
theorem tkS_le (Ts : Nat → Tb) (L : Nat) : ∀ k, tkS Ts L k ≤ L
  | 0 => Nat.le_refl _
  | k + 1 => Nat.le_trans (tkL_le _ _) (tkS_le Ts L k)
abbrev FR0 (M : Mem) (m mb cr cb cn cs ff : Nat) (ct : Nat → Nat) (lim span : Nat) : Prop := mR M 134 10 = some m ∧ mR M 134 11 = some cr ∧ RV M cr cb cn cs ct ∧ mI M 134 12 = iI ff ∧ mI M 134 13 = iI lim ∧ mJ M 134 14 = iJ span
def WCr (m mb a j : Nat) : Prop := WRo m mb a j ∨ (a = 134 ∧ (j = 17 ∨ j = 18)) ∨ a = 140 ∨ (a = 30 ∧ j ≤ 1)
theorem WCr_fx {m mb : Nat} (hm : m = 12 ∨ m = 14 ∨ m = 16) (hb : mb = m + 1) : ∀ a j, WCr m mb a j → 10 ≤ a ∧ ¬ fx a j := by
  rintro a j (h | ⟨rfl, h⟩ | rfl | ⟨rfl, h⟩)
  · exact WRo_fx hm hb a j h
  · exact ⟨by omega, fx_of 134 0 0 9 rfl rfl rfl (by omega)⟩
  · by_cases q : WRo m mb 140 j
    · exact WRo_fx hm hb _ _ q
    · exact ⟨by omega, fx_of 140 0 1 0 rfl rfl rfl (by omega)⟩
  · exact ⟨by omega, fx_of 30 0 2 3 rfl rfl rfl (by omega)⟩
section CRUN2
variable {M : Mem} {Ts : Nat → Tb} {r rb rn e m mb cr cb cn cs ff lim span blk cnt us t ts many p g : Nat} {u ct ls old w rr : Nat → Nat} {nt : Nat → Nat → Int}
theorem none_ok (k134 : mK M 134 = 9) (h : mI M 134 15 = iI many) (hm : many < 1000000) : fX9_none (some 134) M = some (iI (if many = 0 then 1 else 0 : Nat), M) := by
  by_cases c : many = 0
  · rw [if_pos c]
    simp -implicitDefEqProofs (disch := omega) only [fX9_none, fX9_none_L12, k134, h, rtZ, bo_s, bd_s, bn_s, gI_s, gJ_s, gR_s, pI_s, pZ_s, pJ_s, pR_s, chk_s, chN_s, chN_n, aL_s, aI_c, aJ_c, aR_c, wI_c, wB_c, wS_c, wZ_c, wJ_c, wR_c, mK_sI, mK_sJ, mK_sR, mK_cpI, mL_sI, mL_sJ, mL_sR, mL_cpI, mI_sI, mI_sJ, mI_sR, mI_cpI, mJ_sI, mJ_sJ, mJ_sR, mJ_cpI, mR_sI, mR_sJ, mR_sR, mR_cpI, i2b_i2b, i2b_sb, iI_lit, iI_add, iI_sub, iI_mul, iI_neg, iI_lt, iI_le, iI_eq, iI_J, lt_T, lt_F, le_T, le_F, eq_T, eq_F, eqN_T, eqN_F, leN_T, leN_F, ltN_T, ltN_F, if_true, if_false, and_true, true_and, and_false, false_and, or_true, true_or, or_false, false_or, not_true_eq_false, not_false_eq_true, and_self, or_self, tn_c, ne_eq, dite_true, dite_false]
    rfl
  · rw [if_neg c]
    simp -implicitDefEqProofs (disch := omega) only [fX9_none, fX9_none_L12, k134, h, rtZ, bo_s, bd_s, bn_s, gI_s, gJ_s, gR_s, pI_s, pZ_s, pJ_s, pR_s, chk_s, chN_s, chN_n, aL_s, aI_c, aJ_c, aR_c, wI_c, wB_c, wS_c, wZ_c, wJ_c, wR_c, mK_sI, mK_sJ, mK_sR, mK_cpI, mL_sI, mL_sJ, mL_sR, mL_cpI, mI_sI, mI_sJ, mI_sR, mI_cpI, mJ_sI, mJ_sJ, mJ_sR, mJ_cpI, mR_sI, mR_sJ, mR_sR, mR_cpI, i2b_i2b, i2b_sb, iI_lit, iI_add, iI_sub, iI_mul, iI_neg, iI_lt, iI_le, iI_eq, iI_J, lt_T, lt_F, le_T, le_F, eq_T, eq_F, eqN_T, eqN_F, leN_T, leN_F, ltN_T, ltN_F, if_true, if_false, and_true, true_and, and_false, false_and, or_true, true_or, or_false, false_or, not_true_eq_false, not_false_eq_true, and_self, or_self, tn_c, ne_eq, dite_true, dite_false]
    rfl
abbrev W143 (m mb a j : Nat) : Prop := Rw m mb a j ∨ (a = 134 ∧ j = 18) ∨ (a = 30 ∧ j ≤ 1)
set_option maxHeartbeats 4000000 in
theorem run143 {L : Nat} (hm : m = 12 ∨ m = 14 ∨ m = 16) (hmb : mb = m + 1) (hC : CSt M) (f1 : mR M 134 10 = some m) (f5 : mI M 134 13 = iI lim) (f7 : mI M 134 17 = iI (ff + blk : Nat)) (hLt : RV M 126 127 8000 cnt ls) (hls : ∀ i, ls i < 256) (h18 : mI M 134 18 = iI us) (hV : RV M m mb 8000 (ff + t) (frW old w ff)) (h15 : mI M 134 15 = iI many) (h2 : many ≠ 0 → mI M 140 2 = iI L) (hmany : many < 1000000) (hL : L < 1000000) (hbt : blk ≤ t) (hff : ff + t < 300000) (hlim : lim ≤ 131072) (hcnt : cnt < 300000) (husc : us ≤ cnt) (hus : us ≤ ff + t) :
    Wp (fX9_run_L143 (some 134) (iI p) M) fun v N => Sm (W143 m mb) M N ∧
      ((v = iI 1 ∧ ¬ lim < t + (cnt - us) - blk ∧ (many = 0 ∨ L = 0) ∧ RV N m mb 8000 (ff + (t + (cnt - us))) (frW old (ptL w ls t us (cnt - us)) ff)) ∨ (v = iI 0 ∧ ¬ (¬ lim < t + (cnt - us) - blk ∧ (many = 0 ∨ L = 0)))) := by
  obtain ⟨k134, r134_7, k125, r125_0, k126⟩ : mK M 134 = 9 ∧ mR M 134 7 = some 125 ∧ mK M 125 = 4 ∧ mR M 125 0 = some 126 ∧ mK M 126 = 8 := ⟨hC.k 134 (by omega) (by omega), hC.r 134 7 (by omega) (by omega) (by decide), hC.k 125 (by omega) (by omega), hC.r 125 0 (by omega) (by omega) (by decide), hC.k 126 (by omega) (by omega)⟩
  obtain ⟨v1, N1, e1, hS1, hV1, h18'⟩ := putL_ok (n := cnt - us) hC f1 (by omega) (by omega) (by omega) hV hLt hls h18 hus (by omega) (by omega) (by omega)
  have hC1 := hC.sm hS1 fun a j h => WRo_fx hm hmb a j (by unfold WRo; rcases h with h | h <;> simp [h])
  have l1 := hLt.2.1
  have en : (cnt : Int) - us = ((cnt - us : Nat) : Int) := by omega
  have m1 := hV1.1.1
  have m11 := hV1.2.1
  have g5 := (hS1.I 134 13 (by unfold Rw; omega)).trans f5
  have g7 := (hS1.I 134 17 (by unfold Rw; omega)).trans f7
  have g1 := (hS1.R 134 10 (by unfold Rw; omega)).trans f1
  have g15 := (hS1.I 134 15 (by unfold Rw; omega)).trans h15
  have e5 := many_ok (x := ff + (t + (cnt - us))) hC1 g1 g5 g7 m1 m11 (by omega) (by omega) (by omega)
  rw [show ff + (t + (cnt - us)) - (ff + blk) = t + (cnt - us) - blk by omega] at e5
  obtain ⟨ak134, ar134_6, ar134_8, ak140, ak30⟩ : mK N1 134 = 9 ∧ mR N1 134 6 = some 30 ∧ mR N1 134 8 = some 140 ∧ mK N1 140 = 0 ∧ mK N1 30 = 7 := ⟨hC1.k 134 (by omega) (by omega), hC1.r 134 6 (by omega) (by omega) (by decide), hC1.r 134 8 (by omega) (by omega) (by decide), hC1.k 140 (by omega) (by omega), hC1.k 30 (by omega) (by omega)⟩
  have s1 : Sm (W143 m mb) M N1 := hS1.weak fun a j h => by unfold W143; rcases h with h | h <;> simp [h]
  have e6 := none_ok ak134 g15 hmany
  have bad : ∀ {x y : Int32}, Sm (W143 m mb) M (sI (sI N1 30 0 x) 30 1 y) := fun {x y} => Sm.sI (Sm.sI s1 (Or.inr (Or.inr ⟨rfl, by omega⟩))) (Or.inr (Or.inr ⟨rfl, by omega⟩))
  by_cases c1 : lim < t + (cnt - us) - blk
  · rw [if_pos c1, show ((1 : Nat) : Int) = 1 from rfl] at e5
    have e7 := fail_ok ak30 (iI 20) (iI p)
    clear hC hC1 hV hLt hS1 hV1
    simp -implicitDefEqProofs (disch := omega) only [fX9_run_L143, k134, r134_7, k125, r125_0, k126, l1, h18, en, e1, ak134, e5, ar134_6, ak30, e7, rtZ, bo_s, bd_s, bn_s, gI_s, gJ_s, gR_s, pI_s, pZ_s, pJ_s, pR_s, chk_s, chN_s, chN_n, aL_s, aI_c, aJ_c, aR_c, wI_c, wB_c, wS_c, wZ_c, wJ_c, wR_c, mK_sI, mK_sJ, mK_sR, mK_cpI, mL_sI, mL_sJ, mL_sR, mL_cpI, mI_sI, mI_sJ, mI_sR, mI_cpI, mJ_sI, mJ_sJ, mJ_sR, mJ_cpI, mR_sI, mR_sJ, mR_sR, mR_cpI, i2b_i2b, i2b_sb, iI_lit, iI_add, iI_sub, iI_mul, iI_neg, iI_lt, iI_le, iI_eq, iI_J, lt_T, lt_F, le_T, le_F, eq_T, eq_F, eqN_T, eqN_F, leN_T, leN_F, ltN_T, ltN_F, if_true, if_false, and_true, true_and, and_false, false_and, or_true, true_or, or_false, false_or, not_true_eq_false, not_false_eq_true, and_self, or_self, tn_c, ne_eq, dite_true, dite_false]
    exact w_ret ⟨bad, Or.inr ⟨rfl, fun h => h.1 c1⟩⟩
  · rw [if_neg c1, show ((0 : Nat) : Int) = 0 from rfl] at e5
    by_cases c2 : many = 0
    · rw [if_pos c2, show ((1 : Nat) : Int) = 1 from rfl] at e6
      have fin : Wp (some (iI 1, N1)) fun v N => Sm (W143 m mb) M N ∧
      ((v = iI 1 ∧ ¬ lim < t + (cnt - us) - blk ∧ (many = 0 ∨ L = 0) ∧ RV N m mb 8000 (ff + (t + (cnt - us))) (frW old (ptL w ls t us (cnt - us)) ff)) ∨ (v = iI 0 ∧ ¬ (¬ lim < t + (cnt - us) - blk ∧ (many = 0 ∨ L = 0)))) := w_ret ⟨s1, Or.inl ⟨rfl, c1, Or.inl c2, hV1⟩⟩
      clear hC hC1 hV hLt hS1 hV1 bad
      simp -implicitDefEqProofs (disch := omega) only [fX9_run_L143, fX9_run_L210, fX9_run_L215, k134, r134_7, k125, r125_0, k126, l1, h18, en, e1, ak134, e5, e6, rtZ, bo_s, bd_s, bn_s, gI_s, gJ_s, gR_s, pI_s, pZ_s, pJ_s, pR_s, chk_s, chN_s, chN_n, aL_s, aI_c, aJ_c, aR_c, wI_c, wB_c, wS_c, wZ_c, wJ_c, wR_c, mK_sI, mK_sJ, mK_sR, mK_cpI, mL_sI, mL_sJ, mL_sR, mL_cpI, mI_sI, mI_sJ, mI_sR, mI_cpI, mJ_sI, mJ_sJ, mJ_sR, mJ_cpI, mR_sI, mR_sJ, mR_sR, mR_cpI, i2b_i2b, i2b_sb, iI_lit, iI_add, iI_sub, iI_mul, iI_neg, iI_lt, iI_le, iI_eq, iI_J, lt_T, lt_F, le_T, le_F, eq_T, eq_F, eqN_T, eqN_F, leN_T, leN_F, ltN_T, ltN_F, if_true, if_false, and_true, true_and, and_false, false_and, or_true, true_or, or_false, false_or, not_true_eq_false, not_false_eq_true, and_self, or_self, tn_c, ne_eq, dite_true, dite_false]
      exact fin
    · rw [if_neg c2, show ((0 : Nat) : Int) = 0 from rfl] at e6
      have g2 := (hS1.I 140 2 (by unfold Rw; omega)).trans (h2 c2)
      by_cases c3 : L = 0
      · have fin : Wp (some (iI 1, N1)) fun v N => Sm (W143 m mb) M N ∧
        ((v = iI 1 ∧ ¬ lim < t + (cnt - us) - blk ∧ (many = 0 ∨ L = 0) ∧ RV N m mb 8000 (ff + (t + (cnt - us))) (frW old (ptL w ls t us (cnt - us)) ff)) ∨ (v = iI 0 ∧ ¬ (¬ lim < t + (cnt - us) - blk ∧ (many = 0 ∨ L = 0)))) := w_ret ⟨s1, Or.inl ⟨rfl, c1, Or.inr c3, hV1⟩⟩
        clear hC hC1 hV hLt hS1 hV1 bad
        simp -implicitDefEqProofs (disch := omega) only [fX9_run_L143, fX9_run_L210, fX9_run_L215, k134, r134_7, k125, r125_0, k126, l1, h18, en, e1, ak134, e5, e6, ar134_8, ak140, g2, rtZ, bo_s, bd_s, bn_s, gI_s, gJ_s, gR_s, pI_s, pZ_s, pJ_s, pR_s, chk_s, chN_s, chN_n, aL_s, aI_c, aJ_c, aR_c, wI_c, wB_c, wS_c, wZ_c, wJ_c, wR_c, mK_sI, mK_sJ, mK_sR, mK_cpI, mL_sI, mL_sJ, mL_sR, mL_cpI, mI_sI, mI_sJ, mI_sR, mI_cpI, mJ_sI, mJ_sJ, mJ_sR, mJ_cpI, mR_sI, mR_sJ, mR_sR, mR_cpI, i2b_i2b, i2b_sb, iI_lit, iI_add, iI_sub, iI_mul, iI_neg, iI_lt, iI_le, iI_eq, iI_J, lt_T, lt_F, le_T, le_F, eq_T, eq_F, eqN_T, eqN_F, leN_T, leN_F, ltN_T, ltN_F, if_true, if_false, and_true, true_and, and_false, false_and, or_true, true_or, or_false, false_or, not_true_eq_false, not_false_eq_true, and_self, or_self, tn_c, ne_eq, dite_true, dite_false]
        exact fin
      · have e7 := fail_ok ak30 (iI 17) (iI p)
        clear hC hC1 hV hLt hS1 hV1
        simp -implicitDefEqProofs (disch := omega) only [fX9_run_L143, fX9_run_L210, fX9_run_L215, k134, r134_7, k125, r125_0, k126, l1, h18, en, e1, ak134, e5, e6, ar134_8, ak140, g2, ar134_6, ak30, e7, rtZ, bo_s, bd_s, bn_s, gI_s, gJ_s, gR_s, pI_s, pZ_s, pJ_s, pR_s, chk_s, chN_s, chN_n, aL_s, aI_c, aJ_c, aR_c, wI_c, wB_c, wS_c, wZ_c, wJ_c, wR_c, mK_sI, mK_sJ, mK_sR, mK_cpI, mL_sI, mL_sJ, mL_sR, mL_cpI, mI_sI, mI_sJ, mI_sR, mI_cpI, mJ_sI, mJ_sJ, mJ_sR, mJ_cpI, mR_sI, mR_sJ, mR_sR, mR_cpI, i2b_i2b, i2b_sb, iI_lit, iI_add, iI_sub, iI_mul, iI_neg, iI_lt, iI_le, iI_eq, iI_J, lt_T, lt_F, le_T, le_F, eq_T, eq_F, eqN_T, eqN_F, leN_T, leN_F, ltN_T, ltN_F, if_true, if_false, and_true, true_and, and_false, false_and, or_true, true_or, or_false, false_or, not_true_eq_false, not_false_eq_true, and_self, or_self, tn_c, ne_eq, dite_true, dite_false]
        exact w_ret ⟨bad, Or.inr ⟨rfl, fun h => by rcases h.2 with h | h <;> omega⟩⟩
theorem run50 (hC : CSt M) (hT : SKd M Ts) {L : Nat} (hK : BK M 140 rb p L (0 : Nat)) (hb : BV M rb rn e u) (hrb : rb < 18) (hu : ∀ i, u i < 256) (he : 8 * p + L ≤ 8 * e) {Q : Int32 → Mem → Prop}
    (hQ : ∀ N, Sm WDc M N → BK N 140 rb p (iL3 Ts L) (iZ3 Ts L : Nat) → mI N 138 0 = iI (tkV u p L (Ts 0).1 : Nat) → mI N 138 1 = iI (tkV u p (iL1 Ts L) (Ts 1).1 : Nat) → mI N 138 2 = iI (tkV u p (iL2 Ts L) (Ts 2).1 : Nat) → Wp (fX9_run_L90 (some 134) (iI p) (iI 0) N) Q) :
    Wp (fX9_run_L50 (some 134) (iI p) (iI 0) M) Q := by
  unfold fX9_run_L50
  refine w_lpF (fun dd x O => ∃ k : Nat, k + dd = 3 ∧ Sm WDc M O ∧ BK O 140 rb p (tkS Ts L k) (zS Ts L k : Nat) ∧ (∀ j, j < k → mI O 138 j = iI (tkV u p (tkS Ts L j) (Ts j).1 : Nat)) ∧ x = (some 134, iI p, iI k)) 3 (by omega) ⟨0, by omega, Sm.rf, hK, fun j hj => by omega, rfl⟩ ?_
  rintro gg dd x O ⟨k, hd, hS, hK, hst, rfl⟩ ih
  by_cases z : dd = 0
  · obtain rfl : k = 3 := by omega
    have := hQ O hS hK (hst 0 (by omega)) (hst 1 (by omega)) (hst 2 (by omega))
    rw [show ((3 : Nat) : Int) = 3 from rfl]
    simp -implicitDefEqProofs (disch := omega) only [fX9_run_B50, bo_s, bd_s, bn_s, gI_s, gJ_s, gR_s, pI_s, pZ_s, pJ_s, pR_s, chk_s, chN_s, chN_n, aL_s, aI_c, aJ_c, aR_c, wI_c, wB_c, wS_c, wZ_c, wJ_c, wR_c, mK_sI, mK_sJ, mK_sR, mK_cpI, mL_sI, mL_sJ, mL_sR, mL_cpI, mI_sI, mI_sJ, mI_sR, mI_cpI, mJ_sI, mJ_sJ, mJ_sR, mJ_cpI, mR_sI, mR_sJ, mR_sR, mR_cpI, i2b_i2b, i2b_sb, iI_lit, iI_add, iI_sub, iI_mul, iI_neg, iI_lt, iI_le, iI_eq, iI_J, lt_T, lt_F, le_T, le_F, eq_T, eq_F, eqN_T, eqN_F, leN_T, leN_F, ltN_T, ltN_F, if_true, if_false, and_true, true_and, and_false, false_and, or_true, true_or, or_false, false_or, not_true_eq_false, not_false_eq_true, and_self, or_self, tn_c, ne_eq, dite_true, dite_false]
    exact this
  · have hCO := hC.sm hS WDc_fx
    obtain ⟨k134, r134_0, r134_4, r134_8, k135, l135, k138, l138, k140⟩ : mK O 134 = 9 ∧ mR O 134 0 = some 135 ∧ mR O 134 4 = some 138 ∧ mR O 134 8 = some 140 ∧ mK O 135 = 20 ∧ mL O 135 = 3 ∧ mK O 138 = 15 ∧ mL O 138 = 3 ∧ mK O 140 = 0 := ⟨hCO.k 134 (by omega) (by omega), hCO.r 134 0 (by omega) (by omega) (by decide), hCO.r 134 4 (by omega) (by omega) (by decide), hCO.r 134 8 (by omega) (by omega) (by decide), hCO.k 135 (by omega) (by omega), hCO.l 135 (by omega) (by omega), hCO.k 138 (by omega) (by omega), hCO.l 138 (by omega) (by omega), hCO.k 140 (by omega) (by omega)⟩
    obtain ⟨⟨g1, g2⟩, tt, t1, t2, t3⟩ := hT.dc hS k (by omega)
    have kt := (hCO.ts (by omega) t2).1
    have tl := t3.1
    have hle := tkS_le Ts L k
    have hl9 : (Ts k).1 ≤ 9 := g1.1
    obtain ⟨N, e1, hK2, hS2⟩ := take_u (m := (Ts k).1) hK (hb.sm hS (by omega)) hu (by omega) (by omega)
    have n1 := (hS2.K 138).trans k138
    have n2 := (hS2.L 138).trans l138
    have := ih (dd - 1) (some 134, iI p, iI ((k + 1 : Nat) : Int)) (sI N 138 k (iI (tkV u p (tkS Ts L k) (Ts k).1 : Nat))) (by omega) ⟨k + 1, by omega, ?_, ?_, fun j hj => ?_, rfl⟩
    · rw [show ((k + 1 : Nat) : Int) = (k : Int) + 1 by omega] at this
      clear hC hCO hT t3 g1 g2 hK hb hK2 hS2 ih
      simp -implicitDefEqProofs (disch := omega) only [fX9_run_B50, k134, r134_4, r134_8, r134_0, k135, l135, t1, kt, tl, k140, e1, iJ_I, n1, n2, bo_s, bd_s, bn_s, gI_s, gJ_s, gR_s, pI_s, pZ_s, pJ_s, pR_s, chk_s, chN_s, chN_n, aL_s, aI_c, aJ_c, aR_c, wI_c, wB_c, wS_c, wZ_c, wJ_c, wR_c, mK_sI, mK_sJ, mK_sR, mK_cpI, mL_sI, mL_sJ, mL_sR, mL_cpI, mI_sI, mI_sJ, mI_sR, mI_cpI, mJ_sI, mJ_sJ, mJ_sR, mJ_cpI, mR_sI, mR_sJ, mR_sR, mR_cpI, i2b_i2b, i2b_sb, iI_lit, iI_add, iI_sub, iI_mul, iI_neg, iI_lt, iI_le, iI_eq, iI_J, lt_T, lt_F, le_T, le_F, eq_T, eq_F, eqN_T, eqN_F, leN_T, leN_F, ltN_T, ltN_F, if_true, if_false, and_true, true_and, and_false, false_and, or_true, true_or, or_false, false_or, not_true_eq_false, not_false_eq_true, and_self, or_self, tn_c, ne_eq, dite_true, dite_false]
      exact this
    · exact Sm.sI (hS.tr (hS2.weak fun a j h => Or.inl h)) (Or.inr rfl)
    · obtain ⟨a0, a1, a2, a3, a4⟩ := hK2
      refine ⟨a0, a1, ?_, ?_, ?_⟩ <;> simp -implicitDefEqProofs (disch := omega) only [mK_sI, mK_sJ, mK_sR, mK_cpI, mL_sI, mL_sJ, mL_sR, mL_cpI, mI_sI, mI_sJ, mI_sR, mI_cpI, mJ_sI, mJ_sJ, mJ_sR, mJ_cpI, mR_sI, mR_sJ, mR_sR, mR_cpI, eqN_T, eqN_F, if_true, if_false, and_true, true_and, and_false, false_and, or_true, true_or, or_false, false_or, not_true_eq_false, not_false_eq_true, and_self, or_self, tn_c, ne_eq, dite_true, dite_false] <;> assumption
    · by_cases ej : j = k
      · subst ej
        simp -implicitDefEqProofs (disch := omega) only [mK_sI, mK_sJ, mK_sR, mK_cpI, mL_sI, mL_sJ, mL_sR, mL_cpI, mI_sI, mI_sJ, mI_sR, mI_cpI, mJ_sI, mJ_sJ, mJ_sR, mJ_cpI, mR_sI, mR_sJ, mR_sR, mR_cpI, eqN_T, eqN_F, if_true, if_false, and_true, true_and, and_false, false_and, or_true, true_or, or_false, false_or, not_true_eq_false, not_false_eq_true, and_self, or_self, tn_c, ne_eq, dite_true, dite_false]
      · simp -implicitDefEqProofs (disch := omega) only [mK_sI, mK_sJ, mK_sR, mK_cpI, mL_sI, mL_sJ, mL_sR, mL_cpI, mI_sI, mI_sJ, mI_sR, mI_cpI, mJ_sI, mJ_sJ, mJ_sR, mJ_cpI, mR_sI, mR_sJ, mR_sR, mR_cpI, eqN_T, eqN_F, if_true, if_false, and_true, true_and, and_false, false_and, or_true, true_or, or_false, false_or, not_true_eq_false, not_false_eq_true, and_self, or_self, tn_c, ne_eq, dite_true, dite_false]
        exact (hS2.I 138 j (by omega)).trans (hst j (by omega))
set_option maxHeartbeats 8000000 in
theorem run90 {L l o c : Nat} {ok : Bool} {s' : SSt} (hm : m = 12 ∨ m = 14 ∨ m = 16) (hmb : mb = m + 1) (hcr : (cr = 41 ∨ cr = 65 ∨ cr = 89 ∨ cr = 142) ∧ cb = cr + 1) (hcn : cs ≤ cn ∧ cn < 4000) (hff : ff ≤ 8000) (hlim : lim ≤ 131072) (hspan : span < 9223372036854775808) (hblk : blk ≤ 8000) (hcnt : cnt < 200000) (hmany : many < 100000) (hm1 : 1 ≤ many) (hts : ts + many < 900000000)
    (hold : ∀ i, old i < 256) (hw : ∀ i, w i < 256) (hct : ∀ i, ct i < 256) (hls : ∀ i, ls i < 256)
    (hb : BV M rb rn e u) (hrb : rb < 18) (hrm : rb ≠ mb) (hu : ∀ i, u i < 256) (he : 8 * p + L ≤ 8 * e) (heb : e < 100000)
    (hE : SE M Ts m mb cr cb cn cs ff ct lim span blk cnt ls) (h15 : mI M 134 15 = iI many) (hN : SN M ((L, l, o, c), rr, 0, blk, w, ts, nt)) (hB : SB M Ts rb p m mb ff old 0 ((L, l, o, c), rr, 0, blk, w, ts, nt))
    (hrn : rnK u p Ts ls cnt blk lim span cs ct many ((L, l, o, c), rr, 0, blk, w, ts, nt) = (ok, s')) :
    Wp (fX9_run_L90 (some 134) (iI p) (iI 0) M) fun v N => Sm (WCr m mb) M N ∧ NTd N s'.2.2.2.2.2.1 s'.2.2.2.2.2.2 ∧ (∀ i, i < 3 → mI N 31 (6 + i) = iI (s'.2.1 i : Nat)) ∧
      (((ok = true ∧ s'.1.1 = 0) ∧ ¬ lim < s'.2.2.2.1 + (cnt - s'.2.2.1) - blk) → v = iI 1 ∧ RV N m mb 8000 (ff + (s'.2.2.2.1 + (cnt - s'.2.2.1))) (frW old (ptL s'.2.2.2.2.1 ls s'.2.2.2.1 s'.2.2.1 (cnt - s'.2.2.1)) ff) ∧ (∀ i, i < 3 → mI N 139 i = iI (s'.2.1 i : Nat) ∧ 1 ≤ s'.2.1 i ∧ s'.2.1 i < 1000000000) ∧ ∀ i, ptL s'.2.2.2.2.1 ls s'.2.2.2.1 s'.2.2.1 (cnt - s'.2.2.1) i < 256) ∧
      (¬ ((ok = true ∧ s'.1.1 = 0) ∧ ¬ lim < s'.2.2.2.1 + (cnt - s'.2.2.1) - blk) → v = iI 0) := by
  unfold fX9_run_L90
  refine w_lpF (fun dd x O => ∃ k L l o c us t ts r w nt, k + dd = many ∧ Sm (WRo m mb) M O ∧ SN O ((L, l, o, c), r, us, t, w, ts, nt) ∧ (k < many → SB O Ts rb p m mb ff old 0 ((L, l, o, c), r, us, t, w, ts, nt)) ∧ BK O 140 rb p L 0 ∧ mI O 134 18 = iI (us : Nat) ∧ RV O m mb 8000 (ff + t) (frW old w ff) ∧ 8 * p + L ≤ 8 * e ∧ blk ≤ t ∧ t - blk ≤ 131072 ∧ us ≤ cnt ∧ us + blk ≤ t ∧ ts + dd < 900000000 ∧ (∀ i, w i < 256) ∧ rnK u p Ts ls cnt blk lim span cs ct (many - k) ((L, l, o, c), r, us, t, w, ts, nt) = (ok, s') ∧ x = (some 134, iI p, iI (k : Nat))) many (by omega)
    ⟨0, L, l, o, c, 0, blk, ts, rr, w, nt, by omega, Sm.rf, hN, fun _ => hB, hB.1, hB.2.2.2.2.1, hB.2.2.2.2.2, he, by omega, by omega, by omega, by omega, by omega, hw, hrn, rfl⟩ ?_
  rintro gg dd x O ⟨k, L, l, o, c, us, t, ts, r, w, nt, hd, hS, hN, hB, hK, h18, hV, he, hbt, htb, husc, hus, hts, hw, hrn, rfl⟩ ih
  obtain ⟨hC, hT, hF, hLt⟩ := hE
  have hCO := hC.sm hS (WRo_fx hm hmb)
  have hFO := FR.ro hm hmb hcr hF hS
  have hLO := hLt.sm hS (by unfold WRo Rw; omega) (by unfold WRo Rw; omega) (by unfold WRo Rw; omega)
  have o15 := (hS.I 134 15 (by unfold WRo Rw; omega)).trans h15
  have k134 : mK O 134 = 9 := hCO.k 134 (by omega) (by omega)
  by_cases z : dd = 0
  · obtain rfl : k = many := by omega
    rw [Nat.sub_self, rnK] at hrn
    cases hrn
    obtain ⟨v, N, e1, hS1, hcase⟩ := run143 (p := p) (L := L) hm hmb hCO hFO.1 hFO.2.2.2.2.1 hFO.2.2.2.2.2.2 hLO hls h18 hV o15 (fun _ => hK.2.2.2.1) (by omega) (by omega) hbt (by omega) hlim (by omega) husc (by omega)
    have hSN : Sm (WCr m mb) M N := (hS.weak fun a j h => Or.inl h).tr (hS1.weak fun a j h => by
      rcases h with h | h | h
      · exact Or.inl (by unfold WRo; simp [h])
      · exact Or.inr (Or.inl (by omega))
      · exact Or.inr (Or.inr (Or.inr h)))
    obtain ⟨n1, n2, n3⟩ := hN
    have q2 : NTd N ts nt := ⟨(hS1.I 31 4 (by unfold W143 Rw; omega)).trans n2.1, fun i j a b c => (hS1.I 32 _ (by unfold W143 Rw; omega)).trans (n2.2 i j a b c)⟩
    have q3 : ∀ i, i < 3 → mI N 31 (6 + i) = iI (r i : Nat) := fun i hi => (hS1.I 31 _ (by unfold W143 Rw; omega)).trans (n3 i hi)
    have fin : Wp (some (v, N)) fun v N => Sm (WCr m mb) M N ∧ NTd N ts nt ∧ (∀ i, i < 3 → mI N 31 (6 + i) = iI (r i : Nat)) ∧
      (((true = true ∧ L = 0) ∧ ¬ lim < t + (cnt - us) - blk) → v = iI 1 ∧ RV N m mb 8000 (ff + (t + (cnt - us))) (frW old (ptL w ls t us (cnt - us)) ff) ∧ (∀ i, i < 3 → mI N 139 i = iI (r i : Nat) ∧ 1 ≤ r i ∧ r i < 1000000000) ∧ ∀ i, ptL w ls t us (cnt - us) i < 256) ∧
      (¬ ((true = true ∧ L = 0) ∧ ¬ lim < t + (cnt - us) - blk) → v = iI 0) := by
      refine w_ret ⟨hSN, q2, q3, fun h => ?_, fun h => ?_⟩
      · rcases hcase with ⟨a1, a2, a3, a4⟩ | ⟨a1, a2⟩
        · exact ⟨a1, a4, fun i hi => ⟨(hS1.I 139 i (by unfold W143 Rw; omega)).trans (n1 i hi).1, (n1 i hi).2⟩, ptL_lt hw hls _⟩
        · exact absurd ⟨h.2, Or.inr h.1.2⟩ a2
      · rcases hcase with ⟨a1, a2, a3, a4⟩ | ⟨a1, a2⟩
        · refine absurd ⟨⟨rfl, ?_⟩, a2⟩ h
          rcases a3 with a3 | a3
          · omega
          · exact a3
        · exact a1
    clear hC hT hF hLt hCO hFO hLO hN hB hK hV ih hb n1 n2 n3 q2 q3 hSN hS1 hcase hS
    simp -implicitDefEqProofs (disch := omega) only [fX9_run_B90, k134, o15, e1, bo_s, bd_s, bn_s, gI_s, gJ_s, gR_s, pI_s, pZ_s, pJ_s, pR_s, chk_s, chN_s, chN_n, aL_s, aI_c, aJ_c, aR_c, wI_c, wB_c, wS_c, wZ_c, wJ_c, wR_c, mK_sI, mK_sJ, mK_sR, mK_cpI, mL_sI, mL_sJ, mL_sR, mL_cpI, mI_sI, mI_sJ, mI_sR, mI_cpI, mJ_sI, mJ_sJ, mJ_sR, mJ_cpI, mR_sI, mR_sJ, mR_sR, mR_cpI, i2b_i2b, i2b_sb, iI_lit, iI_add, iI_sub, iI_mul, iI_neg, iI_lt, iI_le, iI_eq, iI_J, lt_T, lt_F, le_T, le_F, eq_T, eq_F, eqN_T, eqN_F, leN_T, leN_F, ltN_T, ltN_F, if_true, if_false, and_true, true_and, and_false, false_and, or_true, true_or, or_false, false_or, not_true_eq_false, not_false_eq_true, and_self, or_self, tn_c, ne_eq, dite_true, dite_false]
    exact fin
  · obtain ⟨j, hj⟩ : ∃ j, many - k = j + 1 := ⟨many - k - 1, by omega⟩
    rw [hj, rnK] at hrn
    obtain ⟨lst, hl1, hl2⟩ : ∃ lst : Nat, ((lst = 1 ∧ k + 1 = many) ∨ (lst = 0 ∧ k + 1 < many)) ∧ (lst == 1) = (j == 0) := by
      by_cases h : j = 0
      · exact ⟨1, Or.inl ⟨rfl, by omega⟩, by subst h; rfl⟩
      · exact ⟨0, Or.inr ⟨rfl, by omega⟩, by rw [show (j == 0) = false from by simpa using h]; rfl⟩
    rw [← hl2] at hrn
    have hTO := SKd.ro hm hmb hT hS
    have hbO := hb.sm hS (by unfold WRo Rw; omega)
    obtain ⟨v, N, e1, hS1, hA, hBs⟩ := runOne_ok (lst := lst) hm hmb hcr hcn (by omega) hlim hspan hbt (by omega) husc (by omega) hold hw hct hls (by omega) (by omega) hbO hrb hu he ⟨hCO, hTO, hFO, hLO⟩ hN (hB (by omega))
    have hSN := hS.tr hS1
    have hCN := hC.sm hSN (WRo_fx hm hmb)
    obtain ⟨nk134, nr134_6, nk30⟩ : mK N 134 = 9 ∧ mR N 134 6 = some 30 ∧ mK N 30 = 7 := ⟨hCN.k 134 (by omega) (by omega), hCN.r 134 6 (by omega) (by omega) (by decide), hCN.k 30 (by omega) (by omega)⟩
    have main : Wp (fX9_run_L116 gg (some 134) (iI p) (iI k) (some 134) (iI lst) O) fun v N => Sm (WCr m mb) M N ∧ NTd N s'.2.2.2.2.2.1 s'.2.2.2.2.2.2 ∧ (∀ i, i < 3 → mI N 31 (6 + i) = iI (s'.2.1 i : Nat)) ∧
      (((ok = true ∧ s'.1.1 = 0) ∧ ¬ lim < s'.2.2.2.1 + (cnt - s'.2.2.1) - blk) → v = iI 1 ∧ RV N m mb 8000 (ff + (s'.2.2.2.1 + (cnt - s'.2.2.1))) (frW old (ptL s'.2.2.2.2.1 ls s'.2.2.2.1 s'.2.2.1 (cnt - s'.2.2.1)) ff) ∧ (∀ i, i < 3 → mI N 139 i = iI (s'.2.1 i : Nat) ∧ 1 ≤ s'.2.1 i ∧ s'.2.1 i < 1000000000) ∧ ∀ i, ptL s'.2.2.2.2.1 ls s'.2.2.2.1 s'.2.2.1 (cnt - s'.2.2.1) i < 256) ∧
      (¬ ((ok = true ∧ s'.1.1 = 0) ∧ ¬ lim < s'.2.2.2.1 + (cnt - s'.2.2.1) - blk) → v = iI 0) := by
      cases hst : stK u p Ts ls cnt blk lim span cs ct (lst == 1) ((L, l, o, c), r, us, t, w, ts, nt) with
      | none =>
        rw [hst] at hrn
        cases hrn
        obtain ⟨⟨y, hy, hy1, hy2⟩, n2, n3⟩ := hA hst
        subst hy
        have e2 := fail_ok nk30 (iI y) (iI p)
        have hs : Sm (fun a j => a = 30 ∧ j ≤ 1) N (sI (sI N 30 0 (iI y)) 30 1 (iI p)) := Sm.sI (Sm.sI Sm.rf ⟨rfl, by omega⟩) ⟨rfl, by omega⟩
        have fin : Sm (WCr m mb) M (sI (sI N 30 0 (iI y)) 30 1 (iI p)) := (hSN.weak fun a j h => Or.inl h).tr (hs.weak fun a j h => Or.inr (Or.inr (Or.inr h)))
        have q2 : NTd (sI (sI N 30 0 (iI y)) 30 1 (iI p)) ts nt := ⟨(hs.I 31 4 (by omega)).trans n2.1, fun i j a b c => (hs.I 32 _ (by omega)).trans (n2.2 i j a b c)⟩
        clear hC hT hF hLt hCO hFO hLO hN hB hK hV ih hb hTO hbO hA hBs hCN hs hS1 hSN
        simp -implicitDefEqProofs (disch := omega) only [fX9_run_L116, k134, e1, nk134, nr134_6, nk30, e2, rtZ, bo_s, bd_s, bn_s, gI_s, gJ_s, gR_s, pI_s, pZ_s, pJ_s, pR_s, chk_s, chN_s, chN_n, aL_s, aI_c, aJ_c, aR_c, wI_c, wB_c, wS_c, wZ_c, wJ_c, wR_c, mK_sI, mK_sJ, mK_sR, mK_cpI, mL_sI, mL_sJ, mL_sR, mL_cpI, mI_sI, mI_sJ, mI_sR, mI_cpI, mJ_sI, mJ_sJ, mJ_sR, mJ_cpI, mR_sI, mR_sJ, mR_sR, mR_cpI, i2b_i2b, i2b_sb, iI_lit, iI_add, iI_sub, iI_mul, iI_neg, iI_lt, iI_le, iI_eq, iI_J, lt_T, lt_F, le_T, le_F, eq_T, eq_F, eqN_T, eqN_F, leN_T, leN_F, ltN_T, ltN_F, if_true, if_false, and_true, true_and, and_false, false_and, or_true, true_or, or_false, false_or, not_true_eq_false, not_false_eq_true, and_self, or_self, tn_c, ne_eq, dite_true, dite_false]
        exact w_ret ⟨fin, q2, n3, fun h => by cases h.1.1, fun _ => rfl⟩
      | some s2 =>
        rw [hst] at hrn
        obtain ⟨hv, bN, b1, b0, b18, bV⟩ := hBs _ hst
        subst hv
        obtain ⟨n, cp, off, c1, c2, c3, c4, c5, c6, c7⟩ := stK_r hst
        obtain ⟨⟨L2, l2, o2, cc2⟩, r2, us2, t2, w2, ts2, nt2⟩ := s2
        dsimp only at c3 c4 c5 c6 c7 b18 bV
        have hBK : BK N 140 rb p L2 0 := by
          rcases hl1 with ⟨h, -⟩ | ⟨h, -⟩
          · exact b1 h
          · exact (b0 h).1
        have := ih (dd - 1) (some 134, iI p, iI ((k + 1 : Nat) : Int)) N (by omega) ⟨k + 1, L2, l2, o2, cc2, us2, t2, ts2, r2, w2, nt2, by omega, hSN, bN, fun h => b0 (by omega), hBK, b18, bV, by omega, by omega, by omega, by omega, by omega, by omega, by rw [c5]; exact ptC_lt (ptL_lt hw hls n) hct cp, by rw [show many - (k + 1) = j by omega]; exact hrn, rfl⟩
        rw [show ((k + 1 : Nat) : Int) = (k : Int) + 1 by omega] at this
        clear hC hT hF hLt hCO hFO hLO hN hB hK hV ih hb hTO hbO hA hBs hCN hS1 hSN bN b1 b0 bV hBK hst
        simp -implicitDefEqProofs (disch := omega) only [fX9_run_L116, k134, e1, bo_s, bd_s, bn_s, gI_s, gJ_s, gR_s, pI_s, pZ_s, pJ_s, pR_s, chk_s, chN_s, chN_n, aL_s, aI_c, aJ_c, aR_c, wI_c, wB_c, wS_c, wZ_c, wJ_c, wR_c, mK_sI, mK_sJ, mK_sR, mK_cpI, mL_sI, mL_sJ, mL_sR, mL_cpI, mI_sI, mI_sJ, mI_sR, mI_cpI, mJ_sI, mJ_sJ, mJ_sR, mJ_cpI, mR_sI, mR_sJ, mR_sR, mR_cpI, i2b_i2b, i2b_sb, iI_lit, iI_add, iI_sub, iI_mul, iI_neg, iI_lt, iI_le, iI_eq, iI_J, lt_T, lt_F, le_T, le_F, eq_T, eq_F, eqN_T, eqN_F, leN_T, leN_F, ltN_T, ltN_F, if_true, if_false, and_true, true_and, and_false, false_and, or_true, true_or, or_false, false_or, not_true_eq_false, not_false_eq_true, and_self, or_self, tn_c, ne_eq, dite_true, dite_false]
        exact this
    clear hC hT hF hLt hCO hFO hLO hN hB hK hV ih hb hTO hbO hA hBs hCN hS1 hSN
    rcases hl1 with ⟨rfl, hk⟩ | ⟨rfl, hk⟩
    · rw [show ((1 : Nat) : Int) = 1 from rfl] at main
      simp -implicitDefEqProofs (disch := omega) only [fX9_run_B90, k134, o15, bo_s, bd_s, bn_s, gI_s, gJ_s, gR_s, pI_s, pZ_s, pJ_s, pR_s, chk_s, chN_s, chN_n, aL_s, aI_c, aJ_c, aR_c, wI_c, wB_c, wS_c, wZ_c, wJ_c, wR_c, mK_sI, mK_sJ, mK_sR, mK_cpI, mL_sI, mL_sJ, mL_sR, mL_cpI, mI_sI, mI_sJ, mI_sR, mI_cpI, mJ_sI, mJ_sJ, mJ_sR, mJ_cpI, mR_sI, mR_sJ, mR_sR, mR_cpI, i2b_i2b, i2b_sb, iI_lit, iI_add, iI_sub, iI_mul, iI_neg, iI_lt, iI_le, iI_eq, iI_J, lt_T, lt_F, le_T, le_F, eq_T, eq_F, eqN_T, eqN_F, leN_T, leN_F, ltN_T, ltN_F, if_true, if_false, and_true, true_and, and_false, false_and, or_true, true_or, or_false, false_or, not_true_eq_false, not_false_eq_true, and_self, or_self, tn_c, ne_eq, dite_true, dite_false]
      exact main
    · rw [show ((0 : Nat) : Int) = 0 from rfl] at main
      simp -implicitDefEqProofs (disch := omega) only [fX9_run_B90, k134, o15, bo_s, bd_s, bn_s, gI_s, gJ_s, gR_s, pI_s, pZ_s, pJ_s, pR_s, chk_s, chN_s, chN_n, aL_s, aI_c, aJ_c, aR_c, wI_c, wB_c, wS_c, wZ_c, wJ_c, wR_c, mK_sI, mK_sJ, mK_sR, mK_cpI, mL_sI, mL_sJ, mL_sR, mL_cpI, mI_sI, mI_sJ, mI_sR, mI_cpI, mJ_sI, mJ_sJ, mJ_sR, mJ_cpI, mR_sI, mR_sJ, mR_sR, mR_cpI, i2b_i2b, i2b_sb, iI_lit, iI_add, iI_sub, iI_mul, iI_neg, iI_lt, iI_le, iI_eq, iI_J, lt_T, lt_F, le_T, le_F, eq_T, eq_F, eqN_T, eqN_F, leN_T, leN_F, ltN_T, ltN_F, if_true, if_false, and_true, true_and, and_false, false_and, or_true, true_or, or_false, false_or, not_true_eq_false, not_false_eq_true, and_self, or_self, tn_c, ne_eq, dite_true, dite_false]
      exact main
end CRUN2
