/-! what comes out by a SEQUENCE: the class's rows -/
/-- the class's place in a FRAME: made row m with bytes mb, content row c; ff had come out, t since, blk of them before the block -/
abbrev FR (M : Mem) (m mb cr cb cn cs ff : Nat) (ct : Nat → Nat) (lim span blk : Nat) : Prop := mR M 134 10 = some m ∧ mR M 134 11 = some cr ∧ RV M cr cb cn cs ct ∧ mI M 134 12 = iI ff ∧ mI M 134 13 = iI lim ∧ mJ M 134 14 = iJ span ∧ mI M 134 17 = iI (ff + blk : Nat)
def frW (old w : Nat → Nat) (ff i : Nat) : Nat := if i < ff then old i else w (i - ff)
section SEQM
variable {M : Mem} {m mb cr cb cn cs ff t lim span blk us cnt : Nat} {ct w ls old : Nat → Nat}
theorem reach_ok {off : Nat} (hC : CSt M) (hF : FR M m mb cr cb cn cs ff ct lim span blk) (hm : mK M m = 8) (h1 : mI M m 1 = iI (ff + t : Nat)) (hb : ff + t < 1000000) (hcs : cs < 1000000) (ho : off < 10000000000) (hs : span < 9223372036854775808) : fX9_reaches (some 134) (iJ off) M = some (iI (if rcK t off cs span then 1 else 0 : Nat), M) := by
  obtain ⟨f1, f2, f3, f4, f5, f6, f7⟩ := hF
  have k134 : mK M 134 = 9 := hC.k 134 (by decide) (by decide)
  have c1 := f3.1.1
  have c2 := f3.2.1
  have e0 : (0 : Int64) = iJ 0 := iJ_lit 0
  have et : ((ff + t : Nat) : Int) - ff = (t : Int) := by omega
  have k1 := cmp_le (a := (off : Int)) (b := 0) (by omega) (by omega)
  have k2 := cmp_le (a := (off : Int)) (b := (t : Int) + cs) (by omega) (by omega)
  have k3 := cmp_lt (a := (off : Int)) (b := (t : Int)) (by omega) (by omega)
  have k4 := cmp_lt (a := (t : Int)) (b := (span : Int)) (by omega) (by omega)
  have k5 := cmp_lt (a := (off : Int)) (b := (span : Int)) (by omega) (by omega)
  clear hC f3
  by_cases d1 : off = 0
  · rw [if_neg (by omega)]
    simp -implicitDefEqProofs (disch := (first | decide | omega)) only [fX9_reaches, fX9_reaches_L34, k134, f1, hm, h1, f4, et, e0, k1, rtZ, bo_s, bd_s, bn_s, gI_s, gJ_s, gR_s, pI_s, pZ_s, pJ_s, pR_s, chk_s, chN_s, chN_n, aL_s, aI_c, aJ_c, aR_c, wI_c, wB_c, wS_c, wZ_c, wJ_c, wR_c, mK_sI, mK_sJ, mK_sR, mK_cpI, mL_sI, mL_sJ, mL_sR, mL_cpI, mI_sI, mI_sJ, mI_sR, mI_cpI, mJ_sI, mJ_sJ, mJ_sR, mJ_cpI, mR_sI, mR_sJ, mR_sR, mR_cpI, i2b_i2b, i2b_sb, iI_lit, iI_add, iI_sub, iI_mul, iI_neg, iI_lt, iI_le, iI_eq, iI_J, lt_T, lt_F, le_T, le_F, eq_T, eq_F, eqN_T, eqN_F, leN_T, leN_F, ltN_T, ltN_F, if_true, if_false, and_true, true_and, and_false, false_and, or_true, true_or, or_false, false_or, not_true_eq_false, not_false_eq_true, and_self, or_self, tn_c, ne_eq, dite_true, dite_false]
    rfl
  · by_cases d2 : off ≤ t + cs
    · by_cases d3 : off ≤ t
      · by_cases d4 : off ≤ span
        · rw [if_pos ⟨d1, d2, by rw [if_pos d3]; exact d4⟩]
          simp -implicitDefEqProofs (disch := (first | decide | omega)) only [fX9_reaches, fX9_reaches_L75, k134, f1, hm, h1, f4, et, e0, k1, f2, c1, c2, k2, k3, f6, k5, rtZ, bo_s, bd_s, bn_s, gI_s, gJ_s, gR_s, pI_s, pZ_s, pJ_s, pR_s, chk_s, chN_s, chN_n, aL_s, aI_c, aJ_c, aR_c, wI_c, wB_c, wS_c, wZ_c, wJ_c, wR_c, mK_sI, mK_sJ, mK_sR, mK_cpI, mL_sI, mL_sJ, mL_sR, mL_cpI, mI_sI, mI_sJ, mI_sR, mI_cpI, mJ_sI, mJ_sJ, mJ_sR, mJ_cpI, mR_sI, mR_sJ, mR_sR, mR_cpI, i2b_i2b, i2b_sb, iI_lit, iI_add, iI_sub, iI_mul, iI_neg, iI_lt, iI_le, iI_eq, iI_J, lt_T, lt_F, le_T, le_F, eq_T, eq_F, eqN_T, eqN_F, leN_T, leN_F, ltN_T, ltN_F, if_true, if_false, and_true, true_and, and_false, false_and, or_true, true_or, or_false, false_or, not_true_eq_false, not_false_eq_true, and_self, or_self, tn_c, ne_eq, dite_true, dite_false]
          rfl
        · rw [if_neg (fun h => by have h3 := h.2.2; rw [if_pos d3] at h3; omega)]
          simp -implicitDefEqProofs (disch := (first | decide | omega)) only [fX9_reaches, fX9_reaches_L75, k134, f1, hm, h1, f4, et, e0, k1, f2, c1, c2, k2, k3, f6, k5, rtZ, bo_s, bd_s, bn_s, gI_s, gJ_s, gR_s, pI_s, pZ_s, pJ_s, pR_s, chk_s, chN_s, chN_n, aL_s, aI_c, aJ_c, aR_c, wI_c, wB_c, wS_c, wZ_c, wJ_c, wR_c, mK_sI, mK_sJ, mK_sR, mK_cpI, mL_sI, mL_sJ, mL_sR, mL_cpI, mI_sI, mI_sJ, mI_sR, mI_cpI, mJ_sI, mJ_sJ, mJ_sR, mJ_cpI, mR_sI, mR_sJ, mR_sR, mR_cpI, i2b_i2b, i2b_sb, iI_lit, iI_add, iI_sub, iI_mul, iI_neg, iI_lt, iI_le, iI_eq, iI_J, lt_T, lt_F, le_T, le_F, eq_T, eq_F, eqN_T, eqN_F, leN_T, leN_F, ltN_T, ltN_F, if_true, if_false, and_true, true_and, and_false, false_and, or_true, true_or, or_false, false_or, not_true_eq_false, not_false_eq_true, and_self, or_self, tn_c, ne_eq, dite_true, dite_false]
          rfl
      · by_cases d4 : t ≤ span
        · rw [if_pos ⟨d1, d2, by rw [if_neg d3]; exact d4⟩]
          simp -implicitDefEqProofs (disch := (first | decide | omega)) only [fX9_reaches, fX9_reaches_L75, k134, f1, hm, h1, f4, et, e0, k1, f2, c1, c2, k2, k3, f6, k4, rtZ, bo_s, bd_s, bn_s, gI_s, gJ_s, gR_s, pI_s, pZ_s, pJ_s, pR_s, chk_s, chN_s, chN_n, aL_s, aI_c, aJ_c, aR_c, wI_c, wB_c, wS_c, wZ_c, wJ_c, wR_c, mK_sI, mK_sJ, mK_sR, mK_cpI, mL_sI, mL_sJ, mL_sR, mL_cpI, mI_sI, mI_sJ, mI_sR, mI_cpI, mJ_sI, mJ_sJ, mJ_sR, mJ_cpI, mR_sI, mR_sJ, mR_sR, mR_cpI, i2b_i2b, i2b_sb, iI_lit, iI_add, iI_sub, iI_mul, iI_neg, iI_lt, iI_le, iI_eq, iI_J, lt_T, lt_F, le_T, le_F, eq_T, eq_F, eqN_T, eqN_F, leN_T, leN_F, ltN_T, ltN_F, if_true, if_false, and_true, true_and, and_false, false_and, or_true, true_or, or_false, false_or, not_true_eq_false, not_false_eq_true, and_self, or_self, tn_c, ne_eq, dite_true, dite_false]
          rfl
        · rw [if_neg (fun h => by have h3 := h.2.2; rw [if_neg d3] at h3; omega)]
          simp -implicitDefEqProofs (disch := (first | decide | omega)) only [fX9_reaches, fX9_reaches_L75, k134, f1, hm, h1, f4, et, e0, k1, f2, c1, c2, k2, k3, f6, k4, rtZ, bo_s, bd_s, bn_s, gI_s, gJ_s, gR_s, pI_s, pZ_s, pJ_s, pR_s, chk_s, chN_s, chN_n, aL_s, aI_c, aJ_c, aR_c, wI_c, wB_c, wS_c, wZ_c, wJ_c, wR_c, mK_sI, mK_sJ, mK_sR, mK_cpI, mL_sI, mL_sJ, mL_sR, mL_cpI, mI_sI, mI_sJ, mI_sR, mI_cpI, mJ_sI, mJ_sJ, mJ_sR, mJ_cpI, mR_sI, mR_sJ, mR_sR, mR_cpI, i2b_i2b, i2b_sb, iI_lit, iI_add, iI_sub, iI_mul, iI_neg, iI_lt, iI_le, iI_eq, iI_J, lt_T, lt_F, le_T, le_F, eq_T, eq_F, eqN_T, eqN_F, leN_T, leN_F, ltN_T, ltN_F, if_true, if_false, and_true, true_and, and_false, false_and, or_true, true_or, or_false, false_or, not_true_eq_false, not_false_eq_true, and_self, or_self, tn_c, ne_eq, dite_true, dite_false]
          rfl
    · rw [if_neg (by omega)]
      simp -implicitDefEqProofs (disch := (first | decide | omega)) only [fX9_reaches, fX9_reaches_L34, k134, f1, hm, h1, f4, et, e0, k1, f2, c1, c2, k2, rtZ, bo_s, bd_s, bn_s, gI_s, gJ_s, gR_s, pI_s, pZ_s, pJ_s, pR_s, chk_s, chN_s, chN_n, aL_s, aI_c, aJ_c, aR_c, wI_c, wB_c, wS_c, wZ_c, wJ_c, wR_c, mK_sI, mK_sJ, mK_sR, mK_cpI, mL_sI, mL_sJ, mL_sR, mL_cpI, mI_sI, mI_sJ, mI_sR, mI_cpI, mJ_sI, mJ_sJ, mJ_sR, mJ_cpI, mR_sI, mR_sJ, mR_sR, mR_cpI, i2b_i2b, i2b_sb, iI_lit, iI_add, iI_sub, iI_mul, iI_neg, iI_lt, iI_le, iI_eq, iI_J, lt_T, lt_F, le_T, le_F, eq_T, eq_F, eqN_T, eqN_F, leN_T, leN_F, ltN_T, ltN_F, if_true, if_false, and_true, true_and, and_false, false_and, or_true, true_or, or_false, false_or, not_true_eq_false, not_false_eq_true, and_self, or_self, tn_c, ne_eq, dite_true, dite_false]
      rfl
theorem many_ok {x : Nat} (hC : CSt M) (f1 : mR M 134 10 = some m) (f5 : mI M 134 13 = iI lim) (f7 : mI M 134 17 = iI (ff + blk : Nat)) (hm : mK M m = 8) (h1 : mI M m 1 = iI x) (hx : ff + blk ≤ x) (hx2 : x < 10000000) (hl : lim < 10000000) : fX9_tooMany (some 134) M = some (iI (if lim < x - (ff + blk) then 1 else 0 : Nat), M) := by
  have k134 : mK M 134 = 9 := hC.k 134 (by decide) (by decide)
  clear hC
  by_cases c : lim < x - (ff + blk)
  · rw [if_pos c]
    simp -implicitDefEqProofs (disch := (first | decide | omega)) only [fX9_tooMany, fX9_tooMany_L24, k134, f1, hm, h1, f7, f5, rtZ, bo_s, bd_s, bn_s, gI_s, gJ_s, gR_s, pI_s, pZ_s, pJ_s, pR_s, chk_s, chN_s, chN_n, aL_s, aI_c, aJ_c, aR_c, wI_c, wB_c, wS_c, wZ_c, wJ_c, wR_c, mK_sI, mK_sJ, mK_sR, mK_cpI, mL_sI, mL_sJ, mL_sR, mL_cpI, mI_sI, mI_sJ, mI_sR, mI_cpI, mJ_sI, mJ_sJ, mJ_sR, mJ_cpI, mR_sI, mR_sJ, mR_sR, mR_cpI, i2b_i2b, i2b_sb, iI_lit, iI_add, iI_sub, iI_mul, iI_neg, iI_lt, iI_le, iI_eq, iI_J, lt_T, lt_F, le_T, le_F, eq_T, eq_F, eqN_T, eqN_F, leN_T, leN_F, ltN_T, ltN_F, if_true, if_false, and_true, true_and, and_false, false_and, or_true, true_or, or_false, false_or, not_true_eq_false, not_false_eq_true, and_self, or_self, tn_c, ne_eq, dite_true, dite_false]
    rfl
  · rw [if_neg c]
    simp -implicitDefEqProofs (disch := (first | decide | omega)) only [fX9_tooMany, fX9_tooMany_L24, k134, f1, hm, h1, f7, f5, rtZ, bo_s, bd_s, bn_s, gI_s, gJ_s, gR_s, pI_s, pZ_s, pJ_s, pR_s, chk_s, chN_s, chN_n, aL_s, aI_c, aJ_c, aR_c, wI_c, wB_c, wS_c, wZ_c, wJ_c, wR_c, mK_sI, mK_sJ, mK_sR, mK_cpI, mL_sI, mL_sJ, mL_sR, mL_cpI, mI_sI, mI_sJ, mI_sR, mI_cpI, mJ_sI, mJ_sJ, mJ_sR, mJ_cpI, mR_sI, mR_sJ, mR_sR, mR_cpI, i2b_i2b, i2b_sb, iI_lit, iI_add, iI_sub, iI_mul, iI_neg, iI_lt, iI_le, iI_eq, iI_J, lt_T, lt_F, le_T, le_F, eq_T, eq_F, eqN_T, eqN_F, leN_T, leN_F, ltN_T, ltN_F, if_true, if_false, and_true, true_and, and_false, false_and, or_true, true_or, or_false, false_or, not_true_eq_false, not_false_eq_true, and_self, or_self, tn_c, ne_eq, dite_true, dite_false]
    rfl
theorem putL_ok {n : Nat} (hC : CSt M) (f1 : mR M 134 10 = some m) (hm2 : m < 18) (hmb : mb < 18) (hmm : m ≠ mb) (hV : RV M m mb 8000 (ff + t) (frW old w ff)) (hL : RV M 126 127 8000 cnt ls) (hls : ∀ i, ls i < 256) (h18 : mI M 134 18 = iI us) (hus : us ≤ ff + t) (hn : us + n ≤ cnt) (hb : ff + t < 1000000) (hc : cnt < 1000000) :
    Wp (fX9_putLetters (some 134) (iI n) M) fun _ N => Sm (fun a j => Rw m mb a j ∨ (a = 134 ∧ j = 18)) M N ∧ RV N m mb 8000 (ff + (t + n)) (frW old (ptL w ls t us n) ff) ∧ mI N 134 18 = iI (us + n : Nat) := by
  obtain ⟨k134, r134_7, k125, r125_0⟩ : mK M 134 = 9 ∧ mR M 134 7 = some 125 ∧ mK M 125 = 4 ∧ mR M 125 0 = some 126 := ⟨hC.k 134 (by decide) (by decide), hC.r 134 7 (by decide) (by decide) (by decide), hC.k 125 (by decide) (by decide), hC.r 125 0 (by decide) (by decide) (by decide)⟩
  have m1 := hV.1.1
  obtain ⟨v, N, e1, hV2, hS⟩ := addFrom_v (r := m) (b := mb) (n := 8000) (o := 126) (ob := 127) (on := 8000) (c := ff + t) (k := n) (f := us) (u := frW old (ptL w ls t us n) ff) (hV.ext fun i hi _ => by
    unfold frW
    by_cases c : i < ff
    · rw [if_pos c, if_pos c]
    · rw [if_neg c, if_neg c, ptL_v, if_neg (by omega)]) hL.1 hmm (by omega) (by omega) (by omega) (by omega) (by omega) (Or.inl (by omega)) (fun i hi hi2 => by
    unfold frW
    rw [if_neg (by omega), ptL_v, if_pos (by omega), gB_u (hL.2.2 (us + i) (by omega) (by omega)) (hls _) (by omega)]
    congr 1; omega)
  have n1 := (hS.K 134).trans k134
  have n18 := (hS.I 134 18 (by unfold Rw; omega)).trans h18
  have eus : (us : Int) + n = (us + n : Nat) := by omega
  clear hC hL
  simp -implicitDefEqProofs (disch := (first | decide | omega)) only [fX9_putLetters, k134, f1, r134_7, k125, r125_0, h18, m1, e1, n1, n18, eus, bo_s, bd_s, bn_s, gI_s, gJ_s, gR_s, pI_s, pZ_s, pJ_s, pR_s, chk_s, chN_s, chN_n, aL_s, aI_c, aJ_c, aR_c, wI_c, wB_c, wS_c, wZ_c, wJ_c, wR_c, mK_sI, mK_sJ, mK_sR, mK_cpI, mL_sI, mL_sJ, mL_sR, mL_cpI, mI_sI, mI_sJ, mI_sR, mI_cpI, mJ_sI, mJ_sJ, mJ_sR, mJ_cpI, mR_sI, mR_sJ, mR_sR, mR_cpI, i2b_i2b, i2b_sb, iI_lit, iI_add, iI_sub, iI_mul, iI_neg, iI_lt, iI_le, iI_eq, iI_J, lt_T, lt_F, le_T, le_F, eq_T, eq_F, eqN_T, eqN_F, leN_T, leN_F, ltN_T, ltN_F, if_true, if_false, and_true, true_and, and_false, false_and, or_true, true_or, or_false, false_or, not_true_eq_false, not_false_eq_true, and_self, or_self, tn_c, ne_eq, dite_true, dite_false]
  refine w_ret ⟨Sm.sI (hS.weak fun a j h => Or.inl h) (Or.inr ⟨rfl, rfl⟩), ?_, ?_⟩
  · rw [Nat.add_assoc] at hV2
    exact hV2.sm (S := fun a j => a = 134) (Sm.sI Sm.rf rfl) (by omega) (by omega) (by omega)
  · simp -implicitDefEqProofs (disch := (first | decide | omega)) only [mK_sI, mK_sJ, mK_sR, mK_cpI, mL_sI, mL_sJ, mL_sR, mL_cpI, mI_sI, mI_sJ, mI_sR, mI_cpI, mJ_sI, mJ_sJ, mJ_sR, mJ_cpI, mR_sI, mR_sJ, mR_sR, mR_cpI, eqN_T, eqN_F, if_true, if_false, and_true, true_and, and_false, false_and, or_true, true_or, or_false, false_or, not_true_eq_false, not_false_eq_true, and_self, or_self, tn_c, ne_eq, dite_true, dite_false]
end SEQM
