/-! open: the class's, whole -/
section JOPEN
variable {M N O : Mem} {S : Nat → Nat → Prop} {o m q e c n : Nat} {u w : Nat → Nat} {kp op : Option Nat} {dk : Option Dc} {x : Tl} {R : Option (Nat × (Nat → Nat)) × Tl}
theorem PDc.dd (h : PDc M dk kp) : ∃ dd : Option (Nat × Dc), (dd.map fun q => q.1) = kp ∧ dcO dd = dk ∧ ∀ q, dd = some q → DV M q.1 q.2 := by
  cases dk with
  | none =>
    have h : kp = none := h
    exact ⟨none, h.symm, rfl, fun q z => by cases z⟩
  | some D =>
    obtain ⟨d, h1, h2⟩ := h
    refine ⟨some (d, D), h1.symm, rfl, fun q z => ?_⟩
    cases z
    exact h2
theorem fx_11c {j : Nat} (h : 8 ≤ j) : ¬ fx 11 j := by
  have h1 : zC 11 = 0 := rfl
  have h2 : hiC 11 = 7 := rfl
  rintro (⟨-, z⟩ | ⟨z1, z2⟩)
  · rw [h1] at z
    cases z
  · rw [h2] at z2
    omega
abbrev COz (M : Mem) (o m q e c : Nat) (u w : Nat → Nat) (kp : Option Nat) (dk : Option Dc) (R : Option (Nat × (Nat → Nat)) × Tl) (N : Mem) : Prop := CXs N kp kp dk R.2 ∧ CIi N ∧ Sm (fun a _ => a < 198) M N ∧ (R.1 = none → CWr N o m q e c u w) ∧ ∀ t W, R.1 = some (t, W) → CWr N o q m e t u W
set_option maxHeartbeats 4000000 in
theorem copen_ok (hX : CXs M kp op dk x) (hI : CIi M) (hW : CWr M o m q e c u w) (hn : n < 9223372036854775808) (hR : opB u e n dk (e + 1) 0 0 (fun _ => 0) xZ = R) :
    Wp (fX12_open (some 11) (iJ (n : Nat)) M) fun _ N => COz M o m q e c u w kp dk R N := by
  obtain ⟨⟨b1, b2, b3, b4, b5, b6⟩, ⟨c1, c2, c3⟩, ⟨d1, d2, d3⟩, ⟨e1, e2, e3⟩, f1⟩ := id hW
  obtain ⟨x1, x2, x3, x4, x5, x6, x7, x8, x9, x10⟩ := id hX
  obtain ⟨dd, g1, g2, g3⟩ := PDc.dd x5
  have x53 := PDc.in3 x5
  obtain ⟨P, hP⟩ : ∃ P, sR M 11 9 kp = P := ⟨_, rfl⟩
  have sP : Sm (fun a j => a = 11 ∧ j = 9) M P := by
    rw [← hP]
    exact Sm.sR Sm.rf ⟨rfl, rfl⟩
  have p9 : mR P 11 9 = kp := by
    rw [← hP]
    simp -implicitDefEqProofs (disch := (first | decide | omega)) only [mK_sI, mK_sJ, mK_sR, mK_cpI, mL_sI, mL_sJ, mL_sR, mL_cpI, mI_sI, mI_sJ, mI_sR, mI_cpI, mJ_sI, mJ_sJ, mJ_sR, mJ_cpI, mR_sI, mR_sJ, mR_sR, mR_cpI, eqN_T, eqN_F, if_true, if_false, and_true, true_and, and_false, false_and, or_true, true_or, or_false, false_or, not_true_eq_false, not_false_eq_true, and_self, or_self, tn_c, ne_eq, dite_true, dite_false]
  have hCP : CSt P := x1.sm sP fun a j z => by
    obtain ⟨rfl, z⟩ := z
    exact ⟨by omega, fx_11c (by omega)⟩
  have h0 := copenAll_ok (r := o) (rb := o + 1) (m := q) (mb := q + 1) (e := e) (most := n) (dk := dd) (u := u) (M := P) ⟨b3, rfl, b1, rfl, b5, d2, hn⟩ hCP (x2.far sP fun a j z => by omega) (d1.1.sm sP (by omega)) (f1.sm sP (by omega)) ⟨(sP.K _).trans d1.1.2.2.1, (sP.L _).trans d1.1.2.2.2, d2, by omega, fun i hi => (sP.I _ _ (by omega)).trans (d1.2.2 i hi (by omega))⟩ d3 ((sP.I _ _ (by omega)).trans d1.2.1) ((sP.I _ _ (by omega)).trans x7) (fun z hz => (g3 z hz).sm sP fun a j y => by omega)
  rw [g1, g2, hR] at h0
  obtain ⟨v, A, eA, sA, oA, kA, tA, yA, lA, v0, v1⟩ := h0
  have hw : ∀ a j, WOp q (q + 1) a j → (a = q ∧ j = 1) ∨ a = q + 1 ∨ (18 ≤ a ∧ a ≤ 32) ∨ (122 ≤ a ∧ a ≤ 141) ∨ (144 ≤ a ∧ a ≤ 158) := fun a j z => by
    rcases z with z | ⟨-, z⟩
    · unfold Rw at z
      omega
    · omega
  have sA := sA.weak hw
  have sMA : Sm (fun a j => (a = 11 ∧ j = 9) ∨ ((a = q ∧ j = 1) ∨ a = q + 1 ∨ (18 ≤ a ∧ a ≤ 32) ∨ (122 ≤ a ∧ a ≤ 141) ∨ (144 ≤ a ∧ a ≤ 158))) M A := (sP.weak fun a j z => Or.inl z).tr (sA.weak fun a j z => Or.inr z)
  have fin : ∀ N, Sm (fun a j => a = 11 ∧ (j = 1 ∨ j = 2 ∨ j = 10)) A N → CXs N kp kp dk R.2 ∧ CIi N ∧ Sm (fun a _ => a < 198) M N ∧ RV N o (o + 1) 8000 e u ∧ RV N m (m + 1) 8000 c w ∧ RS N q (q + 1) 8000 ∧ mR N 11 0 = some o := fun N s => by
    have sMN : Sm (fun a j => (a = 11 ∧ (j = 9 ∨ j = 1 ∨ j = 2 ∨ j = 10)) ∨ ((a = q ∧ j = 1) ∨ a = q + 1 ∨ (18 ≤ a ∧ a ≤ 32) ∨ (122 ≤ a ∧ a ≤ 141) ∨ (144 ≤ a ∧ a ≤ 158))) M N := sMA.tr2 s (fun a j z => by omega) fun a j z => by omega
    refine ⟨⟨oA.1.sm s fun a j z => ?_, oA.2.1.far s fun a j z => by omega, (sMN.R _ _ (by omega)).trans x3, ((s.R _ _ (by omega)).trans (sA.R _ _ (by omega))).trans p9, PDc.sm x5 sMN fun a j z => by omega, x53, (s.I _ _ (by omega)).trans oA.2.2.2.2.2.2.2.1, tA.far s fun a j z => by omega, ?_, lA⟩, hI.sm sMN fun j z => by omega, sMN.weak fun a j z => by omega, d1.sm sMN (by omega) (by omega) (fun j => by omega), e1.sm sMN (by omega) (by omega) (fun j => by omega), f1.sm sMN (by omega), (sMN.R _ _ (by omega)).trans c1⟩
    · obtain ⟨rfl, z⟩ := z
      by_cases y : j < 3
      · exact ⟨by omega, fx_11 y⟩
      · exact ⟨by omega, fx_11c (by omega)⟩
    · rcases yA with y | y
      · exact Or.inl y
      · refine Or.inr (PTo.sm (M := A) ⟨fun i hi => ?_, ?_⟩ s (fun i hi => by omega) (by omega))
        · rcases y.1 i hi with z | z | ⟨t, z1, z2⟩
          · exact Or.inl z
          · exact Or.inr (Or.inl z)
          · exact Or.inr (Or.inr ⟨t.1, by rw [← g1, z1]; rfl, z2⟩)
        · rcases y.2 with z | ⟨t, z1, z2⟩
          · exact Or.inl z
          · exact Or.inr ⟨t.1, by rw [← g1, z1]; rfl, z2⟩
  have hCA : CSt A := oA.1
  have k11 : mK M 11 = 12 := x1.k 11 (by decide) (by decide)
  have pk11 := (sP.K 11).trans k11
  have p0 := (sP.R 11 0 (by omega)).trans c1
  have p2 := (sP.R 11 2 (by omega)).trans c3
  have p8 := (sP.R 11 8 (by omega)).trans x3
  have p6 : mR P 11 6 = some 122 := hCP.r 11 6 (by decide) (by decide) (Or.inr ⟨by decide, by decide⟩)
  have pk122 : mK P 122 = 5 := hCP.k 122 (by decide) (by decide)
  have ak11 : mK A 11 = 12 := hCA.k 11 (by decide) (by decide)
  have a4 : mR A 11 4 = some 30 := hCA.r 11 4 (by decide) (by decide) (Or.inr ⟨by decide, by decide⟩)
  have ak30 : mK A 30 = 7 := hCA.k 30 (by decide) (by decide)
  have a1 := (sMA.R 11 1 (by omega)).trans c2
  have a2 := (sMA.R 11 2 (by omega)).trans c3
  have ez : (0 : Int64) = iJ 0 := iJ_lit 0
  have kz := cmp_ge (a := (n : Int)) (b := 0) (by omega) (by omega)
  cases hr : R.1 with
  | none =>
    have hv := v0 hr
    subst hv
    obtain ⟨B, hB⟩ : ∃ B, sI A 11 10 (mI A 30 1) = B := ⟨_, rfl⟩
    have sB : Sm (fun a j => a = 11 ∧ j = 10) A B := by
      rw [← hB]
      exact Sm.sI Sm.rf ⟨rfl, rfl⟩
    have bk11 := (sB.K 11).trans ak11
    have bk30 := (sB.K 30).trans ak30
    have b4' := (sB.R 11 4 (by omega)).trans a4
    obtain ⟨y1, y2, y3, y4, y5, y6, y7⟩ := fin B (sB.weak fun a j z => by omega)
    have done : COz M o m q e c u w kp dk R B := ⟨y1, y2, y3, fun _ => ⟨⟨b1, b2, b3, b4, b5, b6⟩, ⟨y7, ((sB.R _ _ (by omega)).trans a1), ((sB.R _ _ (by omega)).trans a2)⟩, ⟨y4, d2, d3⟩, ⟨y5, e2, e3⟩, y6⟩, fun t W z => by
      rw [hr] at z
      cases z⟩
    clear fin sMA sA tA yA oA v0 v1 hw hCP hCA hX hI hW x1 x2 x5 x8 x9 d1 e1 f1 y1 y2 y3 y4 y5 y6 sB sP kA g3 hR
    (with_reducible apply w_e; · ((repeat' (first | (with_reducible apply bo_t; · ((try (simp -implicitDefEqProofs (disch := (first | decide | omega)) only [ez, kz, k11, x3, hP, pk11, p0, p2, p8, p6, pk122, eA, ak11, a4, ak30, hB, bk11, b4', bk30, bo_s, bd_s, bn_s, gI_s, gJ_s, gR_s, pI_s, pZ_s, pJ_s, pR_s, chk_s, chN_s, chN_n, aL_s, aI_c, aJ_c, aR_c, wI_c, wB_c, wS_c, wZ_c, wJ_c, wR_c, mK_sI, mK_sJ, mK_sR, mK_cpI, mL_sI, mL_sJ, mL_sR, mL_cpI, mI_sI, mI_sJ, mI_sR, mI_cpI, mJ_sI, mJ_sJ, mJ_sR, mJ_cpI, mR_sI, mR_sJ, mR_sR, mR_cpI, i2b_i2b, i2b_sb, iI_lit, iI_add, iI_sub, iI_mul, iI_neg, iI_lt, iI_le, iI_eq, iI_J, lt_T, lt_F, le_T, le_F, eq_T, eq_F, eqN_T, eqN_F, leN_T, leN_F, ltN_T, ltN_F, if_true, if_false, and_true, true_and, and_false, false_and, or_true, true_or, or_false, false_or, not_true_eq_false, not_false_eq_true, and_self, or_self, tn_c, ne_eq, dite_true, dite_false])); (with_reducible exact rfl))) | (with_reducible apply bd_t; · ((try (simp -implicitDefEqProofs (disch := (first | decide | omega)) only [ez, kz, k11, x3, hP, pk11, p0, p2, p8, p6, pk122, eA, ak11, a4, ak30, hB, bk11, b4', bk30, bo_s, bd_s, bn_s, gI_s, gJ_s, gR_s, pI_s, pZ_s, pJ_s, pR_s, chk_s, chN_s, chN_n, aL_s, aI_c, aJ_c, aR_c, wI_c, wB_c, wS_c, wZ_c, wJ_c, wR_c, mK_sI, mK_sJ, mK_sR, mK_cpI, mL_sI, mL_sJ, mL_sR, mL_cpI, mI_sI, mI_sJ, mI_sR, mI_cpI, mJ_sI, mJ_sJ, mJ_sR, mJ_cpI, mR_sI, mR_sJ, mR_sR, mR_cpI, i2b_i2b, i2b_sb, iI_lit, iI_add, iI_sub, iI_mul, iI_neg, iI_lt, iI_le, iI_eq, iI_J, lt_T, lt_F, le_T, le_F, eq_T, eq_F, eqN_T, eqN_F, leN_T, leN_F, ltN_T, ltN_F, if_true, if_false, and_true, true_and, and_false, false_and, or_true, true_or, or_false, false_or, not_true_eq_false, not_false_eq_true, and_self, or_self, tn_c, ne_eq, dite_true, dite_false])); (with_reducible exact rfl))) | (with_reducible apply bn_t; · ((try (simp -implicitDefEqProofs (disch := (first | decide | omega)) only [ez, kz, k11, x3, hP, pk11, p0, p2, p8, p6, pk122, eA, ak11, a4, ak30, hB, bk11, b4', bk30, bo_s, bd_s, bn_s, gI_s, gJ_s, gR_s, pI_s, pZ_s, pJ_s, pR_s, chk_s, chN_s, chN_n, aL_s, aI_c, aJ_c, aR_c, wI_c, wB_c, wS_c, wZ_c, wJ_c, wR_c, mK_sI, mK_sJ, mK_sR, mK_cpI, mL_sI, mL_sJ, mL_sR, mL_cpI, mI_sI, mI_sJ, mI_sR, mI_cpI, mJ_sI, mJ_sJ, mJ_sR, mJ_cpI, mR_sI, mR_sJ, mR_sR, mR_cpI, i2b_i2b, i2b_sb, iI_lit, iI_add, iI_sub, iI_mul, iI_neg, iI_lt, iI_le, iI_eq, iI_J, lt_T, lt_F, le_T, le_F, eq_T, eq_F, eqN_T, eqN_F, leN_T, leN_F, ltN_T, ltN_F, if_true, if_false, and_true, true_and, and_false, false_and, or_true, true_or, or_false, false_or, not_true_eq_false, not_false_eq_true, and_self, or_self, tn_c, ne_eq, dite_true, dite_false])); (with_reducible exact rfl))) | (with_reducible apply if_t; · (simp -implicitDefEqProofs (disch := (first | decide | omega)) only [ez, kz, k11, x3, hP, pk11, p0, p2, p8, p6, pk122, eA, ak11, a4, ak30, hB, bk11, b4', bk30, bo_s, bd_s, bn_s, gI_s, gJ_s, gR_s, pI_s, pZ_s, pJ_s, pR_s, chk_s, chN_s, chN_n, aL_s, aI_c, aJ_c, aR_c, wI_c, wB_c, wS_c, wZ_c, wJ_c, wR_c, mK_sI, mK_sJ, mK_sR, mK_cpI, mL_sI, mL_sJ, mL_sR, mL_cpI, mI_sI, mI_sJ, mI_sR, mI_cpI, mJ_sI, mJ_sJ, mJ_sR, mJ_cpI, mR_sI, mR_sJ, mR_sR, mR_cpI, i2b_i2b, i2b_sb, iI_lit, iI_add, iI_sub, iI_mul, iI_neg, iI_lt, iI_le, iI_eq, iI_J, lt_T, lt_F, le_T, le_F, eq_T, eq_F, eqN_T, eqN_F, leN_T, leN_F, ltN_T, ltN_F, if_true, if_false, and_true, true_and, and_false, false_and, or_true, true_or, or_false, false_or, not_true_eq_false, not_false_eq_true, and_self, or_self, tn_c, ne_eq, dite_true, dite_false]; done)) | (with_reducible apply if_f; · (simp -implicitDefEqProofs (disch := (first | decide | omega)) only [ez, kz, k11, x3, hP, pk11, p0, p2, p8, p6, pk122, eA, ak11, a4, ak30, hB, bk11, b4', bk30, bo_s, bd_s, bn_s, gI_s, gJ_s, gR_s, pI_s, pZ_s, pJ_s, pR_s, chk_s, chN_s, chN_n, aL_s, aI_c, aJ_c, aR_c, wI_c, wB_c, wS_c, wZ_c, wJ_c, wR_c, mK_sI, mK_sJ, mK_sR, mK_cpI, mL_sI, mL_sJ, mL_sR, mL_cpI, mI_sI, mI_sJ, mI_sR, mI_cpI, mJ_sI, mJ_sJ, mJ_sR, mJ_cpI, mR_sI, mR_sJ, mR_sR, mR_cpI, i2b_i2b, i2b_sb, iI_lit, iI_add, iI_sub, iI_mul, iI_neg, iI_lt, iI_le, iI_eq, iI_J, lt_T, lt_F, le_T, le_F, eq_T, eq_F, eqN_T, eqN_F, leN_T, leN_F, ltN_T, ltN_F, if_true, if_false, and_true, true_and, and_false, false_and, or_true, true_or, or_false, false_or, not_true_eq_false, not_false_eq_true, and_self, or_self, tn_c, ne_eq, dite_true, dite_false]; done)) | (with_reducible apply rz_t; · (simp -implicitDefEqProofs (disch := (first | decide | omega)) only [ez, kz, k11, x3, hP, pk11, p0, p2, p8, p6, pk122, eA, ak11, a4, ak30, hB, bk11, b4', bk30, bo_s, bd_s, bn_s, gI_s, gJ_s, gR_s, pI_s, pZ_s, pJ_s, pR_s, chk_s, chN_s, chN_n, aL_s, aI_c, aJ_c, aR_c, wI_c, wB_c, wS_c, wZ_c, wJ_c, wR_c, mK_sI, mK_sJ, mK_sR, mK_cpI, mL_sI, mL_sJ, mL_sR, mL_cpI, mI_sI, mI_sJ, mI_sR, mI_cpI, mJ_sI, mJ_sJ, mJ_sR, mJ_cpI, mR_sI, mR_sJ, mR_sR, mR_cpI, i2b_i2b, i2b_sb, iI_lit, iI_add, iI_sub, iI_mul, iI_neg, iI_lt, iI_le, iI_eq, iI_J, lt_T, lt_F, le_T, le_F, eq_T, eq_F, eqN_T, eqN_F, leN_T, leN_F, ltN_T, ltN_F, if_true, if_false, and_true, true_and, and_false, false_and, or_true, true_or, or_false, false_or, not_true_eq_false, not_false_eq_true, and_self, or_self, tn_c, ne_eq, dite_true, dite_false]; done)) | (unfold fX12_open))); (try (simp -implicitDefEqProofs (disch := (first | decide | omega)) only [ez, kz, k11, x3, hP, pk11, p0, p2, p8, p6, pk122, eA, ak11, a4, ak30, hB, bk11, b4', bk30, bo_s, bd_s, bn_s, gI_s, gJ_s, gR_s, pI_s, pZ_s, pJ_s, pR_s, chk_s, chN_s, chN_n, aL_s, aI_c, aJ_c, aR_c, wI_c, wB_c, wS_c, wZ_c, wJ_c, wR_c, mK_sI, mK_sJ, mK_sR, mK_cpI, mL_sI, mL_sJ, mL_sR, mL_cpI, mI_sI, mI_sJ, mI_sR, mI_cpI, mJ_sI, mJ_sJ, mJ_sR, mJ_cpI, mR_sI, mR_sJ, mR_sR, mR_cpI, i2b_i2b, i2b_sb, iI_lit, iI_add, iI_sub, iI_mul, iI_neg, iI_lt, iI_le, iI_eq, iI_J, lt_T, lt_F, le_T, le_F, eq_T, eq_F, eqN_T, eqN_F, leN_T, leN_F, ltN_T, ltN_F, if_true, if_false, and_true, true_and, and_false, false_and, or_true, true_or, or_false, false_or, not_true_eq_false, not_false_eq_true, and_self, or_self, tn_c, ne_eq, dite_true, dite_false])); (with_reducible exact rfl)))
    exact w_ret done
  | some p =>
    obtain ⟨hv, z1, z2, z3⟩ := v1 p.1 p.2 hr
    subst hv
    obtain ⟨B, hB⟩ : ∃ B, sI A 11 10 (iI (-1)) = B := ⟨_, rfl⟩
    obtain ⟨Y, hY⟩ : ∃ Y, sR B 11 1 (some q) = Y := ⟨_, rfl⟩
    obtain ⟨Z, hZ⟩ : ∃ Z, sR Y 11 2 (some m) = Z := ⟨_, rfl⟩
    have sB : Sm (fun a j => a = 11 ∧ j = 10) A B := by
      rw [← hB]
      exact Sm.sI Sm.rf ⟨rfl, rfl⟩
    have sY : Sm (fun a j => a = 11 ∧ j = 1) B Y := by
      rw [← hY]
      exact Sm.sR Sm.rf ⟨rfl, rfl⟩
    have sZ : Sm (fun a j => a = 11 ∧ j = 2) Y Z := by
      rw [← hZ]
      exact Sm.sR Sm.rf ⟨rfl, rfl⟩
    have sAZ : Sm (fun a j => a = 11 ∧ (j = 1 ∨ j = 2 ∨ j = 10)) A Z := (sB.weak fun a j z => by omega).tr ((sY.weak fun a j z => by omega).tr (sZ.weak fun a j z => by omega))
    have bk11 := (sB.K 11).trans ak11
    have b1' := (sB.R 11 1 (by omega)).trans a1
    have b2' := (sB.R 11 2 (by omega)).trans a2
    have yk11 := (sY.K 11).trans bk11
    have zk11 := (sZ.K 11).trans yk11
    have zkq := (sAZ.K q).trans z1.1.1
    have zr1 : mR Z 11 1 = some q := (sZ.R _ _ (by omega)).trans (by rw [← hY]; simp -implicitDefEqProofs (disch := (first | decide | omega)) only [mK_sI, mK_sJ, mK_sR, mK_cpI, mL_sI, mL_sJ, mL_sR, mL_cpI, mI_sI, mI_sJ, mI_sR, mI_cpI, mJ_sI, mJ_sJ, mJ_sR, mJ_cpI, mR_sI, mR_sJ, mR_sR, mR_cpI, eqN_T, eqN_F, if_true, if_false, and_true, true_and, and_false, false_and, or_true, true_or, or_false, false_or, not_true_eq_false, not_false_eq_true, and_self, or_self, tn_c, ne_eq, dite_true, dite_false])
    have zr2 : mR Z 11 2 = some m := by
      rw [← hZ]
      simp -implicitDefEqProofs (disch := (first | decide | omega)) only [mK_sI, mK_sJ, mK_sR, mK_cpI, mL_sI, mL_sJ, mL_sR, mL_cpI, mI_sI, mI_sJ, mI_sR, mI_cpI, mJ_sI, mJ_sJ, mJ_sR, mJ_cpI, mR_sI, mR_sJ, mR_sR, mR_cpI, eqN_T, eqN_F, if_true, if_false, and_true, true_and, and_false, false_and, or_true, true_or, or_false, false_or, not_true_eq_false, not_false_eq_true, and_self, or_self, tn_c, ne_eq, dite_true, dite_false]
    have zq1 := (sAZ.I q 1 (by omega)).trans z1.2.1
    have zV := z1.sm sAZ (by omega) (by omega) (fun j => by omega)
    obtain ⟨y1, y2, y3, y4, y5, y6, y7⟩ := fin Z sAZ
    have done : COz M o m q e c u w kp dk R Z := ⟨y1, y2, y3, fun z => (by
      rw [hr] at z
      cases z), fun t W z => by
      rw [hr] at z
      cases z
      exact ⟨⟨b1, b3, b2, b5, b4, fun g => b6 g.symm⟩, ⟨y7, zr1, zr2⟩, ⟨y4, d2, d3⟩, ⟨zV, z2, z3⟩, y5.1⟩⟩
    clear fin sMA sA tA yA oA v0 v1 hw hCP hCA hX hI hW x1 x2 x5 x8 x9 d1 e1 f1 y1 y2 y3 y4 y5 y6 sB sP sY sZ sAZ kA g3 hR z1 zV
    (with_reducible apply w_e; · ((repeat' (first | (with_reducible apply bo_t; · ((try (simp -implicitDefEqProofs (disch := (first | decide | omega)) only [ez, kz, k11, x3, hP, pk11, p0, p2, p8, p6, pk122, eA, ak11, a4, ak30, hB, bk11, b1', b2', hY, yk11, hZ, zk11, zr1, zkq, zq1, bo_s, bd_s, bn_s, gI_s, gJ_s, gR_s, pI_s, pZ_s, pJ_s, pR_s, chk_s, chN_s, chN_n, aL_s, aI_c, aJ_c, aR_c, wI_c, wB_c, wS_c, wZ_c, wJ_c, wR_c, mK_sI, mK_sJ, mK_sR, mK_cpI, mL_sI, mL_sJ, mL_sR, mL_cpI, mI_sI, mI_sJ, mI_sR, mI_cpI, mJ_sI, mJ_sJ, mJ_sR, mJ_cpI, mR_sI, mR_sJ, mR_sR, mR_cpI, i2b_i2b, i2b_sb, iI_lit, iI_add, iI_sub, iI_mul, iI_neg, iI_lt, iI_le, iI_eq, iI_J, lt_T, lt_F, le_T, le_F, eq_T, eq_F, eqN_T, eqN_F, leN_T, leN_F, ltN_T, ltN_F, if_true, if_false, and_true, true_and, and_false, false_and, or_true, true_or, or_false, false_or, not_true_eq_false, not_false_eq_true, and_self, or_self, tn_c, ne_eq, dite_true, dite_false])); (with_reducible exact rfl))) | (with_reducible apply bd_t; · ((try (simp -implicitDefEqProofs (disch := (first | decide | omega)) only [ez, kz, k11, x3, hP, pk11, p0, p2, p8, p6, pk122, eA, ak11, a4, ak30, hB, bk11, b1', b2', hY, yk11, hZ, zk11, zr1, zkq, zq1, bo_s, bd_s, bn_s, gI_s, gJ_s, gR_s, pI_s, pZ_s, pJ_s, pR_s, chk_s, chN_s, chN_n, aL_s, aI_c, aJ_c, aR_c, wI_c, wB_c, wS_c, wZ_c, wJ_c, wR_c, mK_sI, mK_sJ, mK_sR, mK_cpI, mL_sI, mL_sJ, mL_sR, mL_cpI, mI_sI, mI_sJ, mI_sR, mI_cpI, mJ_sI, mJ_sJ, mJ_sR, mJ_cpI, mR_sI, mR_sJ, mR_sR, mR_cpI, i2b_i2b, i2b_sb, iI_lit, iI_add, iI_sub, iI_mul, iI_neg, iI_lt, iI_le, iI_eq, iI_J, lt_T, lt_F, le_T, le_F, eq_T, eq_F, eqN_T, eqN_F, leN_T, leN_F, ltN_T, ltN_F, if_true, if_false, and_true, true_and, and_false, false_and, or_true, true_or, or_false, false_or, not_true_eq_false, not_false_eq_true, and_self, or_self, tn_c, ne_eq, dite_true, dite_false])); (with_reducible exact rfl))) | (with_reducible apply bn_t; · ((try (simp -implicitDefEqProofs (disch := (first | decide | omega)) only [ez, kz, k11, x3, hP, pk11, p0, p2, p8, p6, pk122, eA, ak11, a4, ak30, hB, bk11, b1', b2', hY, yk11, hZ, zk11, zr1, zkq, zq1, bo_s, bd_s, bn_s, gI_s, gJ_s, gR_s, pI_s, pZ_s, pJ_s, pR_s, chk_s, chN_s, chN_n, aL_s, aI_c, aJ_c, aR_c, wI_c, wB_c, wS_c, wZ_c, wJ_c, wR_c, mK_sI, mK_sJ, mK_sR, mK_cpI, mL_sI, mL_sJ, mL_sR, mL_cpI, mI_sI, mI_sJ, mI_sR, mI_cpI, mJ_sI, mJ_sJ, mJ_sR, mJ_cpI, mR_sI, mR_sJ, mR_sR, mR_cpI, i2b_i2b, i2b_sb, iI_lit, iI_add, iI_sub, iI_mul, iI_neg, iI_lt, iI_le, iI_eq, iI_J, lt_T, lt_F, le_T, le_F, eq_T, eq_F, eqN_T, eqN_F, leN_T, leN_F, ltN_T, ltN_F, if_true, if_false, and_true, true_and, and_false, false_and, or_true, true_or, or_false, false_or, not_true_eq_false, not_false_eq_true, and_self, or_self, tn_c, ne_eq, dite_true, dite_false])); (with_reducible exact rfl))) | (with_reducible apply if_t; · (simp -implicitDefEqProofs (disch := (first | decide | omega)) only [ez, kz, k11, x3, hP, pk11, p0, p2, p8, p6, pk122, eA, ak11, a4, ak30, hB, bk11, b1', b2', hY, yk11, hZ, zk11, zr1, zkq, zq1, bo_s, bd_s, bn_s, gI_s, gJ_s, gR_s, pI_s, pZ_s, pJ_s, pR_s, chk_s, chN_s, chN_n, aL_s, aI_c, aJ_c, aR_c, wI_c, wB_c, wS_c, wZ_c, wJ_c, wR_c, mK_sI, mK_sJ, mK_sR, mK_cpI, mL_sI, mL_sJ, mL_sR, mL_cpI, mI_sI, mI_sJ, mI_sR, mI_cpI, mJ_sI, mJ_sJ, mJ_sR, mJ_cpI, mR_sI, mR_sJ, mR_sR, mR_cpI, i2b_i2b, i2b_sb, iI_lit, iI_add, iI_sub, iI_mul, iI_neg, iI_lt, iI_le, iI_eq, iI_J, lt_T, lt_F, le_T, le_F, eq_T, eq_F, eqN_T, eqN_F, leN_T, leN_F, ltN_T, ltN_F, if_true, if_false, and_true, true_and, and_false, false_and, or_true, true_or, or_false, false_or, not_true_eq_false, not_false_eq_true, and_self, or_self, tn_c, ne_eq, dite_true, dite_false]; done)) | (with_reducible apply if_f; · (simp -implicitDefEqProofs (disch := (first | decide | omega)) only [ez, kz, k11, x3, hP, pk11, p0, p2, p8, p6, pk122, eA, ak11, a4, ak30, hB, bk11, b1', b2', hY, yk11, hZ, zk11, zr1, zkq, zq1, bo_s, bd_s, bn_s, gI_s, gJ_s, gR_s, pI_s, pZ_s, pJ_s, pR_s, chk_s, chN_s, chN_n, aL_s, aI_c, aJ_c, aR_c, wI_c, wB_c, wS_c, wZ_c, wJ_c, wR_c, mK_sI, mK_sJ, mK_sR, mK_cpI, mL_sI, mL_sJ, mL_sR, mL_cpI, mI_sI, mI_sJ, mI_sR, mI_cpI, mJ_sI, mJ_sJ, mJ_sR, mJ_cpI, mR_sI, mR_sJ, mR_sR, mR_cpI, i2b_i2b, i2b_sb, iI_lit, iI_add, iI_sub, iI_mul, iI_neg, iI_lt, iI_le, iI_eq, iI_J, lt_T, lt_F, le_T, le_F, eq_T, eq_F, eqN_T, eqN_F, leN_T, leN_F, ltN_T, ltN_F, if_true, if_false, and_true, true_and, and_false, false_and, or_true, true_or, or_false, false_or, not_true_eq_false, not_false_eq_true, and_self, or_self, tn_c, ne_eq, dite_true, dite_false]; done)) | (with_reducible apply rz_t; · (simp -implicitDefEqProofs (disch := (first | decide | omega)) only [ez, kz, k11, x3, hP, pk11, p0, p2, p8, p6, pk122, eA, ak11, a4, ak30, hB, bk11, b1', b2', hY, yk11, hZ, zk11, zr1, zkq, zq1, bo_s, bd_s, bn_s, gI_s, gJ_s, gR_s, pI_s, pZ_s, pJ_s, pR_s, chk_s, chN_s, chN_n, aL_s, aI_c, aJ_c, aR_c, wI_c, wB_c, wS_c, wZ_c, wJ_c, wR_c, mK_sI, mK_sJ, mK_sR, mK_cpI, mL_sI, mL_sJ, mL_sR, mL_cpI, mI_sI, mI_sJ, mI_sR, mI_cpI, mJ_sI, mJ_sJ, mJ_sR, mJ_cpI, mR_sI, mR_sJ, mR_sR, mR_cpI, i2b_i2b, i2b_sb, iI_lit, iI_add, iI_sub, iI_mul, iI_neg, iI_lt, iI_le, iI_eq, iI_J, lt_T, lt_F, le_T, le_F, eq_T, eq_F, eqN_T, eqN_F, leN_T, leN_F, ltN_T, ltN_F, if_true, if_false, and_true, true_and, and_false, false_and, or_true, true_or, or_false, false_or, not_true_eq_false, not_false_eq_true, and_self, or_self, tn_c, ne_eq, dite_true, dite_false]; done)) | (unfold fX12_open) | (unfold fX12_spareCameOut))); (try (simp -implicitDefEqProofs (disch := (first | decide | omega)) only [ez, kz, k11, x3, hP, pk11, p0, p2, p8, p6, pk122, eA, ak11, a4, ak30, hB, bk11, b1', b2', hY, yk11, hZ, zk11, zr1, zkq, zq1, bo_s, bd_s, bn_s, gI_s, gJ_s, gR_s, pI_s, pZ_s, pJ_s, pR_s, chk_s, chN_s, chN_n, aL_s, aI_c, aJ_c, aR_c, wI_c, wB_c, wS_c, wZ_c, wJ_c, wR_c, mK_sI, mK_sJ, mK_sR, mK_cpI, mL_sI, mL_sJ, mL_sR, mL_cpI, mI_sI, mI_sJ, mI_sR, mI_cpI, mJ_sI, mJ_sJ, mJ_sR, mJ_cpI, mR_sI, mR_sJ, mR_sR, mR_cpI, i2b_i2b, i2b_sb, iI_lit, iI_add, iI_sub, iI_mul, iI_neg, iI_lt, iI_le, iI_eq, iI_J, lt_T, lt_F, le_T, le_F, eq_T, eq_F, eqN_T, eqN_F, leN_T, leN_F, ltN_T, ltN_F, if_true, if_false, and_true, true_and, and_false, false_and, or_true, true_or, or_false, false_or, not_true_eq_false, not_false_eq_true, and_self, or_self, tn_c, ne_eq, dite_true, dite_false])); (with_reducible exact rfl)))
    exact w_ret done
end JOPEN
