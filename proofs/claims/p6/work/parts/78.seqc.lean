/-! the bits of one SEQUENCE: the class's -/
def SKd (M : Mem) (Ts : Nat → Tb) : Prop := ∀ k, k < 3 → TG k (Ts k) ∧ ∃ t, mR M 135 k = some t ∧ tOk k t ∧ TbV M t (Ts k)
theorem SKd.sm {M N : Mem} {Ts : Nat → Tb} {S : Nat → Nat → Prop} (h : SKd M Ts) (s : Sm S M N) (hs : ∀ k, k < 3 → ¬ S 135 k ∧ ∀ t j, tOk k t → ¬ S t 0 ∧ ¬ S (t + 1) j) : SKd N Ts := by
  intro k hk
  obtain ⟨a1, t, a2, a3, a4⟩ := h k hk
  obtain ⟨b2, b3⟩ := hs k hk
  exact ⟨a1, t, (s.R _ _ b2).trans a2, a3, a4.sm s (b3 t 0 a3).1 fun j => (b3 t j a3).2⟩
section SEQC
variable {M : Mem} {Ts : Nat → Tb} {rb rn e F L k q z : Nat} {u : Nat → Nat}
theorem ssym_ok (hC : CSt M) (hT : SKd M Ts) (hk : k < 3) (hq : q < 2 ^ (Ts k).1) (h : mI M 138 k = iI q) : fX9_symbolOf (some 134) (iI k) M = some (iI (syK Ts k q : Nat), M) := by
  obtain ⟨⟨g1, g2⟩, t, t1, t2, t3⟩ := hT k hk
  have hTS := hC.ts hk t2
  have e1 := symbolAt_ok hTS g1 t3 hq
  have g3 := g2 q hq
  obtain ⟨k134, r134_0, r134_4, k135, l135, k138, l138⟩ : mK M 134 = 9 ∧ mR M 134 0 = some 135 ∧ mR M 134 4 = some 138 ∧ mK M 135 = 20 ∧ mL M 135 = 3 ∧ mK M 138 = 15 ∧ mL M 138 = 3 := ⟨hC.k 134 (by decide) (by decide), hC.r 134 0 (by decide) (by decide) (by decide), hC.r 134 4 (by decide) (by decide) (by decide), hC.k 135 (by decide) (by decide), hC.l 135 (by decide) (by decide), hC.k 138 (by decide) (by decide), hC.l 138 (by decide) (by decide)⟩
  obtain ⟨-, -, f3, -⟩ := hC.kf hk
  obtain ⟨s1, s2, -, -⟩ := hC.s0
  have kt := hTS.1
  have hgr := grK_r k
  have e2 := minI_iI (a := ((Ts k).2.1 q : Int)) (b := grK k) (by omega) (by omega)
  rw [show min ((Ts k).2.1 q : Int) (grK k) = ((Ts k).2.1 q : Nat) by omega] at e2
  clear hC hT hTS t3 g1 g2
  simp -implicitDefEqProofs (disch := (first | decide | omega)) only [fX9_symbolOf, k134, r134_0, k135, l135, t1, r134_4, k138, l138, h, kt, e1, s1, s2, f3, e2, bo_s, bd_s, bn_s, gI_s, gJ_s, gR_s, pI_s, pZ_s, pJ_s, pR_s, chk_s, chN_s, chN_n, aL_s, aI_c, aJ_c, aR_c, wI_c, wB_c, wS_c, wZ_c, wJ_c, wR_c, mK_sI, mK_sJ, mK_sR, mK_cpI, mL_sI, mL_sJ, mL_sR, mL_cpI, mI_sI, mI_sJ, mI_sR, mI_cpI, mJ_sI, mJ_sJ, mJ_sR, mJ_cpI, mR_sI, mR_sJ, mR_sR, mR_cpI, i2b_i2b, i2b_sb, iI_lit, iI_add, iI_sub, iI_mul, iI_neg, iI_lt, iI_le, iI_eq, iI_J, lt_T, lt_F, le_T, le_F, eq_T, eq_F, eqN_T, eqN_F, leN_T, leN_F, ltN_T, ltN_F, if_true, if_false, and_true, true_and, and_false, false_and, or_true, true_or, or_false, false_or, not_true_eq_false, not_false_eq_true, and_self, or_self, tn_c, ne_eq, dite_true, dite_false]
  rfl
theorem slen_ok (hC : CSt M) (hT : SKd M Ts) (hk : k = 0 ∨ k = 2) (hq : q < 2 ^ (Ts k).1) (h : mI M 138 k = iI q) (hK : BK M 140 rb F L z) (hb : BV M rb rn e u) (hu : ∀ i, u i < 256) (he : 8 * F + L ≤ 8 * e) :
    ∃ N, fX9_lengthOf (some 134) (iI k) M = some (iI (bsK k (syK Ts k q) + tkV u F L (exK k (syK Ts k q)) : Nat), N) ∧ BK N 140 rb F (tkL L (exK k (syK Ts k q))) (tkZ L (exK k (syK Ts k q)) z : Nat) ∧ Sm (fun a j => a = 140 ∧ (j = 2 ∨ j = 3)) M N := by
  have hk3 : k < 3 := by omega
  have e1 := ssym_ok hC hT hk3 hq h
  have hg : syK Ts k q ≤ grK k := (hT k hk3).1.2 q hq
  obtain ⟨b1, b2⟩ := bs_r hk hg
  obtain ⟨N, e2, hK2, hS⟩ := take_u (m := exK k (syK Ts k q)) hK hb hu (by omega) he
  have hv := tkV_lt u F L (exK k (syK Ts k q))
  have hp : 2 ^ exK k (syK Ts k q) ≤ 2 ^ 16 := pow_le2 b2
  refine ⟨N, ?_, hK2, hS⟩
  obtain ⟨k134, r134_8, k140⟩ : mK M 134 = 9 ∧ mR M 134 8 = some 140 ∧ mK M 140 = 0 := ⟨hC.k 134 (by decide) (by decide), hC.r 134 8 (by decide) (by decide) (by decide), hC.k 140 (by decide) (by decide)⟩
  rcases hk with rfl | rfl
  · have hg : syK Ts 0 q ≤ 35 := hg
    obtain ⟨s1, s2, s3⟩ := hC.st 6 (by omega)
    obtain ⟨t1, t2, t3⟩ := hC.st 7 (by omega)
    have s4 := (s3 (syK Ts 0 q)).trans (st6 _ (by omega))
    have t4 := (t3 (syK Ts 0 q)).trans (st7 _ (by omega))
    have s2 : mL M 6 = 36 := s2
    have t2 : mL M 7 = 36 := t2
    have e2 : fX0_take (some 140) (iI (lxK (syK Ts 0 q) : Nat)) M = some (iJ (tkV u F L (lxK (syK Ts 0 q)) : Nat), N) := e2
    have hv : tkV u F L (lxK (syK Ts 0 q)) < 2 ^ lxK (syK Ts 0 q) := hv
    have hp : 2 ^ lxK (syK Ts 0 q) ≤ 2 ^ 16 := hp
    have b1 : lbK (syK Ts 0 q) ≤ 65539 := b1
    show fX9_lengthOf (some 134) (iI 0) M = some (iI (lbK (syK Ts 0 q) + tkV u F L (lxK (syK Ts 0 q)) : Nat), N)
    have e1 : fX9_symbolOf (some 134) (iI 0) M = some (iI (syK Ts 0 q : Nat), M) := e1
    clear hC hT hK hb s3 t3 hS hK2
    simp -implicitDefEqProofs (disch := (first | decide | omega)) only [fX9_lengthOf, fX12_baseOf, fX12_baseOf_L13, fX12_extraOf, fX12_extraOf_L13, k134, e1, s1, s2, s4, r134_8, t1, t2, t4, k140, e2, iJ_I, bo_s, bd_s, bn_s, gI_s, gJ_s, gR_s, pI_s, pZ_s, pJ_s, pR_s, chk_s, chN_s, chN_n, aL_s, aI_c, aJ_c, aR_c, wI_c, wB_c, wS_c, wZ_c, wJ_c, wR_c, mK_sI, mK_sJ, mK_sR, mK_cpI, mL_sI, mL_sJ, mL_sR, mL_cpI, mI_sI, mI_sJ, mI_sR, mI_cpI, mJ_sI, mJ_sJ, mJ_sR, mJ_cpI, mR_sI, mR_sJ, mR_sR, mR_cpI, i2b_i2b, i2b_sb, iI_lit, iI_add, iI_sub, iI_mul, iI_neg, iI_lt, iI_le, iI_eq, iI_J, lt_T, lt_F, le_T, le_F, eq_T, eq_F, eqN_T, eqN_F, leN_T, leN_F, ltN_T, ltN_F, if_true, if_false, and_true, true_and, and_false, false_and, or_true, true_or, or_false, false_or, not_true_eq_false, not_false_eq_true, and_self, or_self, tn_c, ne_eq, dite_true, dite_false]
    rfl
  · have hg : syK Ts 2 q ≤ 52 := hg
    obtain ⟨s1, s2, s3⟩ := hC.st 8 (by omega)
    obtain ⟨t1, t2, t3⟩ := hC.st 9 (by omega)
    have s4 := (s3 (syK Ts 2 q)).trans (st8 _ (by omega))
    have t4 := (t3 (syK Ts 2 q)).trans (st9 _ (by omega))
    have s2 : mL M 8 = 53 := s2
    have t2 : mL M 9 = 53 := t2
    have e2 : fX0_take (some 140) (iI (cxK (syK Ts 2 q) : Nat)) M = some (iJ (tkV u F L (cxK (syK Ts 2 q)) : Nat), N) := e2
    have hv : tkV u F L (cxK (syK Ts 2 q)) < 2 ^ cxK (syK Ts 2 q) := hv
    have hp : 2 ^ cxK (syK Ts 2 q) ≤ 2 ^ 16 := hp
    have b1 : cbK (syK Ts 2 q) ≤ 65539 := b1
    show fX9_lengthOf (some 134) (iI 2) M = some (iI (cbK (syK Ts 2 q) + tkV u F L (cxK (syK Ts 2 q)) : Nat), N)
    have e1 : fX9_symbolOf (some 134) (iI 2) M = some (iI (syK Ts 2 q : Nat), M) := e1
    clear hC hT hK hb s3 t3 hS hK2
    simp -implicitDefEqProofs (disch := (first | decide | omega)) only [fX9_lengthOf, fX12_baseOf, fX12_baseOf_L13, fX12_extraOf, fX12_extraOf_L13, k134, e1, s1, s2, s4, r134_8, t1, t2, t4, k140, e2, iJ_I, bo_s, bd_s, bn_s, gI_s, gJ_s, gR_s, pI_s, pZ_s, pJ_s, pR_s, chk_s, chN_s, chN_n, aL_s, aI_c, aJ_c, aR_c, wI_c, wB_c, wS_c, wZ_c, wJ_c, wR_c, mK_sI, mK_sJ, mK_sR, mK_cpI, mL_sI, mL_sJ, mL_sR, mL_cpI, mI_sI, mI_sJ, mI_sR, mI_cpI, mJ_sI, mJ_sJ, mJ_sR, mJ_cpI, mR_sI, mR_sJ, mR_sR, mR_cpI, i2b_i2b, i2b_sb, iI_lit, iI_add, iI_sub, iI_mul, iI_neg, iI_lt, iI_le, iI_eq, iI_J, lt_T, lt_F, le_T, le_F, eq_T, eq_F, eqN_T, eqN_F, leN_T, leN_F, ltN_T, ltN_F, if_true, if_false, and_true, true_and, and_false, false_and, or_true, true_or, or_false, false_or, not_true_eq_false, not_false_eq_true, and_self, or_self, tn_c, ne_eq, dite_true, dite_false]
    rfl
theorem sgo_ok (hC : CSt M) (hT : SKd M Ts) (hk : k < 3) (hq : q < 2 ^ (Ts k).1) (h : mI M 138 k = iI q) (hK : BK M 140 rb F L z) (hb : BV M rb rn e u) (hu : ∀ i, u i < 256) (he : 8 * F + L ≤ 8 * e) :
    ∃ N, fX9_goOn (some 134) (iI k) M = some ((), N) ∧ BK N 140 rb F (tkL L ((Ts k).2.2.1 q)) (tkZ L ((Ts k).2.2.1 q) z : Nat) ∧ mI N 138 k = iI (goK u F Ts k q L : Nat) ∧ goK u F Ts k q L < 2 ^ (Ts k).1 ∧ Sm (fun a j => (a = 140 ∧ (j = 2 ∨ j = 3)) ∨ (a = 138 ∧ j = k)) M N := by
  obtain ⟨⟨g1, g2⟩, t, t1, t2, t3⟩ := hT k hk
  have hTS := hC.ts hk t2
  obtain ⟨h1, h2, h3⟩ := g1.2 q hq
  have e1 := baseAt_ok hTS g1 t3 hq
  have e2 := bitsAt_ok hTS g1 t3 hq
  obtain ⟨N, e3, hK2, hS⟩ := take_u (m := (Ts k).2.2.1 q) hK hb hu (by omega) he
  have hv := tkV_lt u F L ((Ts k).2.2.1 q)
  have h9 : 2 ^ (Ts k).1 ≤ 512 := pow_le2 (b := 9) g1.1
  have hgo : goK u F Ts k q L = (Ts k).2.2.2 q + tkV u F L ((Ts k).2.2.1 q) := rfl
  obtain ⟨k134, r134_0, r134_4, r134_8, k135, l135, k138, l138, k140⟩ : mK M 134 = 9 ∧ mR M 134 0 = some 135 ∧ mR M 134 4 = some 138 ∧ mR M 134 8 = some 140 ∧ mK M 135 = 20 ∧ mL M 135 = 3 ∧ mK M 138 = 15 ∧ mL M 138 = 3 ∧ mK M 140 = 0 := ⟨hC.k 134 (by decide) (by decide), hC.r 134 0 (by decide) (by decide) (by decide), hC.r 134 4 (by decide) (by decide) (by decide), hC.r 134 8 (by decide) (by decide) (by decide), hC.k 135 (by decide) (by decide), hC.l 135 (by decide) (by decide), hC.k 138 (by decide) (by decide), hC.l 138 (by decide) (by decide), hC.k 140 (by decide) (by decide)⟩
  have n1 := (hS.K 138).trans k138
  have n2 := (hS.L 138).trans l138
  have kt := hTS.1
  have ego : ((Ts k).2.2.2 q : Int) + (tkV u F L ((Ts k).2.2.1 q) : Nat) = (goK u F Ts k q L : Nat) := by rw [hgo]; omega
  refine ⟨sI N 138 k (iI (goK u F Ts k q L : Nat)), ?_, ?_, ?_, by omega, Sm.sI (hS.weak fun a j h => Or.inl h) (Or.inr ⟨rfl, rfl⟩)⟩
  · clear hC hT hTS t3 g1 g2 hK hb hK2 hS
    simp -implicitDefEqProofs (disch := (first | decide | omega)) only [fX9_goOn, k134, r134_0, k135, l135, t1, r134_4, k138, l138, h, kt, e1, r134_8, e2, k140, e3, iJ_I, ego, n1, n2, bo_s, bd_s, bn_s, gI_s, gJ_s, gR_s, pI_s, pZ_s, pJ_s, pR_s, chk_s, chN_s, chN_n, aL_s, aI_c, aJ_c, aR_c, wI_c, wB_c, wS_c, wZ_c, wJ_c, wR_c, mK_sI, mK_sJ, mK_sR, mK_cpI, mL_sI, mL_sJ, mL_sR, mL_cpI, mI_sI, mI_sJ, mI_sR, mI_cpI, mJ_sI, mJ_sJ, mJ_sR, mJ_cpI, mR_sI, mR_sJ, mR_sR, mR_cpI, i2b_i2b, i2b_sb, iI_lit, iI_add, iI_sub, iI_mul, iI_neg, iI_lt, iI_le, iI_eq, iI_J, lt_T, lt_F, le_T, le_F, eq_T, eq_F, eqN_T, eqN_F, leN_T, leN_F, ltN_T, ltN_F, if_true, if_false, and_true, true_and, and_false, false_and, or_true, true_or, or_false, false_or, not_true_eq_false, not_false_eq_true, and_self, or_self, tn_c, ne_eq, dite_true, dite_false]
  · obtain ⟨a0, a1, a2, a3, a4⟩ := hK2
    refine ⟨a0, a1, ?_, ?_, ?_⟩ <;> simp -implicitDefEqProofs (disch := (first | decide | omega)) only [mK_sI, mK_sJ, mK_sR, mK_cpI, mL_sI, mL_sJ, mL_sR, mL_cpI, mI_sI, mI_sJ, mI_sR, mI_cpI, mJ_sI, mJ_sJ, mJ_sR, mJ_cpI, mR_sI, mR_sJ, mR_sR, mR_cpI, eqN_T, eqN_F, if_true, if_false, and_true, true_and, and_false, false_and, or_true, true_or, or_false, false_or, not_true_eq_false, not_false_eq_true, and_self, or_self, tn_c, ne_eq, dite_true, dite_false] <;> assumption
  · simp -implicitDefEqProofs (disch := (first | decide | omega)) only [mK_sI, mK_sJ, mK_sR, mK_cpI, mL_sI, mL_sJ, mL_sR, mL_cpI, mI_sI, mI_sJ, mI_sR, mI_cpI, mJ_sI, mJ_sJ, mJ_sR, mJ_cpI, mR_sI, mR_sJ, mR_sR, mR_cpI, eqN_T, eqN_F, if_true, if_false, and_true, true_and, and_false, false_and, or_true, true_or, or_false, false_or, not_true_eq_false, not_false_eq_true, and_self, or_self, tn_c, ne_eq, dite_true, dite_false]
end SEQC
