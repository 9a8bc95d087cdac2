/-! LETTERS: the CODE and the body; the class's -/
abbrev LKd (M : Mem) (c0 : Option Cd) : Prop := mI M 125 2 = iI (if c0.isSome then 1 else 0) ∧ ∀ C, c0 = some C → CdR C ∧ ∃ cc, mR M 125 1 = some cc ∧ (cc = 128 ∨ cc = 37 ∨ cc = 61 ∨ cc = 85) ∧ CdV M cc C
def enL (u : Nat → Nat) (a : Nat) : Nat := nxL u a + flL u a
def ltC (u : Nat → Nat) (a g lim : Nat) (c0 : Option Cd) : Option Cd := if LH u a g lim ∧ u a % 4 = 2 then (match rdW u (nxL u a) (enL u a) with
  | none => c0
  | some x => some (cdOf x.2.1 x.2.2.1 x.2.2.2)) else c0
def ltR (u : Nat → Nat) (a g lim : Nat) (c0 : Option Cd) : Option (Nat → Nat) := if ¬ LH u a g lim then none else
  if u a % 4 = 0 then some (fun i => u (nxL u a + i)) else if u a % 4 = 1 then some (fun _ => u (nxL u a)) else
  if u a % 4 = 3 then (match c0 with
    | none => none
    | some C => rsS u (nxL u a) (enL u a) C (cnL u a) (u a / 4 % 4)) else
  match rdW u (nxL u a) (enL u a) with
  | none => none
  | some x => rsS u x.1 (enL u a) (cdOf x.2.1 x.2.2.1 x.2.2.2) (cnL u a) (u a / 4 % 4)
def WLc (a j : Nat) : Prop := WW a j ∨ WK 128 a j ∨ (a = 125 ∧ (j = 1 ∨ j = 2 ∨ j = 9)) ∨ (a = 30 ∧ j ≤ 1)
theorem WLc_fx : ∀ a j, WLc a j → 10 ≤ a ∧ ¬ fx a j := by
  rintro a j h
  rcases h with h | h | ⟨rfl, h⟩ | ⟨rfl, h⟩
  · exact WW_fx a j h
  · unfold WK at h
    rcases h with ⟨rfl, h⟩ | rfl | rfl | rfl
    · exact ⟨by omega, fx_of 128 0 1 3 rfl rfl rfl (by omega)⟩
    · exact ⟨by omega, fx_of 129 0 1 0 rfl rfl rfl (by omega)⟩
    · exact ⟨by omega, fx_of 130 0 1 0 rfl rfl rfl (by omega)⟩
    · exact ⟨by omega, fx_of 131 0 1 0 rfl rfl rfl (by omega)⟩
  · exact ⟨by omega, fx_of 125 1 4 7 rfl rfl rfl (by omega)⟩
  · exact ⟨by omega, fx_of 30 0 2 3 rfl rfl rfl (by omega)⟩
theorem CSt.cd {M : Mem} (h : CSt M) {cc : Nat} (hc : cc = 128 ∨ cc = 37 ∨ cc = 61 ∨ cc = 85) : CdS M cc := by
  rcases hc with rfl | rfl | rfl | rfl
  · exact h.c128
  · exact h.c37
  · exact h.c61
  · exact h.c85
/-- where the STREAMS begin -/
def spL (u : Nat → Nat) (a : Nat) : Nat := if u a % 4 = 2 then (match rdW u (nxL u a) (enL u a) with
  | none => nxL u a
  | some x => x.1) else nxL u a
section LCODE
variable {M : Mem} {r rb rn e a g lim : Nat} {u : Nat → Nat} {c0 : Option Cd}
theorem LKd.sm {N : Mem} {S : Nat → Nat → Prop} (h : LKd M c0) (s : Sm S M N) (h1 : ¬ S 125 2 ∧ ¬ S 125 1) (h2 : ∀ cc, cc = 128 ∨ cc = 37 ∨ cc = 61 ∨ cc = 85 → ¬ S cc 0 ∧ (∀ j, ¬ S (cc + 1) j) ∧ ∀ j, ¬ S (cc + 3) j) : LKd N c0 := by
  refine ⟨(s.I _ _ h1.1).trans h.1, fun C hC => ?_⟩
  obtain ⟨a1, cc, a2, a3, a4⟩ := h.2 C hC
  have := h2 cc a3
  exact ⟨a1, cc, (s.R _ _ h1.2).trans a2, a3, a4.sm s this.1 this.2.1 this.2.2⟩
set_option maxHeartbeats 8000000 in
theorem readCode_ok (hC : CSt M) (hr : RS M r rb rn) (hb : BV M rb rn e u) (hr2 : r < 18) (hb2 : rb < 18) (hu : ∀ i, u i < 256) (hg : g ≤ e) (hH : HT M u a) (hL : LH u a g lim) (h0 : LKd M c0) :
    Wp (fX4_readCode (some 125) (some r) M) fun v N => Sm WLc M N ∧ LKd N (ltC u a g lim c0) ∧ (mR N 125 1 = mR M 125 1 ∨ mR N 125 1 = some 128) ∧ ((v = iI 0 ∧ ltR u a g lim c0 = none) ∨ (v = iI 1 ∧ mI N 125 9 = iI (spL u a : Nat) ∧ (2 ≤ u a % 4 → ∃ C, ltC u a g lim c0 = some C ∧ ltR u a g lim c0 = rsS u (spL u a) (enL u a) C (cnL u a) (u a / 4 % 4)))) := by
  have g3 := hb.2.2.1
  have g4 := hb.2.2.2.1
  obtain ⟨k125, r125_4, r125_5, r125_6, k30, k18, k128⟩ : mK M 125 = 4 ∧ mR M 125 4 = some 128 ∧ mR M 125 5 = some 30 ∧ mR M 125 6 = some 18 ∧ mK M 30 = 7 ∧ mK M 18 = 11 ∧ mK M 128 = 1 := ⟨hC.k 125 (by omega) (by omega), hC.r 125 4 (by omega) (by omega) (by decide), hC.r 125 5 (by omega) (by omega) (by decide), hC.r 125 6 (by omega) (by omega) (by decide), hC.k 30 (by omega) (by omega), hC.k 18 (by omega) (by omega), hC.k 128 (by omega) (by omega)⟩
  obtain ⟨h8, h10, h11, h12, h9, h3⟩ := hH
  have hnx : nxL u a ≤ 900000 := by have := hL.2.1; omega
  have hen : nxL u a + flL u a = enL u a := rfl
  rw [hen] at h3
  have heg : enL u a ≤ g := hL.2.2.2
  have hk4 : u a % 4 < 4 := by omega
  by_cases c2 : u a % 4 = 2
  · rw [c2, show ((2 : Nat) : Int) = 2 from rfl] at h10
    obtain ⟨v, N, e1, hS1, hA, hB⟩ := wread_ok (a := nxL u a) (g := enL u a) hC.cw hr hb (by omega) (by omega) hu (by omega) (by omega)
    have hC1 := hC.sm hS1 WW_fx
    cases hW : rdW u (nxL u a) (enL u a) with
    | none =>
      have hv := hA hW
      subst hv
      have hLt : ltC u a g lim c0 = c0 := by unfold ltC; rw [if_pos ⟨hL, c2⟩, hW]
      have hRt : ltR u a g lim c0 = none := by unfold ltR; rw [if_neg (fun h => h hL), if_neg (by omega), if_neg (by omega), if_neg (by omega), hW]
      obtain ⟨nk125, nr125_5, nk30⟩ : mK N 125 = 4 ∧ mR N 125 5 = some 30 ∧ mK N 30 = 7 := ⟨hC1.k 125 (by omega) (by omega), hC1.r 125 5 (by omega) (by omega) (by decide), hC1.k 30 (by omega) (by omega)⟩
      have n9 := (hS1.I 125 9 (by unfold WW; omega)).trans h9
      have e2 := fail_ok nk30 (iI 11) (iI (nxL u a : Nat))
      simp -implicitDefEqProofs (disch := omega) only [fX4_readCode, k125, h10, r125_6, h9, h3, k18, e1, nr125_5, n9, nk125, nk30, e2, rtZ, bo_s, bd_s, bn_s, gI_s, gJ_s, gR_s, pI_s, pZ_s, pJ_s, pR_s, chk_s, chN_s, chN_n, aL_s, aI_c, aJ_c, aR_c, wI_c, wB_c, wS_c, wZ_c, wJ_c, wR_c, mK_sI, mK_sJ, mK_sR, mK_cpI, mL_sI, mL_sJ, mL_sR, mL_cpI, mI_sI, mI_sJ, mI_sR, mI_cpI, mJ_sI, mJ_sJ, mJ_sR, mJ_cpI, mR_sI, mR_sJ, mR_sR, mR_cpI, i2b_i2b, i2b_sb, iI_lit, iI_add, iI_sub, iI_mul, iI_neg, iI_lt, iI_le, iI_eq, iI_J, lt_T, lt_F, le_T, le_F, eq_T, eq_F, eqN_T, eqN_F, leN_T, leN_F, ltN_T, ltN_F, if_true, if_false, and_true, true_and, and_false, false_and, or_true, true_or, or_false, false_or, not_true_eq_false, not_false_eq_true, and_self, or_self, tn_c, ne_eq, dite_true, dite_false]
      refine w_ret ⟨?_, ?_, Or.inl (hS1.R 125 1 (by unfold WW; omega)), Or.inl ⟨rfl, hRt⟩⟩
      · exact Sm.sI (Sm.sI (hS1.weak fun a j h => Or.inl h) (Or.inr (Or.inr (Or.inr ⟨rfl, by omega⟩)))) (Or.inr (Or.inr (Or.inr ⟨rfl, by omega⟩)))
      · rw [hLt]
        refine h0.sm (S := fun a j => WW a j ∨ a = 30) (Sm.sI (Sm.sI (hS1.weak fun a j h => Or.inl h) (Or.inr rfl)) (Or.inr rfl)) ⟨by unfold WW; omega, by unfold WW; omega⟩ fun cc hcc => ⟨by unfold WW; omega, fun j => by unfold WW; omega, fun j => by unfold WW; omega⟩
    | some x =>
      obtain ⟨p, m, k, w⟩ := x
      obtain ⟨hv, b1, b2⟩ := hB _ _ _ _ hW
      subst hv
      obtain ⟨w1, w2, w3⟩ := rdW_ok hW hu
      have hLt : ltC u a g lim c0 = some (cdOf m k w) := by unfold ltC; rw [if_pos ⟨hL, c2⟩, hW]
      have hsp : spL u a = p := by unfold spL; rw [if_pos c2, hW]
      have hRt : ltR u a g lim c0 = rsS u p (enL u a) (cdOf m k w) (cnL u a) (u a / 4 % 4) := by unfold ltR; rw [if_neg (fun h => h hL), if_neg (by omega), if_neg (by omega), if_neg (by omega), hW]
      obtain ⟨nk125, nr125_4, nr125_6, nk128⟩ : mK N 125 = 4 ∧ mR N 125 4 = some 128 ∧ mR N 125 6 = some 18 ∧ mK N 128 = 1 := ⟨hC1.k 125 (by omega) (by omega), hC1.r 125 4 (by omega) (by omega) (by decide), hC1.r 125 6 (by omega) (by omega) (by decide), hC1.k 128 (by omega) (by omega)⟩
      obtain ⟨v2, N2, e2, hS2, hV, -⟩ := cbuild_ok (c := 128) hC1.cw hC1.c128 (by omega) b1 b2 w3
      have hS12 : Sm WLc M N2 := (hS1.weak fun a j h => Or.inl h).tr (hS2.weak fun a j h => Or.inr (Or.inl h))
      have hC2 := hC.sm hS12 WLc_fx
      obtain ⟨qk125, qr125_4, qk128⟩ : mK N2 125 = 4 ∧ mR N2 125 4 = some 128 ∧ mK N2 128 = 1 := ⟨hC2.k 125 (by omega) (by omega), hC2.r 125 4 (by omega) (by omega) (by decide), hC2.k 128 (by omega) (by omega)⟩
      obtain ⟨P, hP⟩ : ∃ P, sI (sI (sR N2 125 1 (some 128)) 125 2 (iI 1)) 125 9 (iI p) = P := ⟨_, rfl⟩
      have hSP : Sm WLc M P := by
        rw [← hP]
        exact Sm.sI (Sm.sI (Sm.sR hS12 (Or.inr (Or.inr (Or.inl ⟨rfl, by omega⟩)))) (Or.inr (Or.inr (Or.inl ⟨rfl, by omega⟩)))) (Or.inr (Or.inr (Or.inl ⟨rfl, by omega⟩)))
      have pk := (hSP.K 125).trans k125
      have hS2P : Sm (fun a j => a = 125) N2 P := by
        rw [← hP]
        exact Sm.sI (Sm.sI (Sm.sR Sm.rf rfl) rfl) rfl
      have p10 : mI P 125 10 = iI (2 : Nat) := by
        rw [← hP]
        simp -implicitDefEqProofs (disch := omega) only [mK_sI, mK_sJ, mK_sR, mK_cpI, mL_sI, mL_sJ, mL_sR, mL_cpI, mI_sI, mI_sJ, mI_sR, mI_cpI, mJ_sI, mJ_sJ, mJ_sR, mJ_cpI, mR_sI, mR_sJ, mR_sR, mR_cpI, eqN_T, eqN_F, if_true, if_false, and_true, true_and, and_false, false_and, or_true, true_or, or_false, false_or, not_true_eq_false, not_false_eq_true, and_self, or_self, tn_c, ne_eq, dite_true, dite_false]
        rw [hS2.I 125 10 (by unfold WK; omega), hS1.I 125 10 (by unfold WW; omega), h10]
        rfl
      have p2 : mI P 125 2 = iI 1 := by rw [← hP]; simp -implicitDefEqProofs (disch := omega) only [mK_sI, mK_sJ, mK_sR, mK_cpI, mL_sI, mL_sJ, mL_sR, mL_cpI, mI_sI, mI_sJ, mI_sR, mI_cpI, mJ_sI, mJ_sJ, mJ_sR, mJ_cpI, mR_sI, mR_sJ, mR_sR, mR_cpI, eqN_T, eqN_F, if_true, if_false, and_true, true_and, and_false, false_and, or_true, true_or, or_false, false_or, not_true_eq_false, not_false_eq_true, and_self, or_self, tn_c, ne_eq, dite_true, dite_false]
      have p1 : mR P 125 1 = some 128 := by rw [← hP]; simp -implicitDefEqProofs (disch := omega) only [mK_sI, mK_sJ, mK_sR, mK_cpI, mL_sI, mL_sJ, mL_sR, mL_cpI, mI_sI, mI_sJ, mI_sR, mI_cpI, mJ_sI, mJ_sJ, mJ_sR, mJ_cpI, mR_sI, mR_sJ, mR_sR, mR_cpI, eqN_T, eqN_F, if_true, if_false, and_true, true_and, and_false, false_and, or_true, true_or, or_false, false_or, not_true_eq_false, not_false_eq_true, and_self, or_self, tn_c, ne_eq, dite_true, dite_false]
      have p9 : mI P 125 9 = iI (p : Nat) := by rw [← hP]; simp -implicitDefEqProofs (disch := omega) only [mK_sI, mK_sJ, mK_sR, mK_cpI, mL_sI, mL_sJ, mL_sR, mL_cpI, mI_sI, mI_sJ, mI_sR, mI_cpI, mJ_sI, mJ_sJ, mJ_sR, mJ_cpI, mR_sI, mR_sJ, mR_sR, mR_cpI, eqN_T, eqN_F, if_true, if_false, and_true, true_and, and_false, false_and, or_true, true_or, or_false, false_or, not_true_eq_false, not_false_eq_true, and_self, or_self, tn_c, ne_eq, dite_true, dite_false]
      have ec := coded_ok (k := 2) pk p10 (by omega)
      rw [if_neg (by omega), show ((1 : Nat) : Int) = 1 from rfl] at ec
      simp -implicitDefEqProofs (disch := omega) only [fX4_readCode, fX4_readCode_L72, fX4_readCode_L102, fX4_readCode_L107, k125, h10, r125_6, h9, h3, k18, e1, nr125_4, nr125_6, nk125, nk128, e2, qk125, qr125_4, qk128, hP, pk, ec, p2, rtZ, bo_s, bd_s, bn_s, gI_s, gJ_s, gR_s, pI_s, pZ_s, pJ_s, pR_s, chk_s, chN_s, chN_n, aL_s, aI_c, aJ_c, aR_c, wI_c, wB_c, wS_c, wZ_c, wJ_c, wR_c, mK_sI, mK_sJ, mK_sR, mK_cpI, mL_sI, mL_sJ, mL_sR, mL_cpI, mI_sI, mI_sJ, mI_sR, mI_cpI, mJ_sI, mJ_sJ, mJ_sR, mJ_cpI, mR_sI, mR_sJ, mR_sR, mR_cpI, i2b_i2b, i2b_sb, iI_lit, iI_add, iI_sub, iI_mul, iI_neg, iI_lt, iI_le, iI_eq, iI_J, lt_T, lt_F, le_T, le_F, eq_T, eq_F, eqN_T, eqN_F, leN_T, leN_F, ltN_T, ltN_F, if_true, if_false, and_true, true_and, and_false, false_and, or_true, true_or, or_false, false_or, not_true_eq_false, not_false_eq_true, and_self, or_self, tn_c, ne_eq, dite_true, dite_false]
      refine w_ret ⟨hSP, ?_, Or.inr p1, Or.inr ⟨rfl, by rw [hsp]; exact p9, fun _ => ⟨_, hLt, by rw [hsp]; exact hRt⟩⟩⟩
      rw [hLt]
      refine ⟨p2, fun C hC => ?_⟩
      cases hC
      exact ⟨cdOf_R w3, 128, p1, Or.inl rfl, hV.sm hS2P (by omega) (by omega) (by omega)⟩
  · have hLt : ltC u a g lim c0 = c0 := by unfold ltC; rw [if_neg (fun h => c2 h.2)]
    have hsp : spL u a = nxL u a := if_neg c2
    have ec := coded_ok (k := u a % 4) k125 h10 hk4
    rw [hLt, hsp]
    by_cases c3 : u a % 4 < 2
    · rw [if_pos c3, show ((0 : Nat) : Int) = 0 from rfl] at ec
      simp -implicitDefEqProofs (disch := omega) only [fX4_readCode, fX4_readCode_L72, fX4_readCode_L102, fX4_readCode_L107, k125, h10, ec, rtZ, bo_s, bd_s, bn_s, gI_s, gJ_s, gR_s, pI_s, pZ_s, pJ_s, pR_s, chk_s, chN_s, chN_n, aL_s, aI_c, aJ_c, aR_c, wI_c, wB_c, wS_c, wZ_c, wJ_c, wR_c, mK_sI, mK_sJ, mK_sR, mK_cpI, mL_sI, mL_sJ, mL_sR, mL_cpI, mI_sI, mI_sJ, mI_sR, mI_cpI, mJ_sI, mJ_sJ, mJ_sR, mJ_cpI, mR_sI, mR_sJ, mR_sR, mR_cpI, i2b_i2b, i2b_sb, iI_lit, iI_add, iI_sub, iI_mul, iI_neg, iI_lt, iI_le, iI_eq, iI_J, lt_T, lt_F, le_T, le_F, eq_T, eq_F, eqN_T, eqN_F, leN_T, leN_F, ltN_T, ltN_F, if_true, if_false, and_true, true_and, and_false, false_and, or_true, true_or, or_false, false_or, not_true_eq_false, not_false_eq_true, and_self, or_self, tn_c, ne_eq, dite_true, dite_false]
      exact w_ret ⟨Sm.rf, h0, Or.inl rfl, Or.inr ⟨rfl, h9, fun h => by first | exact False.elim h | omega⟩⟩
    · rw [if_neg c3, show ((1 : Nat) : Int) = 1 from rfl] at ec
      have h02 := h0.1
      cases hc : c0 with
      | none =>
        rw [hc] at h02
        have h02 : mI M 125 2 = iI 0 := h02
        have hRt : ltR u a g lim c0 = none := by unfold ltR; rw [if_neg (fun h => h hL), if_neg (by omega), if_neg (by omega), if_pos (by omega), hc]
        have e2 := fail_ok k30 (iI 12) (iI a)
        simp -implicitDefEqProofs (disch := omega) only [fX4_readCode, fX4_readCode_L72, fX4_readCode_L102, fX4_readCode_L107, k125, h10, ec, h02, r125_5, h8, k30, e2, rtZ, bo_s, bd_s, bn_s, gI_s, gJ_s, gR_s, pI_s, pZ_s, pJ_s, pR_s, chk_s, chN_s, chN_n, aL_s, aI_c, aJ_c, aR_c, wI_c, wB_c, wS_c, wZ_c, wJ_c, wR_c, mK_sI, mK_sJ, mK_sR, mK_cpI, mL_sI, mL_sJ, mL_sR, mL_cpI, mI_sI, mI_sJ, mI_sR, mI_cpI, mJ_sI, mJ_sJ, mJ_sR, mJ_cpI, mR_sI, mR_sJ, mR_sR, mR_cpI, i2b_i2b, i2b_sb, iI_lit, iI_add, iI_sub, iI_mul, iI_neg, iI_lt, iI_le, iI_eq, iI_J, lt_T, lt_F, le_T, le_F, eq_T, eq_F, eqN_T, eqN_F, leN_T, leN_F, ltN_T, ltN_F, if_true, if_false, and_true, true_and, and_false, false_and, or_true, true_or, or_false, false_or, not_true_eq_false, not_false_eq_true, and_self, or_self, tn_c, ne_eq, dite_true, dite_false]
        rw [← hc]
        refine w_ret ⟨?_, ?_, Or.inl rfl, Or.inl ⟨rfl, hRt⟩⟩
        · exact Sm.sI (Sm.sI Sm.rf (Or.inr (Or.inr (Or.inr ⟨rfl, by omega⟩)))) (Or.inr (Or.inr (Or.inr ⟨rfl, by omega⟩)))
        · exact h0.sm (S := fun a j => a = 30) (Sm.sI (Sm.sI Sm.rf rfl) rfl) ⟨by omega, by omega⟩ fun cc hcc => ⟨by omega, fun j => by omega, fun j => by omega⟩
      | some C =>
        rw [hc] at h02
        have h02 : mI M 125 2 = iI 1 := h02
        have hRt : ltR u a g lim c0 = rsS u (nxL u a) (enL u a) C (cnL u a) (u a / 4 % 4) := by unfold ltR; rw [if_neg (fun h => h hL), if_neg (by omega), if_neg (by omega), if_pos (by omega), hc]
        simp -implicitDefEqProofs (disch := omega) only [fX4_readCode, fX4_readCode_L72, fX4_readCode_L102, fX4_readCode_L107, k125, h10, ec, h02, rtZ, bo_s, bd_s, bn_s, gI_s, gJ_s, gR_s, pI_s, pZ_s, pJ_s, pR_s, chk_s, chN_s, chN_n, aL_s, aI_c, aJ_c, aR_c, wI_c, wB_c, wS_c, wZ_c, wJ_c, wR_c, mK_sI, mK_sJ, mK_sR, mK_cpI, mL_sI, mL_sJ, mL_sR, mL_cpI, mI_sI, mI_sJ, mI_sR, mI_cpI, mJ_sI, mJ_sJ, mJ_sR, mJ_cpI, mR_sI, mR_sJ, mR_sR, mR_cpI, i2b_i2b, i2b_sb, iI_lit, iI_add, iI_sub, iI_mul, iI_neg, iI_lt, iI_le, iI_eq, iI_J, lt_T, lt_F, le_T, le_F, eq_T, eq_F, eqN_T, eqN_F, leN_T, leN_F, ltN_T, ltN_F, if_true, if_false, and_true, true_and, and_false, false_and, or_true, true_or, or_false, false_or, not_true_eq_false, not_false_eq_true, and_self, or_self, tn_c, ne_eq, dite_true, dite_false]
        rw [← hc]
        exact w_ret ⟨Sm.rf, h0, Or.inl rfl, Or.inr ⟨rfl, h9, fun _ => ⟨C, hc, hRt⟩⟩⟩
end LCODE
