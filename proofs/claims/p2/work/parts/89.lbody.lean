/-! LETTERS: the body; the class's -/
def WLb (a j : Nat) : Prop := WSt a j ∨ (a = 30 ∧ j ≤ 1) ∨ (a = 31 ∧ j = 3)
theorem WLb_fx : ∀ a j, WLb a j → 10 ≤ a ∧ ¬ fx a j := by
  rintro a j h
  rcases h with h | ⟨rfl, h⟩ | ⟨rfl, h⟩
  · exact WSt_fx a j h
  · exact ⟨by omega, fx_of 30 0 2 3 rfl rfl rfl (by omega)⟩
  · exact ⟨by omega, fx_of 31 0 1 0 rfl rfl rfl (by omega)⟩
section LBODY
variable {M : Mem} {r rb rn e a g lim : Nat} {u : Nat → Nat} {c0 : Option Cd}
set_option maxHeartbeats 4000000 in
theorem body99 {N : Mem} {t3 n y : Nat} {Q : Int32 → Mem → Prop} (hC : CSt N) (h31 : mI N 31 3 = iI t3) (ht : t3 < 1000000000) (h12 : mI N 125 12 = iI n) (hn : n < 10000000) (h9 : mI N 125 9 = iI y) (v : Nat) (hv : v ≤ 1)
    (hQ : Q (iI v) (if v = 0 then sI (sI (sI N 31 3 (iI t3)) 30 0 (iI 13)) 30 1 (iI y) else sI N 31 3 (iI ((t3 : Int) + n)))) : Wp (fX4_readBody_L99 (some 125) (iI v) N) Q := by
  obtain ⟨k125, r125_5, k30, r30_2, k31, l31⟩ : mK N 125 = 4 ∧ mR N 125 5 = some 30 ∧ mK N 30 = 7 ∧ mR N 30 2 = some 31 ∧ mK N 31 = 15 ∧ mL N 31 = 12 := ⟨hC.k 125 (by omega) (by omega), hC.r 125 5 (by omega) (by omega) (by decide), hC.k 30 (by omega) (by omega), hC.r 30 2 (by omega) (by omega) (by decide), hC.k 31 (by omega) (by omega), hC.l 31 (by omega) (by omega)⟩
  clear hC
  by_cases c : v = 0
  · subst c
    rw [if_pos rfl] at hQ
    have e1 := fail_ok (M := sI N 31 3 (iI t3)) k30 (iI 13) (iI y)
    have ez : (t3 : Int) + 0 = t3 := by omega
    have e3 : ((3 : Int)).toNat = 3 := rfl
    rw [show ((0 : Nat) : Int) = 0 from rfl] at hQ ⊢
    simp -implicitDefEqProofs (disch := omega) only [fX4_readBody_L99, fX4_readBody_L121, fX4_readBody_L148, k125, r125_5, k30, r30_2, k31, l31, e3, h31, ez, h9, e1, rtZ, bo_s, bd_s, bn_s, gI_s, gJ_s, gR_s, pI_s, pZ_s, pJ_s, pR_s, chk_s, chN_s, chN_n, aL_s, aI_c, aJ_c, aR_c, wI_c, wB_c, wS_c, wZ_c, wJ_c, wR_c, mK_sI, mK_sJ, mK_sR, mK_cpI, mL_sI, mL_sJ, mL_sR, mL_cpI, mI_sI, mI_sJ, mI_sR, mI_cpI, mJ_sI, mJ_sJ, mJ_sR, mJ_cpI, mR_sI, mR_sJ, mR_sR, mR_cpI, i2b_i2b, i2b_sb, iI_lit, iI_add, iI_sub, iI_mul, iI_neg, iI_lt, iI_le, iI_eq, iI_J, lt_T, lt_F, le_T, le_F, eq_T, eq_F, eqN_T, eqN_F, leN_T, leN_F, ltN_T, ltN_F, if_true, if_false, and_true, true_and, and_false, false_and, or_true, true_or, or_false, false_or, not_true_eq_false, not_false_eq_true, and_self, or_self, tn_c, ne_eq, dite_true, dite_false]
    exact w_ret hQ
  · obtain rfl : v = 1 := by omega
    rw [if_neg c] at hQ
    have e3 : ((3 : Int)).toNat = 3 := rfl
    rw [show ((1 : Nat) : Int) = 1 from rfl] at hQ ⊢
    simp -implicitDefEqProofs (disch := omega) only [fX4_readBody_L99, fX4_readBody_L121, fX4_readBody_L143, fX4_readBody_L148, k125, r125_5, k30, r30_2, k31, l31, e3, h31, h12, rtZ, bo_s, bd_s, bn_s, gI_s, gJ_s, gR_s, pI_s, pZ_s, pJ_s, pR_s, chk_s, chN_s, chN_n, aL_s, aI_c, aJ_c, aR_c, wI_c, wB_c, wS_c, wZ_c, wJ_c, wR_c, mK_sI, mK_sJ, mK_sR, mK_cpI, mL_sI, mL_sJ, mL_sR, mL_cpI, mI_sI, mI_sJ, mI_sR, mI_cpI, mJ_sI, mJ_sJ, mJ_sR, mJ_cpI, mR_sI, mR_sJ, mR_sR, mR_cpI, i2b_i2b, i2b_sb, iI_lit, iI_add, iI_sub, iI_mul, iI_neg, iI_lt, iI_le, iI_eq, iI_J, lt_T, lt_F, le_T, le_F, eq_T, eq_F, eqN_T, eqN_F, leN_T, leN_F, ltN_T, ltN_F, if_true, if_false, and_true, true_and, and_false, false_and, or_true, true_or, or_false, false_or, not_true_eq_false, not_false_eq_true, and_self, or_self, tn_c, ne_eq, dite_true, dite_false]
    exact w_ret hQ
set_option maxHeartbeats 8000000 in
theorem readBody_ok {t3 : Nat} {cN : Option Cd} (hC : CSt M) (hr : RS M r rb rn) (hb : BV M rb rn e u) (hr2 : r < 18) (hb2 : rb < 18) (hu : ∀ i, u i < 256) (hg : g ≤ e) (hL : LH u a g lim) (hlim : lim ≤ 131072) (h10 : mI M 125 10 = iI (u a % 4 : Nat)) (h11 : mI M 125 11 = iI (u a / 4 % 4 : Nat)) (h12 : mI M 125 12 = iI (cnL u a : Nat)) (h3 : mI M 125 3 = iI (enL u a : Nat)) (h9 : mI M 125 9 = iI (spL u a : Nat)) (h31 : mI M 31 3 = iI t3) (ht : t3 < 1000000000) (h0 : LKd M cN) (hsel : 2 ≤ u a % 4 → ∃ C, cN = some C ∧ ltR u a g lim c0 = rsS u (spL u a) (enL u a) C (cnL u a) (u a / 4 % 4)) :
    Wp (fX4_readBody (some 125) (some r) M) fun v N => Sm WLb M N ∧ ((v = iI 0 ∧ ltR u a g lim c0 = none ∧ mI N 31 3 = iI t3) ∨ (v = iI 1 ∧ ∃ ls, ltR u a g lim c0 = some ls ∧ RV N 126 127 8000 (cnL u a) ls ∧ mI N 31 3 = iI ((t3 : Int) + cnL u a))) := by
  have g3 := hb.2.2.1
  have g4 := hb.2.2.2.1
  obtain ⟨l1, l2, l3, l4⟩ := hL
  have hL0 : LH u a g lim := ⟨l1, l2, l3, l4⟩
  have hen : nxL u a + flL u a = enL u a := rfl
  have hnx0 : a ≤ nxL u a := by unfold nxL; omega
  obtain ⟨k125, r125_0, k126, r126_0⟩ : mK M 125 = 4 ∧ mR M 125 0 = some 126 ∧ mK M 126 = 8 ∧ mR M 126 0 = some 127 := ⟨hC.k 125 (by omega) (by omega), hC.r 125 0 (by omega) (by omega) (by decide), hC.k 126 (by omega) (by omega), hC.r 126 0 (by omega) (by omega) (by decide)⟩
  obtain ⟨P, hP⟩ : ∃ P, sI M 126 1 (iI 0) = P := ⟨_, rfl⟩
  have hSP : Sm WSt M P := by
    rw [← hP]
    refine Sm.rf.sI ?_
    unfold WSt; omega
  have hCP := hC.sm hSP WSt_fx
  obtain ⟨pk125, pr125_0, pk126⟩ : mK P 125 = 4 ∧ mR P 125 0 = some 126 ∧ mK P 126 = 8 := ⟨hCP.k 125 (by omega) (by omega), hCP.r 125 0 (by omega) (by omega) (by decide), hCP.k 126 (by omega) (by omega)⟩
  have hrP := hr.sm hSP (by unfold WSt; omega)
  have hbP := hb.sm hSP (by unfold WSt; omega)
  have p10 := (hSP.I 125 10 (by unfold WSt; omega)).trans h10
  have p11 := (hSP.I 125 11 (by unfold WSt; omega)).trans h11
  have p12 := (hSP.I 125 12 (by unfold WSt; omega)).trans h12
  have p3 := (hSP.I 125 3 (by unfold WSt; omega)).trans h3
  have p9 := (hSP.I 125 9 (by unfold WSt; omega)).trans h9
  have hRV : ∀ w, RV P 126 127 8000 0 w := fun w => ⟨hCP.w126, by rw [← hP]; simp -implicitDefEqProofs (disch := omega) only [mK_sI, mK_sJ, mK_sR, mK_cpI, mL_sI, mL_sJ, mL_sR, mL_cpI, mI_sI, mI_sJ, mI_sR, mI_cpI, mJ_sI, mJ_sJ, mJ_sR, mJ_cpI, mR_sI, mR_sJ, mR_sR, mR_cpI, eqN_T, eqN_F, if_true, if_false, and_true, true_and, and_false, false_and, or_true, true_or, or_false, false_or, not_true_eq_false, not_false_eq_true, and_self, or_self, tn_c, ne_eq, dite_true, dite_false]; rfl, fun i hi => by omega⟩
  have rP1 := hrP.1
  have fin : ∀ N (v : Nat) (R : Option (Nat → Nat)), Sm WSt M N → v ≤ 1 → ltR u a g lim c0 = R → ((v = 0 ∧ R = none) ∨ (v = 1 ∧ ∃ ls, R = some ls ∧ RV N 126 127 8000 (cnL u a) ls)) → Wp (fX4_readBody_L99 (some 125) (iI v) N) fun v N => Sm WLb M N ∧ ((v = iI 0 ∧ ltR u a g lim c0 = none ∧ mI N 31 3 = iI t3) ∨ (v = iI 1 ∧ ∃ ls, ltR u a g lim c0 = some ls ∧ RV N 126 127 8000 (cnL u a) ls ∧ mI N 31 3 = iI ((t3 : Int) + cnL u a))) := by
    intro N v R hS hv hRt hcase
    refine body99 (n := cnL u a) (y := spL u a) (hC.sm hS WSt_fx) ((hS.I 31 3 (by unfold WSt; omega)).trans h31) ht ((hS.I 125 12 (by unfold WSt; omega)).trans h12) (by omega) ((hS.I 125 9 (by unfold WSt; omega)).trans h9) v hv ?_
    rcases hcase with ⟨rfl, hR⟩ | ⟨rfl, ls, hR, hV⟩
    · rw [if_pos rfl]
      refine ⟨?_, Or.inl ⟨rfl, hRt.trans hR, ?_⟩⟩
      · exact Sm.sI (Sm.sI (Sm.sI (hS.weak fun a j h => Or.inl h) (Or.inr (Or.inr ⟨rfl, rfl⟩))) (Or.inr (Or.inl ⟨rfl, by omega⟩))) (Or.inr (Or.inl ⟨rfl, by omega⟩))
      · simp -implicitDefEqProofs (disch := omega) only [mK_sI, mK_sJ, mK_sR, mK_cpI, mL_sI, mL_sJ, mL_sR, mL_cpI, mI_sI, mI_sJ, mI_sR, mI_cpI, mJ_sI, mJ_sJ, mJ_sR, mJ_cpI, mR_sI, mR_sJ, mR_sR, mR_cpI, eqN_T, eqN_F, if_true, if_false, and_true, true_and, and_false, false_and, or_true, true_or, or_false, false_or, not_true_eq_false, not_false_eq_true, and_self, or_self, tn_c, ne_eq, dite_true, dite_false]
    · rw [if_neg (by omega)]
      refine ⟨?_, Or.inr ⟨rfl, ls, hRt.trans hR, ?_, ?_⟩⟩
      · exact Sm.sI (hS.weak fun a j h => Or.inl h) (Or.inr (Or.inr ⟨rfl, rfl⟩))
      · exact hV.sm (S := fun a j => a = 31) (Sm.sI Sm.rf rfl) (by omega) (by omega) (by omega)
      · simp -implicitDefEqProofs (disch := omega) only [mK_sI, mK_sJ, mK_sR, mK_cpI, mL_sI, mL_sJ, mL_sR, mL_cpI, mI_sI, mI_sJ, mI_sR, mI_cpI, mJ_sI, mJ_sJ, mJ_sR, mJ_cpI, mR_sI, mR_sJ, mR_sR, mR_cpI, eqN_T, eqN_F, if_true, if_false, and_true, true_and, and_false, false_and, or_true, true_or, or_false, false_or, not_true_eq_false, not_false_eq_true, and_self, or_self, tn_c, ne_eq, dite_true, dite_false]
  have hk4 : u a % 4 < 4 := by omega
  by_cases c0' : u a % 4 = 0
  · have hsp : spL u a = nxL u a := if_neg (by omega)
    have hfl : flL u a = cnL u a := if_pos c0'
    have hRt : ltR u a g lim c0 = some (fun i => u (nxL u a + i)) := by unfold ltR; rw [if_neg (fun h => h hL0), if_pos c0']
    rw [hsp] at p9
    obtain ⟨v, N, e1, hV, hS⟩ := addFrom_v (r := 126) (b := 127) (n := 8000) (c := 0) (k := cnL u a) (f := nxL u a) (u := fun i => u (nxL u a + i)) (hRV _) hrP (by omega) (by omega) (by omega) (by omega) (by omega) (by omega) (Or.inl (by omega)) (fun i hi hi2 => by
      show u (nxL u a + (0 + i)) = _
      rw [gB_u (hbP.rd (i := ((nxL u a + i : Nat) : Int)) (j := nxL u a + i) rfl (by omega)) (hu _) (by omega), Nat.zero_add])
    rw [Nat.zero_add] at hV
    have := fin N 1 _ (hSP.tr (hS.weak (by unfold Rw WSt; omega))) (by omega) hRt (Or.inr ⟨rfl, _, rfl, hV⟩)
    rw [show ((1 : Nat) : Int) = 1 from rfl] at this
    rw [c0', show ((0 : Nat) : Int) = 0 from rfl] at p10
    clear hC hr hb hL0 h0 hsel hSP hCP hrP hbP hRV fin l1 l2 l3 l4 hen hnx0 g3 g4
    simp -implicitDefEqProofs (disch := omega) only [fX4_readBody, k125, r125_0, k126, hP, pk125, p10, pr125_0, p9, p12, pk126, e1, bo_s, bd_s, bn_s, gI_s, gJ_s, gR_s, pI_s, pZ_s, pJ_s, pR_s, chk_s, chN_s, chN_n, aL_s, aI_c, aJ_c, aR_c, wI_c, wB_c, wS_c, wZ_c, wJ_c, wR_c, mK_sI, mK_sJ, mK_sR, mK_cpI, mL_sI, mL_sJ, mL_sR, mL_cpI, mI_sI, mI_sJ, mI_sR, mI_cpI, mJ_sI, mJ_sJ, mJ_sR, mJ_cpI, mR_sI, mR_sJ, mR_sR, mR_cpI, i2b_i2b, i2b_sb, iI_lit, iI_add, iI_sub, iI_mul, iI_neg, iI_lt, iI_le, iI_eq, iI_J, lt_T, lt_F, le_T, le_F, eq_T, eq_F, eqN_T, eqN_F, leN_T, leN_F, ltN_T, ltN_F, if_true, if_false, and_true, true_and, and_false, false_and, or_true, true_or, or_false, false_or, not_true_eq_false, not_false_eq_true, and_self, or_self, tn_c, ne_eq, dite_true, dite_false]
    exact this
  · by_cases c1 : u a % 4 = 1
    · have hsp : spL u a = nxL u a := if_neg (by omega)
      have hfl : flL u a = 1 := by unfold flL; rw [if_neg c0', if_pos c1]
      have hRt : ltR u a g lim c0 = some (fun _ => u (nxL u a)) := by unfold ltR; rw [if_neg (fun h => h hL0), if_neg c0', if_pos c1]
      rw [hsp] at p9
      have e0 := get_ok hrP (nxL u a : Nat) (by omega) (by omega)
      rw [gB_u (hbP.rd (i := ((nxL u a : Nat) : Int)) (j := nxL u a) rfl (by omega)) (hu _) (by omega)] at e0
      obtain ⟨v, N, e1, hV, hS⟩ := addSame_v (r := 126) (b := 127) (n := 8000) (c := 0) (k := cnL u a) (w := u (nxL u a)) (u := fun _ => u (nxL u a)) (hRV _) (by omega) (by omega) (by omega) (by omega) (hu _) (fun i hi hi2 => rfl)
      rw [Nat.zero_add] at hV
      have := fin N 1 _ (hSP.tr (hS.weak (by unfold Rw WSt; omega))) (by omega) hRt (Or.inr ⟨rfl, _, rfl, hV⟩)
      rw [show ((1 : Nat) : Int) = 1 from rfl] at this
      rw [c1, show ((1 : Nat) : Int) = 1 from rfl] at p10
      clear hC hr hb hL0 h0 hsel hSP hCP hrP hbP hRV fin l1 l2 l3 l4 hen hnx0 g3 g4
      simp -implicitDefEqProofs (disch := omega) only [fX4_readBody, k125, r125_0, k126, hP, pk125, p10, pr125_0, p9, p12, pk126, rP1, e0, e1, bo_s, bd_s, bn_s, gI_s, gJ_s, gR_s, pI_s, pZ_s, pJ_s, pR_s, chk_s, chN_s, chN_n, aL_s, aI_c, aJ_c, aR_c, wI_c, wB_c, wS_c, wZ_c, wJ_c, wR_c, mK_sI, mK_sJ, mK_sR, mK_cpI, mL_sI, mL_sJ, mL_sR, mL_cpI, mI_sI, mI_sJ, mI_sR, mI_cpI, mJ_sI, mJ_sJ, mJ_sR, mJ_cpI, mR_sI, mR_sJ, mR_sR, mR_cpI, i2b_i2b, i2b_sb, iI_lit, iI_add, iI_sub, iI_mul, iI_neg, iI_lt, iI_le, iI_eq, iI_J, lt_T, lt_F, le_T, le_F, eq_T, eq_F, eqN_T, eqN_F, leN_T, leN_F, ltN_T, ltN_F, if_true, if_false, and_true, true_and, and_false, false_and, or_true, true_or, or_false, false_or, not_true_eq_false, not_false_eq_true, and_self, or_self, tn_c, ne_eq, dite_true, dite_false]
      exact this
    · obtain ⟨C, hcN, hRt⟩ := hsel (by omega)
      have hLC := h0.sm hSP ⟨by unfold WSt; omega, by unfold WSt; omega⟩ fun cc hcc => ⟨by unfold WSt; omega, fun j => by unfold WSt; omega, fun j => by unfold WSt; omega⟩
      obtain ⟨hcR, cc, hl, hcc, hcV⟩ := hLC.2 C hcN
      have hspn : spL u a < 900000 := by
        unfold spL
        split
        · cases hW : rdW u (nxL u a) (enL u a) with
          | none => show nxL u a < _; omega
          | some x =>
            obtain ⟨p, m, k, w⟩ := x
            have := (rdW_ok hW hu).2.1
            show p < _
            omega
        · omega
      by_cases c5 : u a / 4 % 4 = 0
      · rw [c5] at hRt
        have hR2 : rsS u (spL u a) (enL u a) C (cnL u a) 0 = rdS u (spL u a) (enL u a) C (cnL u a) := if_pos rfl
        rw [hR2] at hRt
        rw [c5, show ((0 : Nat) : Int) = 0 from rfl] at p11
        obtain ⟨v, N, e1, hS, hA, hB⟩ := readStream_ok (f := spL u a) (g := enL u a) (n := cnL u a) (c := 0) (old := fun _ => 0) hCP hrP hbP (by omega) (by omega) hu (by omega) (by omega) hl (hCP.cd hcc) hcV hcR (by omega) (hRV _) (by omega)
        cases hD : rdS u (spL u a) (enL u a) C (cnL u a) with
        | none =>
          have hv := hA hD
          subst hv
          have := fin N 0 _ (hSP.tr hS) (by omega) (hRt.trans hD) (Or.inl ⟨rfl, rfl⟩)
          rw [show ((0 : Nat) : Int) = 0 from rfl] at this
          clear hC hr hb hL0 h0 hsel hSP hCP hrP hbP hRV fin l1 l2 l3 l4 hen hnx0 g3 g4
          simp -implicitDefEqProofs (disch := omega) only [fX4_readBody, fX4_readBody_L98, k125, r125_0, k126, hP, pk125, p10, p11, p9, p3, p12, e1, bo_s, bd_s, bn_s, gI_s, gJ_s, gR_s, pI_s, pZ_s, pJ_s, pR_s, chk_s, chN_s, chN_n, aL_s, aI_c, aJ_c, aR_c, wI_c, wB_c, wS_c, wZ_c, wJ_c, wR_c, mK_sI, mK_sJ, mK_sR, mK_cpI, mL_sI, mL_sJ, mL_sR, mL_cpI, mI_sI, mI_sJ, mI_sR, mI_cpI, mJ_sI, mJ_sJ, mJ_sR, mJ_cpI, mR_sI, mR_sJ, mR_sR, mR_cpI, i2b_i2b, i2b_sb, iI_lit, iI_add, iI_sub, iI_mul, iI_neg, iI_lt, iI_le, iI_eq, iI_J, lt_T, lt_F, le_T, le_F, eq_T, eq_F, eqN_T, eqN_F, leN_T, leN_F, ltN_T, ltN_F, if_true, if_false, and_true, true_and, and_false, false_and, or_true, true_or, or_false, false_or, not_true_eq_false, not_false_eq_true, and_self, or_self, tn_c, ne_eq, dite_true, dite_false]
          exact this
        | some ls =>
          obtain ⟨hv, hV⟩ := hB _ hD
          subst hv
          rw [Nat.zero_add] at hV
          have := fin N 1 _ (hSP.tr hS) (by omega) (hRt.trans hD) (Or.inr ⟨rfl, _, rfl, hV.ext fun i _ _ => by rw [if_neg (by omega), Nat.sub_zero]⟩)
          rw [show ((1 : Nat) : Int) = 1 from rfl] at this
          clear hC hr hb hL0 h0 hsel hSP hCP hrP hbP hRV fin l1 l2 l3 l4 hen hnx0 g3 g4
          simp -implicitDefEqProofs (disch := omega) only [fX4_readBody, fX4_readBody_L98, k125, r125_0, k126, hP, pk125, p10, p11, p9, p3, p12, e1, bo_s, bd_s, bn_s, gI_s, gJ_s, gR_s, pI_s, pZ_s, pJ_s, pR_s, chk_s, chN_s, chN_n, aL_s, aI_c, aJ_c, aR_c, wI_c, wB_c, wS_c, wZ_c, wJ_c, wR_c, mK_sI, mK_sJ, mK_sR, mK_cpI, mL_sI, mL_sJ, mL_sR, mL_cpI, mI_sI, mI_sJ, mI_sR, mI_cpI, mJ_sI, mJ_sJ, mJ_sR, mJ_cpI, mR_sI, mR_sJ, mR_sR, mR_cpI, i2b_i2b, i2b_sb, iI_lit, iI_add, iI_sub, iI_mul, iI_neg, iI_lt, iI_le, iI_eq, iI_J, lt_T, lt_F, le_T, le_F, eq_T, eq_F, eqN_T, eqN_F, leN_T, leN_F, ltN_T, ltN_F, if_true, if_false, and_true, true_and, and_false, false_and, or_true, true_or, or_false, false_or, not_true_eq_false, not_false_eq_true, and_self, or_self, tn_c, ne_eq, dite_true, dite_false]
          exact this
      · have hR2 : rsS u (spL u a) (enL u a) C (cnL u a) (u a / 4 % 4) = rd4 u (spL u a) (enL u a) C (cnL u a) := if_neg c5
        rw [hR2] at hRt
        obtain ⟨v, N, e1, hS, hA, hB⟩ := readFour_ok (a := spL u a) (g := enL u a) (cnt := cnL u a) (old := fun _ => 0) hCP hrP hbP (by omega) (by omega) hu (by omega) (by omega) hl (hCP.cd hcc) hcV hcR (by omega) (hRV _) p9 p3 p12 (by omega)
        cases hD : rd4 u (spL u a) (enL u a) C (cnL u a) with
        | none =>
          have hv := hA hD
          subst hv
          have := fin N 0 _ (hSP.tr hS) (by omega) (hRt.trans hD) (Or.inl ⟨rfl, rfl⟩)
          rw [show ((0 : Nat) : Int) = 0 from rfl] at this
          clear hC hr hb hL0 h0 hsel hSP hCP hrP hbP hRV fin l1 l2 l3 l4 hen hnx0 g3 g4
          simp -implicitDefEqProofs (disch := omega) only [fX4_readBody, fX4_readBody_L98, k125, r125_0, k126, hP, pk125, p10, p11, e1, bo_s, bd_s, bn_s, gI_s, gJ_s, gR_s, pI_s, pZ_s, pJ_s, pR_s, chk_s, chN_s, chN_n, aL_s, aI_c, aJ_c, aR_c, wI_c, wB_c, wS_c, wZ_c, wJ_c, wR_c, mK_sI, mK_sJ, mK_sR, mK_cpI, mL_sI, mL_sJ, mL_sR, mL_cpI, mI_sI, mI_sJ, mI_sR, mI_cpI, mJ_sI, mJ_sJ, mJ_sR, mJ_cpI, mR_sI, mR_sJ, mR_sR, mR_cpI, i2b_i2b, i2b_sb, iI_lit, iI_add, iI_sub, iI_mul, iI_neg, iI_lt, iI_le, iI_eq, iI_J, lt_T, lt_F, le_T, le_F, eq_T, eq_F, eqN_T, eqN_F, leN_T, leN_F, ltN_T, ltN_F, if_true, if_false, and_true, true_and, and_false, false_and, or_true, true_or, or_false, false_or, not_true_eq_false, not_false_eq_true, and_self, or_self, tn_c, ne_eq, dite_true, dite_false]
          exact this
        | some ls =>
          obtain ⟨hv, hV⟩ := hB _ hD
          subst hv
          have := fin N 1 _ (hSP.tr hS) (by omega) (hRt.trans hD) (Or.inr ⟨rfl, _, rfl, hV⟩)
          rw [show ((1 : Nat) : Int) = 1 from rfl] at this
          clear hC hr hb hL0 h0 hsel hSP hCP hrP hbP hRV fin l1 l2 l3 l4 hen hnx0 g3 g4
          simp -implicitDefEqProofs (disch := omega) only [fX4_readBody, fX4_readBody_L98, k125, r125_0, k126, hP, pk125, p10, p11, e1, bo_s, bd_s, bn_s, gI_s, gJ_s, gR_s, pI_s, pZ_s, pJ_s, pR_s, chk_s, chN_s, chN_n, aL_s, aI_c, aJ_c, aR_c, wI_c, wB_c, wS_c, wZ_c, wJ_c, wR_c, mK_sI, mK_sJ, mK_sR, mK_cpI, mL_sI, mL_sJ, mL_sR, mL_cpI, mI_sI, mI_sJ, mI_sR, mI_cpI, mJ_sI, mJ_sJ, mJ_sR, mJ_cpI, mR_sI, mR_sJ, mR_sR, mR_cpI, i2b_i2b, i2b_sb, iI_lit, iI_add, iI_sub, iI_mul, iI_neg, iI_lt, iI_le, iI_eq, iI_J, lt_T, lt_F, le_T, le_F, eq_T, eq_F, eqN_T, eqN_F, leN_T, leN_F, ltN_T, ltN_F, if_true, if_false, and_true, true_and, and_false, false_and, or_true, true_or, or_false, false_or, not_true_eq_false, not_false_eq_true, and_self, or_self, tn_c, ne_eq, dite_true, dite_false]
          exact this
end LBODY
