/-! LETTERS: the head; the class's -/
def hbL (k f : Nat) : Nat := if k < 2 then (if f = 1 then 2 else if f = 3 then 3 else 1) else if f < 2 then 3 else f + 2
def wdL (f : Nat) : Nat := if f < 2 then 10 else if f = 2 then 14 else 18
def vL (u : Nat → Nat) (a : Nat) : Nat := num u a (hbL (u a % 4) (u a / 4 % 4))
def cnL (u : Nat → Nat) (a : Nat) : Nat := if u a % 4 < 2 then vL u a / 2 ^ (if u a / 4 % 4 % 2 = 0 then 3 else 4) else vL u a / 16 % 2 ^ wdL (u a / 4 % 4)
def flL (u : Nat → Nat) (a : Nat) : Nat := if u a % 4 = 0 then cnL u a else if u a % 4 = 1 then 1 else vL u a / 2 ^ (4 + wdL (u a / 4 % 4))
def nxL (u : Nat → Nat) (a : Nat) : Nat := a + hbL (u a % 4) (u a / 4 % 4)
/-- the head of the LETTERS is good -/
abbrev LH (u : Nat → Nat) (a g lim : Nat) : Prop := a < g ∧ nxL u a ≤ g ∧ cnL u a ≤ lim ∧ nxL u a + flL u a ≤ g
theorem hbL_r {k f : Nat} (hf : f < 4) : 1 ≤ hbL k f ∧ hbL k f ≤ 5 := by
  unfold hbL
  split
  · split
    · omega
    · split <;> omega
  · split <;> omega
theorem wdL_r (f : Nat) : 10 ≤ wdL f ∧ wdL f ≤ 18 := by
  unfold wdL
  split
  · omega
  · split <;> omega
theorem vL_lt {u : Nat → Nat} (hu : ∀ i, u i < 256) (a : Nat) : vL u a < 2 ^ (4 + 2 * wdL (u a / 4 % 4)) ∨ u a % 4 < 2 ∧ vL u a < 2 ^ 24 := by
  have h := num_lt2 hu (hbL (u a % 4) (u a / 4 % 4)) a
  have hf : u a / 4 % 4 < 4 := by omega
  unfold vL
  generalize u a / 4 % 4 = f at *
  generalize u a % 4 = k at *
  by_cases hk : k < 2
  · refine Or.inr ⟨hk, Nat.lt_of_lt_of_le h (pow_le2 ?_)⟩
    unfold hbL
    rw [if_pos hk]
    split
    · omega
    · split <;> omega
  · refine Or.inl (Nat.lt_of_lt_of_le h (pow_le2 ?_))
    unfold hbL wdL
    rw [if_neg hk]
    split
    · omega
    · split <;> omega
theorem vL_40 {u : Nat → Nat} (hu : ∀ i, u i < 256) (a : Nat) : vL u a < 1099511627776 := by
  have h := num_lt2 hu (hbL (u a % 4) (u a / 4 % 4)) a
  have := hbL_r (k := u a % 4) (f := u a / 4 % 4) (by omega)
  exact Nat.lt_of_lt_of_le h (pow_le2 (b := 40) (by omega))
theorem cnL_lt {u : Nat → Nat} (hu : ∀ i, u i < 256) (a : Nat) : cnL u a < 4194304 := by
  unfold cnL
  split
  · rename_i h
    rcases vL_lt hu a with h1 | h1
    · have h2 := num_lt2 hu (hbL (u a % 4) (u a / 4 % 4)) a
      have h3 : vL u a < 2 ^ 24 := by
        refine Nat.lt_of_lt_of_le h2 (pow_le2 ?_)
        unfold hbL
        rw [if_pos h]
        split
        · omega
        · split <;> omega
      split <;> omega
    · split <;> omega
  · have := Nat.mod_lt (vL u a / 16) (two_pos (wdL (u a / 4 % 4)))
    have h2 : 2 ^ wdL (u a / 4 % 4) ≤ 2 ^ 18 := pow_le2 (wdL_r _).2
    omega
theorem flL_lt {u : Nat → Nat} (hu : ∀ i, u i < 256) (a : Nat) : flL u a < 4194304 := by
  have := cnL_lt hu a
  unfold flL
  split
  · omega
  · split
    · omega
    · rcases vL_lt hu a with h | h
      · have hw := wdL_r (u a / 4 % 4)
        have h2 : 2 ^ (4 + 2 * wdL (u a / 4 % 4)) = 2 ^ (4 + wdL (u a / 4 % 4)) * 2 ^ wdL (u a / 4 % 4) := by rw [← Nat.pow_add]; congr 1; omega
        rw [h2] at h
        have h3 := Nat.div_lt_of_lt_mul h
        have h4 : 2 ^ wdL (u a / 4 % 4) ≤ 2 ^ 18 := pow_le2 hw.2
        omega
      · omega
theorem mskJ {x w : Nat} (hw : w < 63) : iJ x &&& (shlJ (iJ 1) (iI w) - iJ 1) = iJ ((x % 2 ^ w : Nat) : Int) := by
  rw [shlJ_i (by omega), iJ_sub, tn_c, Int.one_mul, iJ_and _ w (by omega), p2, ← Int.natCast_emod]
def WLh (a j : Nat) : Prop := (a = 125 ∧ (j = 3 ∨ (8 ≤ j ∧ j ≤ 12))) ∨ (a = 30 ∧ j ≤ 1)
theorem WLh_fx : ∀ a j, WLh a j → 10 ≤ a ∧ ¬ fx a j := by
  rintro a j h
  unfold WLh at h
  rcases h with ⟨rfl, h⟩ | ⟨rfl, h⟩
  · exact ⟨by omega, fx_of 125 1 4 7 rfl rfl rfl (by omega)⟩
  · exact ⟨by omega, fx_of 30 0 2 3 rfl rfl rfl (by omega)⟩
theorem fail_ok {M : Mem} (k30 : mK M 30 = 7) (x y : Int32) : fX7_fail (some 30) x y M = some (iI 0, sI (sI M 30 0 x) 30 1 y) := by
  simp -implicitDefEqProofs (disch := omega) only [fX7_fail, k30, rtZ, bo_s, bd_s, bn_s, gI_s, gJ_s, gR_s, pI_s, pZ_s, pJ_s, pR_s, chk_s, chN_s, chN_n, aL_s, aI_c, aJ_c, aR_c, wI_c, wB_c, wS_c, wZ_c, wJ_c, wR_c, mK_sI, mK_sJ, mK_sR, mK_cpI, mL_sI, mL_sJ, mL_sR, mL_cpI, mI_sI, mI_sJ, mI_sR, mI_cpI, mJ_sI, mJ_sJ, mJ_sR, mJ_cpI, mR_sI, mR_sJ, mR_sR, mR_cpI, i2b_i2b, i2b_sb, iI_lit, iI_add, iI_sub, iI_mul, iI_neg, iI_lt, iI_le, iI_eq, iI_J, lt_T, lt_F, le_T, le_F, eq_T, eq_F, eqN_T, eqN_F, leN_T, leN_F, ltN_T, ltN_F, if_true, if_false, and_true, true_and, and_false, false_and, or_true, true_or, or_false, false_or, not_true_eq_false, not_false_eq_true, and_self, or_self, tn_c, ne_eq, dite_true, dite_false]
theorem coded_ok {M : Mem} {k : Nat} (k125 : mK M 125 = 4) (h : mI M 125 10 = iI k) (hk : k < 4) : fX4_coded (some 125) M = some (iI (if k < 2 then 0 else 1 : Nat), M) := by
  by_cases c : k < 2
  · rw [if_pos c]
    simp -implicitDefEqProofs (disch := omega) only [fX4_coded, fX4_coded_L13, k125, h, rtZ, bo_s, bd_s, bn_s, gI_s, gJ_s, gR_s, pI_s, pZ_s, pJ_s, pR_s, chk_s, chN_s, chN_n, aL_s, aI_c, aJ_c, aR_c, wI_c, wB_c, wS_c, wZ_c, wJ_c, wR_c, mK_sI, mK_sJ, mK_sR, mK_cpI, mL_sI, mL_sJ, mL_sR, mL_cpI, mI_sI, mI_sJ, mI_sR, mI_cpI, mJ_sI, mJ_sJ, mJ_sR, mJ_cpI, mR_sI, mR_sJ, mR_sR, mR_cpI, i2b_i2b, i2b_sb, iI_lit, iI_add, iI_sub, iI_mul, iI_neg, iI_lt, iI_le, iI_eq, iI_J, lt_T, lt_F, le_T, le_F, eq_T, eq_F, eqN_T, eqN_F, leN_T, leN_F, ltN_T, ltN_F, if_true, if_false, and_true, true_and, and_false, false_and, or_true, true_or, or_false, false_or, not_true_eq_false, not_false_eq_true, and_self, or_self, tn_c, ne_eq, dite_true, dite_false]
    rfl
  · rw [if_neg c]
    simp -implicitDefEqProofs (disch := omega) only [fX4_coded, fX4_coded_L13, k125, h, rtZ, bo_s, bd_s, bn_s, gI_s, gJ_s, gR_s, pI_s, pZ_s, pJ_s, pR_s, chk_s, chN_s, chN_n, aL_s, aI_c, aJ_c, aR_c, wI_c, wB_c, wS_c, wZ_c, wJ_c, wR_c, mK_sI, mK_sJ, mK_sR, mK_cpI, mL_sI, mL_sJ, mL_sR, mL_cpI, mI_sI, mI_sJ, mI_sR, mI_cpI, mJ_sI, mJ_sJ, mJ_sR, mJ_cpI, mR_sI, mR_sJ, mR_sR, mR_cpI, i2b_i2b, i2b_sb, iI_lit, iI_add, iI_sub, iI_mul, iI_neg, iI_lt, iI_le, iI_eq, iI_J, lt_T, lt_F, le_T, le_F, eq_T, eq_F, eqN_T, eqN_F, leN_T, leN_F, ltN_T, ltN_F, if_true, if_false, and_true, true_and, and_false, false_and, or_true, true_or, or_false, false_or, not_true_eq_false, not_false_eq_true, and_self, or_self, tn_c, ne_eq, dite_true, dite_false]
    rfl
section LHEAD
variable {M : Mem} {r rb rn e a g lim : Nat} {u : Nat → Nat}
/-- what the head has told -/
abbrev HT (N : Mem) (u : Nat → Nat) (a : Nat) : Prop := mI N 125 8 = iI a ∧ mI N 125 10 = iI (u a % 4 : Nat) ∧ mI N 125 11 = iI (u a / 4 % 4 : Nat) ∧ mI N 125 12 = iI (cnL u a : Nat) ∧ mI N 125 9 = iI (nxL u a : Nat) ∧ mI N 125 3 = iI (nxL u a + flL u a : Nat)
theorem head239 (hC : CSt M) {N : Mem} (hS : Sm WLh M N) (hu : ∀ i, u i < 256) (hag : a < g) (hnx : nxL u a ≤ g) (hg : g < 900000) (hlim : lim < 900000) (h8 : mI N 125 8 = iI a) (h10 : mI N 125 10 = iI (u a % 4 : Nat)) (h11 : mI N 125 11 = iI (u a / 4 % 4 : Nat)) (h12 : mI N 125 12 = iI (cnL u a : Nat)) (h9 : mI N 125 9 = iI (nxL u a : Nat)) :
    Wp (fX4_readHead_L239 (some 125) (iI g) (iI lim) (iI (flL u a : Nat)) N) fun v N => Sm WLh M N ∧ (¬ LH u a g lim → v = iI 0) ∧ (LH u a g lim → v = iI 1 ∧ HT N u a) := by
  have hC' := hC.sm hS WLh_fx
  obtain ⟨k125, r125_5, k30⟩ : mK N 125 = 4 ∧ mR N 125 5 = some 30 ∧ mK N 30 = 7 := ⟨hC'.k 125 (by omega) (by omega), hC'.r 125 5 (by omega) (by omega) (by decide), hC'.k 30 (by omega) (by omega)⟩
  have hc := cnL_lt hu a
  have hf := flL_lt hu a
  have efl : (nxL u a : Int) + (flL u a : Nat) = (nxL u a + flL u a : Nat) := by omega
  obtain ⟨P, hP⟩ : ∃ P, sI N 125 3 (iI (nxL u a + flL u a : Nat)) = P := ⟨_, rfl⟩
  have hSP : Sm WLh M P := by
    rw [← hP]
    refine hS.sI ?_
    unfold WLh; omega
  have hH : HT P u a := by
    rw [← hP]
    refine ⟨?_, ?_, ?_, ?_, ?_, ?_⟩ <;> simp -implicitDefEqProofs (disch := omega) only [mK_sI, mK_sJ, mK_sR, mK_cpI, mL_sI, mL_sJ, mL_sR, mL_cpI, mI_sI, mI_sJ, mI_sR, mI_cpI, mJ_sI, mJ_sJ, mJ_sR, mJ_cpI, mR_sI, mR_sJ, mR_sR, mR_cpI, eqN_T, eqN_F, if_true, if_false, and_true, true_and, and_false, false_and, or_true, true_or, or_false, false_or, not_true_eq_false, not_false_eq_true, and_self, or_self, tn_c, ne_eq, dite_true, dite_false] <;> assumption
  have hCP := hC.sm hSP WLh_fx
  obtain ⟨pk125, pr125_5, pk30⟩ : mK P 125 = 4 ∧ mR P 125 5 = some 30 ∧ mK P 30 = 7 := ⟨hCP.k 125 (by omega) (by omega), hCP.r 125 5 (by omega) (by omega) (by decide), hCP.k 30 (by omega) (by omega)⟩
  have bad : Wp (fX4_readHead_L267 (some 125) P) fun v N => Sm WLh M N ∧ v = iI 0 := by
    have e1 := fail_ok pk30 (iI 10) (iI a)
    have q8 := hH.1
    simp -implicitDefEqProofs (disch := omega) only [fX4_readHead_L267, fX4_readHead_L288, pr125_5, pk125, pk30, q8, e1, rtZ, bo_s, bd_s, bn_s, gI_s, gJ_s, gR_s, pI_s, pZ_s, pJ_s, pR_s, chk_s, chN_s, chN_n, aL_s, aI_c, aJ_c, aR_c, wI_c, wB_c, wS_c, wZ_c, wJ_c, wR_c, mK_sI, mK_sJ, mK_sR, mK_cpI, mL_sI, mL_sJ, mL_sR, mL_cpI, mI_sI, mI_sJ, mI_sR, mI_cpI, mJ_sI, mJ_sJ, mJ_sR, mJ_cpI, mR_sI, mR_sJ, mR_sR, mR_cpI, i2b_i2b, i2b_sb, iI_lit, iI_add, iI_sub, iI_mul, iI_neg, iI_lt, iI_le, iI_eq, iI_J, lt_T, lt_F, le_T, le_F, eq_T, eq_F, eqN_T, eqN_F, leN_T, leN_F, ltN_T, ltN_F, if_true, if_false, and_true, true_and, and_false, false_and, or_true, true_or, or_false, false_or, not_true_eq_false, not_false_eq_true, and_self, or_self, tn_c, ne_eq, dite_true, dite_false]
    refine w_ret ⟨?_, rfl⟩
    refine Sm.sI (Sm.sI hSP ?_) ?_ <;> unfold WLh <;> omega
  have q12 := hH.2.2.2.1
  have q3 := hH.2.2.2.2.2
  by_cases c1 : lim < cnL u a
  · obtain ⟨v, Q, e1, hSQ, hv⟩ := bad
    simp -implicitDefEqProofs (disch := omega) only [fX4_readHead_L239, k125, h9, efl, hP, pk125, q12, h12, bo_s, bd_s, bn_s, gI_s, gJ_s, gR_s, pI_s, pZ_s, pJ_s, pR_s, chk_s, chN_s, chN_n, aL_s, aI_c, aJ_c, aR_c, wI_c, wB_c, wS_c, wZ_c, wJ_c, wR_c, mK_sI, mK_sJ, mK_sR, mK_cpI, mL_sI, mL_sJ, mL_sR, mL_cpI, mI_sI, mI_sJ, mI_sR, mI_cpI, mJ_sI, mJ_sJ, mJ_sR, mJ_cpI, mR_sI, mR_sJ, mR_sR, mR_cpI, i2b_i2b, i2b_sb, iI_lit, iI_add, iI_sub, iI_mul, iI_neg, iI_lt, iI_le, iI_eq, iI_J, lt_T, lt_F, le_T, le_F, eq_T, eq_F, eqN_T, eqN_F, leN_T, leN_F, ltN_T, ltN_F, if_true, if_false, and_true, true_and, and_false, false_and, or_true, true_or, or_false, false_or, not_true_eq_false, not_false_eq_true, and_self, or_self, tn_c, ne_eq, dite_true, dite_false]
    exact ⟨v, Q, e1, hSQ, fun _ => hv, fun h => by omega⟩
  · by_cases c2 : nxL u a + flL u a ≤ g
    · simp -implicitDefEqProofs (disch := omega) only [fX4_readHead_L239, fX4_readHead_L283, fX4_readHead_L288, k125, h9, efl, hP, pk125, q12, h12, q3, rtZ, bo_s, bd_s, bn_s, gI_s, gJ_s, gR_s, pI_s, pZ_s, pJ_s, pR_s, chk_s, chN_s, chN_n, aL_s, aI_c, aJ_c, aR_c, wI_c, wB_c, wS_c, wZ_c, wJ_c, wR_c, mK_sI, mK_sJ, mK_sR, mK_cpI, mL_sI, mL_sJ, mL_sR, mL_cpI, mI_sI, mI_sJ, mI_sR, mI_cpI, mJ_sI, mJ_sJ, mJ_sR, mJ_cpI, mR_sI, mR_sJ, mR_sR, mR_cpI, i2b_i2b, i2b_sb, iI_lit, iI_add, iI_sub, iI_mul, iI_neg, iI_lt, iI_le, iI_eq, iI_J, lt_T, lt_F, le_T, le_F, eq_T, eq_F, eqN_T, eqN_F, leN_T, leN_F, ltN_T, ltN_F, if_true, if_false, and_true, true_and, and_false, false_and, or_true, true_or, or_false, false_or, not_true_eq_false, not_false_eq_true, and_self, or_self, tn_c, ne_eq, dite_true, dite_false]
      exact w_ret ⟨hSP, fun h => absurd ⟨hag, hnx, by omega, c2⟩ h, fun _ => ⟨rfl, hH⟩⟩
    · obtain ⟨v, Q, e1, hSQ, hv⟩ := bad
      simp -implicitDefEqProofs (disch := omega) only [fX4_readHead_L239, k125, h9, efl, hP, pk125, q12, h12, q3, bo_s, bd_s, bn_s, gI_s, gJ_s, gR_s, pI_s, pZ_s, pJ_s, pR_s, chk_s, chN_s, chN_n, aL_s, aI_c, aJ_c, aR_c, wI_c, wB_c, wS_c, wZ_c, wJ_c, wR_c, mK_sI, mK_sJ, mK_sR, mK_cpI, mL_sI, mL_sJ, mL_sR, mL_cpI, mI_sI, mI_sJ, mI_sR, mI_cpI, mJ_sI, mJ_sJ, mJ_sR, mJ_cpI, mR_sI, mR_sJ, mR_sR, mR_cpI, i2b_i2b, i2b_sb, iI_lit, iI_add, iI_sub, iI_mul, iI_neg, iI_lt, iI_le, iI_eq, iI_J, lt_T, lt_F, le_T, le_F, eq_T, eq_F, eqN_T, eqN_F, leN_T, leN_F, ltN_T, ltN_F, if_true, if_false, and_true, true_and, and_false, false_and, or_true, true_or, or_false, false_or, not_true_eq_false, not_false_eq_true, and_self, or_self, tn_c, ne_eq, dite_true, dite_false]
      exact ⟨v, Q, e1, hSQ, fun _ => hv, fun h => by omega⟩
set_option maxHeartbeats 8000000 in
theorem head75 (hC : CSt M) (hr : RS M r rb rn) (hb : BV M rb rn e u) (hr2 : r < 122 ∨ 158 < r) (hr3 : r ≠ 30) (hb2 : rb < 122 ∨ 158 < rb) (hb3 : rb ≠ 30) {N : Mem} {k f : Nat} (hS : Sm WLh M N) (hu : ∀ i, u i < 256) (hg : g ≤ e) (ha : a < 900000) (hlim : lim < 900000) (hk : k < 4) (hf : f < 4) (hkf : a < g → k = u a % 4 ∧ f = u a / 4 % 4) (h8 : mI N 125 8 = iI a) (h10 : mI N 125 10 = iI k) (h11 : mI N 125 11 = iI f) :
    Wp (fX4_readHead_L75 (some 125) (some r) (iI g) (iI lim) (iI (hbL k f : Nat)) N) fun v N => Sm WLh M N ∧ (¬ LH u a g lim → v = iI 0) ∧ (LH u a g lim → v = iI 1 ∧ HT N u a) := by
  have g3 := hb.2.2.1
  have g4 := hb.2.2.2.1
  have hC' := hC.sm hS WLh_fx
  obtain ⟨k125, r125_5, k30⟩ : mK N 125 = 4 ∧ mR N 125 5 = some 30 ∧ mK N 30 = 7 := ⟨hC'.k 125 (by omega) (by omega), hC'.r 125 5 (by omega) (by omega) (by decide), hC'.k 30 (by omega) (by omega)⟩
  have hh := hbL_r (k := k) hf
  have bad : Wp (fX4_readHead_L96 (some 125) N) fun v N => Sm WLh M N ∧ v = iI 0 := by
    have e1 := fail_ok k30 (iI 10) (iI a)
    simp -implicitDefEqProofs (disch := omega) only [fX4_readHead_L96, r125_5, k125, k30, h8, e1, rtZ, bo_s, bd_s, bn_s, gI_s, gJ_s, gR_s, pI_s, pZ_s, pJ_s, pR_s, chk_s, chN_s, chN_n, aL_s, aI_c, aJ_c, aR_c, wI_c, wB_c, wS_c, wZ_c, wJ_c, wR_c, mK_sI, mK_sJ, mK_sR, mK_cpI, mL_sI, mL_sJ, mL_sR, mL_cpI, mI_sI, mI_sJ, mI_sR, mI_cpI, mJ_sI, mJ_sJ, mJ_sR, mJ_cpI, mR_sI, mR_sJ, mR_sR, mR_cpI, i2b_i2b, i2b_sb, iI_lit, iI_add, iI_sub, iI_mul, iI_neg, iI_lt, iI_le, iI_eq, iI_J, lt_T, lt_F, le_T, le_F, eq_T, eq_F, eqN_T, eqN_F, leN_T, leN_F, ltN_T, ltN_F, if_true, if_false, and_true, true_and, and_false, false_and, or_true, true_or, or_false, false_or, not_true_eq_false, not_false_eq_true, and_self, or_self, tn_c, ne_eq, dite_true, dite_false]
    refine w_ret ⟨?_, rfl⟩
    refine Sm.sI (Sm.sI hS ?_) ?_ <;> unfold WLh <;> omega
  by_cases c1 : g ≤ a
  · obtain ⟨v, Q, e1, hSQ, hv⟩ := bad
    simp -implicitDefEqProofs (disch := omega) only [fX4_readHead_L75, k125, h8, bo_s, bd_s, bn_s, gI_s, gJ_s, gR_s, pI_s, pZ_s, pJ_s, pR_s, chk_s, chN_s, chN_n, aL_s, aI_c, aJ_c, aR_c, wI_c, wB_c, wS_c, wZ_c, wJ_c, wR_c, mK_sI, mK_sJ, mK_sR, mK_cpI, mL_sI, mL_sJ, mL_sR, mL_cpI, mI_sI, mI_sJ, mI_sR, mI_cpI, mJ_sI, mJ_sJ, mJ_sR, mJ_cpI, mR_sI, mR_sJ, mR_sR, mR_cpI, i2b_i2b, i2b_sb, iI_lit, iI_add, iI_sub, iI_mul, iI_neg, iI_lt, iI_le, iI_eq, iI_J, lt_T, lt_F, le_T, le_F, eq_T, eq_F, eqN_T, eqN_F, leN_T, leN_F, ltN_T, ltN_F, if_true, if_false, and_true, true_and, and_false, false_and, or_true, true_or, or_false, false_or, not_true_eq_false, not_false_eq_true, and_self, or_self, tn_c, ne_eq, dite_true, dite_false]
    exact ⟨v, Q, e1, hSQ, fun _ => hv, fun h => by omega⟩
  · obtain ⟨rfl, rfl⟩ := hkf (by omega)
    have hnx : nxL u a = a + hbL (u a % 4) (u a / 4 % 4) := rfl
    by_cases c2 : g < nxL u a
    · obtain ⟨v, Q, e1, hSQ, hv⟩ := bad
      simp -implicitDefEqProofs (disch := omega) only [fX4_readHead_L75, k125, h8, bo_s, bd_s, bn_s, gI_s, gJ_s, gR_s, pI_s, pZ_s, pJ_s, pR_s, chk_s, chN_s, chN_n, aL_s, aI_c, aJ_c, aR_c, wI_c, wB_c, wS_c, wZ_c, wJ_c, wR_c, mK_sI, mK_sJ, mK_sR, mK_cpI, mL_sI, mL_sJ, mL_sR, mL_cpI, mI_sI, mI_sJ, mI_sR, mI_cpI, mJ_sI, mJ_sJ, mJ_sR, mJ_cpI, mR_sI, mR_sJ, mR_sR, mR_cpI, i2b_i2b, i2b_sb, iI_lit, iI_add, iI_sub, iI_mul, iI_neg, iI_lt, iI_le, iI_eq, iI_J, lt_T, lt_F, le_T, le_F, eq_T, eq_F, eqN_T, eqN_F, leN_T, leN_F, ltN_T, ltN_F, if_true, if_false, and_true, true_and, and_false, false_and, or_true, true_or, or_false, false_or, not_true_eq_false, not_false_eq_true, and_self, or_self, tn_c, ne_eq, dite_true, dite_false]
      exact ⟨v, Q, e1, hSQ, fun _ => hv, fun h => by omega⟩
    · have hr' := hr.sm hS (by unfold WLh; omega)
      have hb' := hb.sm hS (by unfold WLh; omega)
      have r1 := hr'.1
      have e1 := number_ok hr' (by omega) a (hbL (u a % 4) (u a / 4 % 4)) (by omega) (by omega)
      rw [numU hb' hu (by omega)] at e1
      have ev : num u a (hbL (u a % 4) (u a / 4 % 4)) = vL u a := rfl
      rw [ev] at e1
      have hv40 := vL_40 hu a
      have enx : (a : Int) + (hbL (u a % 4) (u a / 4 % 4) : Nat) = (nxL u a : Nat) := by omega
      have hwd := wdL_r (u a / 4 % 4)
      have key : ∀ x : Nat, x = cnL u a → Sm WLh M (sI (sI N 125 9 (iI (nxL u a : Nat))) 125 12 (iI x)) ∧ Wp (fX4_readHead_L239 (some 125) (iI g) (iI lim) (iI (flL u a : Nat)) (sI (sI N 125 9 (iI (nxL u a : Nat))) 125 12 (iI x))) fun v N => Sm WLh M N ∧ (¬ LH u a g lim → v = iI 0) ∧ (LH u a g lim → v = iI 1 ∧ HT N u a) := fun x hx => by
        have hS2 : Sm WLh M (sI (sI N 125 9 (iI (nxL u a : Nat))) 125 12 (iI x)) := by
          refine Sm.sI (Sm.sI hS ?_) ?_ <;> unfold WLh <;> omega
        refine ⟨hS2, head239 hC hS2 hu (by omega) (by omega) (by omega) hlim ?_ ?_ ?_ ?_ ?_⟩ <;> simp -implicitDefEqProofs (disch := omega) only [mK_sI, mK_sJ, mK_sR, mK_cpI, mL_sI, mL_sJ, mL_sR, mL_cpI, mI_sI, mI_sJ, mI_sR, mI_cpI, mJ_sI, mJ_sJ, mJ_sR, mJ_cpI, mR_sI, mR_sJ, mR_sR, mR_cpI, eqN_T, eqN_F, if_true, if_false, and_true, true_and, and_false, false_and, or_true, true_or, or_false, false_or, not_true_eq_false, not_false_eq_true, and_self, or_self, tn_c, ne_eq, dite_true, dite_false]
        · exact h8
        · exact h10
        · exact h11
        · rw [hx]
      have m0 := (show Sm WLh M (sI N 125 9 (iI (nxL u a : Nat))) from by
        refine hS.sI ?_
        unfold WLh; omega)
      have ec := coded_ok (M := sI N 125 9 (iI (nxL u a : Nat))) (k := u a % 4) k125 (by simp -implicitDefEqProofs (disch := omega) only [mK_sI, mK_sJ, mK_sR, mK_cpI, mL_sI, mL_sJ, mL_sR, mL_cpI, mI_sI, mI_sJ, mI_sR, mI_cpI, mJ_sI, mJ_sJ, mJ_sR, mJ_cpI, mR_sI, mR_sJ, mR_sR, mR_cpI, eqN_T, eqN_F, if_true, if_false, and_true, true_and, and_false, false_and, or_true, true_or, or_false, false_or, not_true_eq_false, not_false_eq_true, and_self, or_self, tn_c, ne_eq, dite_true, dite_false]; exact h10) (by omega)
      generalize hF : u a / 4 % 4 = f at *
      generalize hK : u a % 4 = k at *
      by_cases c3 : k < 2
      · rw [if_pos c3, show ((0 : Nat) : Int) = 0 from rfl] at ec
        have fin : ∀ s : Nat, s = (if f % 2 = 0 then 3 else 4) → Wp (fX4_readHead_L216 (some 125) (iI g) (iI lim) (some 125) (iJ (vL u a : Nat)) (iI s) (sI N 125 9 (iI (nxL u a : Nat)))) fun v N => Sm WLh M N ∧ (¬ LH u a g lim → v = iI 0) ∧ (LH u a g lim → v = iI 1 ∧ HT N u a) := fun s hs => by
          have e2 := shrJ_n (a := vL u a) (k := s) (by rw [hs]; split <;> omega) (by omega)
          have ecn : vL u a / 2 ^ s = cnL u a := by unfold cnL; rw [hK, hF, if_pos c3, ← hs]
          have := (key _ ecn).2
          by_cases c4 : k = 1
          · have efl : flL u a = 1 := by unfold flL; rw [hK, if_neg (by omega), if_pos c4]
            rw [efl, show ((1 : Nat) : Int) = 1 from rfl] at this
            rw [c4] at h10
            simp -implicitDefEqProofs (disch := omega) only [fX4_readHead_L216, fX4_readHead_L237, e2, iJ_I, k125, h10, bo_s, bd_s, bn_s, gI_s, gJ_s, gR_s, pI_s, pZ_s, pJ_s, pR_s, chk_s, chN_s, chN_n, aL_s, aI_c, aJ_c, aR_c, wI_c, wB_c, wS_c, wZ_c, wJ_c, wR_c, mK_sI, mK_sJ, mK_sR, mK_cpI, mL_sI, mL_sJ, mL_sR, mL_cpI, mI_sI, mI_sJ, mI_sR, mI_cpI, mJ_sI, mJ_sJ, mJ_sR, mJ_cpI, mR_sI, mR_sJ, mR_sR, mR_cpI, i2b_i2b, i2b_sb, iI_lit, iI_add, iI_sub, iI_mul, iI_neg, iI_lt, iI_le, iI_eq, iI_J, lt_T, lt_F, le_T, le_F, eq_T, eq_F, eqN_T, eqN_F, leN_T, leN_F, ltN_T, ltN_F, if_true, if_false, and_true, true_and, and_false, false_and, or_true, true_or, or_false, false_or, not_true_eq_false, not_false_eq_true, and_self, or_self, tn_c, ne_eq, dite_true, dite_false]
            exact this
          · have efl : flL u a = cnL u a := by unfold flL; rw [hK, if_pos (by omega)]
            rw [efl, ← ecn] at this
            simp -implicitDefEqProofs (disch := omega) only [fX4_readHead_L216, fX4_readHead_L237, e2, iJ_I, k125, h10, bo_s, bd_s, bn_s, gI_s, gJ_s, gR_s, pI_s, pZ_s, pJ_s, pR_s, chk_s, chN_s, chN_n, aL_s, aI_c, aJ_c, aR_c, wI_c, wB_c, wS_c, wZ_c, wJ_c, wR_c, mK_sI, mK_sJ, mK_sR, mK_cpI, mL_sI, mL_sJ, mL_sR, mL_cpI, mI_sI, mI_sJ, mI_sR, mI_cpI, mJ_sI, mJ_sJ, mJ_sR, mJ_cpI, mR_sI, mR_sJ, mR_sR, mR_cpI, i2b_i2b, i2b_sb, iI_lit, iI_add, iI_sub, iI_mul, iI_neg, iI_lt, iI_le, iI_eq, iI_J, lt_T, lt_F, le_T, le_F, eq_T, eq_F, eqN_T, eqN_F, leN_T, leN_F, ltN_T, ltN_F, if_true, if_false, and_true, true_and, and_false, false_and, or_true, true_or, or_false, false_or, not_true_eq_false, not_false_eq_true, and_self, or_self, tn_c, ne_eq, dite_true, dite_false]
            exact this
        by_cases c4 : (f : Int) % 2 = 0
        · have := fin 3 (by rw [if_pos (by omega)])
          rw [show ((3 : Nat) : Int) = 3 from rfl] at this
          simp -implicitDefEqProofs (disch := omega) only [fX4_readHead_L75, k125, h8, r1, e1, enx, ec, h11, rm_i, bo_s, bd_s, bn_s, gI_s, gJ_s, gR_s, pI_s, pZ_s, pJ_s, pR_s, chk_s, chN_s, chN_n, aL_s, aI_c, aJ_c, aR_c, wI_c, wB_c, wS_c, wZ_c, wJ_c, wR_c, mK_sI, mK_sJ, mK_sR, mK_cpI, mL_sI, mL_sJ, mL_sR, mL_cpI, mI_sI, mI_sJ, mI_sR, mI_cpI, mJ_sI, mJ_sJ, mJ_sR, mJ_cpI, mR_sI, mR_sJ, mR_sR, mR_cpI, i2b_i2b, i2b_sb, iI_lit, iI_add, iI_sub, iI_mul, iI_neg, iI_lt, iI_le, iI_eq, iI_J, lt_T, lt_F, le_T, le_F, eq_T, eq_F, eqN_T, eqN_F, leN_T, leN_F, ltN_T, ltN_F, if_true, if_false, and_true, true_and, and_false, false_and, or_true, true_or, or_false, false_or, not_true_eq_false, not_false_eq_true, and_self, or_self, tn_c, ne_eq, dite_true, dite_false]
          exact this
        · have := fin 4 (by rw [if_neg (by omega)])
          rw [show ((4 : Nat) : Int) = 4 from rfl] at this
          simp -implicitDefEqProofs (disch := omega) only [fX4_readHead_L75, k125, h8, r1, e1, enx, ec, h11, rm_i, bo_s, bd_s, bn_s, gI_s, gJ_s, gR_s, pI_s, pZ_s, pJ_s, pR_s, chk_s, chN_s, chN_n, aL_s, aI_c, aJ_c, aR_c, wI_c, wB_c, wS_c, wZ_c, wJ_c, wR_c, mK_sI, mK_sJ, mK_sR, mK_cpI, mL_sI, mL_sJ, mL_sR, mL_cpI, mI_sI, mI_sJ, mI_sR, mI_cpI, mJ_sI, mJ_sJ, mJ_sR, mJ_cpI, mR_sI, mR_sJ, mR_sR, mR_cpI, i2b_i2b, i2b_sb, iI_lit, iI_add, iI_sub, iI_mul, iI_neg, iI_lt, iI_le, iI_eq, iI_J, lt_T, lt_F, le_T, le_F, eq_T, eq_F, eqN_T, eqN_F, leN_T, leN_F, ltN_T, ltN_F, if_true, if_false, and_true, true_and, and_false, false_and, or_true, true_or, or_false, false_or, not_true_eq_false, not_false_eq_true, and_self, or_self, tn_c, ne_eq, dite_true, dite_false]
          exact this
      · rw [if_neg c3, show ((1 : Nat) : Int) = 1 from rfl] at ec
        have fin : ∀ w : Nat, w = wdL f → Wp (fX4_readHead_L168 (some 125) (iI g) (iI lim) (iJ (vL u a : Nat)) (iI w) (sI N 125 9 (iI (nxL u a : Nat)))) fun v N => Sm WLh M N ∧ (¬ LH u a g lim → v = iI 0) ∧ (LH u a g lim → v = iI 1 ∧ HT N u a) := fun w hw => by
          have e2 := shrJ_n (a := vL u a) (k := 4) (by omega) (by omega)
          have e3 := shrJ_n (a := vL u a) (k := 4 + w) (by omega) (by omega)
          rw [show ((4 : Nat) : Int) = 4 from rfl] at e2
          rw [show ((4 + w : Nat) : Int) = (4 : Int) + w by omega] at e3
          have e4 := mskJ (x := vL u a / 2 ^ 4) (w := w) (by omega)
          have e5 : (1 : Int64) = iJ 1 := iJ_lit 1
          have ecn : vL u a / 2 ^ 4 % 2 ^ w = cnL u a := by unfold cnL; rw [hK, hF, if_neg c3, ← hw]
          have efl : vL u a / 2 ^ (4 + w) = flL u a := by unfold flL; rw [hK, hF, if_neg (by omega), if_neg (by omega), ← hw]
          have := (key _ ecn).2
          rw [← efl] at this
          simp -implicitDefEqProofs (disch := omega) only [fX4_readHead_L168, e2, e3, e5, e4, iJ_I, k125, bo_s, bd_s, bn_s, gI_s, gJ_s, gR_s, pI_s, pZ_s, pJ_s, pR_s, chk_s, chN_s, chN_n, aL_s, aI_c, aJ_c, aR_c, wI_c, wB_c, wS_c, wZ_c, wJ_c, wR_c, mK_sI, mK_sJ, mK_sR, mK_cpI, mL_sI, mL_sJ, mL_sR, mL_cpI, mI_sI, mI_sJ, mI_sR, mI_cpI, mJ_sI, mJ_sJ, mJ_sR, mJ_cpI, mR_sI, mR_sJ, mR_sR, mR_cpI, i2b_i2b, i2b_sb, iI_lit, iI_add, iI_sub, iI_mul, iI_neg, iI_lt, iI_le, iI_eq, iI_J, lt_T, lt_F, le_T, le_F, eq_T, eq_F, eqN_T, eqN_F, leN_T, leN_F, ltN_T, ltN_F, if_true, if_false, and_true, true_and, and_false, false_and, or_true, true_or, or_false, false_or, not_true_eq_false, not_false_eq_true, and_self, or_self, tn_c, ne_eq, dite_true, dite_false]
          exact this
        by_cases c4 : f < 2
        · have := fin 10 (by unfold wdL; rw [if_pos c4])
          rw [show ((10 : Nat) : Int) = 10 from rfl] at this
          simp -implicitDefEqProofs (disch := omega) only [fX4_readHead_L75, k125, h8, r1, e1, enx, ec, h11, bo_s, bd_s, bn_s, gI_s, gJ_s, gR_s, pI_s, pZ_s, pJ_s, pR_s, chk_s, chN_s, chN_n, aL_s, aI_c, aJ_c, aR_c, wI_c, wB_c, wS_c, wZ_c, wJ_c, wR_c, mK_sI, mK_sJ, mK_sR, mK_cpI, mL_sI, mL_sJ, mL_sR, mL_cpI, mI_sI, mI_sJ, mI_sR, mI_cpI, mJ_sI, mJ_sJ, mJ_sR, mJ_cpI, mR_sI, mR_sJ, mR_sR, mR_cpI, i2b_i2b, i2b_sb, iI_lit, iI_add, iI_sub, iI_mul, iI_neg, iI_lt, iI_le, iI_eq, iI_J, lt_T, lt_F, le_T, le_F, eq_T, eq_F, eqN_T, eqN_F, leN_T, leN_F, ltN_T, ltN_F, if_true, if_false, and_true, true_and, and_false, false_and, or_true, true_or, or_false, false_or, not_true_eq_false, not_false_eq_true, and_self, or_self, tn_c, ne_eq, dite_true, dite_false]
          exact this
        · by_cases c5 : f = 2
          · have := fin 14 (by unfold wdL; rw [if_neg c4, if_pos c5])
            rw [show ((14 : Nat) : Int) = 14 from rfl] at this
            simp -implicitDefEqProofs (disch := omega) only [fX4_readHead_L75, k125, h8, r1, e1, enx, ec, h11, bo_s, bd_s, bn_s, gI_s, gJ_s, gR_s, pI_s, pZ_s, pJ_s, pR_s, chk_s, chN_s, chN_n, aL_s, aI_c, aJ_c, aR_c, wI_c, wB_c, wS_c, wZ_c, wJ_c, wR_c, mK_sI, mK_sJ, mK_sR, mK_cpI, mL_sI, mL_sJ, mL_sR, mL_cpI, mI_sI, mI_sJ, mI_sR, mI_cpI, mJ_sI, mJ_sJ, mJ_sR, mJ_cpI, mR_sI, mR_sJ, mR_sR, mR_cpI, i2b_i2b, i2b_sb, iI_lit, iI_add, iI_sub, iI_mul, iI_neg, iI_lt, iI_le, iI_eq, iI_J, lt_T, lt_F, le_T, le_F, eq_T, eq_F, eqN_T, eqN_F, leN_T, leN_F, ltN_T, ltN_F, if_true, if_false, and_true, true_and, and_false, false_and, or_true, true_or, or_false, false_or, not_true_eq_false, not_false_eq_true, and_self, or_self, tn_c, ne_eq, dite_true, dite_false]
            exact this
          · have := fin 18 (by unfold wdL; rw [if_neg c4, if_neg c5])
            rw [show ((18 : Nat) : Int) = 18 from rfl] at this
            simp -implicitDefEqProofs (disch := omega) only [fX4_readHead_L75, k125, h8, r1, e1, enx, ec, h11, bo_s, bd_s, bn_s, gI_s, gJ_s, gR_s, pI_s, pZ_s, pJ_s, pR_s, chk_s, chN_s, chN_n, aL_s, aI_c, aJ_c, aR_c, wI_c, wB_c, wS_c, wZ_c, wJ_c, wR_c, mK_sI, mK_sJ, mK_sR, mK_cpI, mL_sI, mL_sJ, mL_sR, mL_cpI, mI_sI, mI_sJ, mI_sR, mI_cpI, mJ_sI, mJ_sJ, mJ_sR, mJ_cpI, mR_sI, mR_sJ, mR_sR, mR_cpI, i2b_i2b, i2b_sb, iI_lit, iI_add, iI_sub, iI_mul, iI_neg, iI_lt, iI_le, iI_eq, iI_J, lt_T, lt_F, le_T, le_F, eq_T, eq_F, eqN_T, eqN_F, leN_T, leN_F, ltN_T, ltN_F, if_true, if_false, and_true, true_and, and_false, false_and, or_true, true_or, or_false, false_or, not_true_eq_false, not_false_eq_true, and_self, or_self, tn_c, ne_eq, dite_true, dite_false]
            exact this
theorem lreadHead_ok (hC : CSt M) (hr : RS M r rb rn) (hb : BV M rb rn e u) (hr2 : r < 122 ∨ 158 < r) (hr3 : r ≠ 30) (hb2 : rb < 122 ∨ 158 < rb) (hb3 : rb ≠ 30) (hu : ∀ i, u i < 256) (hg : g ≤ e) (ha : a < 900000) (hlim : lim < 900000) :
    Wp (fX4_readHead (some 125) (some r) (iI a) (iI g) (iI lim) M) fun v N => Sm WLh M N ∧ (¬ LH u a g lim → v = iI 0) ∧ (LH u a g lim → v = iI 1 ∧ HT N u a) := by
  have g3 := hb.2.2.1
  have g4 := hb.2.2.2.1
  have k125 : mK M 125 = 4 := hC.k 125 (by omega) (by omega)
  have r1 := hr.1
  have hS1 : Sm WLh M (sI M 125 8 (iI a)) := by
    refine Sm.rf.sI ?_
    unfold WLh; omega
  obtain ⟨b0, hb0⟩ : ∃ b0, gB M rb rn (a : Int) = b0 := ⟨_, rfl⟩
  have hb0l : b0 < 256 := by rw [← hb0]; exact gB_lt _ _ _ _
  have hbu : a < g → b0 = u a := fun h => by
    rw [← hb0]
    exact gB_u (hb.rd (i := (a : Int)) (j := a) rfl (by omega)) (hu _) (by omega)
  have e1 := get_ok (hr.sm hS1 (by unfold WLh; omega)) (a : Int) (by omega) (by omega)
  rw [gB_sm hS1 (by unfold WLh; omega), hb0] at e1
  have hS2 : Sm WLh M (sI (sI M 125 8 (iI a)) 125 10 (iI ((b0 % 4 : Nat) : Int))) := by
    refine hS1.sI ?_
    unfold WLh; omega
  have e2 := get_ok (hr.sm hS2 (by unfold WLh; omega)) (a : Int) (by omega) (by omega)
  rw [gB_sm hS2 (by unfold WLh; omega), hb0] at e2
  have e3 : iI (b0 : Int) &&& iI 3 = iI ((b0 % 4 : Nat) : Int) := by rw [and_3]; refine congrArg iI ?_; omega
  have e4 : shrI (iI (b0 : Int)) (iI 2) &&& iI 3 = iI ((b0 / 4 % 4 : Nat) : Int) := by
    have := shr_n (a := b0) (k := 2) (by omega) (by omega)
    rw [show ((2 : Nat) : Int) = 2 from rfl] at this
    rw [this, and_3]
    refine congrArg iI ?_
    show ((b0 / 4 : Nat) : Int) % 4 = _
    omega
  obtain ⟨k, hk⟩ : ∃ k, b0 % 4 = k := ⟨_, rfl⟩
  obtain ⟨f, hf⟩ : ∃ f, b0 / 4 % 4 = f := ⟨_, rfl⟩
  rw [hk] at e2 e3 hS2
  rw [hf] at e4
  obtain ⟨P, hP⟩ : ∃ P, sI (sI (sI M 125 8 (iI a)) 125 10 (iI k)) 125 11 (iI f) = P := ⟨_, rfl⟩
  have hSP : Sm WLh M P := by
    rw [← hP]
    refine hS2.sI ?_
    unfold WLh; omega
  have p8 : mI P 125 8 = iI a := by rw [← hP]; simp -implicitDefEqProofs (disch := omega) only [mK_sI, mK_sJ, mK_sR, mK_cpI, mL_sI, mL_sJ, mL_sR, mL_cpI, mI_sI, mI_sJ, mI_sR, mI_cpI, mJ_sI, mJ_sJ, mJ_sR, mJ_cpI, mR_sI, mR_sJ, mR_sR, mR_cpI, eqN_T, eqN_F, if_true, if_false, and_true, true_and, and_false, false_and, or_true, true_or, or_false, false_or, not_true_eq_false, not_false_eq_true, and_self, or_self, tn_c, ne_eq, dite_true, dite_false]
  have p10 : mI P 125 10 = iI k := by rw [← hP]; simp -implicitDefEqProofs (disch := omega) only [mK_sI, mK_sJ, mK_sR, mK_cpI, mL_sI, mL_sJ, mL_sR, mL_cpI, mI_sI, mI_sJ, mI_sR, mI_cpI, mJ_sI, mJ_sJ, mJ_sR, mJ_cpI, mR_sI, mR_sJ, mR_sR, mR_cpI, eqN_T, eqN_F, if_true, if_false, and_true, true_and, and_false, false_and, or_true, true_or, or_false, false_or, not_true_eq_false, not_false_eq_true, and_self, or_self, tn_c, ne_eq, dite_true, dite_false]
  have p11 : mI P 125 11 = iI f := by rw [← hP]; simp -implicitDefEqProofs (disch := omega) only [mK_sI, mK_sJ, mK_sR, mK_cpI, mL_sI, mL_sJ, mL_sR, mL_cpI, mI_sI, mI_sJ, mI_sR, mI_cpI, mJ_sI, mJ_sJ, mJ_sR, mJ_cpI, mR_sI, mR_sJ, mR_sR, mR_cpI, eqN_T, eqN_F, if_true, if_false, and_true, true_and, and_false, false_and, or_true, true_or, or_false, false_or, not_true_eq_false, not_false_eq_true, and_self, or_self, tn_c, ne_eq, dite_true, dite_false]
  have kP := (hSP.K 125).trans k125
  have ec := coded_ok kP p10 (by omega)
  have fin := head75 (k := k) (f := f) (a := a) (g := g) (lim := lim) hC hr hb hr2 hr3 hb2 hb3 hSP hu hg ha hlim (by omega) (by omega) (fun h => by rw [← hk, ← hf, hbu h]; exact ⟨rfl, rfl⟩) p8 p10 p11
  by_cases c1 : k < 2
  · rw [if_pos c1, show ((0 : Nat) : Int) = 0 from rfl] at ec
    by_cases c2 : f = 3
    · have eh : hbL k f = 3 := by unfold hbL; rw [if_pos c1, if_neg (by omega), if_pos c2]
      rw [eh, show ((3 : Nat) : Int) = 3 from rfl] at fin
      simp -implicitDefEqProofs (disch := omega) only [fX4_readHead, k125, r1, e1, e2, e3, e4, hP, kP, ec, p11, bo_s, bd_s, bn_s, gI_s, gJ_s, gR_s, pI_s, pZ_s, pJ_s, pR_s, chk_s, chN_s, chN_n, aL_s, aI_c, aJ_c, aR_c, wI_c, wB_c, wS_c, wZ_c, wJ_c, wR_c, mK_sI, mK_sJ, mK_sR, mK_cpI, mL_sI, mL_sJ, mL_sR, mL_cpI, mI_sI, mI_sJ, mI_sR, mI_cpI, mJ_sI, mJ_sJ, mJ_sR, mJ_cpI, mR_sI, mR_sJ, mR_sR, mR_cpI, i2b_i2b, i2b_sb, iI_lit, iI_add, iI_sub, iI_mul, iI_neg, iI_lt, iI_le, iI_eq, iI_J, lt_T, lt_F, le_T, le_F, eq_T, eq_F, eqN_T, eqN_F, leN_T, leN_F, ltN_T, ltN_F, if_true, if_false, and_true, true_and, and_false, false_and, or_true, true_or, or_false, false_or, not_true_eq_false, not_false_eq_true, and_self, or_self, tn_c, ne_eq, dite_true, dite_false]
      exact fin
    · have eh : (hbL k f : Int) = (f : Int) % 2 + 1 := by
        unfold hbL
        rw [if_pos c1]
        split <;> omega
      rw [eh] at fin
      simp -implicitDefEqProofs (disch := omega) only [fX4_readHead, k125, r1, e1, e2, e3, e4, hP, kP, ec, p11, rm_i, bo_s, bd_s, bn_s, gI_s, gJ_s, gR_s, pI_s, pZ_s, pJ_s, pR_s, chk_s, chN_s, chN_n, aL_s, aI_c, aJ_c, aR_c, wI_c, wB_c, wS_c, wZ_c, wJ_c, wR_c, mK_sI, mK_sJ, mK_sR, mK_cpI, mL_sI, mL_sJ, mL_sR, mL_cpI, mI_sI, mI_sJ, mI_sR, mI_cpI, mJ_sI, mJ_sJ, mJ_sR, mJ_cpI, mR_sI, mR_sJ, mR_sR, mR_cpI, i2b_i2b, i2b_sb, iI_lit, iI_add, iI_sub, iI_mul, iI_neg, iI_lt, iI_le, iI_eq, iI_J, lt_T, lt_F, le_T, le_F, eq_T, eq_F, eqN_T, eqN_F, leN_T, leN_F, ltN_T, ltN_F, if_true, if_false, and_true, true_and, and_false, false_and, or_true, true_or, or_false, false_or, not_true_eq_false, not_false_eq_true, and_self, or_self, tn_c, ne_eq, dite_true, dite_false]
      exact fin
  · rw [if_neg c1, show ((1 : Nat) : Int) = 1 from rfl] at ec
    have em := maxI_iI (a := (f : Int) + 2) (b := 3) (by omega) (by omega)
    have eh : max ((f : Int) + 2) 3 = (hbL k f : Nat) := by
      unfold hbL
      rw [if_neg c1]
      split <;> omega
    rw [eh] at em
    simp -implicitDefEqProofs (disch := omega) only [fX4_readHead, k125, r1, e1, e2, e3, e4, hP, kP, ec, p11, em, bo_s, bd_s, bn_s, gI_s, gJ_s, gR_s, pI_s, pZ_s, pJ_s, pR_s, chk_s, chN_s, chN_n, aL_s, aI_c, aJ_c, aR_c, wI_c, wB_c, wS_c, wZ_c, wJ_c, wR_c, mK_sI, mK_sJ, mK_sR, mK_cpI, mL_sI, mL_sJ, mL_sR, mL_cpI, mI_sI, mI_sJ, mI_sR, mI_cpI, mJ_sI, mJ_sJ, mJ_sR, mJ_cpI, mR_sI, mR_sJ, mR_sR, mR_cpI, i2b_i2b, i2b_sb, iI_lit, iI_add, iI_sub, iI_mul, iI_neg, iI_lt, iI_le, iI_eq, iI_J, lt_T, lt_F, le_T, le_F, eq_T, eq_F, eqN_T, eqN_F, leN_T, leN_F, ltN_T, ltN_F, if_true, if_false, and_true, true_and, and_false, false_and, or_true, true_or, or_false, false_or, not_true_eq_false, not_false_eq_true, and_self, or_self, tn_c, ne_eq, dite_true, dite_false]
    exact fin
end LHEAD
