/-! the head of SEQUENCES, and their tables: the class's -/
def sqB (u : Nat → Nat) (a : Nat) : Nat := if u a < 128 then 1 else if u a < 255 then 2 else 3
def sqM (u : Nat → Nat) (a : Nat) : Nat := if u a < 128 then u a else if u a < 255 then 256 * (u a - 128) + u (a + 1) else 32512 + num u (a + 1) 2
abbrev sqG (u : Nat → Nat) (a g : Nat) : Prop := a < g ∧ a + sqB u a ≤ g ∧ ((sqM u a = 0 ∧ a + sqB u a = g) ∨ (sqM u a ≠ 0 ∧ a + sqB u a < g ∧ u (a + sqB u a) % 4 = 0))
def sqN (u : Nat → Nat) (a : Nat) : Nat := if sqM u a = 0 then a + sqB u a else a + sqB u a + 1
def sqD (u : Nat → Nat) (a : Nat) : Nat := if sqM u a = 0 then 0 else u (a + sqB u a)
theorem sqM_lt {u : Nat → Nat} (hu : ∀ i, u i < 256) (a : Nat) : sqM u a < 98048 := by
  have h1 := hu a
  have h2 := hu (a + 1)
  have h3 := num2 hu (a + 1)
  unfold sqM
  split
  · omega
  · split <;> omega
def WSh (a j : Nat) : Prop := (a = 134 ∧ (j = 15 ∨ j = 16)) ∨ (a = 30 ∧ j ≤ 1)
theorem WSh_fx : ∀ a j, WSh a j → 10 ≤ a ∧ ¬ fx a j := by
  rintro a j h
  unfold WSh at h
  rcases h with ⟨rfl, h⟩ | ⟨rfl, h⟩
  · exact ⟨by omega, fx_of 134 0 0 9 rfl rfl rfl (by omega)⟩
  · exact ⟨by omega, fx_of 30 0 2 3 rfl rfl rfl (by omega)⟩
theorem wrong_ok {M : Mem} (hC : CSt M) (x y : Int32) : fX9_wrong (some 134) x y M = some (iI (-1), sI (sI M 30 0 x) 30 1 y) := by
  obtain ⟨k134, r134_6, k30⟩ : mK M 134 = 9 ∧ mR M 134 6 = some 30 ∧ mK M 30 = 7 := ⟨hC.k 134 (by omega) (by omega), hC.r 134 6 (by omega) (by omega) (by decide), hC.k 30 (by omega) (by omega)⟩
  have e1 := fail_ok k30 x y
  simp -implicitDefEqProofs (disch := omega) only [fX9_wrong, k134, r134_6, k30, e1, bo_s, bd_s, bn_s, gI_s, gJ_s, gR_s, pI_s, pZ_s, pJ_s, pR_s, chk_s, chN_s, chN_n, aL_s, aI_c, aJ_c, aR_c, wI_c, wB_c, wS_c, wZ_c, wJ_c, wR_c, mK_sI, mK_sJ, mK_sR, mK_cpI, mL_sI, mL_sJ, mL_sR, mL_cpI, mI_sI, mI_sJ, mI_sR, mI_cpI, mJ_sI, mJ_sJ, mJ_sR, mJ_cpI, mR_sI, mR_sJ, mR_sR, mR_cpI, i2b_i2b, i2b_sb, iI_lit, iI_add, iI_sub, iI_mul, iI_neg, iI_lt, iI_le, iI_eq, iI_J, lt_T, lt_F, le_T, le_F, eq_T, eq_F, eqN_T, eqN_F, leN_T, leN_F, ltN_T, ltN_F, if_true, if_false, and_true, true_and, and_false, false_and, or_true, true_or, or_false, false_or, not_true_eq_false, not_false_eq_true, and_self, or_self, tn_c, ne_eq, dite_true, dite_false]
section SHEAD
variable {M : Mem} {r rb rn e a g : Nat} {u : Nat → Nat}
abbrev SQh (M : Mem) (u : Nat → Nat) (a g : Nat) (v : Int32) (N : Mem) : Prop := Sm WSh M N ∧ (¬ sqG u a g → v = iI (-1)) ∧ (sqG u a g → v = iI (sqN u a : Nat) ∧ mI N 134 15 = iI (sqM u a : Nat) ∧ mI N 134 16 = iI (sqD u a : Nat))
theorem shead115 {N : Mem} {x : Nat} (hC : CSt M) (hr : RS M r rb rn) (hb : BV M rb rn e u) (hr2 : r < 18) (hb2 : rb < 18) (hu : ∀ i, u i < 256) (hg : g ≤ e) (hS : Sm WSh M N) (hag : a < g) (hbg : a + sqB u a ≤ g) (h15 : mI N 134 15 = iI (sqM u a : Nat)) (hx : x = sqB u a) :
    Wp (fX9_readHead_L115 (some 134) (some r) (iI a) (iI g) (iI x) N) (SQh M u a g) := by
  have g3 := hb.2.2.1
  have g4 := hb.2.2.2.1
  have hm := sqM_lt hu a
  have hB : sqB u a ≤ 3 := by unfold sqB; split <;> (try split) <;> omega
  obtain ⟨P, hP⟩ : ∃ P, sI N 134 16 (iI 0) = P := ⟨_, rfl⟩
  have hSP : Sm WSh M P := by
    rw [← hP]
    refine hS.sI ?_
    unfold WSh; omega
  have hCN := hC.sm hS WSh_fx
  have hCP := hC.sm hSP WSh_fx
  have k134 : mK N 134 = 9 := hCN.k 134 (by omega) (by omega)
  have pk134 : mK P 134 = 9 := hCP.k 134 (by omega) (by omega)
  have p15 : mI P 134 15 = iI (sqM u a : Nat) := by rw [← hP]; simp -implicitDefEqProofs (disch := omega) only [mK_sI, mK_sJ, mK_sR, mK_cpI, mL_sI, mL_sJ, mL_sR, mL_cpI, mI_sI, mI_sJ, mI_sR, mI_cpI, mJ_sI, mJ_sJ, mJ_sR, mJ_cpI, mR_sI, mR_sJ, mR_sR, mR_cpI, eqN_T, eqN_F, if_true, if_false, and_true, true_and, and_false, false_and, or_true, true_or, or_false, false_or, not_true_eq_false, not_false_eq_true, and_self, or_self, tn_c, ne_eq, dite_true, dite_false]; exact h15
  have p16 : mI P 134 16 = iI 0 := by rw [← hP]; simp -implicitDefEqProofs (disch := omega) only [mK_sI, mK_sJ, mK_sR, mK_cpI, mL_sI, mL_sJ, mL_sR, mL_cpI, mI_sI, mI_sJ, mI_sR, mI_cpI, mJ_sI, mJ_sJ, mJ_sR, mJ_cpI, mR_sI, mR_sJ, mR_sR, mR_cpI, eqN_T, eqN_F, if_true, if_false, and_true, true_and, and_false, false_and, or_true, true_or, or_false, false_or, not_true_eq_false, not_false_eq_true, and_self, or_self, tn_c, ne_eq, dite_true, dite_false]
  have ex : (a : Int) + x = (a + sqB u a : Nat) := by omega
  have wr := fun y => wrong_ok hCP (iI 14) y
  by_cases c1 : sqM u a = 0
  · rw [c1, show ((0 : Nat) : Int) = 0 from rfl] at p15
    by_cases c2 : a + sqB u a = g
    · simp -implicitDefEqProofs (disch := omega) only [fX9_readHead_L115, fX9_readHead_L151, k134, hP, ex, pk134, p15, h15, bo_s, bd_s, bn_s, gI_s, gJ_s, gR_s, pI_s, pZ_s, pJ_s, pR_s, chk_s, chN_s, chN_n, aL_s, aI_c, aJ_c, aR_c, wI_c, wB_c, wS_c, wZ_c, wJ_c, wR_c, mK_sI, mK_sJ, mK_sR, mK_cpI, mL_sI, mL_sJ, mL_sR, mL_cpI, mI_sI, mI_sJ, mI_sR, mI_cpI, mJ_sI, mJ_sJ, mJ_sR, mJ_cpI, mR_sI, mR_sJ, mR_sR, mR_cpI, i2b_i2b, i2b_sb, iI_lit, iI_add, iI_sub, iI_mul, iI_neg, iI_lt, iI_le, iI_eq, iI_J, lt_T, lt_F, le_T, le_F, eq_T, eq_F, eqN_T, eqN_F, leN_T, leN_F, ltN_T, ltN_F, if_true, if_false, and_true, true_and, and_false, false_and, or_true, true_or, or_false, false_or, not_true_eq_false, not_false_eq_true, and_self, or_self, tn_c, ne_eq, dite_true, dite_false]
      refine w_ret ⟨hSP, fun h => absurd ⟨hag, hbg, Or.inl ⟨c1, c2⟩⟩ h, fun _ => ⟨?_, ?_, ?_⟩⟩
      · unfold sqN; rw [if_pos c1]
      · rw [p15, c1]; rfl
      · rw [p16]; unfold sqD; rw [if_pos c1]; rfl
    · have e1 := wr (iI a)
      simp -implicitDefEqProofs (disch := omega) only [fX9_readHead_L115, fX9_readHead_L151, k134, hP, ex, pk134, p15, e1, h15, bo_s, bd_s, bn_s, gI_s, gJ_s, gR_s, pI_s, pZ_s, pJ_s, pR_s, chk_s, chN_s, chN_n, aL_s, aI_c, aJ_c, aR_c, wI_c, wB_c, wS_c, wZ_c, wJ_c, wR_c, mK_sI, mK_sJ, mK_sR, mK_cpI, mL_sI, mL_sJ, mL_sR, mL_cpI, mI_sI, mI_sJ, mI_sR, mI_cpI, mJ_sI, mJ_sJ, mJ_sR, mJ_cpI, mR_sI, mR_sJ, mR_sR, mR_cpI, i2b_i2b, i2b_sb, iI_lit, iI_add, iI_sub, iI_mul, iI_neg, iI_lt, iI_le, iI_eq, iI_J, lt_T, lt_F, le_T, le_F, eq_T, eq_F, eqN_T, eqN_F, leN_T, leN_F, ltN_T, ltN_F, if_true, if_false, and_true, true_and, and_false, false_and, or_true, true_or, or_false, false_or, not_true_eq_false, not_false_eq_true, and_self, or_self, tn_c, ne_eq, dite_true, dite_false]
      refine w_ret ⟨?_, fun _ => rfl, fun h => absurd h (by omega)⟩
      refine Sm.sI (Sm.sI hSP ?_) ?_ <;> unfold WSh <;> omega
  · have hrP := hr.sm hSP (by unfold WSh; omega)
    have r1 := hrP.1
    obtain ⟨b0, hb0⟩ : ∃ b0, gB P rb rn ((a + sqB u a : Nat) : Int) = b0 := ⟨_, rfl⟩
    have hb0l : b0 < 256 := by rw [← hb0]; exact gB_lt _ _ _ _
    have hbu : a + sqB u a < g → b0 = u (a + sqB u a) := fun h => by
      rw [← hb0]
      exact gB_u ((hb.sm hSP (by unfold WSh; omega)).rd (i := ((a + sqB u a : Nat) : Int)) (j := a + sqB u a) rfl (by omega)) (hu _) (by omega)
    have e1 := get_ok hrP ((a + sqB u a : Nat) : Int) (by omega) (by omega)
    rw [hb0] at e1
    obtain ⟨Q, hQ⟩ : ∃ Q, sI P 134 16 (iI b0) = Q := ⟨_, rfl⟩
    have hSQ : Sm WSh M Q := by
      rw [← hQ]
      refine hSP.sI ?_
      unfold WSh; omega
    have hCQ := hC.sm hSQ WSh_fx
    have qk134 : mK Q 134 = 9 := hCQ.k 134 (by omega) (by omega)
    have q15 : mI Q 134 15 = iI (sqM u a : Nat) := by rw [← hQ]; simp -implicitDefEqProofs (disch := omega) only [mK_sI, mK_sJ, mK_sR, mK_cpI, mL_sI, mL_sJ, mL_sR, mL_cpI, mI_sI, mI_sJ, mI_sR, mI_cpI, mJ_sI, mJ_sJ, mJ_sR, mJ_cpI, mR_sI, mR_sJ, mR_sR, mR_cpI, eqN_T, eqN_F, if_true, if_false, and_true, true_and, and_false, false_and, or_true, true_or, or_false, false_or, not_true_eq_false, not_false_eq_true, and_self, or_self, tn_c, ne_eq, dite_true, dite_false]; exact p15
    have q16 : mI Q 134 16 = iI b0 := by rw [← hQ]; simp -implicitDefEqProofs (disch := omega) only [mK_sI, mK_sJ, mK_sR, mK_cpI, mL_sI, mL_sJ, mL_sR, mL_cpI, mI_sI, mI_sJ, mI_sR, mI_cpI, mJ_sI, mJ_sJ, mJ_sR, mJ_cpI, mR_sI, mR_sJ, mR_sR, mR_cpI, eqN_T, eqN_F, if_true, if_false, and_true, true_and, and_false, false_and, or_true, true_or, or_false, false_or, not_true_eq_false, not_false_eq_true, and_self, or_self, tn_c, ne_eq, dite_true, dite_false]
    have e2 : iI (b0 : Int) &&& iI 3 = iI ((b0 % 4 : Nat) : Int) := by rw [and_3]; refine congrArg iI ?_; omega
    have bad : Wp (fX9_readHead_L184 (some 134) (iI a) Q) fun v N => Sm WSh M N ∧ v = iI (-1) := by
      have e3 := wrong_ok hCQ (iI 14) (iI a)
      simp -implicitDefEqProofs (disch := omega) only [fX9_readHead_L184, fX9_readHead_L191, qk134, e3, bo_s, bd_s, bn_s, gI_s, gJ_s, gR_s, pI_s, pZ_s, pJ_s, pR_s, chk_s, chN_s, chN_n, aL_s, aI_c, aJ_c, aR_c, wI_c, wB_c, wS_c, wZ_c, wJ_c, wR_c, mK_sI, mK_sJ, mK_sR, mK_cpI, mL_sI, mL_sJ, mL_sR, mL_cpI, mI_sI, mI_sJ, mI_sR, mI_cpI, mJ_sI, mJ_sJ, mJ_sR, mJ_cpI, mR_sI, mR_sJ, mR_sR, mR_cpI, i2b_i2b, i2b_sb, iI_lit, iI_add, iI_sub, iI_mul, iI_neg, iI_lt, iI_le, iI_eq, iI_J, lt_T, lt_F, le_T, le_F, eq_T, eq_F, eqN_T, eqN_F, leN_T, leN_F, ltN_T, ltN_F, if_true, if_false, and_true, true_and, and_false, false_and, or_true, true_or, or_false, false_or, not_true_eq_false, not_false_eq_true, and_self, or_self, tn_c, ne_eq, dite_true, dite_false]
      refine w_ret ⟨?_, rfl⟩
      refine Sm.sI (Sm.sI hSQ ?_) ?_ <;> unfold WSh <;> omega
    clear hb hr hC hCN hCP hCQ hrP hb0
    by_cases c2 : a + sqB u a < g
    · have hbu := hbu c2
      by_cases c3 : b0 % 4 = 0
      · have ez : iI ((b0 % 4 : Nat) : Int) = iI 0 := by rw [c3]; rfl
        simp -implicitDefEqProofs (disch := omega) only [fX9_readHead_L115, fX9_readHead_L191, k134, hP, ex, pk134, p15, h15, r1, e1, hQ, qk134, q16, e2, ez, bo_s, bd_s, bn_s, gI_s, gJ_s, gR_s, pI_s, pZ_s, pJ_s, pR_s, chk_s, chN_s, chN_n, aL_s, aI_c, aJ_c, aR_c, wI_c, wB_c, wS_c, wZ_c, wJ_c, wR_c, mK_sI, mK_sJ, mK_sR, mK_cpI, mL_sI, mL_sJ, mL_sR, mL_cpI, mI_sI, mI_sJ, mI_sR, mI_cpI, mJ_sI, mJ_sJ, mJ_sR, mJ_cpI, mR_sI, mR_sJ, mR_sR, mR_cpI, i2b_i2b, i2b_sb, iI_lit, iI_add, iI_sub, iI_mul, iI_neg, iI_lt, iI_le, iI_eq, iI_J, lt_T, lt_F, le_T, le_F, eq_T, eq_F, eqN_T, eqN_F, leN_T, leN_F, ltN_T, ltN_F, if_true, if_false, and_true, true_and, and_false, false_and, or_true, true_or, or_false, false_or, not_true_eq_false, not_false_eq_true, and_self, or_self, tn_c, ne_eq, dite_true, dite_false]
        refine w_ret ⟨hSQ, fun h => absurd ⟨hag, hbg, Or.inr ⟨c1, c2, by rw [← hbu]; exact c3⟩⟩ h, fun _ => ⟨?_, q15, ?_⟩⟩
        · unfold sqN; rw [if_neg c1]; rfl
        · rw [q16]; unfold sqD; rw [if_neg c1, hbu]
      · obtain ⟨v, O, e4, hSO, hv⟩ := bad
        simp -implicitDefEqProofs (disch := omega) only [fX9_readHead_L115, k134, hP, ex, pk134, p15, h15, r1, e1, hQ, qk134, q16, e2, bo_s, bd_s, bn_s, gI_s, gJ_s, gR_s, pI_s, pZ_s, pJ_s, pR_s, chk_s, chN_s, chN_n, aL_s, aI_c, aJ_c, aR_c, wI_c, wB_c, wS_c, wZ_c, wJ_c, wR_c, mK_sI, mK_sJ, mK_sR, mK_cpI, mL_sI, mL_sJ, mL_sR, mL_cpI, mI_sI, mI_sJ, mI_sR, mI_cpI, mJ_sI, mJ_sJ, mJ_sR, mJ_cpI, mR_sI, mR_sJ, mR_sR, mR_cpI, i2b_i2b, i2b_sb, iI_lit, iI_add, iI_sub, iI_mul, iI_neg, iI_lt, iI_le, iI_eq, iI_J, lt_T, lt_F, le_T, le_F, eq_T, eq_F, eqN_T, eqN_F, leN_T, leN_F, ltN_T, ltN_F, if_true, if_false, and_true, true_and, and_false, false_and, or_true, true_or, or_false, false_or, not_true_eq_false, not_false_eq_true, and_self, or_self, tn_c, ne_eq, dite_true, dite_false]
        exact ⟨v, O, e4, hSO, fun _ => hv, fun h => by exfalso; omega⟩
    · obtain ⟨v, O, e4, hSO, hv⟩ := bad
      simp -implicitDefEqProofs (disch := omega) only [fX9_readHead_L115, k134, hP, ex, pk134, p15, h15, r1, e1, hQ, bo_s, bd_s, bn_s, gI_s, gJ_s, gR_s, pI_s, pZ_s, pJ_s, pR_s, chk_s, chN_s, chN_n, aL_s, aI_c, aJ_c, aR_c, wI_c, wB_c, wS_c, wZ_c, wJ_c, wR_c, mK_sI, mK_sJ, mK_sR, mK_cpI, mL_sI, mL_sJ, mL_sR, mL_cpI, mI_sI, mI_sJ, mI_sR, mI_cpI, mJ_sI, mJ_sJ, mJ_sR, mJ_cpI, mR_sI, mR_sJ, mR_sR, mR_cpI, i2b_i2b, i2b_sb, iI_lit, iI_add, iI_sub, iI_mul, iI_neg, iI_lt, iI_le, iI_eq, iI_J, lt_T, lt_F, le_T, le_F, eq_T, eq_F, eqN_T, eqN_F, leN_T, leN_F, ltN_T, ltN_F, if_true, if_false, and_true, true_and, and_false, false_and, or_true, true_or, or_false, false_or, not_true_eq_false, not_false_eq_true, and_self, or_self, tn_c, ne_eq, dite_true, dite_false]
      exact ⟨v, O, e4, hSO, fun _ => hv, fun h => absurd h (by omega)⟩
theorem shead32 {b0 x : Nat} (hC : CSt M) (hr : RS M r rb rn) (hb : BV M rb rn e u) (hr2 : r < 18) (hb2 : rb < 18) (hu : ∀ i, u i < 256) (hg : g ≤ e) (ha : a < 900000) (hb0 : b0 < 256) (hbu : a < g → b0 = u a) (hx : x = if b0 < 128 then 1 else if b0 < 255 then 2 else 3) :
    Wp (fX9_readHead_L32 (some 134) (some r) (iI a) (iI g) (iI b0) (iI x) M) (SQh M u a g) := by
  have g3 := hb.2.2.1
  have g4 := hb.2.2.2.1
  have k134 : mK M 134 = 9 := hC.k 134 (by omega) (by omega)
  have bad : Wp (fX9_readHead_L47 (some 134) (iI a) M) fun v N => Sm WSh M N ∧ v = iI (-1) := by
    have e3 := wrong_ok hC (iI 14) (iI a)
    simp -implicitDefEqProofs (disch := omega) only [fX9_readHead_L47, k134, e3, bo_s, bd_s, bn_s, gI_s, gJ_s, gR_s, pI_s, pZ_s, pJ_s, pR_s, chk_s, chN_s, chN_n, aL_s, aI_c, aJ_c, aR_c, wI_c, wB_c, wS_c, wZ_c, wJ_c, wR_c, mK_sI, mK_sJ, mK_sR, mK_cpI, mL_sI, mL_sJ, mL_sR, mL_cpI, mI_sI, mI_sJ, mI_sR, mI_cpI, mJ_sI, mJ_sJ, mJ_sR, mJ_cpI, mR_sI, mR_sJ, mR_sR, mR_cpI, i2b_i2b, i2b_sb, iI_lit, iI_add, iI_sub, iI_mul, iI_neg, iI_lt, iI_le, iI_eq, iI_J, lt_T, lt_F, le_T, le_F, eq_T, eq_F, eqN_T, eqN_F, leN_T, leN_F, ltN_T, ltN_F, if_true, if_false, and_true, true_and, and_false, false_and, or_true, true_or, or_false, false_or, not_true_eq_false, not_false_eq_true, and_self, or_self, tn_c, ne_eq, dite_true, dite_false]
    refine w_ret ⟨?_, rfl⟩
    refine Sm.sI (Sm.sI Sm.rf ?_) ?_ <;> unfold WSh <;> omega
  have hx3 : 1 ≤ x ∧ x ≤ 3 := by rw [hx]; split <;> (try split) <;> omega
  by_cases c1 : g ≤ a
  · obtain ⟨v, O, e4, hSO, hv⟩ := bad
    simp -implicitDefEqProofs (disch := omega) only [fX9_readHead_L32, bo_s, bd_s, bn_s, gI_s, gJ_s, gR_s, pI_s, pZ_s, pJ_s, pR_s, chk_s, chN_s, chN_n, aL_s, aI_c, aJ_c, aR_c, wI_c, wB_c, wS_c, wZ_c, wJ_c, wR_c, mK_sI, mK_sJ, mK_sR, mK_cpI, mL_sI, mL_sJ, mL_sR, mL_cpI, mI_sI, mI_sJ, mI_sR, mI_cpI, mJ_sI, mJ_sJ, mJ_sR, mJ_cpI, mR_sI, mR_sJ, mR_sR, mR_cpI, i2b_i2b, i2b_sb, iI_lit, iI_add, iI_sub, iI_mul, iI_neg, iI_lt, iI_le, iI_eq, iI_J, lt_T, lt_F, le_T, le_F, eq_T, eq_F, eqN_T, eqN_F, leN_T, leN_F, ltN_T, ltN_F, if_true, if_false, and_true, true_and, and_false, false_and, or_true, true_or, or_false, false_or, not_true_eq_false, not_false_eq_true, and_self, or_self, tn_c, ne_eq, dite_true, dite_false]
    exact ⟨v, O, e4, hSO, fun _ => hv, fun h => absurd h (by omega)⟩
  · have hbu := hbu (by omega)
    have hxB : x = sqB u a := by rw [hx, hbu]; rfl
    by_cases c2 : g < a + x
    · obtain ⟨v, O, e4, hSO, hv⟩ := bad
      simp -implicitDefEqProofs (disch := omega) only [fX9_readHead_L32, bo_s, bd_s, bn_s, gI_s, gJ_s, gR_s, pI_s, pZ_s, pJ_s, pR_s, chk_s, chN_s, chN_n, aL_s, aI_c, aJ_c, aR_c, wI_c, wB_c, wS_c, wZ_c, wJ_c, wR_c, mK_sI, mK_sJ, mK_sR, mK_cpI, mL_sI, mL_sJ, mL_sR, mL_cpI, mI_sI, mI_sJ, mI_sR, mI_cpI, mJ_sI, mJ_sJ, mJ_sR, mJ_cpI, mR_sI, mR_sJ, mR_sR, mR_cpI, i2b_i2b, i2b_sb, iI_lit, iI_add, iI_sub, iI_mul, iI_neg, iI_lt, iI_le, iI_eq, iI_J, lt_T, lt_F, le_T, le_F, eq_T, eq_F, eqN_T, eqN_F, leN_T, leN_F, ltN_T, ltN_F, if_true, if_false, and_true, true_and, and_false, false_and, or_true, true_or, or_false, false_or, not_true_eq_false, not_false_eq_true, and_self, or_self, tn_c, ne_eq, dite_true, dite_false]
      exact ⟨v, O, e4, hSO, fun _ => hv, fun h => absurd h (by omega)⟩
    · have hS1 : ∀ y : Int32, Sm WSh M (sI M 134 15 y) := fun y => by
        refine Sm.rf.sI ?_
        unfold WSh; omega
      have r1 := hr.1
      have hrP := hr.sm (hS1 (iI b0)) (by unfold WSh; omega)
      have hbP := hb.sm (hS1 (iI b0)) (by unfold WSh; omega)
      have fin : ∀ N, Sm WSh M N → mI N 134 15 = iI (sqM u a : Nat) → Wp (fX9_readHead_L115 (some 134) (some r) (iI a) (iI g) (iI x) N) (SQh M u a g) := fun N hS h => shead115 hC hr hb hr2 hb2 hu hg hS (by omega) (by omega) h hxB
      by_cases c3 : x = 2
      · have hu2 : ¬ u a < 128 ∧ u a < 255 := by
          rw [hbu] at hx
          by_cases h1 : u a < 128
          · rw [if_pos h1] at hx; omega
          · by_cases h2 : u a < 255
            · exact ⟨h1, h2⟩
            · rw [if_neg h1, if_neg h2] at hx; omega
        have e1 := get_ok hrP ((a : Int) + 1) (by omega) (by omega)
        rw [gB_u (hbP.rd (i := (a : Int) + 1) (j := a + 1) (by omega) (by omega)) (hu _) (by omega)] at e1
        have hu1 := hu (a + 1)
        have em : 256 * ((b0 : Int) - 128) + u (a + 1) = (sqM u a : Nat) := by
          unfold sqM
          rw [if_neg hu2.1, if_pos hu2.2]
          omega
        have := fin (sI (sI M 134 15 (iI b0)) 134 15 (iI (sqM u a : Nat))) (by refine (hS1 _).sI ?_; unfold WSh; omega) (by simp -implicitDefEqProofs (disch := omega) only [mK_sI, mK_sJ, mK_sR, mK_cpI, mL_sI, mL_sJ, mL_sR, mL_cpI, mI_sI, mI_sJ, mI_sR, mI_cpI, mJ_sI, mJ_sJ, mJ_sR, mJ_cpI, mR_sI, mR_sJ, mR_sR, mR_cpI, eqN_T, eqN_F, if_true, if_false, and_true, true_and, and_false, false_and, or_true, true_or, or_false, false_or, not_true_eq_false, not_false_eq_true, and_self, or_self, tn_c, ne_eq, dite_true, dite_false])
        rw [c3, show ((2 : Nat) : Int) = 2 from rfl] at this ⊢
        clear fin hb hr hrP hbP hS1 hC bad
        simp -implicitDefEqProofs (disch := omega) only [fX9_readHead_L32, k134, r1, e1, em, bo_s, bd_s, bn_s, gI_s, gJ_s, gR_s, pI_s, pZ_s, pJ_s, pR_s, chk_s, chN_s, chN_n, aL_s, aI_c, aJ_c, aR_c, wI_c, wB_c, wS_c, wZ_c, wJ_c, wR_c, mK_sI, mK_sJ, mK_sR, mK_cpI, mL_sI, mL_sJ, mL_sR, mL_cpI, mI_sI, mI_sJ, mI_sR, mI_cpI, mJ_sI, mJ_sJ, mJ_sR, mJ_cpI, mR_sI, mR_sJ, mR_sR, mR_cpI, i2b_i2b, i2b_sb, iI_lit, iI_add, iI_sub, iI_mul, iI_neg, iI_lt, iI_le, iI_eq, iI_J, lt_T, lt_F, le_T, le_F, eq_T, eq_F, eqN_T, eqN_F, leN_T, leN_F, ltN_T, ltN_F, if_true, if_false, and_true, true_and, and_false, false_and, or_true, true_or, or_false, false_or, not_true_eq_false, not_false_eq_true, and_self, or_self, tn_c, ne_eq, dite_true, dite_false]
        exact this
      · by_cases c4 : x = 3
        · have hu2 : ¬ u a < 128 ∧ ¬ u a < 255 := by
            rw [hbu] at hx
            by_cases h1 : u a < 128
            · rw [if_pos h1] at hx; omega
            · by_cases h2 : u a < 255
              · rw [if_neg h1, if_pos h2] at hx; omega
              · exact ⟨h1, h2⟩
          have e1 := number_ok hrP (by omega) (a + 1) 2 (by omega) (by omega)
          rw [numU hbP hu (by omega), show ((a + 1 : Nat) : Int) = (a : Int) + 1 by omega, show ((2 : Nat) : Int) = 2 from rfl] at e1
          have hn2 := num2 hu (a + 1)
          have em : (32512 : Int) + (num u (a + 1) 2 : Nat) = (sqM u a : Nat) := by
            unfold sqM
            rw [if_neg hu2.1, if_neg hu2.2]
            omega
          have := fin (sI (sI M 134 15 (iI b0)) 134 15 (iI (sqM u a : Nat))) (by refine (hS1 _).sI ?_; unfold WSh; omega) (by simp -implicitDefEqProofs (disch := omega) only [mK_sI, mK_sJ, mK_sR, mK_cpI, mL_sI, mL_sJ, mL_sR, mL_cpI, mI_sI, mI_sJ, mI_sR, mI_cpI, mJ_sI, mJ_sJ, mJ_sR, mJ_cpI, mR_sI, mR_sJ, mR_sR, mR_cpI, eqN_T, eqN_F, if_true, if_false, and_true, true_and, and_false, false_and, or_true, true_or, or_false, false_or, not_true_eq_false, not_false_eq_true, and_self, or_self, tn_c, ne_eq, dite_true, dite_false])
          rw [c4, show ((3 : Nat) : Int) = 3 from rfl] at this ⊢
          clear fin hb hr hrP hbP hS1 hC bad
          simp -implicitDefEqProofs (disch := omega) only [fX9_readHead_L32, k134, r1, e1, iJ_I, em, bo_s, bd_s, bn_s, gI_s, gJ_s, gR_s, pI_s, pZ_s, pJ_s, pR_s, chk_s, chN_s, chN_n, aL_s, aI_c, aJ_c, aR_c, wI_c, wB_c, wS_c, wZ_c, wJ_c, wR_c, mK_sI, mK_sJ, mK_sR, mK_cpI, mL_sI, mL_sJ, mL_sR, mL_cpI, mI_sI, mI_sJ, mI_sR, mI_cpI, mJ_sI, mJ_sJ, mJ_sR, mJ_cpI, mR_sI, mR_sJ, mR_sR, mR_cpI, i2b_i2b, i2b_sb, iI_lit, iI_add, iI_sub, iI_mul, iI_neg, iI_lt, iI_le, iI_eq, iI_J, lt_T, lt_F, le_T, le_F, eq_T, eq_F, eqN_T, eqN_F, leN_T, leN_F, ltN_T, ltN_F, if_true, if_false, and_true, true_and, and_false, false_and, or_true, true_or, or_false, false_or, not_true_eq_false, not_false_eq_true, and_self, or_self, tn_c, ne_eq, dite_true, dite_false]
          exact this
        · have em : sqM u a = b0 := by
            unfold sqM
            rw [hbu] at hx ⊢
            by_cases h1 : u a < 128
            · rw [if_pos h1]
            · rw [if_neg h1] at hx
              by_cases h2 : u a < 255
              · rw [if_pos h2] at hx; omega
              · rw [if_neg h2] at hx; omega
          have := fin (sI M 134 15 (iI b0)) (hS1 _) (by simp -implicitDefEqProofs (disch := omega) only [mK_sI, mK_sJ, mK_sR, mK_cpI, mL_sI, mL_sJ, mL_sR, mL_cpI, mI_sI, mI_sJ, mI_sR, mI_cpI, mJ_sI, mJ_sJ, mJ_sR, mJ_cpI, mR_sI, mR_sJ, mR_sR, mR_cpI, eqN_T, eqN_F, if_true, if_false, and_true, true_and, and_false, false_and, or_true, true_or, or_false, false_or, not_true_eq_false, not_false_eq_true, and_self, or_self, tn_c, ne_eq, dite_true, dite_false]; rw [em])
          clear fin hb hr hrP hbP hS1 hC bad
          simp -implicitDefEqProofs (disch := omega) only [fX9_readHead_L32, k134, bo_s, bd_s, bn_s, gI_s, gJ_s, gR_s, pI_s, pZ_s, pJ_s, pR_s, chk_s, chN_s, chN_n, aL_s, aI_c, aJ_c, aR_c, wI_c, wB_c, wS_c, wZ_c, wJ_c, wR_c, mK_sI, mK_sJ, mK_sR, mK_cpI, mL_sI, mL_sJ, mL_sR, mL_cpI, mI_sI, mI_sJ, mI_sR, mI_cpI, mJ_sI, mJ_sJ, mJ_sR, mJ_cpI, mR_sI, mR_sJ, mR_sR, mR_cpI, i2b_i2b, i2b_sb, iI_lit, iI_add, iI_sub, iI_mul, iI_neg, iI_lt, iI_le, iI_eq, iI_J, lt_T, lt_F, le_T, le_F, eq_T, eq_F, eqN_T, eqN_F, leN_T, leN_F, ltN_T, ltN_F, if_true, if_false, and_true, true_and, and_false, false_and, or_true, true_or, or_false, false_or, not_true_eq_false, not_false_eq_true, and_self, or_self, tn_c, ne_eq, dite_true, dite_false]
          exact this
theorem sreadHead_ok (hC : CSt M) (hr : RS M r rb rn) (hb : BV M rb rn e u) (hr2 : r < 18) (hb2 : rb < 18) (hu : ∀ i, u i < 256) (hg : g ≤ e) (ha : a < 900000) :
    Wp (fX9_readHead (some 134) (some r) (iI a) (iI g) M) (SQh M u a g) := by
  have g3 := hb.2.2.1
  have g4 := hb.2.2.2.1
  have r1 := hr.1
  obtain ⟨b0, hb0⟩ : ∃ b0, gB M rb rn (a : Int) = b0 := ⟨_, rfl⟩
  have hb0l : b0 < 256 := by rw [← hb0]; exact gB_lt _ _ _ _
  have hbu : a < g → b0 = u a := fun h => by
    rw [← hb0]
    exact gB_u (hb.rd (i := (a : Int)) (j := a) rfl (by omega)) (hu _) (by omega)
  have e1 := get_ok hr (a : Int) (by omega) (by omega)
  rw [hb0] at e1
  have fin := fun x hx => shead32 (x := x) hC hr hb hr2 hb2 hu hg ha hb0l hbu hx
  clear hb hr hC hb0 hbu
  by_cases c1 : b0 < 128
  · have := fin 1 (by rw [if_pos c1])
    rw [show ((1 : Nat) : Int) = 1 from rfl] at this
    simp -implicitDefEqProofs (disch := omega) only [fX9_readHead, r1, e1, bo_s, bd_s, bn_s, gI_s, gJ_s, gR_s, pI_s, pZ_s, pJ_s, pR_s, chk_s, chN_s, chN_n, aL_s, aI_c, aJ_c, aR_c, wI_c, wB_c, wS_c, wZ_c, wJ_c, wR_c, mK_sI, mK_sJ, mK_sR, mK_cpI, mL_sI, mL_sJ, mL_sR, mL_cpI, mI_sI, mI_sJ, mI_sR, mI_cpI, mJ_sI, mJ_sJ, mJ_sR, mJ_cpI, mR_sI, mR_sJ, mR_sR, mR_cpI, i2b_i2b, i2b_sb, iI_lit, iI_add, iI_sub, iI_mul, iI_neg, iI_lt, iI_le, iI_eq, iI_J, lt_T, lt_F, le_T, le_F, eq_T, eq_F, eqN_T, eqN_F, leN_T, leN_F, ltN_T, ltN_F, if_true, if_false, and_true, true_and, and_false, false_and, or_true, true_or, or_false, false_or, not_true_eq_false, not_false_eq_true, and_self, or_self, tn_c, ne_eq, dite_true, dite_false]
    exact this
  · by_cases c2 : b0 < 255
    · have := fin 2 (by rw [if_neg c1, if_pos c2])
      rw [show ((2 : Nat) : Int) = 2 from rfl] at this
      simp -implicitDefEqProofs (disch := omega) only [fX9_readHead, r1, e1, bo_s, bd_s, bn_s, gI_s, gJ_s, gR_s, pI_s, pZ_s, pJ_s, pR_s, chk_s, chN_s, chN_n, aL_s, aI_c, aJ_c, aR_c, wI_c, wB_c, wS_c, wZ_c, wJ_c, wR_c, mK_sI, mK_sJ, mK_sR, mK_cpI, mL_sI, mL_sJ, mL_sR, mL_cpI, mI_sI, mI_sJ, mI_sR, mI_cpI, mJ_sI, mJ_sJ, mJ_sR, mJ_cpI, mR_sI, mR_sJ, mR_sR, mR_cpI, i2b_i2b, i2b_sb, iI_lit, iI_add, iI_sub, iI_mul, iI_neg, iI_lt, iI_le, iI_eq, iI_J, lt_T, lt_F, le_T, le_F, eq_T, eq_F, eqN_T, eqN_F, leN_T, leN_F, ltN_T, ltN_F, if_true, if_false, and_true, true_and, and_false, false_and, or_true, true_or, or_false, false_or, not_true_eq_false, not_false_eq_true, and_self, or_self, tn_c, ne_eq, dite_true, dite_false]
      exact this
    · have := fin 3 (by rw [if_neg c1, if_neg c2])
      rw [show ((3 : Nat) : Int) = 3 from rfl] at this
      simp -implicitDefEqProofs (disch := omega) only [fX9_readHead, r1, e1, bo_s, bd_s, bn_s, gI_s, gJ_s, gR_s, pI_s, pZ_s, pJ_s, pR_s, chk_s, chN_s, chN_n, aL_s, aI_c, aJ_c, aR_c, wI_c, wB_c, wS_c, wZ_c, wJ_c, wR_c, mK_sI, mK_sJ, mK_sR, mK_cpI, mL_sI, mL_sJ, mL_sR, mL_cpI, mI_sI, mI_sJ, mI_sR, mI_cpI, mJ_sI, mJ_sJ, mJ_sR, mJ_cpI, mR_sI, mR_sJ, mR_sR, mR_cpI, i2b_i2b, i2b_sb, iI_lit, iI_add, iI_sub, iI_mul, iI_neg, iI_lt, iI_le, iI_eq, iI_J, lt_T, lt_F, le_T, le_F, eq_T, eq_F, eqN_T, eqN_F, leN_T, leN_F, ltN_T, ltN_F, if_true, if_false, and_true, true_and, and_false, false_and, or_true, true_or, or_false, false_or, not_true_eq_false, not_false_eq_true, and_self, or_self, tn_c, ne_eq, dite_true, dite_false]
      exact this
end SHEAD
