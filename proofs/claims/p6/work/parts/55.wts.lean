/-! WEIGHTS as they are told: as numbers, and the class's -/
def uN (w : Nat → Nat) (n x i : Nat) : Nat := if i = n then x else w i
def hv (u : Nat → Nat) (a i : Nat) : Nat := if i % 2 = 0 then u (a + i / 2) / 16 else u (a + i / 2) % 16
def trn (u : Nat → Nat) (F : Nat) (T : Tb) : Nat → Nat → Nat → Nat → Nat → (Nat → Nat) → Option (Nat × (Nat → Nat))
  | 0, _, _, _, _, _ => none
  | k + 1, L, a, b, n, w => if L < T.2.2.1 a then some (n + 2, uN (uN w n (T.2.1 a)) (n + 1) (T.2.1 b)) else trn u F T k (L - T.2.2.1 a) b (T.2.2.2 a + bits u (8 * F + L - T.2.2.1 a) (T.2.2.1 a)) (n + 1) (uN w n (T.2.1 a))
def inT (u : Nat → Nat) (F L : Nat) (T : Tb) : Option (Nat × (Nat → Nat)) :=
  if L < 2 * T.1 then none else trn u F T 254 (L - 2 * T.1) (bits u (8 * F + L - T.1) T.1) (bits u (8 * F + L - 2 * T.1) T.1) 0 (fun _ => 0)
def aW (w : Nat → Nat) : Nat → Bool
  | 0 => true
  | n + 1 => aW w n && decide (w n ≤ 11)
def sW (w : Nat → Nat) : Nat → Nat
  | 0 => 0
  | n + 1 => sW w n + if w n = 0 then 0 else 2 ^ (w n - 1)
def cmpW (n : Nat) (w : Nat → Nat) : Option (Nat × Nat × (Nat → Nat)) :=
  if aW w n = false then none else if sW w n = 0 then none else if 11 < Nat.log2 (sW w n) + 1 then none else
  if (2 ^ (Nat.log2 (sW w n) + 1) - sW w n) &&& (2 ^ (Nat.log2 (sW w n) + 1) - sW w n - 1) ≠ 0 then none else
  some (Nat.log2 (sW w n) + 1, n + 1, uN w n (Nat.log2 (2 ^ (Nat.log2 (sW w n) + 1) - sW w n) + 1))
theorem aW_f {w : Nat → Nat} {i : Nat} (h : 11 < w i) : ∀ {n}, i < n → aW w n = false := by
  intro n
  induction n with
  | zero => intro h; omega
  | succ n ih =>
    intro hi
    rw [aW]
    by_cases e : i = n
    · rw [← e, decide_eq_false (by omega), Bool.and_false]
    · rw [ih (by omega), Bool.false_and]
theorem aW_t {w : Nat → Nat} : ∀ {n}, aW w n = true → ∀ i, i < n → w i ≤ 11 := by
  intro n
  induction n with
  | zero => intro _ i h; omega
  | succ n ih =>
    intro h i hi
    rw [aW, Bool.and_eq_true] at h
    by_cases e : i = n
    · rw [e]; exact of_decide_eq_true h.2
    · exact ih h.1 i (by omega)
theorem sW_le {w : Nat → Nat} : ∀ {n}, aW w n = true → sW w n ≤ 1024 * n := by
  intro n
  induction n with
  | zero => intro _; exact Nat.le_refl _
  | succ n ih =>
    intro h
    rw [aW, Bool.and_eq_true] at h
    have := ih h.1
    have h2 := of_decide_eq_true h.2
    rw [sW]
    split
    · omega
    · have : 2 ^ (w n - 1) ≤ 2 ^ 10 := pow_le2 (by omega)
      omega
theorem and_nn {a b : Nat} (ha : a < 2147483648) (hb : b < 2147483648) : iI a &&& iI b = iI ((a &&& b : Nat) : Int) := by
  apply Int32.toBitVec_inj.mp
  apply BitVec.eq_of_toNat_eq
  have : a &&& b ≤ a := Nat.and_le_left
  rw [Int32.toBitVec_and, BitVec.toNat_and, iI_tn, iI_tn, iI_tn, Int.emod_eq_of_lt (by omega) (by omega), Int.emod_eq_of_lt (by omega) (by omega), Int.emod_eq_of_lt (by omega) (by omega), tn_c, tn_c, tn_c]
theorem rm_i {a b : Int} (ha : 0 ≤ a ∧ a < 2147483648) (hb : 0 < b ∧ b < 2147483648) : rm (iI a) (iI b) = some (iI (a % b)) := by
  have h1 : a / b ≤ a := Int.ediv_le_self _ ha.1
  have h2 : 0 ≤ a / b := Int.ediv_nonneg ha.1 (by omega)
  have h := dv_i ha hb
  rw [dv] at h
  rw [rm]
  split
  · rename_i q
    rw [if_pos q] at h
    cases h
  · rename_i q
    rw [if_neg q] at h
    rw [Option.some.inj h, iI_mul, iI_sub]
    refine congrArg (fun x => some (iI x)) ?_
    rw [Int.emod_def, Int.mul_comm b]
abbrev CW (M : Mem) : Prop := mK M 18 = 11 ∧ mR M 18 0 = some 19 ∧ mR M 18 3 = some 20 ∧ mR M 18 4 = some 25 ∧ mK M 19 = 15 ∧ mL M 19 = 256 ∧ TS M 20 ∧ mK M 25 = 0
theorem CW.sm {M N : Mem} {S : Nat → Nat → Prop} (h : CW M) (s : Sm S M N) (h1 : ¬ S 18 0 ∧ ¬ S 18 3 ∧ ¬ S 18 4 ∧ ¬ S 20 1 ∧ ¬ S 20 2 ∧ ¬ S 20 3) : CW N := ⟨(s.K _).trans h.1, (s.R _ _ h1.1).trans h.2.1, (s.R _ _ h1.2.1).trans h.2.2.1, (s.R _ _ h1.2.2.1).trans h.2.2.2.1, (s.K _).trans h.2.2.2.2.1, (s.L _).trans h.2.2.2.2.2.1, h.2.2.2.2.2.2.1.sm s h1.2.2.2.1 h1.2.2.2.2.1 h1.2.2.2.2.2, (s.K _).trans h.2.2.2.2.2.2.2⟩
abbrev WV (M : Mem) (n : Nat) (w : Nat → Nat) : Prop := mI M 18 1 = iI n ∧ ∀ i, i < n → mI M 19 i = iI (w i)
def WC (a j : Nat) : Prop := (a = 18 ∧ (j = 1 ∨ j = 2)) ∨ a = 19
section WEIGHTS
variable {M : Mem} {n : Nat} {w : Nat → Nat}
theorem endWith_ok (hC : CW M) (h1 : mI M 18 1 = iI n) (hn : n ≤ 255) (x : Int32) : fX11_endWith (some 18) x M = some (iI 1, sI (sI M 19 n x) 18 1 (iI ((n : Int) + 1))) := by
  obtain ⟨c1, c2, c3, c4, c5, c6, -⟩ := hC
  have e1 := minI_iI (a := (n : Int)) (b := 255) (by omega) (by omega)
  rw [show min (n : Int) 255 = n by omega] at e1
  simp -implicitDefEqProofs (disch := (first | decide | omega)) only [fX11_endWith, c1, c2, c5, c6, h1, e1, rtZ, bo_s, bd_s, bn_s, gI_s, gJ_s, gR_s, pI_s, pZ_s, pJ_s, pR_s, chk_s, chN_s, chN_n, aL_s, aI_c, aJ_c, aR_c, wI_c, wB_c, wS_c, wZ_c, wJ_c, wR_c, mK_sI, mK_sJ, mK_sR, mK_cpI, mL_sI, mL_sJ, mL_sR, mL_cpI, mI_sI, mI_sJ, mI_sR, mI_cpI, mJ_sI, mJ_sJ, mJ_sR, mJ_cpI, mR_sI, mR_sJ, mR_sR, mR_cpI, i2b_i2b, i2b_sb, iI_lit, iI_add, iI_sub, iI_mul, iI_neg, iI_lt, iI_le, iI_eq, iI_J, lt_T, lt_F, le_T, le_F, eq_T, eq_F, eqN_T, eqN_F, leN_T, leN_F, ltN_T, ltN_F, if_true, if_false, and_true, true_and, and_false, false_and, or_true, true_or, or_false, false_or, not_true_eq_false, not_false_eq_true, and_self, or_self, tn_c, ne_eq, dite_true, dite_false]
theorem endWith_v (hV : WV M n w) (x : Nat) : WV (sI (sI M 19 n (iI x)) 18 1 (iI ((n : Int) + 1))) (n + 1) (uN w n x) := by
  refine ⟨?_, fun i hi => ?_⟩
  · simp -implicitDefEqProofs (disch := (first | decide | omega)) only [mK_sI, mK_sJ, mK_sR, mK_cpI, mL_sI, mL_sJ, mL_sR, mL_cpI, mI_sI, mI_sJ, mI_sR, mI_cpI, mJ_sI, mJ_sJ, mJ_sR, mJ_cpI, mR_sI, mR_sJ, mR_sR, mR_cpI, eqN_T, eqN_F, if_true, if_false, and_true, true_and, and_false, false_and, or_true, true_or, or_false, false_or, not_true_eq_false, not_false_eq_true, and_self, or_self, tn_c, ne_eq, dite_true, dite_false]
    rfl
  · unfold uN
    by_cases e : i = n
    · subst e
      simp -implicitDefEqProofs (disch := (first | decide | omega)) only [mK_sI, mK_sJ, mK_sR, mK_cpI, mL_sI, mL_sJ, mL_sR, mL_cpI, mI_sI, mI_sJ, mI_sR, mI_cpI, mJ_sI, mJ_sJ, mJ_sR, mJ_cpI, mR_sI, mR_sJ, mR_sR, mR_cpI, eqN_T, eqN_F, if_true, if_false, and_true, true_and, and_false, false_and, or_true, true_or, or_false, false_or, not_true_eq_false, not_false_eq_true, and_self, or_self, tn_c, ne_eq, dite_true, dite_false]
    · simp -implicitDefEqProofs (disch := (first | decide | omega)) only [mK_sI, mK_sJ, mK_sR, mK_cpI, mL_sI, mL_sJ, mL_sR, mL_cpI, mI_sI, mI_sJ, mI_sR, mI_cpI, mJ_sI, mJ_sJ, mJ_sR, mJ_cpI, mR_sI, mR_sJ, mR_sR, mR_cpI, eqN_T, eqN_F, if_true, if_false, and_true, true_and, and_false, false_and, or_true, true_or, or_false, false_or, not_true_eq_false, not_false_eq_true, and_self, or_self, tn_c, ne_eq, dite_true, dite_false]
      exact hV.2 i (by omega)
theorem complete_ok (hC : CW M) (hV : WV M n w) (hn : n ≤ 255) (hw : ∀ i, i < n → w i < 256) :
    Wp (fX11_complete (some 18) M) fun v N => Sm WC M N ∧ (cmpW n w = none → v = iI 0) ∧ ∀ m k w', cmpW n w = some (m, k, w') → v = iI 1 ∧ mI N 18 2 = iI m ∧ WV N k w' := by
  have hC0 := hC
  obtain ⟨c1, c2, c3, c4, c5, c6, -⟩ := hC
  obtain ⟨v1, v2⟩ := hV
  simp -implicitDefEqProofs (disch := (first | decide | omega)) only [fX11_complete, fX11_complete_L4, bo_s, bd_s, bn_s, gI_s, gJ_s, gR_s, pI_s, pZ_s, pJ_s, pR_s, chk_s, chN_s, chN_n, aL_s, aI_c, aJ_c, aR_c, wI_c, wB_c, wS_c, wZ_c, wJ_c, wR_c, mK_sI, mK_sJ, mK_sR, mK_cpI, mL_sI, mL_sJ, mL_sR, mL_cpI, mI_sI, mI_sJ, mI_sR, mI_cpI, mJ_sI, mJ_sJ, mJ_sR, mJ_cpI, mR_sI, mR_sJ, mR_sR, mR_cpI, i2b_i2b, i2b_sb, iI_lit, iI_add, iI_sub, iI_mul, iI_neg, iI_lt, iI_le, iI_eq, iI_J, lt_T, lt_F, le_T, le_F, eq_T, eq_F, eqN_T, eqN_F, leN_T, leN_F, ltN_T, ltN_F, if_true, if_false, and_true, true_and, and_false, false_and, or_true, true_or, or_false, false_or, not_true_eq_false, not_false_eq_true, and_self, or_self, tn_c, ne_eq, dite_true, dite_false]
  refine w_lpF (fun d x O => ∃ i : Nat, i + d = n ∧ aW w i = true ∧ O = M ∧ x = (some 18, iI (sW w i), iI i)) n (by omega) ⟨0, by omega, rfl, rfl, rfl⟩ ?_
  rintro g d x O ⟨i, hd, ha, rfl, rfl⟩ ih
  have hs := sW_le ha
  by_cases c : d = 0
  · obtain rfl : i = n := by omega
    have hR : cmpW i w = if sW w i = 0 then none else if 11 < Nat.log2 (sW w i) + 1 then none else
        if (2 ^ (Nat.log2 (sW w i) + 1) - sW w i) &&& (2 ^ (Nat.log2 (sW w i) + 1) - sW w i - 1) ≠ 0 then none else
        some (Nat.log2 (sW w i) + 1, i + 1, uN w i (Nat.log2 (2 ^ (Nat.log2 (sW w i) + 1) - sW w i) + 1)) := by
      unfold cmpW
      rw [ha, if_neg (by decide)]
    have e1 := logOf_ok (M := O) (sW w i) (by omega)
    have hlu := log2_u (sW w i)
    have hls : Nat.log2 (sW w i) < 18 := by
      by_cases z : sW w i = 0
      · rw [z]; decide
      · have := log2_l z
        exact pow_lt2 (b := 18) (by omega)
    have hpl : 2 ^ (Nat.log2 (sW w i) + 1) ≤ 2 ^ 18 := pow_le2 (by omega)
    have e2 := shl_n (a := 1) (k := Nat.log2 (sW w i) + 1) (by omega)
    rw [Nat.one_mul, show ((1 : Nat) : Int) = 1 from rfl, show ((Nat.log2 (sW w i) + 1 : Nat) : Int) = (Nat.log2 (sW w i) : Int) + 1 by omega] at e2
    generalize sW w i = s at *
    generalize Nat.log2 s = L at *
    obtain ⟨P, hP⟩ : ∃ P, 2 ^ (L + 1) = P := ⟨_, rfl⟩
    rw [hP] at hlu hpl e2 hR
    obtain ⟨r, hr⟩ : ∃ r, P - s = r := ⟨_, rfl⟩
    rw [hr] at hR
    have er : (P : Int) - s = r := by omega
    have e3 := and_nn (a := r) (b := r - 1) (by omega) (by omega)
    rw [show ((r - 1 : Nat) : Int) = (r : Int) - 1 by omega] at e3
    have ho : r &&& (r - 1) ≤ r := Nat.and_le_left
    have hS1 : Sm WC O (sI O 18 2 (iI ((L : Int) + 1))) := by
      refine Sm.rf.sI ?_
      unfold WC; omega
    by_cases z1 : s = 0
    · rw [if_pos z1] at hR
      simp -implicitDefEqProofs (disch := (first | decide | omega)) only [fX11_complete_B4, fX11_complete_L98, c1, v1, e1, e2, rtZ, bo_s, bd_s, bn_s, gI_s, gJ_s, gR_s, pI_s, pZ_s, pJ_s, pR_s, chk_s, chN_s, chN_n, aL_s, aI_c, aJ_c, aR_c, wI_c, wB_c, wS_c, wZ_c, wJ_c, wR_c, mK_sI, mK_sJ, mK_sR, mK_cpI, mL_sI, mL_sJ, mL_sR, mL_cpI, mI_sI, mI_sJ, mI_sR, mI_cpI, mJ_sI, mJ_sJ, mJ_sR, mJ_cpI, mR_sI, mR_sJ, mR_sR, mR_cpI, i2b_i2b, i2b_sb, iI_lit, iI_add, iI_sub, iI_mul, iI_neg, iI_lt, iI_le, iI_eq, iI_J, lt_T, lt_F, le_T, le_F, eq_T, eq_F, eqN_T, eqN_F, leN_T, leN_F, ltN_T, ltN_F, if_true, if_false, and_true, true_and, and_false, false_and, or_true, true_or, or_false, false_or, not_true_eq_false, not_false_eq_true, and_self, or_self, tn_c, ne_eq, dite_true, dite_false]
      refine w_ret ⟨hS1, fun _ => rfl, fun m k w' h => ?_⟩
      rw [hR] at h; cases h
    · rw [if_neg z1] at hR
      by_cases z2 : 11 < L + 1
      · rw [if_pos z2] at hR
        simp -implicitDefEqProofs (disch := (first | decide | omega)) only [fX11_complete_B4, fX11_complete_L98, c1, v1, e1, e2, rtZ, bo_s, bd_s, bn_s, gI_s, gJ_s, gR_s, pI_s, pZ_s, pJ_s, pR_s, chk_s, chN_s, chN_n, aL_s, aI_c, aJ_c, aR_c, wI_c, wB_c, wS_c, wZ_c, wJ_c, wR_c, mK_sI, mK_sJ, mK_sR, mK_cpI, mL_sI, mL_sJ, mL_sR, mL_cpI, mI_sI, mI_sJ, mI_sR, mI_cpI, mJ_sI, mJ_sJ, mJ_sR, mJ_cpI, mR_sI, mR_sJ, mR_sR, mR_cpI, i2b_i2b, i2b_sb, iI_lit, iI_add, iI_sub, iI_mul, iI_neg, iI_lt, iI_le, iI_eq, iI_J, lt_T, lt_F, le_T, le_F, eq_T, eq_F, eqN_T, eqN_F, leN_T, leN_F, ltN_T, ltN_F, if_true, if_false, and_true, true_and, and_false, false_and, or_true, true_or, or_false, false_or, not_true_eq_false, not_false_eq_true, and_self, or_self, tn_c, ne_eq, dite_true, dite_false]
        refine w_ret ⟨hS1, fun _ => rfl, fun m k w' h => ?_⟩
        rw [hR] at h; cases h
      · rw [if_neg z2] at hR
        generalize r &&& (r - 1) = A at *
        by_cases z3 : A ≠ 0
        · rw [if_pos z3] at hR
          simp -implicitDefEqProofs (disch := (first | decide | omega)) only [fX11_complete_B4, fX11_complete_L98, c1, v1, e1, e2, er, e3, rtZ, bo_s, bd_s, bn_s, gI_s, gJ_s, gR_s, pI_s, pZ_s, pJ_s, pR_s, chk_s, chN_s, chN_n, aL_s, aI_c, aJ_c, aR_c, wI_c, wB_c, wS_c, wZ_c, wJ_c, wR_c, mK_sI, mK_sJ, mK_sR, mK_cpI, mL_sI, mL_sJ, mL_sR, mL_cpI, mI_sI, mI_sJ, mI_sR, mI_cpI, mJ_sI, mJ_sJ, mJ_sR, mJ_cpI, mR_sI, mR_sJ, mR_sR, mR_cpI, i2b_i2b, i2b_sb, iI_lit, iI_add, iI_sub, iI_mul, iI_neg, iI_lt, iI_le, iI_eq, iI_J, lt_T, lt_F, le_T, le_F, eq_T, eq_F, eqN_T, eqN_F, leN_T, leN_F, ltN_T, ltN_F, if_true, if_false, and_true, true_and, and_false, false_and, or_true, true_or, or_false, false_or, not_true_eq_false, not_false_eq_true, and_self, or_self, tn_c, ne_eq, dite_true, dite_false]
          refine w_ret ⟨hS1, fun _ => rfl, fun m k w' h => ?_⟩
          rw [hR] at h; cases h
        · rw [if_neg z3] at hR
          have z4 : A = 0 := by omega
          have e4 := logOf_ok (M := sI O 18 2 (iI ((L : Int) + 1))) r (by omega)
          have hC1 := hC0.sm hS1 (by unfold WC; omega)
          have q1 : mI (sI O 18 2 (iI ((L : Int) + 1))) 18 1 = iI i := by simp -implicitDefEqProofs (disch := (first | decide | omega)) only [mK_sI, mK_sJ, mK_sR, mK_cpI, mL_sI, mL_sJ, mL_sR, mL_cpI, mI_sI, mI_sJ, mI_sR, mI_cpI, mJ_sI, mJ_sJ, mJ_sR, mJ_cpI, mR_sI, mR_sJ, mR_sR, mR_cpI, eqN_T, eqN_F, if_true, if_false, and_true, true_and, and_false, false_and, or_true, true_or, or_false, false_or, not_true_eq_false, not_false_eq_true, and_self, or_self, tn_c, ne_eq, dite_true, dite_false]; exact v1
          have e5 := endWith_ok hC1 q1 hn (iI ((Nat.log2 r : Int) + 1))
          have e6 := endWith_v (M := sI O 18 2 (iI ((L : Int) + 1))) (n := i) (w := w) ⟨q1, fun j hj => by simp -implicitDefEqProofs (disch := (first | decide | omega)) only [mK_sI, mK_sJ, mK_sR, mK_cpI, mL_sI, mL_sJ, mL_sR, mL_cpI, mI_sI, mI_sJ, mI_sR, mI_cpI, mJ_sI, mJ_sJ, mJ_sR, mJ_cpI, mR_sI, mR_sJ, mR_sR, mR_cpI, eqN_T, eqN_F, if_true, if_false, and_true, true_and, and_false, false_and, or_true, true_or, or_false, false_or, not_true_eq_false, not_false_eq_true, and_self, or_self, tn_c, ne_eq, dite_true, dite_false]; exact v2 j hj⟩ (Nat.log2 r + 1)
          simp -implicitDefEqProofs (disch := (first | decide | omega)) only [fX11_complete_B4, fX11_complete_L98, c1, v1, e1, e2, er, e3, z4, e4, e5, rtZ, bo_s, bd_s, bn_s, gI_s, gJ_s, gR_s, pI_s, pZ_s, pJ_s, pR_s, chk_s, chN_s, chN_n, aL_s, aI_c, aJ_c, aR_c, wI_c, wB_c, wS_c, wZ_c, wJ_c, wR_c, mK_sI, mK_sJ, mK_sR, mK_cpI, mL_sI, mL_sJ, mL_sR, mL_cpI, mI_sI, mI_sJ, mI_sR, mI_cpI, mJ_sI, mJ_sJ, mJ_sR, mJ_cpI, mR_sI, mR_sJ, mR_sR, mR_cpI, i2b_i2b, i2b_sb, iI_lit, iI_add, iI_sub, iI_mul, iI_neg, iI_lt, iI_le, iI_eq, iI_J, lt_T, lt_F, le_T, le_F, eq_T, eq_F, eqN_T, eqN_F, leN_T, leN_F, ltN_T, ltN_F, if_true, if_false, and_true, true_and, and_false, false_and, or_true, true_or, or_false, false_or, not_true_eq_false, not_false_eq_true, and_self, or_self, tn_c, ne_eq, dite_true, dite_false]
          refine w_ret ⟨?_, fun h => (by rw [hR] at h; cases h), fun m k w' h => ?_⟩
          · refine Sm.sI (Sm.sI hS1 ?_) ?_ <;> unfold WC <;> omega
          · rw [hR] at h
            cases h
            refine ⟨rfl, ?_, e6⟩
            simp -implicitDefEqProofs (disch := (first | decide | omega)) only [mK_sI, mK_sJ, mK_sR, mK_cpI, mL_sI, mL_sJ, mL_sR, mL_cpI, mI_sI, mI_sJ, mI_sR, mI_cpI, mJ_sI, mJ_sJ, mJ_sR, mJ_cpI, mR_sI, mR_sJ, mR_sR, mR_cpI, eqN_T, eqN_F, if_true, if_false, and_true, true_and, and_false, false_and, or_true, true_or, or_false, false_or, not_true_eq_false, not_false_eq_true, and_self, or_self, tn_c, ne_eq, dite_true, dite_false]
            rfl
  · have ei := v2 i (by omega)
    have hw' := hw i (by omega)
    by_cases z : 11 < w i
    · have hR : cmpW n w = none := by
        unfold cmpW
        rw [aW_f z (by omega), if_pos rfl]
      simp -implicitDefEqProofs (disch := (first | decide | omega)) only [fX11_complete_B4, c1, c2, c5, c6, v1, ei, rtZ, bo_s, bd_s, bn_s, gI_s, gJ_s, gR_s, pI_s, pZ_s, pJ_s, pR_s, chk_s, chN_s, chN_n, aL_s, aI_c, aJ_c, aR_c, wI_c, wB_c, wS_c, wZ_c, wJ_c, wR_c, mK_sI, mK_sJ, mK_sR, mK_cpI, mL_sI, mL_sJ, mL_sR, mL_cpI, mI_sI, mI_sJ, mI_sR, mI_cpI, mJ_sI, mJ_sJ, mJ_sR, mJ_cpI, mR_sI, mR_sJ, mR_sR, mR_cpI, i2b_i2b, i2b_sb, iI_lit, iI_add, iI_sub, iI_mul, iI_neg, iI_lt, iI_le, iI_eq, iI_J, lt_T, lt_F, le_T, le_F, eq_T, eq_F, eqN_T, eqN_F, leN_T, leN_F, ltN_T, ltN_F, if_true, if_false, and_true, true_and, and_false, false_and, or_true, true_or, or_false, false_or, not_true_eq_false, not_false_eq_true, and_self, or_self, tn_c, ne_eq, dite_true, dite_false]
      refine w_ret ⟨Sm.rf, fun _ => rfl, fun m k w' h => ?_⟩
      rw [hR] at h; cases h
    · have ha' : aW w (i + 1) = true := by
        rw [aW, ha, Bool.true_and]
        exact decide_eq_true (by omega)
      by_cases z0 : w i = 0
      · rw [z0] at ei
        simp -implicitDefEqProofs (disch := (first | decide | omega)) only [fX11_complete_B4, fX11_complete_L49, c1, c2, c5, c6, v1, ei, bo_s, bd_s, bn_s, gI_s, gJ_s, gR_s, pI_s, pZ_s, pJ_s, pR_s, chk_s, chN_s, chN_n, aL_s, aI_c, aJ_c, aR_c, wI_c, wB_c, wS_c, wZ_c, wJ_c, wR_c, mK_sI, mK_sJ, mK_sR, mK_cpI, mL_sI, mL_sJ, mL_sR, mL_cpI, mI_sI, mI_sJ, mI_sR, mI_cpI, mJ_sI, mJ_sJ, mJ_sR, mJ_cpI, mR_sI, mR_sJ, mR_sR, mR_cpI, i2b_i2b, i2b_sb, iI_lit, iI_add, iI_sub, iI_mul, iI_neg, iI_lt, iI_le, iI_eq, iI_J, lt_T, lt_F, le_T, le_F, eq_T, eq_F, eqN_T, eqN_F, leN_T, leN_F, ltN_T, ltN_F, if_true, if_false, and_true, true_and, and_false, false_and, or_true, true_or, or_false, false_or, not_true_eq_false, not_false_eq_true, and_self, or_self, tn_c, ne_eq, dite_true, dite_false]
        refine ih (d - 1) _ _ (by omega) ⟨i + 1, by omega, ha', rfl, ?_⟩
        rw [sW, if_pos z0, Int.add_zero]
        rfl
      · have e2 := shl_n (a := 1) (k := w i - 1) (by omega)
        rw [Nat.one_mul, show ((1 : Nat) : Int) = 1 from rfl, show ((w i - 1 : Nat) : Int) = (w i : Int) - 1 by omega] at e2
        simp -implicitDefEqProofs (disch := (first | decide | omega)) only [fX11_complete_B4, fX11_complete_L49, c1, c2, c5, c6, v1, ei, e2, bo_s, bd_s, bn_s, gI_s, gJ_s, gR_s, pI_s, pZ_s, pJ_s, pR_s, chk_s, chN_s, chN_n, aL_s, aI_c, aJ_c, aR_c, wI_c, wB_c, wS_c, wZ_c, wJ_c, wR_c, mK_sI, mK_sJ, mK_sR, mK_cpI, mL_sI, mL_sJ, mL_sR, mL_cpI, mI_sI, mI_sJ, mI_sR, mI_cpI, mJ_sI, mJ_sJ, mJ_sR, mJ_cpI, mR_sI, mR_sJ, mR_sR, mR_cpI, i2b_i2b, i2b_sb, iI_lit, iI_add, iI_sub, iI_mul, iI_neg, iI_lt, iI_le, iI_eq, iI_J, lt_T, lt_F, le_T, le_F, eq_T, eq_F, eqN_T, eqN_F, leN_T, leN_F, ltN_T, ltN_F, if_true, if_false, and_true, true_and, and_false, false_and, or_true, true_or, or_false, false_or, not_true_eq_false, not_false_eq_true, and_self, or_self, tn_c, ne_eq, dite_true, dite_false]
        refine ih (d - 1) _ _ (by omega) ⟨i + 1, by omega, ha', rfl, ?_⟩
        rw [sW, if_neg z0]
        rfl
theorem readHalves_ok {r rb rn e a : Nat} {u : Nat → Nat} (hC : CW M) (hr : RS M r rb rn) (hb : BV M rb rn e u) (hb2 : rb ≠ 18 ∧ rb ≠ 19) (hr2 : r ≠ 18 ∧ r ≠ 19) (hu : ∀ i, u i < 256) (hn : n ≤ 255) (ha : a + (n + 1) / 2 ≤ e) :
    Wp (fX11_readHalves (some 18) (some r) (iI a) (iI n) M) fun _ N => Sm WC M N ∧ WV N n (hv u a) := by
  have g3 := hb.2.2.1
  have g4 := hb.2.2.2.1
  have e1 := minI_iI (a := (n : Int)) (b := 255) (by omega) (by omega)
  rw [show min (n : Int) 255 = n by omega] at e1
  have c1 := hC.1
  simp -implicitDefEqProofs (disch := (first | decide | omega)) only [fX11_readHalves, fX11_readHalves_L14, c1, e1, bo_s, bd_s, bn_s, gI_s, gJ_s, gR_s, pI_s, pZ_s, pJ_s, pR_s, chk_s, chN_s, chN_n, aL_s, aI_c, aJ_c, aR_c, wI_c, wB_c, wS_c, wZ_c, wJ_c, wR_c, mK_sI, mK_sJ, mK_sR, mK_cpI, mL_sI, mL_sJ, mL_sR, mL_cpI, mI_sI, mI_sJ, mI_sR, mI_cpI, mJ_sI, mJ_sJ, mJ_sR, mJ_cpI, mR_sI, mR_sJ, mR_sR, mR_cpI, i2b_i2b, i2b_sb, iI_lit, iI_add, iI_sub, iI_mul, iI_neg, iI_lt, iI_le, iI_eq, iI_J, lt_T, lt_F, le_T, le_F, eq_T, eq_F, eqN_T, eqN_F, leN_T, leN_F, ltN_T, ltN_F, if_true, if_false, and_true, true_and, and_false, false_and, or_true, true_or, or_false, false_or, not_true_eq_false, not_false_eq_true, and_self, or_self, tn_c, ne_eq, dite_true, dite_false]
  refine w_lpF (fun d x O => ∃ i : Nat, i + d = n ∧ Sm WC M O ∧ mI O 18 1 = iI n ∧ (∀ j, j < i → mI O 19 j = iI (hv u a j)) ∧ x = (some 18, some r, iI a, iI i)) n (by omega) ⟨0, by omega, ?_, ?_, fun j hj => by omega, rfl⟩ ?_
  · refine Sm.rf.sI ?_
    unfold WC; omega
  · simp -implicitDefEqProofs (disch := (first | decide | omega)) only [mK_sI, mK_sJ, mK_sR, mK_cpI, mL_sI, mL_sJ, mL_sR, mL_cpI, mI_sI, mI_sJ, mI_sR, mI_cpI, mJ_sI, mJ_sJ, mJ_sR, mJ_cpI, mR_sI, mR_sJ, mR_sR, mR_cpI, eqN_T, eqN_F, if_true, if_false, and_true, true_and, and_false, false_and, or_true, true_or, or_false, false_or, not_true_eq_false, not_false_eq_true, and_self, or_self, tn_c, ne_eq, dite_true, dite_false]
  rintro g d x O ⟨i, hd, hS, h1, hz, rfl⟩ ih
  obtain ⟨c1, c2, c3, c4, c5, c6, -⟩ := hC.sm hS (by unfold WC; omega)
  by_cases c : d = 0
  · obtain rfl : i = n := by omega
    simp -implicitDefEqProofs (disch := (first | decide | omega)) only [fX11_readHalves_B14, c1, h1, bo_s, bd_s, bn_s, gI_s, gJ_s, gR_s, pI_s, pZ_s, pJ_s, pR_s, chk_s, chN_s, chN_n, aL_s, aI_c, aJ_c, aR_c, wI_c, wB_c, wS_c, wZ_c, wJ_c, wR_c, mK_sI, mK_sJ, mK_sR, mK_cpI, mL_sI, mL_sJ, mL_sR, mL_cpI, mI_sI, mI_sJ, mI_sR, mI_cpI, mJ_sI, mJ_sJ, mJ_sR, mJ_cpI, mR_sI, mR_sJ, mR_sR, mR_cpI, i2b_i2b, i2b_sb, iI_lit, iI_add, iI_sub, iI_mul, iI_neg, iI_lt, iI_le, iI_eq, iI_J, lt_T, lt_F, le_T, le_F, eq_T, eq_F, eqN_T, eqN_F, leN_T, leN_F, ltN_T, ltN_F, if_true, if_false, and_true, true_and, and_false, false_and, or_true, true_or, or_false, false_or, not_true_eq_false, not_false_eq_true, and_self, or_self, tn_c, ne_eq, dite_true, dite_false]
    exact w_ret ⟨hS, h1, hz⟩
  · have hr' := hr.sm hS (by unfold WC; omega)
    have r1 := hr'.1
    have e2 := get_ok hr' ((a : Int) + (i : Int) / 2) (by omega) (by omega)
    rw [gB_u ((hb.sm hS (by unfold WC; omega)).rd (i := (a : Int) + (i : Int) / 2) (j := a + i / 2) (by omega) (by omega)) (hu _) (by omega)] at e2
    have hu' := hu (a + i / 2)
    have e3 := shr_n (a := u (a + i / 2)) (k := 4) (by omega) (by omega)
    have e4 := shr_n (a := u (a + i / 2)) (k := 0) (by omega) (by omega)
    rw [show ((4 : Nat) : Int) = 4 from rfl] at e3
    rw [show ((0 : Nat) : Int) = 0 from rfl] at e4
    have fin : ∀ b : Nat, b = hv u a i → Wp (g (some 18, some r, iI a, iI ((i : Int) + 1)) (sI O 19 i (iI b))) fun _ N => Sm WC M N ∧ WV N n (hv u a) := fun b hb => by
      refine ih (d - 1) _ _ (by omega) ⟨i + 1, by omega, hS.sI ?_, ?_, fun j hj => ?_, rfl⟩
      · unfold WC; omega
      · simp -implicitDefEqProofs (disch := (first | decide | omega)) only [mK_sI, mK_sJ, mK_sR, mK_cpI, mL_sI, mL_sJ, mL_sR, mL_cpI, mI_sI, mI_sJ, mI_sR, mI_cpI, mJ_sI, mJ_sJ, mJ_sR, mJ_cpI, mR_sI, mR_sJ, mR_sR, mR_cpI, eqN_T, eqN_F, if_true, if_false, and_true, true_and, and_false, false_and, or_true, true_or, or_false, false_or, not_true_eq_false, not_false_eq_true, and_self, or_self, tn_c, ne_eq, dite_true, dite_false]
        exact h1
      · by_cases ej : j = i
        · subst ej
          simp -implicitDefEqProofs (disch := (first | decide | omega)) only [mK_sI, mK_sJ, mK_sR, mK_cpI, mL_sI, mL_sJ, mL_sR, mL_cpI, mI_sI, mI_sJ, mI_sR, mI_cpI, mJ_sI, mJ_sJ, mJ_sR, mJ_cpI, mR_sI, mR_sJ, mR_sR, mR_cpI, eqN_T, eqN_F, if_true, if_false, and_true, true_and, and_false, false_and, or_true, true_or, or_false, false_or, not_true_eq_false, not_false_eq_true, and_self, or_self, tn_c, ne_eq, dite_true, dite_false]
          rw [hb]
        · simp -implicitDefEqProofs (disch := (first | decide | omega)) only [mK_sI, mK_sJ, mK_sR, mK_cpI, mL_sI, mL_sJ, mL_sR, mL_cpI, mI_sI, mI_sJ, mI_sR, mI_cpI, mJ_sI, mJ_sJ, mJ_sR, mJ_cpI, mR_sI, mR_sJ, mR_sR, mR_cpI, eqN_T, eqN_F, if_true, if_false, and_true, true_and, and_false, false_and, or_true, true_or, or_false, false_or, not_true_eq_false, not_false_eq_true, and_self, or_self, tn_c, ne_eq, dite_true, dite_false]
          exact hz j (by omega)
    by_cases c7 : (i : Int) % 2 = 0
    · have e5 : iI ((u (a + i / 2) / 2 ^ 4 : Nat) : Int) &&& iI 15 = iI ((u (a + i / 2) / 16 : Nat) : Int) := by
        rw [and_15]
        refine congrArg iI ?_
        show ((u (a + i / 2) / 16 : Nat) : Int) % 16 = _
        omega
      have := fin (u (a + i / 2) / 16) (by unfold hv; rw [if_pos (by omega)])
      simp -implicitDefEqProofs (disch := (first | decide | omega)) only [fX11_readHalves_B14, fX11_readHalves_L51, c1, c2, c5, c6, h1, dv_i, rm_i, r1, e2, e3, e5, bo_s, bd_s, bn_s, gI_s, gJ_s, gR_s, pI_s, pZ_s, pJ_s, pR_s, chk_s, chN_s, chN_n, aL_s, aI_c, aJ_c, aR_c, wI_c, wB_c, wS_c, wZ_c, wJ_c, wR_c, mK_sI, mK_sJ, mK_sR, mK_cpI, mL_sI, mL_sJ, mL_sR, mL_cpI, mI_sI, mI_sJ, mI_sR, mI_cpI, mJ_sI, mJ_sJ, mJ_sR, mJ_cpI, mR_sI, mR_sJ, mR_sR, mR_cpI, i2b_i2b, i2b_sb, iI_lit, iI_add, iI_sub, iI_mul, iI_neg, iI_lt, iI_le, iI_eq, iI_J, lt_T, lt_F, le_T, le_F, eq_T, eq_F, eqN_T, eqN_F, leN_T, leN_F, ltN_T, ltN_F, if_true, if_false, and_true, true_and, and_false, false_and, or_true, true_or, or_false, false_or, not_true_eq_false, not_false_eq_true, and_self, or_self, tn_c, ne_eq, dite_true, dite_false]
      exact this
    · have e5 : iI ((u (a + i / 2) / 2 ^ 0 : Nat) : Int) &&& iI 15 = iI ((u (a + i / 2) % 16 : Nat) : Int) := by
        rw [and_15]
        refine congrArg iI ?_
        rw [Nat.pow_zero, Nat.div_one]
        omega
      have := fin (u (a + i / 2) % 16) (by unfold hv; rw [if_neg (by omega)])
      simp -implicitDefEqProofs (disch := (first | decide | omega)) only [fX11_readHalves_B14, fX11_readHalves_L51, c1, c2, c5, c6, h1, dv_i, rm_i, r1, e2, e4, e5, bo_s, bd_s, bn_s, gI_s, gJ_s, gR_s, pI_s, pZ_s, pJ_s, pR_s, chk_s, chN_s, chN_n, aL_s, aI_c, aJ_c, aR_c, wI_c, wB_c, wS_c, wZ_c, wJ_c, wR_c, mK_sI, mK_sJ, mK_sR, mK_cpI, mL_sI, mL_sJ, mL_sR, mL_cpI, mI_sI, mI_sJ, mI_sR, mI_cpI, mJ_sI, mJ_sJ, mJ_sR, mJ_cpI, mR_sI, mR_sJ, mR_sR, mR_cpI, i2b_i2b, i2b_sb, iI_lit, iI_add, iI_sub, iI_mul, iI_neg, iI_lt, iI_le, iI_eq, iI_J, lt_T, lt_F, le_T, le_F, eq_T, eq_F, eqN_T, eqN_F, leN_T, leN_F, ltN_T, ltN_F, if_true, if_false, and_true, true_and, and_false, false_and, or_true, true_or, or_false, false_or, not_true_eq_false, not_false_eq_true, and_self, or_self, tn_c, ne_eq, dite_true, dite_false]
      exact this
end WEIGHTS
