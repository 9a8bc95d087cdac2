/-! four STREAMS -/
def mE (E : Nat) : Nat → Nat
  | 0 => 0
  | k + 1 => mE E k + E
theorem mE_m (E : Nat) : ∀ {k n}, k ≤ n → mE E k ≤ mE E n := by
  intro k n
  induction n with
  | zero => intro h; rw [show k = 0 by omega]; exact Nat.le_refl _
  | succ n ih =>
    intro h
    by_cases e : k = n + 1
    · rw [e]; exact Nat.le_refl _
    · have := ih (by omega)
      rw [mE]; omega
theorem mE_3 (E : Nat) : mE E 3 = 3 * E := by
  show 0 + E + E + E = _
  omega
theorem mE_i (E : Nat) : ∀ k : Nat, (k : Int) * E = mE E k := by
  intro k
  induction k with
  | zero => exact Int.zero_mul _
  | succ k ih =>
    rw [mE, Int.natCast_add, Int.natCast_add, Int.add_mul, ih]
    omega
def pF (u : Nat → Nat) (a : Nat) : Nat → Nat
  | 0 => a + 6
  | k + 1 => pF u a k + num u (a + 2 * k) 2
theorem pF_m (u : Nat → Nat) (a : Nat) : ∀ {k n}, k ≤ n → pF u a k ≤ pF u a n := by
  intro k n
  induction n with
  | zero => intro h; rw [show k = 0 by omega]; exact Nat.le_refl _
  | succ n ih =>
    intro h
    by_cases e : k = n + 1
    · rw [e]; exact Nat.le_refl _
    · have := ih (by omega)
      rw [pF]; omega
def rdF (u : Nat → Nat) (a : Nat) (C : Cd) (E : Nat) : Nat → Option (Nat → Nat)
  | 0 => some (fun _ => 0)
  | k + 1 => match rdF u a C E k with
    | none => none
    | some l => match rdS u (pF u a k) (pF u a (k + 1)) C E with
      | none => none
      | some m => some (fun i => if i < mE E k then l i else m (i - mE E k))
theorem rdF_n {u : Nat → Nat} {a : Nat} {C : Cd} {E k : Nat} (h : rdF u a C E k = none) : ∀ d, rdF u a C E (k + d) = none := by
  intro d
  induction d with
  | zero => exact h
  | succ d ih => rw [← Nat.add_assoc, rdF, ih]
def rd4 (u : Nat → Nat) (a g : Nat) (C : Cd) (cnt : Nat) : Option (Nat → Nat) :=
  if g < a + 6 then none else if g < pF u a 3 ∨ cnt < 3 * ((cnt + 3) / 4) then none else
  match rdF u a C ((cnt + 3) / 4) 3 with
  | none => none
  | some l => match rdS u (pF u a 3) g C (cnt - 3 * ((cnt + 3) / 4)) with
    | none => none
    | some m => some (fun i => if i < 3 * ((cnt + 3) / 4) then l i else m (i - 3 * ((cnt + 3) / 4)))
theorem numU {M : Mem} {b n e f k : Nat} {u : Nat → Nat} (hb : BV M b n e u) (hu : ∀ i, u i < 256) (h : f + k ≤ e) : num (fun i => gB M b n i) f k = num u f k := by
  have g3 := hb.2.2.1
  refine num_congr k f fun i h1 h2 => ?_
  exact gB_u (hb.rd (i := (i : Int)) (j := i) rfl (by omega)) (hu _) (by omega)
theorem num2 {u : Nat → Nat} (hu : ∀ i, u i < 256) (f : Nat) : num u f 2 < 65536 := num_lt hu 2 f
section FOUR
variable {M : Mem} {r rb rn e cc : Nat} {u : Nat → Nat} {C : Cd}
theorem readFour_ok {a g cnt : Nat} {old : Nat → Nat} (hC : CSt M) (hr : RS M r rb rn) (hb : BV M rb rn e u) (hr2 : r < 122 ∨ 158 < r) (hb2 : rb < 122 ∨ 158 < rb) (hu : ∀ i, u i < 256) (hg : g ≤ e) (ha : a < 900000) (hl : mR M 125 1 = some cc) (hcS : CdS M cc) (hcV : CdV M cc C) (hcR : CdR C) (hcc : cc = 128 ∨ cc < 118) (hold : RV M 126 127 8000 0 old) (h9 : mI M 125 9 = iI a) (h3 : mI M 125 3 = iI g) (h12 : mI M 125 12 = iI cnt) (hn : cnt < 300000) :
    Wp (fX4_readFour (some 125) (some r) M) fun v N => Sm WSt M N ∧ (rd4 u a g C cnt = none → v = iI 0) ∧ ∀ ls, rd4 u a g C cnt = some ls → v = iI 1 ∧ RV N 126 127 8000 cnt ls := by
  have g3 := hb.2.2.1
  have g4 := hb.2.2.2.1
  have k125 : mK M 125 = 4 := hC.k 125 (by decide) (by decide)
  by_cases c1 : g < a + 6
  · have hR : rd4 u a g C cnt = none := by unfold rd4; rw [if_pos c1]
    simp -implicitDefEqProofs (disch := (first | decide | omega)) only [fX4_readFour, k125, h9, h12, h3, dv_i, rtZ, bo_s, bd_s, bn_s, gI_s, gJ_s, gR_s, pI_s, pZ_s, pJ_s, pR_s, chk_s, chN_s, chN_n, aL_s, aI_c, aJ_c, aR_c, wI_c, wB_c, wS_c, wZ_c, wJ_c, wR_c, mK_sI, mK_sJ, mK_sR, mK_cpI, mL_sI, mL_sJ, mL_sR, mL_cpI, mI_sI, mI_sJ, mI_sR, mI_cpI, mJ_sI, mJ_sJ, mJ_sR, mJ_cpI, mR_sI, mR_sJ, mR_sR, mR_cpI, i2b_i2b, i2b_sb, iI_lit, iI_add, iI_sub, iI_mul, iI_neg, iI_lt, iI_le, iI_eq, iI_J, lt_T, lt_F, le_T, le_F, eq_T, eq_F, eqN_T, eqN_F, leN_T, leN_F, ltN_T, ltN_F, if_true, if_false, and_true, true_and, and_false, false_and, or_true, true_or, or_false, false_or, not_true_eq_false, not_false_eq_true, and_self, or_self, tn_c, ne_eq, dite_true, dite_false]
    refine w_ret ⟨Sm.rf, fun _ => rfl, fun ls h => ?_⟩
    rw [hR] at h; cases h
  · obtain ⟨E, hE⟩ : ∃ E, (cnt + 3) / 4 = E := ⟨_, rfl⟩
    have hR : rd4 u a g C cnt = if g < pF u a 3 ∨ cnt < 3 * E then none else
        match rdF u a C E 3 with
        | none => none
        | some l => match rdS u (pF u a 3) g C (cnt - 3 * E) with
          | none => none
          | some m => some (fun i => if i < 3 * E then l i else m (i - 3 * E)) := by unfold rd4; rw [if_neg c1, hE]
    have eE : ((cnt : Int) + 3) / 4 = E := by omega
    have ep : (a : Int) + 6 = pF u a 0 := by show _ = ((a + 6 : Nat) : Int); omega
    have pm := pF_m u a (show 0 ≤ 3 by omega)
    have p0 : pF u a 0 = a + 6 := rfl
    simp -implicitDefEqProofs (disch := (first | decide | omega)) only [fX4_readFour, fX4_readFour_L30, k125, h9, h12, h3, dv_i, eE, ep, bo_s, bd_s, bn_s, gI_s, gJ_s, gR_s, pI_s, pZ_s, pJ_s, pR_s, chk_s, chN_s, chN_n, aL_s, aI_c, aJ_c, aR_c, wI_c, wB_c, wS_c, wZ_c, wJ_c, wR_c, mK_sI, mK_sJ, mK_sR, mK_cpI, mL_sI, mL_sJ, mL_sR, mL_cpI, mI_sI, mI_sJ, mI_sR, mI_cpI, mJ_sI, mJ_sJ, mJ_sR, mJ_cpI, mR_sI, mR_sJ, mR_sR, mR_cpI, i2b_i2b, i2b_sb, iI_lit, iI_add, iI_sub, iI_mul, iI_neg, iI_lt, iI_le, iI_eq, iI_J, lt_T, lt_F, le_T, le_F, eq_T, eq_F, eqN_T, eqN_F, leN_T, leN_F, ltN_T, ltN_F, if_true, if_false, and_true, true_and, and_false, false_and, or_true, true_or, or_false, false_or, not_true_eq_false, not_false_eq_true, and_self, or_self, tn_c, ne_eq, dite_true, dite_false]
    refine w_lpF (fun d x O => ∃ k l, k + d = 3 ∧ rdF u a C E k = some l ∧ pF u a k ≤ g ∧ Sm WSt M O ∧ RV O 126 127 8000 (mE E k) l ∧ x = (some 125, some r, iI (pF u a k : Nat), iI (E : Nat), iI (k : Nat))) 3 (by omega) ⟨0, fun _ => 0, by omega, rfl, by omega, Sm.rf, hold.ext (fun i hi _ => by omega), rfl⟩ ?_
    rintro q d x O ⟨k, l, hd, hF, hpk, hS, hV, rfl⟩ ih
    have hC' := hC.sm hS WSt_fx
    have k125 : mK O 125 = 4 := hC'.k 125 (by decide) (by decide)
    have f9 := (hS.I 125 9 (by unfold WSt; omega)).trans h9
    have f3 := (hS.I 125 3 (by unfold WSt; omega)).trans h3
    have f12 := (hS.I 125 12 (by unfold WSt; omega)).trans h12
    have hr' := hr.sm hS (by unfold WSt; omega)
    have hb' := hb.sm hS (by unfold WSt; omega)
    have hl' := (hS.R 125 1 (by unfold WSt; omega)).trans hl
    have hcS' := hcS.sm hS (by unfold WSt; omega)
    have hcV' := hcV.sm hS (by unfold WSt; omega) (by unfold WSt; omega) (by unfold WSt; omega)
    have m3 := mE_3 E
    by_cases z : d = 0
    · obtain rfl : k = 3 := by omega
      rw [m3] at hV
      by_cases z2 : cnt < 3 * E
      · rw [if_pos (Or.inr z2)] at hR
        simp -implicitDefEqProofs (disch := (first | decide | omega)) only [fX4_readFour_B30, k125, f3, f12, fX4_readStream, fX4_readStream_L18, rtZ, bo_s, bd_s, bn_s, gI_s, gJ_s, gR_s, pI_s, pZ_s, pJ_s, pR_s, chk_s, chN_s, chN_n, aL_s, aI_c, aJ_c, aR_c, wI_c, wB_c, wS_c, wZ_c, wJ_c, wR_c, mK_sI, mK_sJ, mK_sR, mK_cpI, mL_sI, mL_sJ, mL_sR, mL_cpI, mI_sI, mI_sJ, mI_sR, mI_cpI, mJ_sI, mJ_sJ, mJ_sR, mJ_cpI, mR_sI, mR_sJ, mR_sR, mR_cpI, i2b_i2b, i2b_sb, iI_lit, iI_add, iI_sub, iI_mul, iI_neg, iI_lt, iI_le, iI_eq, iI_J, lt_T, lt_F, le_T, le_F, eq_T, eq_F, eqN_T, eqN_F, leN_T, leN_F, ltN_T, ltN_F, if_true, if_false, and_true, true_and, and_false, false_and, or_true, true_or, or_false, false_or, not_true_eq_false, not_false_eq_true, and_self, or_self, tn_c, ne_eq, dite_true, dite_false]
        refine w_ret ⟨hS, fun _ => rfl, fun ls h => ?_⟩
        rw [hR] at h; cases h
      · rw [if_neg (by omega), hF] at hR
        dsimp only at hR
        obtain ⟨v, N, e1, hS2, hA, hB⟩ := readStream_ok (f := pF u a 3) (g := g) (n := cnt - 3 * E) (c := 3 * E) (old := l) hC' hr' hb' hr2 hb2 hu hg (by omega) hl' hcS' hcV' hcR hcc hV (by omega)
        rw [show ((cnt - 3 * E : Nat) : Int) = (cnt : Int) - 3 * E by omega] at e1
        cases hD : rdS u (pF u a 3) g C (cnt - 3 * E) with
        | none =>
          rw [hD] at hR
          have hv := hA hD
          subst hv
          simp -implicitDefEqProofs (disch := (first | decide | omega)) only [fX4_readFour_B30, k125, f3, f12, e1, rtZ, bo_s, bd_s, bn_s, gI_s, gJ_s, gR_s, pI_s, pZ_s, pJ_s, pR_s, chk_s, chN_s, chN_n, aL_s, aI_c, aJ_c, aR_c, wI_c, wB_c, wS_c, wZ_c, wJ_c, wR_c, mK_sI, mK_sJ, mK_sR, mK_cpI, mL_sI, mL_sJ, mL_sR, mL_cpI, mI_sI, mI_sJ, mI_sR, mI_cpI, mJ_sI, mJ_sJ, mJ_sR, mJ_cpI, mR_sI, mR_sJ, mR_sR, mR_cpI, i2b_i2b, i2b_sb, iI_lit, iI_add, iI_sub, iI_mul, iI_neg, iI_lt, iI_le, iI_eq, iI_J, lt_T, lt_F, le_T, le_F, eq_T, eq_F, eqN_T, eqN_F, leN_T, leN_F, ltN_T, ltN_F, if_true, if_false, and_true, true_and, and_false, false_and, or_true, true_or, or_false, false_or, not_true_eq_false, not_false_eq_true, and_self, or_self, tn_c, ne_eq, dite_true, dite_false]
          refine w_ret ⟨hS.tr hS2, fun _ => rfl, fun ls h => ?_⟩
          rw [hR] at h; cases h
        | some m =>
          rw [hD] at hR
          obtain ⟨hv, hV2⟩ := hB _ hD
          subst hv
          simp -implicitDefEqProofs (disch := (first | decide | omega)) only [fX4_readFour_B30, k125, f3, f12, e1, rtZ, bo_s, bd_s, bn_s, gI_s, gJ_s, gR_s, pI_s, pZ_s, pJ_s, pR_s, chk_s, chN_s, chN_n, aL_s, aI_c, aJ_c, aR_c, wI_c, wB_c, wS_c, wZ_c, wJ_c, wR_c, mK_sI, mK_sJ, mK_sR, mK_cpI, mL_sI, mL_sJ, mL_sR, mL_cpI, mI_sI, mI_sJ, mI_sR, mI_cpI, mJ_sI, mJ_sJ, mJ_sR, mJ_cpI, mR_sI, mR_sJ, mR_sR, mR_cpI, i2b_i2b, i2b_sb, iI_lit, iI_add, iI_sub, iI_mul, iI_neg, iI_lt, iI_le, iI_eq, iI_J, lt_T, lt_F, le_T, le_F, eq_T, eq_F, eqN_T, eqN_F, leN_T, leN_F, ltN_T, ltN_F, if_true, if_false, and_true, true_and, and_false, false_and, or_true, true_or, or_false, false_or, not_true_eq_false, not_false_eq_true, and_self, or_self, tn_c, ne_eq, dite_true, dite_false]
          refine w_ret ⟨hS.tr hS2, fun h => (by rw [hR] at h; cases h), fun ls h => ?_⟩
          rw [hR] at h
          cases h
          rw [show 3 * E + (cnt - 3 * E) = cnt by omega] at hV2
          exact ⟨rfl, hV2⟩
    · have r1 := hr'.1
      have e1 := number_ok hr' (by omega) (a + 2 * k) 2 (by omega) (by omega)
      rw [numU hb' hu (by omega), show ((a + 2 * k : Nat) : Int) = (a : Int) + 2 * k by omega, show ((2 : Nat) : Int) = 2 from rfl] at e1
      have hn2 := num2 hu (a + 2 * k)
      have ek : (pF u a k : Int) + (num u (a + 2 * k) 2 : Nat) = (pF u a (k + 1) : Nat) := by show _ = ((pF u a k + num u (a + 2 * k) 2 : Nat) : Int); omega
      have pk1 : pF u a (k + 1) = pF u a k + num u (a + 2 * k) 2 := rfl
      have pm2 := pF_m u a (show k + 1 ≤ 3 by omega)
      have mm := mE_m E (show k + 1 ≤ 3 by omega)
      have mk1 : mE E (k + 1) = mE E k + E := rfl
      by_cases z2 : g < pF u a (k + 1)
      · rw [if_pos (Or.inl (by omega))] at hR
        simp -implicitDefEqProofs (disch := (first | decide | omega)) only [fX4_readFour_B30, fX4_readFour_L76, k125, f9, f3, r1, e1, iJ_I, ek, rtZ, bo_s, bd_s, bn_s, gI_s, gJ_s, gR_s, pI_s, pZ_s, pJ_s, pR_s, chk_s, chN_s, chN_n, aL_s, aI_c, aJ_c, aR_c, wI_c, wB_c, wS_c, wZ_c, wJ_c, wR_c, mK_sI, mK_sJ, mK_sR, mK_cpI, mL_sI, mL_sJ, mL_sR, mL_cpI, mI_sI, mI_sJ, mI_sR, mI_cpI, mJ_sI, mJ_sJ, mJ_sR, mJ_cpI, mR_sI, mR_sJ, mR_sR, mR_cpI, i2b_i2b, i2b_sb, iI_lit, iI_add, iI_sub, iI_mul, iI_neg, iI_lt, iI_le, iI_eq, iI_J, lt_T, lt_F, le_T, le_F, eq_T, eq_F, eqN_T, eqN_F, leN_T, leN_F, ltN_T, ltN_F, if_true, if_false, and_true, true_and, and_false, false_and, or_true, true_or, or_false, false_or, not_true_eq_false, not_false_eq_true, and_self, or_self, tn_c, ne_eq, dite_true, dite_false]
        refine w_ret ⟨hS, fun _ => rfl, fun ls h => ?_⟩
        rw [hR] at h; cases h
      · obtain ⟨v, N, e2, hS2, hA, hB⟩ := readStream_ok (f := pF u a k) (g := pF u a (k + 1)) (n := E) (c := mE E k) (old := l) hC' hr' hb' hr2 hb2 hu (by omega) (by omega) hl' hcS' hcV' hcR hcc hV (by omega)
        have hF2 : rdF u a C E (k + 1) = match rdS u (pF u a k) (pF u a (k + 1)) C E with
            | none => none
            | some m => some (fun i => if i < mE E k then l i else m (i - mE E k)) := by rw [rdF, hF]
        cases hD : rdS u (pF u a k) (pF u a (k + 1)) C E with
        | none =>
          rw [hD] at hF2
          have h3n := rdF_n hF2 (3 - (k + 1))
          rw [show k + 1 + (3 - (k + 1)) = 3 by omega] at h3n
          rw [h3n] at hR
          have hv := hA hD
          subst hv
          have hRn : rd4 u a g C cnt = none := by
            rw [hR]
            split <;> rfl
          simp -implicitDefEqProofs (disch := (first | decide | omega)) only [fX4_readFour_B30, fX4_readFour_L76, k125, f9, f3, r1, e1, iJ_I, ek, e2, rtZ, bo_s, bd_s, bn_s, gI_s, gJ_s, gR_s, pI_s, pZ_s, pJ_s, pR_s, chk_s, chN_s, chN_n, aL_s, aI_c, aJ_c, aR_c, wI_c, wB_c, wS_c, wZ_c, wJ_c, wR_c, mK_sI, mK_sJ, mK_sR, mK_cpI, mL_sI, mL_sJ, mL_sR, mL_cpI, mI_sI, mI_sJ, mI_sR, mI_cpI, mJ_sI, mJ_sJ, mJ_sR, mJ_cpI, mR_sI, mR_sJ, mR_sR, mR_cpI, i2b_i2b, i2b_sb, iI_lit, iI_add, iI_sub, iI_mul, iI_neg, iI_lt, iI_le, iI_eq, iI_J, lt_T, lt_F, le_T, le_F, eq_T, eq_F, eqN_T, eqN_F, leN_T, leN_F, ltN_T, ltN_F, if_true, if_false, and_true, true_and, and_false, false_and, or_true, true_or, or_false, false_or, not_true_eq_false, not_false_eq_true, and_self, or_self, tn_c, ne_eq, dite_true, dite_false]
          refine w_ret ⟨hS.tr hS2, fun _ => rfl, fun ls h => ?_⟩
          rw [hRn] at h; cases h
        | some m =>
          rw [hD] at hF2
          obtain ⟨hv, hV2⟩ := hB _ hD
          subst hv
          simp -implicitDefEqProofs (disch := (first | decide | omega)) only [fX4_readFour_B30, fX4_readFour_L76, k125, f9, f3, r1, e1, iJ_I, ek, e2, bo_s, bd_s, bn_s, gI_s, gJ_s, gR_s, pI_s, pZ_s, pJ_s, pR_s, chk_s, chN_s, chN_n, aL_s, aI_c, aJ_c, aR_c, wI_c, wB_c, wS_c, wZ_c, wJ_c, wR_c, mK_sI, mK_sJ, mK_sR, mK_cpI, mL_sI, mL_sJ, mL_sR, mL_cpI, mI_sI, mI_sJ, mI_sR, mI_cpI, mJ_sI, mJ_sJ, mJ_sR, mJ_cpI, mR_sI, mR_sJ, mR_sR, mR_cpI, i2b_i2b, i2b_sb, iI_lit, iI_add, iI_sub, iI_mul, iI_neg, iI_lt, iI_le, iI_eq, iI_J, lt_T, lt_F, le_T, le_F, eq_T, eq_F, eqN_T, eqN_F, leN_T, leN_F, ltN_T, ltN_F, if_true, if_false, and_true, true_and, and_false, false_and, or_true, true_or, or_false, false_or, not_true_eq_false, not_false_eq_true, and_self, or_self, tn_c, ne_eq, dite_true, dite_false]
          exact ih (d - 1) _ _ (by omega) ⟨k + 1, _, by omega, hF2, by omega, hS.tr hS2, hV2, rfl⟩
end FOUR
