/-! a CODE: lengths, and symbols by what begins with their words -/
def stp (k : Nat) (w : Nat → Nat) (t : Nat) : Nat := if w (t % k) = t / k + 1 then 2 ^ (t / k) else 0
def atp (k : Nat) (w : Nat → Nat) : Nat → Nat
  | 0 => 0
  | t + 1 => atp k w t + stp k w t
theorem atp_s (k : Nat) (w : Nat → Nat) (t : Nat) : atp k w t ≤ atp k w (t + 1) := by rw [atp]; omega
theorem atp_m (k : Nat) (w : Nat → Nat) {a b : Nat} (h : a ≤ b) : atp k w a ≤ atp k w b := by
  induction b with
  | zero => rw [show a = 0 by omega]; exact Nat.le_refl _
  | succ b ih =>
    by_cases e : a = b + 1
    · rw [e]; exact Nat.le_refl _
    · exact Nat.le_trans (ih (by omega)) (atp_s k w b)
def sJ2 (w : Nat → Nat) (j : Nat) : Nat → Nat
  | 0 => 0
  | n + 1 => sJ2 w j n + if w n ≠ 0 ∧ w n ≤ j then 2 ^ (w n - 1) else 0
def sE (w : Nat → Nat) (j : Nat) : Nat → Nat
  | 0 => 0
  | n + 1 => sE w j n + if w n = j + 1 then 2 ^ j else 0
theorem sJ2_s (w : Nat → Nat) (j : Nat) : ∀ n, sJ2 w (j + 1) n = sJ2 w j n + sE w j n := by
  intro n
  induction n with
  | zero => rfl
  | succ n ih =>
    rw [sJ2, sJ2, sE, ih]
    by_cases h : w n = j + 1
    · rw [if_pos (show w n ≠ 0 ∧ w n ≤ j + 1 by omega), if_neg (by omega), if_pos h, h, Nat.add_sub_cancel]
      omega
    · rw [if_neg h]
      by_cases h2 : w n ≠ 0 ∧ w n ≤ j
      · rw [if_pos (show w n ≠ 0 ∧ w n ≤ j + 1 by omega), if_pos h2]; omega
      · rw [if_neg (show ¬ (w n ≠ 0 ∧ w n ≤ j + 1) by omega), if_neg h2]; omega
theorem sJ2_W {w : Nat → Nat} {m : Nat} : ∀ {n}, (∀ i, i < n → w i ≤ m) → sJ2 w m n = sW w n := by
  intro n
  induction n with
  | zero => intro _; rfl
  | succ n ih =>
    intro h
    rw [sJ2, sW, ih fun i hi => h i (by omega)]
    have := h n (by omega)
    by_cases z : w n = 0
    · rw [if_neg (by omega), if_pos z]
    · rw [if_pos (by omega), if_neg z]
theorem dvk {k j i : Nat} (h : i < k) : (j * k + i) / k = j ∧ (j * k + i) % k = i := by
  have hk : 0 < k := by omega
  constructor
  · rw [Nat.mul_comm, Nat.mul_add_div hk, Nat.div_eq_of_lt h, Nat.add_zero]
  · rw [Nat.mul_comm, Nat.mul_add_mod, Nat.mod_eq_of_lt h]
theorem atp_ji {k : Nat} {w : Nat → Nat} : ∀ j i, i ≤ k → atp k w (j * k + i) = sJ2 w j k + sE w j i := by
  intro j
  induction j with
  | zero =>
    intro i
    have hz : ∀ n, sJ2 w 0 n = 0 := by
      intro n
      induction n with
      | zero => rfl
      | succ n ih => rw [sJ2, ih, if_neg (by omega)]
    rw [Nat.zero_mul, Nat.zero_add, hz, Nat.zero_add]
    induction i with
    | zero => intro _; rfl
    | succ i ih =>
      intro h
      rw [atp, ih (by omega), sE, stp, Nat.mod_eq_of_lt (by omega), Nat.div_eq_of_lt (by omega)]
  | succ j ihj =>
    intro i
    induction i with
    | zero =>
      intro _
      have := ihj k (Nat.le_refl _)
      rw [Nat.add_zero, Nat.add_mul, Nat.one_mul, this, sJ2_s]
      rfl
    | succ i ih =>
      intro h
      obtain ⟨e1, e2⟩ := dvk (k := k) (j := j + 1) (i := i) (by omega)
      rw [← Nat.add_assoc, atp, ih (by omega), sE, stp, e1, e2, Nat.add_assoc]
theorem atp_all {m k : Nat} {w : Nat → Nat} (h : WO m k w) : atp k w (m * k) = 2 ^ m := by
  have := atp_ji (k := k) (w := w) m 0 (by omega)
  rw [Nat.add_zero] at this
  rw [this, sE, Nat.add_zero, sJ2_W h.2.2.2.2.1, h.2.2.2.2.2]
abbrev Cd : Type := Nat × (Nat → Nat) × (Nat → Nat)
def lnW (m k : Nat) (w : Nat → Nat) (s : Nat) : Nat := if s < k ∧ w s ≠ 0 then m + 1 - w s else 0
def fdW (m k : Nat) (w : Nat → Nat) (i : Nat) : Nat := sOf (atp k w) i (m * k) % k
def cdOf (m k : Nat) (w : Nat → Nat) : Cd := (m, lnW m k w, fdW m k w)
def wdW (k : Nat) (w : Nat → Nat) (s : Nat) : Nat := atp k w ((w s - 1) * k + s) / 2 ^ (w s - 1)
abbrev CdR (C : Cd) : Prop := 1 ≤ C.1 ∧ C.1 ≤ 11 ∧ (∀ s, C.2.1 s ≤ C.1) ∧ ∀ i, i < 2 ^ C.1 → C.2.2 i < 256 ∧ 0 < C.2.1 (C.2.2 i)
theorem fd_at {m k : Nat} {w : Nat → Nat} {i t : Nat} (h1 : atp k w t ≤ i) (h2 : i < atp k w (t + 1)) (ht : t < m * k) : fdW m k w i = t % k := by
  unfold fdW
  rw [sOf_eq (atp_s k w) h1 h2 ht]
theorem cdOf_R {m k : Nat} {w : Nat → Nat} (h : WO m k w) : CdR (cdOf m k w) := by
  have ha := atp_all h
  obtain ⟨h1, h2, h3, h4, h5, h6⟩ := h
  refine ⟨h1, h2, fun s => ?_, fun i hi => ?_⟩
  · show lnW m k w s ≤ m
    unfold lnW
    split <;> omega
  · show fdW m k w i < 256 ∧ 0 < lnW m k w (fdW m k w i)
    have hi2 : i < atp k w (m * k) := by rw [ha]; exact hi
    obtain ⟨q1, q2⟩ := sOf_sp (f := atp k w) (x := i) (Nat.zero_le _) hi2
    have q3 : sOf (atp k w) i (m * k) < m * k := by
      refine sOf_lt ?_
      by_cases z : m * k = 0
      · rw [z] at hi2
        have : atp k w 0 = 0 := rfl
        omega
      · omega
    have q4 := fd_at q1 q2 q3
    generalize sOf (atp k w) i (m * k) = t at *
    have q5 : t % k < k := Nat.mod_lt _ h3
    rw [q4]
    refine ⟨by omega, ?_⟩
    rw [atp] at q2
    have q6 : stp k w t ≠ 0 := by omega
    unfold stp at q6
    have q7 : w (t % k) = t / k + 1 := by
      by_cases z : w (t % k) = t / k + 1
      · exact z
      · rw [if_neg z] at q6; exact absurd rfl q6
    have q8 := h5 (t % k) q5
    unfold lnW
    rw [if_pos ⟨q5, by rw [q7]; exact Nat.succ_ne_zero _⟩, q7]
    rw [q7] at q8
    generalize t / k = tk at q8 ⊢
    omega
abbrev CdS (M : Mem) (c : Nat) : Prop := mK M c = 1 ∧ mR M c 1 = some (c + 1) ∧ mR M c 2 = some (c + 2) ∧ mR M c 3 = some (c + 3) ∧ mK M (c + 1) = 15 ∧ mL M (c + 1) = 256 ∧ mK M (c + 2) = 15 ∧ mL M (c + 2) = 256 ∧ mK M (c + 3) = 15 ∧ mL M (c + 3) = 2048
theorem CdS.sm {M N : Mem} {c : Nat} {S : Nat → Nat → Prop} (h : CdS M c) (s : Sm S M N) (h1 : ¬ S c 1 ∧ ¬ S c 2 ∧ ¬ S c 3) : CdS N c := ⟨(s.K _).trans h.1, (s.R _ _ h1.1).trans h.2.1, (s.R _ _ h1.2.1).trans h.2.2.1, (s.R _ _ h1.2.2).trans h.2.2.2.1, (s.K _).trans h.2.2.2.2.1, (s.L _).trans h.2.2.2.2.2.1, (s.K _).trans h.2.2.2.2.2.2.1, (s.L _).trans h.2.2.2.2.2.2.2.1, (s.K _).trans h.2.2.2.2.2.2.2.2.1, (s.L _).trans h.2.2.2.2.2.2.2.2.2⟩
abbrev CdV (M : Mem) (c : Nat) (C : Cd) : Prop := mI M c 0 = iI C.1 ∧ (∀ s, s < 256 → mI M (c + 1) s = iI (C.2.1 s)) ∧ ∀ i, i < 2 ^ C.1 → mI M (c + 3) i = iI (C.2.2 i)
theorem fill_ok {M : Mem} {b n : Nat} (v : Int32) (h1 : mK M b = 15) (h2 : mL M b = n) (hn : n < 900000) : Wp (fJ7_fill_53178 (some b) v M) fun _ N => Sm (fun a _ => a = b) M N ∧ ∀ i, i < n → mI N b i = v := by
  simp -implicitDefEqProofs (disch := (first | decide | omega)) only [fJ7_fill_53178, fJ7_fill_53178_L5, h1, h2, bo_s, bd_s, bn_s, gI_s, gJ_s, gR_s, pI_s, pZ_s, pJ_s, pR_s, chk_s, chN_s, chN_n, aL_s, aI_c, aJ_c, aR_c, wI_c, wB_c, wS_c, wZ_c, wJ_c, wR_c, mK_sI, mK_sJ, mK_sR, mK_cpI, mL_sI, mL_sJ, mL_sR, mL_cpI, mI_sI, mI_sJ, mI_sR, mI_cpI, mJ_sI, mJ_sJ, mJ_sR, mJ_cpI, mR_sI, mR_sJ, mR_sR, mR_cpI, i2b_i2b, i2b_sb, iI_lit, iI_add, iI_sub, iI_mul, iI_neg, iI_lt, iI_le, iI_eq, iI_J, lt_T, lt_F, le_T, le_F, eq_T, eq_F, eqN_T, eqN_F, leN_T, leN_F, ltN_T, ltN_F, if_true, if_false, and_true, true_and, and_false, false_and, or_true, true_or, or_false, false_or, not_true_eq_false, not_false_eq_true, and_self, or_self, tn_c, ne_eq, dite_true, dite_false]
  refine w_lpF (fun d x O => ∃ i : Nat, i + d = n ∧ Sm (fun a _ => a = b) M O ∧ (∀ j, j < i → mI O b j = v) ∧ x = (some b, v, iI i, iI n)) n (by omega) ⟨0, by omega, Sm.rf, fun j hj => by omega, rfl⟩ ?_
  rintro g d x O ⟨i, hd, hS, hz, rfl⟩ ih
  have o1 := (hS.K b).trans h1
  have o2 := (hS.L b).trans h2
  by_cases c : d = 0
  · obtain rfl : i = n := by omega
    simp -implicitDefEqProofs (disch := (first | decide | omega)) only [fJ7_fill_53178_B5, bo_s, bd_s, bn_s, gI_s, gJ_s, gR_s, pI_s, pZ_s, pJ_s, pR_s, chk_s, chN_s, chN_n, aL_s, aI_c, aJ_c, aR_c, wI_c, wB_c, wS_c, wZ_c, wJ_c, wR_c, mK_sI, mK_sJ, mK_sR, mK_cpI, mL_sI, mL_sJ, mL_sR, mL_cpI, mI_sI, mI_sJ, mI_sR, mI_cpI, mJ_sI, mJ_sJ, mJ_sR, mJ_cpI, mR_sI, mR_sJ, mR_sR, mR_cpI, i2b_i2b, i2b_sb, iI_lit, iI_add, iI_sub, iI_mul, iI_neg, iI_lt, iI_le, iI_eq, iI_J, lt_T, lt_F, le_T, le_F, eq_T, eq_F, eqN_T, eqN_F, leN_T, leN_F, ltN_T, ltN_F, if_true, if_false, and_true, true_and, and_false, false_and, or_true, true_or, or_false, false_or, not_true_eq_false, not_false_eq_true, and_self, or_self, tn_c, ne_eq, dite_true, dite_false]
    exact w_ret ⟨hS, hz⟩
  · simp -implicitDefEqProofs (disch := (first | decide | omega)) only [fJ7_fill_53178_B5, o1, o2, bo_s, bd_s, bn_s, gI_s, gJ_s, gR_s, pI_s, pZ_s, pJ_s, pR_s, chk_s, chN_s, chN_n, aL_s, aI_c, aJ_c, aR_c, wI_c, wB_c, wS_c, wZ_c, wJ_c, wR_c, mK_sI, mK_sJ, mK_sR, mK_cpI, mL_sI, mL_sJ, mL_sR, mL_cpI, mI_sI, mI_sJ, mI_sR, mI_cpI, mJ_sI, mJ_sJ, mJ_sR, mJ_cpI, mR_sI, mR_sJ, mR_sR, mR_cpI, i2b_i2b, i2b_sb, iI_lit, iI_add, iI_sub, iI_mul, iI_neg, iI_lt, iI_le, iI_eq, iI_J, lt_T, lt_F, le_T, le_F, eq_T, eq_F, eqN_T, eqN_F, leN_T, leN_F, ltN_T, ltN_F, if_true, if_false, and_true, true_and, and_false, false_and, or_true, true_or, or_false, false_or, not_true_eq_false, not_false_eq_true, and_self, or_self, tn_c, ne_eq, dite_true, dite_false]
    refine ih (d - 1) _ _ (by omega) ⟨i + 1, by omega, hS.sI rfl, fun j hj => ?_, rfl⟩
    by_cases ej : j = i
    · subst ej
      simp -implicitDefEqProofs (disch := (first | decide | omega)) only [mK_sI, mK_sJ, mK_sR, mK_cpI, mL_sI, mL_sJ, mL_sR, mL_cpI, mI_sI, mI_sJ, mI_sR, mI_cpI, mJ_sI, mJ_sJ, mJ_sR, mJ_cpI, mR_sI, mR_sJ, mR_sR, mR_cpI, eqN_T, eqN_F, if_true, if_false, and_true, true_and, and_false, false_and, or_true, true_or, or_false, false_or, not_true_eq_false, not_false_eq_true, and_self, or_self, tn_c, ne_eq, dite_true, dite_false]
    · simp -implicitDefEqProofs (disch := (first | decide | omega)) only [mK_sI, mK_sJ, mK_sR, mK_cpI, mL_sI, mL_sJ, mL_sR, mL_cpI, mI_sI, mI_sJ, mI_sR, mI_cpI, mJ_sI, mJ_sJ, mJ_sR, mJ_cpI, mR_sI, mR_sJ, mR_sR, mR_cpI, eqN_T, eqN_F, if_true, if_false, and_true, true_and, and_false, false_and, or_true, true_or, or_false, false_or, not_true_eq_false, not_false_eq_true, and_self, or_self, tn_c, ne_eq, dite_true, dite_false]
      exact hz j (by omega)
def WK (c a j : Nat) : Prop := (a = c ∧ j = 0) ∨ a = c + 1 ∨ a = c + 2 ∨ a = c + 3
/-- the CODE as far as weight j + 1 and symbol i -/
abbrev CI (c m k : Nat) (w : Nat → Nat) (M O : Mem) (j i : Nat) : Prop := Sm (WK c) M O ∧ mI O c 0 = iI m ∧ (∀ s, s < 256 → mI O (c + 1) s = iI ((if s < k ∧ w s ≠ 0 ∧ (w s ≤ j ∨ (w s = j + 1 ∧ s < i)) then m + 1 - w s else 0 : Nat) : Int)) ∧ (∀ s, s < k → w s ≠ 0 → (w s ≤ j ∨ (w s = j + 1 ∧ s < i)) → mI O (c + 2) s = iI (wdW k w s : Nat)) ∧ ∀ q, q < atp k w (j * k + i) → mI O (c + 3) q = iI (fdW m k w q : Nat)
theorem cbuild_ok {M : Mem} {c m k : Nat} {w : Nat → Nat} (hW : CW M) (hc : CdS M c) (hcc : 30 ≤ c) (hm : mI M 18 2 = iI m) (hV : WV M k w) (hO : WO m k w) :
    Wp (fX1_build (some c) (some 18) M) fun _ N => Sm (WK c) M N ∧ CdV N c (cdOf m k w) ∧ ∀ s, s < k → w s ≠ 0 → mI N (c + 2) s = iI (wdW k w s : Nat) := by
  have ha := atp_all hO
  obtain ⟨o1, o2, o3, o4, o5, o6⟩ := hO
  have hp : 2 ^ m ≤ 2 ^ 11 := pow_le2 o2
  have w1 := hW.1
  have k1 := hc.1
  have k2 := hc.2.1
  have k3 := hc.2.2.2.2.1
  have k4 := hc.2.2.2.2.2.1
  have hS0 : Sm (WK c) M (sI M c 0 (iI m)) := by
    refine Sm.rf.sI ?_
    unfold WK; omega
  obtain ⟨v, N, e1, hS1, hz⟩ := fill_ok (M := sI M c 0 (iI m)) (b := c + 1) (n := 256) (iI 0) ((hS0.K _).trans k3) ((hS0.L _).trans k4) (by omega)
  simp -implicitDefEqProofs (disch := (first | decide | omega)) only [fX1_build, fX1_build_L20, w1, hm, k1, k2, e1, bo_s, bd_s, bn_s, gI_s, gJ_s, gR_s, pI_s, pZ_s, pJ_s, pR_s, chk_s, chN_s, chN_n, aL_s, aI_c, aJ_c, aR_c, wI_c, wB_c, wS_c, wZ_c, wJ_c, wR_c, mK_sI, mK_sJ, mK_sR, mK_cpI, mL_sI, mL_sJ, mL_sR, mL_cpI, mI_sI, mI_sJ, mI_sR, mI_cpI, mJ_sI, mJ_sJ, mJ_sR, mJ_cpI, mR_sI, mR_sJ, mR_sR, mR_cpI, i2b_i2b, i2b_sb, iI_lit, iI_add, iI_sub, iI_mul, iI_neg, iI_lt, iI_le, iI_eq, iI_J, lt_T, lt_F, le_T, le_F, eq_T, eq_F, eqN_T, eqN_F, leN_T, leN_F, ltN_T, ltN_F, if_true, if_false, and_true, true_and, and_false, false_and, or_true, true_or, or_false, false_or, not_true_eq_false, not_false_eq_true, and_self, or_self, tn_c, ne_eq, dite_true, dite_false]
  refine w_lpF (fun d x O => ∃ j : Nat, j + d = m ∧ CI c m k w M O j 0 ∧ x = (some c, some 18, iI (atp k w (j * k)), iI ((j : Int) + 1))) m (by omega) ⟨0, by omega, ⟨hS0.tr (hS1.weak (by unfold WK; omega)), ?_, fun s hs => ?_, fun s _ h1 h2 => by omega, fun q hq => ?_⟩, ?_⟩ ?_
  · rw [hS1.I c 0 (by omega)]
    simp -implicitDefEqProofs (disch := (first | decide | omega)) only [mK_sI, mK_sJ, mK_sR, mK_cpI, mL_sI, mL_sJ, mL_sR, mL_cpI, mI_sI, mI_sJ, mI_sR, mI_cpI, mJ_sI, mJ_sJ, mJ_sR, mJ_cpI, mR_sI, mR_sJ, mR_sR, mR_cpI, eqN_T, eqN_F, if_true, if_false, and_true, true_and, and_false, false_and, or_true, true_or, or_false, false_or, not_true_eq_false, not_false_eq_true, and_self, or_self, tn_c, ne_eq, dite_true, dite_false]
  · rw [hz s hs, if_neg (by omega)]; rfl
  · rw [Nat.zero_mul] at hq
    have : atp k w (0 + 0) = 0 := rfl
    omega
  · rw [Nat.zero_mul]; rfl
  rintro g d x O ⟨j, hd, hI, rfl⟩ ih
  have f1 := (hI.1.K c).trans k1
  have f0 := hI.2.1
  by_cases z : d = 0
  · obtain rfl : j = m := by omega
    simp -implicitDefEqProofs (disch := (first | decide | omega)) only [fX1_build_B20, f1, f0, bo_s, bd_s, bn_s, gI_s, gJ_s, gR_s, pI_s, pZ_s, pJ_s, pR_s, chk_s, chN_s, chN_n, aL_s, aI_c, aJ_c, aR_c, wI_c, wB_c, wS_c, wZ_c, wJ_c, wR_c, mK_sI, mK_sJ, mK_sR, mK_cpI, mL_sI, mL_sJ, mL_sR, mL_cpI, mI_sI, mI_sJ, mI_sR, mI_cpI, mJ_sI, mJ_sJ, mJ_sR, mJ_cpI, mR_sI, mR_sJ, mR_sR, mR_cpI, i2b_i2b, i2b_sb, iI_lit, iI_add, iI_sub, iI_mul, iI_neg, iI_lt, iI_le, iI_eq, iI_J, lt_T, lt_F, le_T, le_F, eq_T, eq_F, eqN_T, eqN_F, leN_T, leN_F, ltN_T, ltN_F, if_true, if_false, and_true, true_and, and_false, false_and, or_true, true_or, or_false, false_or, not_true_eq_false, not_false_eq_true, and_self, or_self, tn_c, ne_eq, dite_true, dite_false]
    obtain ⟨i1, i2, i3, i4, i5⟩ := hI
    refine w_ret ⟨i1, ⟨i2, fun s hs => ?_, fun q hq => ?_⟩, fun s hs h0 => i4 s hs h0 (Or.inl (o5 s hs))⟩
    · rw [i3 s hs]
      show _ = iI (lnW j k w s : Nat)
      refine congrArg (fun x : Nat => iI (x : Int)) ?_
      unfold lnW
      by_cases h : s < k ∧ w s ≠ 0
      · rw [if_pos h, if_pos ⟨h.1, h.2, Or.inl (o5 s h.1)⟩]
      · rw [if_neg h, if_neg (by omega)]
    · exact i5 q (by rw [Nat.add_zero, ha]; exact hq)
  · have hjm : j < m := by omega
    have hjk : (j + 1) * k ≤ m * k := Nat.mul_le_mul_right k hjm
    rw [Nat.add_mul, Nat.one_mul] at hjk
    have e2 := shl_n (a := 1) (k := j) (by omega)
    rw [Nat.one_mul, show ((1 : Nat) : Int) = 1 from rfl] at e2
    have e3 : (j : Int) + 1 - 1 = j := by omega
    simp -implicitDefEqProofs (disch := (first | decide | omega)) only [fX1_build_B20, fX1_build_L31, f1, f0, bo_s, bd_s, bn_s, gI_s, gJ_s, gR_s, pI_s, pZ_s, pJ_s, pR_s, chk_s, chN_s, chN_n, aL_s, aI_c, aJ_c, aR_c, wI_c, wB_c, wS_c, wZ_c, wJ_c, wR_c, mK_sI, mK_sJ, mK_sR, mK_cpI, mL_sI, mL_sJ, mL_sR, mL_cpI, mI_sI, mI_sJ, mI_sR, mI_cpI, mJ_sI, mJ_sJ, mJ_sR, mJ_cpI, mR_sI, mR_sJ, mR_sR, mR_cpI, i2b_i2b, i2b_sb, iI_lit, iI_add, iI_sub, iI_mul, iI_neg, iI_lt, iI_le, iI_eq, iI_J, lt_T, lt_F, le_T, le_F, eq_T, eq_F, eqN_T, eqN_F, leN_T, leN_F, ltN_T, ltN_F, if_true, if_false, and_true, true_and, and_false, false_and, or_true, true_or, or_false, false_or, not_true_eq_false, not_false_eq_true, and_self, or_self, tn_c, ne_eq, dite_true, dite_false]
    refine w_lpF (fun d x O => ∃ i : Nat, i + d = k ∧ CI c m k w M O j i ∧ x = (some c, some 18, iI (atp k w (j * k + i)), iI ((j : Int) + 1), iI i)) k (by omega) ⟨0, by omega, hI, rfl⟩ ?_
    rintro g2 d2 x O ⟨i, hd2, hI, rfl⟩ ih2
    have hI0 := hI
    obtain ⟨i1, i2, i3, i4, i5⟩ := hI
    have w2 := (i1.K 18).trans w1
    have w3 := (i1.I 18 1 (by unfold WK; omega)).trans hV.1
    by_cases z2 : d2 = 0
    · obtain rfl : i = k := by omega
      simp -implicitDefEqProofs (disch := (first | decide | omega)) only [fX1_build_B31, fX1_build_L127, w2, w3, bo_s, bd_s, bn_s, gI_s, gJ_s, gR_s, pI_s, pZ_s, pJ_s, pR_s, chk_s, chN_s, chN_n, aL_s, aI_c, aJ_c, aR_c, wI_c, wB_c, wS_c, wZ_c, wJ_c, wR_c, mK_sI, mK_sJ, mK_sR, mK_cpI, mL_sI, mL_sJ, mL_sR, mL_cpI, mI_sI, mI_sJ, mI_sR, mI_cpI, mJ_sI, mJ_sJ, mJ_sR, mJ_cpI, mR_sI, mR_sJ, mR_sR, mR_cpI, i2b_i2b, i2b_sb, iI_lit, iI_add, iI_sub, iI_mul, iI_neg, iI_lt, iI_le, iI_eq, iI_J, lt_T, lt_F, le_T, le_F, eq_T, eq_F, eqN_T, eqN_F, leN_T, leN_F, ltN_T, ltN_F, if_true, if_false, and_true, true_and, and_false, false_and, or_true, true_or, or_false, false_or, not_true_eq_false, not_false_eq_true, and_self, or_self, tn_c, ne_eq, dite_true, dite_false]
      refine ih (d - 1) _ _ (by omega) ⟨j + 1, by omega, ⟨i1, i2, fun s hs => ?_, fun s hs h0 h1 => i4 s hs h0 (by omega), fun q hq => i5 q (by rw [Nat.add_mul, Nat.one_mul, Nat.add_zero] at hq; exact hq)⟩, ?_⟩
      · rw [i3 s hs]
        refine congrArg (fun x : Nat => iI (x : Int)) ?_
        by_cases h : s < i ∧ w s ≠ 0 ∧ (w s ≤ j ∨ (w s = j + 1 ∧ s < i))
        · rw [if_pos h, if_pos (by omega)]
        · rw [if_neg h, if_neg (by omega)]
      · rw [Nat.add_mul, Nat.one_mul]; rfl
    · have hik : i < k := by omega
      obtain ⟨dv1, dv2⟩ := dvk (k := k) (j := j) (i := i) hik
      have w4 := (i1.R 18 0 (by unfold WK; omega)).trans hW.2.1
      have w5 := (i1.K 19).trans hW.2.2.2.2.1
      have w6 := (i1.L 19).trans hW.2.2.2.2.2.1
      have w7 := (i1.I 19 i (by unfold WK; omega)).trans (hV.2 i hik)
      have hwi := o5 i hik
      have hat := atp_m k w (show j * k + i + 1 ≤ m * k by omega)
      rw [ha] at hat
      have hst : atp k w (j * k + i + 1) = atp k w (j * k + i) + stp k w (j * k + i) := rfl
      by_cases z3 : w i = j + 1
      · have hstp : stp k w (j * k + i) = 2 ^ j := by unfold stp; rw [dv1, dv2, if_pos z3]
        rw [hstp] at hst
        obtain ⟨f1, f2, f3, f4, f5, f6, f7, f8, f9, f10⟩ := hc.sm i1 (by unfold WK; omega)
        generalize hA : atp k w (j * k + i) = A at *
        have e4 := shr_n (a := A) (k := j) (by omega) (by omega)
        have hp2 : 0 < 2 ^ j := two_pos j
        have e5 := minI_iI (a := (A : Int) + ((2 ^ j : Nat) : Int)) (b := 2048) (by omega) (by omega)
        rw [show min ((A : Int) + ((2 ^ j : Nat) : Int)) 2048 = ((A + 2 ^ j : Nat) : Int) by omega] at e5
        rw [z3, show ((j + 1 : Nat) : Int) = (j : Int) + 1 by omega] at w7
        simp -implicitDefEqProofs (disch := (first | decide | omega)) only [fX1_build_B31, fX1_build_L101, w2, w3, w4, w5, w6, w7, f1, f2, f3, f5, f6, f7, f8, i2, e3, e2, e4, e5, bo_s, bd_s, bn_s, gI_s, gJ_s, gR_s, pI_s, pZ_s, pJ_s, pR_s, chk_s, chN_s, chN_n, aL_s, aI_c, aJ_c, aR_c, wI_c, wB_c, wS_c, wZ_c, wJ_c, wR_c, mK_sI, mK_sJ, mK_sR, mK_cpI, mL_sI, mL_sJ, mL_sR, mL_cpI, mI_sI, mI_sJ, mI_sR, mI_cpI, mJ_sI, mJ_sJ, mJ_sR, mJ_cpI, mR_sI, mR_sJ, mR_sR, mR_cpI, i2b_i2b, i2b_sb, iI_lit, iI_add, iI_sub, iI_mul, iI_neg, iI_lt, iI_le, iI_eq, iI_J, lt_T, lt_F, le_T, le_F, eq_T, eq_F, eqN_T, eqN_F, leN_T, leN_F, ltN_T, ltN_F, if_true, if_false, and_true, true_and, and_false, false_and, or_true, true_or, or_false, false_or, not_true_eq_false, not_false_eq_true, and_self, or_self, tn_c, ne_eq, dite_true, dite_false]
        refine w_lpF (fun r x P => ∃ q : Nat, q + r = A + 2 ^ j ∧ A ≤ q ∧ Sm (WK c) M P ∧ mI P c 0 = iI m ∧ (∀ s, mI P (c + 1) s = mI (sI (sI O (c + 1) i (iI ((m : Int) + 1 - ((j : Int) + 1)))) (c + 2) i (iI ((A / 2 ^ j : Nat) : Int))) (c + 1) s) ∧ (∀ s, mI P (c + 2) s = mI (sI (sI O (c + 1) i (iI ((m : Int) + 1 - ((j : Int) + 1)))) (c + 2) i (iI ((A / 2 ^ j : Nat) : Int))) (c + 2) s) ∧ (∀ r, r < q → mI P (c + 3) r = iI (fdW m k w r : Nat)) ∧ x = (some c, some 18, iI q, iI ((j : Int) + 1), iI i, iI ((A + 2 ^ j : Nat) : Int))) (2 ^ j) (by omega) ⟨A, by omega, by omega, ?_, ?_, fun _ => rfl, fun _ => rfl, fun r hr => ?_, rfl⟩ ?_
        · refine Sm.sI (Sm.sI i1 ?_) ?_ <;> unfold WK <;> omega
        · simp -implicitDefEqProofs (disch := (first | decide | omega)) only [mK_sI, mK_sJ, mK_sR, mK_cpI, mL_sI, mL_sJ, mL_sR, mL_cpI, mI_sI, mI_sJ, mI_sR, mI_cpI, mJ_sI, mJ_sJ, mJ_sR, mJ_cpI, mR_sI, mR_sJ, mR_sR, mR_cpI, eqN_T, eqN_F, if_true, if_false, and_true, true_and, and_false, false_and, or_true, true_or, or_false, false_or, not_true_eq_false, not_false_eq_true, and_self, or_self, tn_c, ne_eq, dite_true, dite_false]
          exact i2
        · simp -implicitDefEqProofs (disch := (first | decide | omega)) only [mK_sI, mK_sJ, mK_sR, mK_cpI, mL_sI, mL_sJ, mL_sR, mL_cpI, mI_sI, mI_sJ, mI_sR, mI_cpI, mJ_sI, mJ_sJ, mJ_sR, mJ_cpI, mR_sI, mR_sJ, mR_sR, mR_cpI, eqN_T, eqN_F, if_true, if_false, and_true, true_and, and_false, false_and, or_true, true_or, or_false, false_or, not_true_eq_false, not_false_eq_true, and_self, or_self, tn_c, ne_eq, dite_true, dite_false]
          exact i5 r hr
        rintro g3 r x P ⟨q, hr, hqA, p1, p2, p3, p4, p5, rfl⟩ ih3
        by_cases z4 : r = 0
        · obtain rfl : q = A + 2 ^ j := by omega
          simp -implicitDefEqProofs (disch := (first | decide | omega)) only [fX1_build_B101, fX1_build_L121, bo_s, bd_s, bn_s, gI_s, gJ_s, gR_s, pI_s, pZ_s, pJ_s, pR_s, chk_s, chN_s, chN_n, aL_s, aI_c, aJ_c, aR_c, wI_c, wB_c, wS_c, wZ_c, wJ_c, wR_c, mK_sI, mK_sJ, mK_sR, mK_cpI, mL_sI, mL_sJ, mL_sR, mL_cpI, mI_sI, mI_sJ, mI_sR, mI_cpI, mJ_sI, mJ_sJ, mJ_sR, mJ_cpI, mR_sI, mR_sJ, mR_sR, mR_cpI, i2b_i2b, i2b_sb, iI_lit, iI_add, iI_sub, iI_mul, iI_neg, iI_lt, iI_le, iI_eq, iI_J, lt_T, lt_F, le_T, le_F, eq_T, eq_F, eqN_T, eqN_F, leN_T, leN_F, ltN_T, ltN_F, if_true, if_false, and_true, true_and, and_false, false_and, or_true, true_or, or_false, false_or, not_true_eq_false, not_false_eq_true, and_self, or_self, tn_c, ne_eq, dite_true, dite_false]
          refine ih2 (d2 - 1) _ _ (by omega) ⟨i + 1, by omega, ⟨p1, p2, fun s hs => ?_, fun s hs h0 h1 => ?_, fun q hq => p5 q ?_⟩, ?_⟩
          · rw [p3 s]
            by_cases es : s = i
            · subst es
              simp -implicitDefEqProofs (disch := (first | decide | omega)) only [mK_sI, mK_sJ, mK_sR, mK_cpI, mL_sI, mL_sJ, mL_sR, mL_cpI, mI_sI, mI_sJ, mI_sR, mI_cpI, mJ_sI, mJ_sJ, mJ_sR, mJ_cpI, mR_sI, mR_sJ, mR_sR, mR_cpI, eqN_T, eqN_F, if_true, if_false, and_true, true_and, and_false, false_and, or_true, true_or, or_false, false_or, not_true_eq_false, not_false_eq_true, and_self, or_self, tn_c, ne_eq, dite_true, dite_false]
              refine congrArg iI ?_
              rw [if_pos (by omega)]
              omega
            · simp -implicitDefEqProofs (disch := (first | decide | omega)) only [mK_sI, mK_sJ, mK_sR, mK_cpI, mL_sI, mL_sJ, mL_sR, mL_cpI, mI_sI, mI_sJ, mI_sR, mI_cpI, mJ_sI, mJ_sJ, mJ_sR, mJ_cpI, mR_sI, mR_sJ, mR_sR, mR_cpI, eqN_T, eqN_F, if_true, if_false, and_true, true_and, and_false, false_and, or_true, true_or, or_false, false_or, not_true_eq_false, not_false_eq_true, and_self, or_self, tn_c, ne_eq, dite_true, dite_false]
              rw [i3 s hs]
              refine congrArg (fun x : Nat => iI (x : Int)) ?_
              by_cases h : s < k ∧ w s ≠ 0 ∧ (w s ≤ j ∨ (w s = j + 1 ∧ s < i))
              · rw [if_pos h, if_pos (by omega)]
              · rw [if_neg h, if_neg (by omega)]
          · rw [p4 s]
            by_cases es : s = i
            · subst es
              simp -implicitDefEqProofs (disch := (first | decide | omega)) only [mK_sI, mK_sJ, mK_sR, mK_cpI, mL_sI, mL_sJ, mL_sR, mL_cpI, mI_sI, mI_sJ, mI_sR, mI_cpI, mJ_sI, mJ_sJ, mJ_sR, mJ_cpI, mR_sI, mR_sJ, mR_sR, mR_cpI, eqN_T, eqN_F, if_true, if_false, and_true, true_and, and_false, false_and, or_true, true_or, or_false, false_or, not_true_eq_false, not_false_eq_true, and_self, or_self, tn_c, ne_eq, dite_true, dite_false]
              unfold wdW
              rw [z3, Nat.add_sub_cancel, hA]
            · simp -implicitDefEqProofs (disch := (first | decide | omega)) only [mK_sI, mK_sJ, mK_sR, mK_cpI, mL_sI, mL_sJ, mL_sR, mL_cpI, mI_sI, mI_sJ, mI_sR, mI_cpI, mJ_sI, mJ_sJ, mJ_sR, mJ_cpI, mR_sI, mR_sJ, mR_sR, mR_cpI, eqN_T, eqN_F, if_true, if_false, and_true, true_and, and_false, false_and, or_true, true_or, or_false, false_or, not_true_eq_false, not_false_eq_true, and_self, or_self, tn_c, ne_eq, dite_true, dite_false]
              exact i4 s hs h0 (by omega)
          · rw [← Nat.add_assoc, hst] at hq
            exact hq
          · rw [← Nat.add_assoc, hst]
            rfl
        · obtain ⟨f1, f2, f3, f4, f5, f6, f7, f8, f9, f10⟩ := hc.sm p1 (by unfold WK; omega)
          simp -implicitDefEqProofs (disch := (first | decide | omega)) only [fX1_build_B101, f1, f4, f9, f10, bo_s, bd_s, bn_s, gI_s, gJ_s, gR_s, pI_s, pZ_s, pJ_s, pR_s, chk_s, chN_s, chN_n, aL_s, aI_c, aJ_c, aR_c, wI_c, wB_c, wS_c, wZ_c, wJ_c, wR_c, mK_sI, mK_sJ, mK_sR, mK_cpI, mL_sI, mL_sJ, mL_sR, mL_cpI, mI_sI, mI_sJ, mI_sR, mI_cpI, mJ_sI, mJ_sJ, mJ_sR, mJ_cpI, mR_sI, mR_sJ, mR_sR, mR_cpI, i2b_i2b, i2b_sb, iI_lit, iI_add, iI_sub, iI_mul, iI_neg, iI_lt, iI_le, iI_eq, iI_J, lt_T, lt_F, le_T, le_F, eq_T, eq_F, eqN_T, eqN_F, leN_T, leN_F, ltN_T, ltN_F, if_true, if_false, and_true, true_and, and_false, false_and, or_true, true_or, or_false, false_or, not_true_eq_false, not_false_eq_true, and_self, or_self, tn_c, ne_eq, dite_true, dite_false]
          refine ih3 (r - 1) _ _ (by omega) ⟨q + 1, by omega, by omega, ?_, ?_, fun s => ?_, fun s => ?_, fun r' hr' => ?_, rfl⟩
          · refine Sm.sI p1 ?_
            unfold WK; omega
          · simp -implicitDefEqProofs (disch := (first | decide | omega)) only [mK_sI, mK_sJ, mK_sR, mK_cpI, mL_sI, mL_sJ, mL_sR, mL_cpI, mI_sI, mI_sJ, mI_sR, mI_cpI, mJ_sI, mJ_sJ, mJ_sR, mJ_cpI, mR_sI, mR_sJ, mR_sR, mR_cpI, eqN_T, eqN_F, if_true, if_false, and_true, true_and, and_false, false_and, or_true, true_or, or_false, false_or, not_true_eq_false, not_false_eq_true, and_self, or_self, tn_c, ne_eq, dite_true, dite_false]
            exact p2
          · rw [← p3 s]
            simp -implicitDefEqProofs (disch := (first | decide | omega)) only [mK_sI, mK_sJ, mK_sR, mK_cpI, mL_sI, mL_sJ, mL_sR, mL_cpI, mI_sI, mI_sJ, mI_sR, mI_cpI, mJ_sI, mJ_sJ, mJ_sR, mJ_cpI, mR_sI, mR_sJ, mR_sR, mR_cpI, eqN_T, eqN_F, if_true, if_false, and_true, true_and, and_false, false_and, or_true, true_or, or_false, false_or, not_true_eq_false, not_false_eq_true, and_self, or_self, tn_c, ne_eq, dite_true, dite_false]
          · rw [← p4 s]
            simp -implicitDefEqProofs (disch := (first | decide | omega)) only [mK_sI, mK_sJ, mK_sR, mK_cpI, mL_sI, mL_sJ, mL_sR, mL_cpI, mI_sI, mI_sJ, mI_sR, mI_cpI, mJ_sI, mJ_sJ, mJ_sR, mJ_cpI, mR_sI, mR_sJ, mR_sR, mR_cpI, eqN_T, eqN_F, if_true, if_false, and_true, true_and, and_false, false_and, or_true, true_or, or_false, false_or, not_true_eq_false, not_false_eq_true, and_self, or_self, tn_c, ne_eq, dite_true, dite_false]
          · by_cases er : r' = q
            · subst er
              rw [fd_at (t := j * k + i) (by omega) (by omega) (by omega), dv2]
              simp -implicitDefEqProofs (disch := (first | decide | omega)) only [mK_sI, mK_sJ, mK_sR, mK_cpI, mL_sI, mL_sJ, mL_sR, mL_cpI, mI_sI, mI_sJ, mI_sR, mI_cpI, mJ_sI, mJ_sJ, mJ_sR, mJ_cpI, mR_sI, mR_sJ, mR_sR, mR_cpI, eqN_T, eqN_F, if_true, if_false, and_true, true_and, and_false, false_and, or_true, true_or, or_false, false_or, not_true_eq_false, not_false_eq_true, and_self, or_self, tn_c, ne_eq, dite_true, dite_false]
            · simp -implicitDefEqProofs (disch := (first | decide | omega)) only [mK_sI, mK_sJ, mK_sR, mK_cpI, mL_sI, mL_sJ, mL_sR, mL_cpI, mI_sI, mI_sJ, mI_sR, mI_cpI, mJ_sI, mJ_sJ, mJ_sR, mJ_cpI, mR_sI, mR_sJ, mR_sR, mR_cpI, eqN_T, eqN_F, if_true, if_false, and_true, true_and, and_false, false_and, or_true, true_or, or_false, false_or, not_true_eq_false, not_false_eq_true, and_self, or_self, tn_c, ne_eq, dite_true, dite_false]
              exact p5 r' (by omega)
      · have hstp : stp k w (j * k + i) = 0 := by unfold stp; rw [dv1, dv2, if_neg z3]
        rw [hstp] at hst
        simp -implicitDefEqProofs (disch := (first | decide | omega)) only [fX1_build_B31, fX1_build_L121, w2, w3, w4, w5, w6, w7, bo_s, bd_s, bn_s, gI_s, gJ_s, gR_s, pI_s, pZ_s, pJ_s, pR_s, chk_s, chN_s, chN_n, aL_s, aI_c, aJ_c, aR_c, wI_c, wB_c, wS_c, wZ_c, wJ_c, wR_c, mK_sI, mK_sJ, mK_sR, mK_cpI, mL_sI, mL_sJ, mL_sR, mL_cpI, mI_sI, mI_sJ, mI_sR, mI_cpI, mJ_sI, mJ_sJ, mJ_sR, mJ_cpI, mR_sI, mR_sJ, mR_sR, mR_cpI, i2b_i2b, i2b_sb, iI_lit, iI_add, iI_sub, iI_mul, iI_neg, iI_lt, iI_le, iI_eq, iI_J, lt_T, lt_F, le_T, le_F, eq_T, eq_F, eqN_T, eqN_F, leN_T, leN_F, ltN_T, ltN_F, if_true, if_false, and_true, true_and, and_false, false_and, or_true, true_or, or_false, false_or, not_true_eq_false, not_false_eq_true, and_self, or_self, tn_c, ne_eq, dite_true, dite_false]
        refine ih2 (d2 - 1) _ _ (by omega) ⟨i + 1, by omega, ⟨i1, i2, fun s hs => ?_, fun s hs h0 h1 => i4 s hs h0 (by
          by_cases es : s = i
          · subst es; omega
          · omega), fun q hq => i5 q (by rw [← Nat.add_assoc, hst] at hq; omega)⟩, ?_⟩
        · rw [i3 s hs]
          refine congrArg (fun x : Nat => iI (x : Int)) ?_
          by_cases h : s < k ∧ w s ≠ 0 ∧ (w s ≤ j ∨ (w s = j + 1 ∧ s < i))
          · rw [if_pos h, if_pos (by omega)]
          · rw [if_neg h, if_neg (by
              by_cases es : s = i
              · subst es; omega
              · omega)]
        · rw [← Nat.add_assoc, hst]
          rfl
