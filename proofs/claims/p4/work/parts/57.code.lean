/-! a CODE: lengths, and symbols by what begins with their words -/
def stp (k : Nat) (w : Nat → Nat) (t : Nat) : Nat := if w (t % k) = t / k + 1 then 2 ^ (t / k) else 0
def atp (k : Nat) (w : Nat → Nat) : Nat → Nat
  | 0 => 0
  | t + 1 => atp k w t + stp k w t
theorem atp_s (k : Nat) (w : Nat → Nat) (t : Nat) : atp k w t ≤ atp k w (t + 1) := by rw [atp]; omega
theorem atp_m (k : Nat) (w : Nat → Nat) {a b : Nat} (h : a ≤ b) : atp k w a ≤ atp k w b := by
  induction b with
  | zero => rw [show a = 0 by omega]; exact Nat.le_refl _
  | succ b ih =>
    by_cases e : a = b + 1
    · rw [e]; exact Nat.le_refl _
    · exact Nat.le_trans (ih (by omega)) (atp_s k w b)
def sJ2 (w : Nat → Nat) (j : Nat) : Nat → Nat
  | 0 => 0
  | n + 1 => sJ2 w j n + if w n ≠ 0 ∧ w n ≤ j then 2 ^ (w n - 1) else 0
def sE (w : Nat → Nat) (j : Nat) : Nat → Nat
  | 0 => 0
  | n + 1 => sE w j n + if w n = j + 1 then 2 ^ j else 0
theorem sJ2_s (w : Nat → Nat) (j : Nat) : ∀ n, sJ2 w (j + 1) n = sJ2 w j n + sE w j n := by
  intro n
  induction n with
  | zero => rfl
  | succ n ih =>
    rw [sJ2, sJ2, sE, ih]
    by_cases h : w n = j + 1
    · rw [if_pos (show w n ≠ 0 ∧ w n ≤ j + 1 by omega), if_neg (by omega), if_pos h, h, Nat.add_sub_cancel]
      omega
    · rw [if_neg h]
      by_cases h2 : w n ≠ 0 ∧ w n ≤ j
      · rw [if_pos (show w n ≠ 0 ∧ w n ≤ j + 1 by omega), if_pos h2]; omega
      · rw [if_neg (show ¬ (w n ≠ 0 ∧ w n ≤ j + 1) by omega), if_neg h2]; omega
theorem sJ2_W {w : Nat → Nat} {m : Nat} : ∀ {n}, (∀ i, i < n → w i ≤ m) → sJ2 w m n = sW w n := by
  intro n
  induction n with
  | zero => intro _; rfl
  | succ n ih =>
    intro h
    rw [sJ2, sW, ih fun i hi => h i (by omega)]
    have := h n (by omega)
    by_cases z : w n = 0
    · rw [if_neg (by omega), if_pos z]
    · rw [if_pos (by omega), if_neg z]
theorem dvk {k j i : Nat} (h : i < k) : (j * k + i) / k = j ∧ (j * k + i) % k = i := by
  have hk : 0 < k := by omega
  constructor
  · rw [Nat.mul_comm, Nat.mul_add_div hk, Nat.div_eq_of_lt h, Nat.add_zero]
  · rw [Nat.mul_comm, Nat.mul_add_mod, Nat.mod_eq_of_lt h]
theorem atp_ji {k : Nat} {w : Nat → Nat} : ∀ j i, i ≤ k → atp k w (j * k + i) = sJ2 w j k + sE w j i := by
  intro j
  induction j with
  | zero =>
    intro i
    have hz : ∀ n, sJ2 w 0 n = 0 := by
      intro n
      induction n with
      | zero => rfl
      | succ n ih => rw [sJ2, ih, if_neg (by omega)]
    rw [Nat.zero_mul, Nat.zero_add, hz, Nat.zero_add]
    induction i with
    | zero => intro _; rfl
    | succ i ih =>
      intro h
      rw [atp, ih (by omega), sE, stp, Nat.mod_eq_of_lt (by omega), Nat.div_eq_of_lt (by omega)]
  | succ j ihj =>
    intro i
    induction i with
    | zero =>
      intro _
      have := ihj k (Nat.le_refl _)
      rw [Nat.add_zero, Nat.add_mul, Nat.one_mul, this, sJ2_s]
      rfl
    | succ i ih =>
      intro h
      obtain ⟨e1, e2⟩ := dvk (k := k) (j := j + 1) (i := i) (by omega)
      rw [← Nat.add_assoc, atp, ih (by omega), sE, stp, e1, e2, Nat.add_assoc]
theorem atp_all {m k : Nat} {w : Nat → Nat} (h : WO m k w) : atp k w (m * k) = 2 ^ m := by
  have := atp_ji (k := k) (w := w) m 0 (by omega)
  rw [Nat.add_zero] at this
  rw [this, sE, Nat.add_zero, sJ2_W h.2.2.2.2.1, h.2.2.2.2.2]
abbrev Cd : Type := Nat × (Nat → Nat) × (Nat → Nat)
def lnW (m k : Nat) (w : Nat → Nat) (s : Nat) : Nat := if s < k ∧ w s ≠ 0 then m + 1 - w s else 0
def fdW (m k : Nat) (w : Nat → Nat) (i : Nat) : Nat := sOf (atp k w) i (m * k) % k
def cdOf (m k : Nat) (w : Nat → Nat) : Cd := (m, lnW m k w, fdW m k w)
def wdW (k : Nat) (w : Nat → Nat) (s : Nat) : Nat := atp k w ((w s - 1) * k + s) / 2 ^ (w s - 1)
abbrev CdR (C : Cd) : Prop := 1 ≤ C.1 ∧ C.1 ≤ 11 ∧ (∀ s, C.2.1 s ≤ C.1) ∧ ∀ i, i < 2 ^ C.1 → C.2.2 i < 256 ∧ 0 < C.2.1 (C.2.2 i)
theorem fd_at {m k : Nat} {w : Nat → Nat} {i t : Nat} (h1 : atp k w t ≤ i) (h2 : i < atp k w (t + 1)) (ht : t < m * k) : fdW m k w i = t % k := by
  unfold fdW
  rw [sOf_eq (atp_s k w) h1 h2 ht]
theorem cdOf_R {m k : Nat} {w : Nat → Nat} (h : WO m k w) : CdR (cdOf m k w) := by
  have ha := atp_all h
  obtain ⟨h1, h2, h3, h4, h5, h6⟩ := h
  refine ⟨h1, h2, fun s => ?_, fun i hi => ?_⟩
  · show lnW m k w s ≤ m
    unfold lnW
    split <;> omega
  · show fdW m k w i < 256 ∧ 0 < lnW m k w (fdW m k w i)
    have hi2 : i < atp k w (m * k) := by rw [ha]; exact hi
    obtain ⟨q1, q2⟩ := sOf_sp (f := atp k w) (x := i) (Nat.zero_le _) hi2
    have q3 : sOf (atp k w) i (m * k) < m * k := by
      refine sOf_lt ?_
      by_cases z : m * k = 0
      · rw [z] at hi2
        have : atp k w 0 = 0 := rfl
        omega
      · omega
    have q4 := fd_at q1 q2 q3
    generalize sOf (atp k w) i (m * k) = t at *
    have q5 : t % k < k := Nat.mod_lt _ h3
    rw [q4]
    refine ⟨by omega, ?_⟩
    rw [atp] at q2
    have q6 : stp k w t ≠ 0 := by omega
    unfold stp at q6
    have q7 : w (t % k) = t / k + 1 := by
      by_cases z : w (t % k) = t / k + 1
      · exact z
      · rw [if_neg z] at q6; omega
    have q8 := h5 (t % k) q5
    unfold lnW
    rw [if_pos ⟨q5, by omega⟩]
    omega
abbrev CdS (M : Mem) (c : Nat) : Prop := mK M c = 1 ∧ mR M c 1 = some (c + 1) ∧ mR M c 2 = some (c + 2) ∧ mR M c 3 = some (c + 3) ∧ mK M (c + 1) = 15 ∧ mL M (c + 1) = 256 ∧ mK M (c + 2) = 15 ∧ mL M (c + 2) = 256 ∧ mK M (c + 3) = 15 ∧ mL M (c + 3) = 2048
theorem CdS.sm {M N : Mem} {c : Nat} {S : Nat → Nat → Prop} (h : CdS M c) (s : Sm S M N) (h1 : ¬ S c 1 ∧ ¬ S c 2 ∧ ¬ S c 3) : CdS N c := ⟨(s.K _).trans h.1, (s.R _ _ h1.1).trans h.2.1, (s.R _ _ h1.2.1).trans h.2.2.1, (s.R _ _ h1.2.2).trans h.2.2.2.1, (s.K _).trans h.2.2.2.2.1, (s.L _).trans h.2.2.2.2.2.1, (s.K _).trans h.2.2.2.2.2.2.1, (s.L _).trans h.2.2.2.2.2.2.2.1, (s.K _).trans h.2.2.2.2.2.2.2.2.1, (s.L _).trans h.2.2.2.2.2.2.2.2.2⟩
abbrev CdV (M : Mem) (c : Nat) (C : Cd) : Prop := mI M c 0 = iI C.1 ∧ (∀ s, s < 256 → mI M (c + 1) s = iI (C.2.1 s)) ∧ ∀ i, i < 2 ^ C.1 → mI M (c + 3) i = iI (C.2.2 i)
theorem fill_ok {M : Mem} {b n : Nat} (v : Int32) (h1 : mK M b = 15) (h2 : mL M b = n) (hn : n < 900000) : Wp (fJ7_fill_53178 (some b) v M) fun _ N => Sm (fun a _ => a = b) M N ∧ ∀ i, i < n → mI N b i = v := by
  simp -implicitDefEqProofs (disch := omega) only [fJ7_fill_53178, fJ7_fill_53178_L5, h1, h2, bo_s, bd_s, bn_s, gI_s, gJ_s, gR_s, pI_s, pZ_s, pJ_s, pR_s, chk_s, chN_s, chN_n, aL_s, aI_c, aJ_c, aR_c, wI_c, wB_c, wS_c, wZ_c, wJ_c, wR_c, mK_sI, mK_sJ, mK_sR, mK_cpI, mL_sI, mL_sJ, mL_sR, mL_cpI, mI_sI, mI_sJ, mI_sR, mI_cpI, mJ_sI, mJ_sJ, mJ_sR, mJ_cpI, mR_sI, mR_sJ, mR_sR, mR_cpI, i2b_i2b, i2b_sb, iI_lit, iI_add, iI_sub, iI_mul, iI_neg, iI_lt, iI_le, iI_eq, iI_J, lt_T, lt_F, le_T, le_F, eq_T, eq_F, eqN_T, eqN_F, leN_T, leN_F, ltN_T, ltN_F, if_true, if_false, and_true, true_and, and_false, false_and, or_true, true_or, or_false, false_or, not_true_eq_false, not_false_eq_true, and_self, or_self, tn_c, ne_eq, dite_true, dite_false]
  refine w_lpF (fun d x O => ∃ i : Nat, i + d = n ∧ Sm (fun a _ => a = b) M O ∧ (∀ j, j < i → mI O b j = v) ∧ x = (some b, v, iI i, iI n)) n (by omega) ⟨0, by omega, Sm.rf, fun j hj => by omega, rfl⟩ ?_
  rintro g d x O ⟨i, hd, hS, hz, rfl⟩ ih
  have o1 := (hS.K b).trans h1
  have o2 := (hS.L b).trans h2
  by_cases c : d = 0
  · obtain rfl : i = n := by omega
    simp -implicitDefEqProofs (disch := omega) only [fJ7_fill_53178_B5, bo_s, bd_s, bn_s, gI_s, gJ_s, gR_s, pI_s, pZ_s, pJ_s, pR_s, chk_s, chN_s, chN_n, aL_s, aI_c, aJ_c, aR_c, wI_c, wB_c, wS_c, wZ_c, wJ_c, wR_c, mK_sI, mK_sJ, mK_sR, mK_cpI, mL_sI, mL_sJ, mL_sR, mL_cpI, mI_sI, mI_sJ, mI_sR, mI_cpI, mJ_sI, mJ_sJ, mJ_sR, mJ_cpI, mR_sI, mR_sJ, mR_sR, mR_cpI, i2b_i2b, i2b_sb, iI_lit, iI_add, iI_sub, iI_mul, iI_neg, iI_lt, iI_le, iI_eq, iI_J, lt_T, lt_F, le_T, le_F, eq_T, eq_F, eqN_T, eqN_F, leN_T, leN_F, ltN_T, ltN_F, if_true, if_false, and_true, true_and, and_false, false_and, or_true, true_or, or_false, false_or, not_true_eq_false, not_false_eq_true, and_self, or_self, tn_c, ne_eq, dite_true, dite_false]
    exact w_ret ⟨hS, hz⟩
  · simp -implicitDefEqProofs (disch := omega) only [fJ7_fill_53178_B5, o1, o2, bo_s, bd_s, bn_s, gI_s, gJ_s, gR_s, pI_s, pZ_s, pJ_s, pR_s, chk_s, chN_s, chN_n, aL_s, aI_c, aJ_c, aR_c, wI_c, wB_c, wS_c, wZ_c, wJ_c, wR_c, mK_sI, mK_sJ, mK_sR, mK_cpI, mL_sI, mL_sJ, mL_sR, mL_cpI, mI_sI, mI_sJ, mI_sR, mI_cpI, mJ_sI, mJ_sJ, mJ_sR, mJ_cpI, mR_sI, mR_sJ, mR_sR, mR_cpI, i2b_i2b, i2b_sb, iI_lit, iI_add, iI_sub, iI_mul, iI_neg, iI_lt, iI_le, iI_eq, iI_J, lt_T, lt_F, le_T, le_F, eq_T, eq_F, eqN_T, eqN_F, leN_T, leN_F, ltN_T, ltN_F, if_true, if_false, and_true, true_and, and_false, false_and, or_true, true_or, or_false, false_or, not_true_eq_false, not_false_eq_true, and_self, or_self, tn_c, ne_eq, dite_true, dite_false]
    refine ih (d - 1) _ _ (by omega) ⟨i + 1, by omega, hS.sI rfl, fun j hj => ?_, rfl⟩
    by_cases ej : j = i
    · subst ej
      simp -implicitDefEqProofs (disch := omega) only [mK_sI, mK_sJ, mK_sR, mK_cpI, mL_sI, mL_sJ, mL_sR, mL_cpI, mI_sI, mI_sJ, mI_sR, mI_cpI, mJ_sI, mJ_sJ, mJ_sR, mJ_cpI, mR_sI, mR_sJ, mR_sR, mR_cpI, eqN_T, eqN_F, if_true, if_false, and_true, true_and, and_false, false_and, or_true, true_or, or_false, false_or, not_true_eq_false, not_false_eq_true, and_self, or_self, tn_c, ne_eq, dite_true, dite_false]
    · simp -implicitDefEqProofs (disch := omega) only [mK_sI, mK_sJ, mK_sR, mK_cpI, mL_sI, mL_sJ, mL_sR, mL_cpI, mI_sI, mI_sJ, mI_sR, mI_cpI, mJ_sI, mJ_sJ, mJ_sR, mJ_cpI, mR_sI, mR_sJ, mR_sR, mR_cpI, eqN_T, eqN_F, if_true, if_false, and_true, true_and, and_false, false_and, or_true, true_or, or_false, false_or, not_true_eq_false, not_false_eq_true, and_self, or_self, tn_c, ne_eq, dite_true, dite_false]
      exact hz j (by omega)
def WK (c a j : Nat) : Prop := (a = c ∧ j = 0) ∨ a = c + 1 ∨ a = c + 2 ∨ a = c + 3
