/-! Row: its cell r, its bytes b, their number n; c have come, and they are those of u -/
abbrev RS (M : Mem) (r b n : Nat) : Prop := mK M r = 8 ∧ mR M r 0 = some b ∧ mK M b = 14 ∧ mL M b = n
abbrev RV (M : Mem) (r b n c : Nat) (u : Nat → Nat) : Prop := RS M r b n ∧ mI M r 1 = iI c ∧ ∀ i, i < c → i < n → mI M b i = sb (u i)
def Rw (r b : Nat) (a j : Nat) : Prop := (a = r ∧ j = 1) ∨ a = b
def bN (v : Int32) : Nat := (v.toInt % 256).toNat
theorem bN_i2b (v : Int32) : i2b v = sb (bN v) := by
  conv => lhs; rw [iI_of v]
  exact i2b_int _
theorem bN_iI {a : Int} : bN (iI a) = (a % 256).toNat := by
  have h : (iI a).toInt = Int.bmod a 4294967296 := by
    rw [iI, Int32.toInt_ofInt]
  rw [bN, h]
  refine congrArg Int.toNat ?_
  rw [Int.bmod_def]
  split <;> omega
theorem bN_lt (v : Int32) : bN v < 256 := by unfold bN; omega
def gB (M : Mem) (b n : Nat) (i : Int) : Nat := if 0 ≤ i ∧ i < n then (mI M b i.toNat &&& iI 255).toInt.toNat else 0
theorem gB_lt (M : Mem) (b n : Nat) (i : Int) : gB M b n i < 256 := by
  unfold gB
  split
  · obtain ⟨w, h1, h2⟩ := and_lt (mI M b i.toNat)
    rw [h2, iI_toInt (by omega)]; omega
  · omega
theorem gB_u {M : Mem} {b n : Nat} {i : Int} {w : Nat} (h : mI M b i.toNat = sb w) (hw : w < 256) (hi : 0 ≤ i ∧ i < n) : gB M b n i = w := by
  rw [gB, if_pos hi, h, sb_and hw, iI_toInt (by omega)]; omega
theorem gB_i {M : Mem} {b n : Nat} {i : Int} (hi : 0 ≤ i ∧ i < n) : mI M b i.toNat &&& iI 255 = iI (gB M b n i) := by
  obtain ⟨w, h1, h2⟩ := and_lt (mI M b i.toNat)
  rw [gB, if_pos hi, h2, iI_toInt (by omega), tn_c]
theorem gB_0 {M : Mem} {b n : Nat} {i : Int} (hi : ¬ (0 ≤ i ∧ i < n)) : gB M b n i = 0 := if_neg hi
theorem get_ok {M : Mem} {r b n : Nat} (h : RS M r b n) (i : Int) (hi : -2147483648 ≤ i ∧ i < 2147483648) (hn : n < 1000000) : fX8_get (some r) (iI i) M = some (iI (gB M b n i), M) := by
  obtain ⟨h1, h2, h3, h4⟩ := h
  by_cases c1 : i < 0
  · simp -implicitDefEqProofs (disch := (first | decide | omega)) only [fX8_get, fX8_get_L26, fX8_get_L27, bo_s, bd_s, bn_s, gI_s, gJ_s, gR_s, pI_s, pZ_s, pJ_s, pR_s, chk_s, chN_s, chN_n, aL_s, aI_c, aJ_c, aR_c, wI_c, wB_c, wS_c, wZ_c, wJ_c, wR_c, mK_sI, mK_sJ, mK_sR, mK_cpI, mL_sI, mL_sJ, mL_sR, mL_cpI, mI_sI, mI_sJ, mI_sR, mI_cpI, mJ_sI, mJ_sJ, mJ_sR, mJ_cpI, mR_sI, mR_sJ, mR_sR, mR_cpI, i2b_i2b, i2b_sb, iI_lit, iI_add, iI_sub, iI_mul, iI_neg, iI_lt, iI_le, iI_eq, iI_J, lt_T, lt_F, le_T, le_F, eq_T, eq_F, eqN_T, eqN_F, leN_T, leN_F, ltN_T, ltN_F, if_true, if_false, and_true, true_and, and_false, false_and, or_true, true_or, or_false, false_or, not_true_eq_false, not_false_eq_true, and_self, or_self, tn_c, ne_eq, dite_true, dite_false]
    rw [gB_0 (by omega)]; rfl
  · by_cases c2 : i < n
    · simp -implicitDefEqProofs (disch := (first | decide | omega)) only [fX8_get, fX8_get_L26, fX8_get_L27, h1, h2, h3, h4, bo_s, bd_s, bn_s, gI_s, gJ_s, gR_s, pI_s, pZ_s, pJ_s, pR_s, chk_s, chN_s, chN_n, aL_s, aI_c, aJ_c, aR_c, wI_c, wB_c, wS_c, wZ_c, wJ_c, wR_c, mK_sI, mK_sJ, mK_sR, mK_cpI, mL_sI, mL_sJ, mL_sR, mL_cpI, mI_sI, mI_sJ, mI_sR, mI_cpI, mJ_sI, mJ_sJ, mJ_sR, mJ_cpI, mR_sI, mR_sJ, mR_sR, mR_cpI, i2b_i2b, i2b_sb, iI_lit, iI_add, iI_sub, iI_mul, iI_neg, iI_lt, iI_le, iI_eq, iI_J, lt_T, lt_F, le_T, le_F, eq_T, eq_F, eqN_T, eqN_F, leN_T, leN_F, ltN_T, ltN_F, if_true, if_false, and_true, true_and, and_false, false_and, or_true, true_or, or_false, false_or, not_true_eq_false, not_false_eq_true, and_self, or_self, tn_c, ne_eq, dite_true, dite_false]
      rw [gB_i (n := n) (by omega)]
    · simp -implicitDefEqProofs (disch := (first | decide | omega)) only [fX8_get, fX8_get_L26, fX8_get_L27, h1, h2, h3, h4, bo_s, bd_s, bn_s, gI_s, gJ_s, gR_s, pI_s, pZ_s, pJ_s, pR_s, chk_s, chN_s, chN_n, aL_s, aI_c, aJ_c, aR_c, wI_c, wB_c, wS_c, wZ_c, wJ_c, wR_c, mK_sI, mK_sJ, mK_sR, mK_cpI, mL_sI, mL_sJ, mL_sR, mL_cpI, mI_sI, mI_sJ, mI_sR, mI_cpI, mJ_sI, mJ_sJ, mJ_sR, mJ_cpI, mR_sI, mR_sJ, mR_sR, mR_cpI, i2b_i2b, i2b_sb, iI_lit, iI_add, iI_sub, iI_mul, iI_neg, iI_lt, iI_le, iI_eq, iI_J, lt_T, lt_F, le_T, le_F, eq_T, eq_F, eqN_T, eqN_F, leN_T, leN_F, ltN_T, ltN_F, if_true, if_false, and_true, true_and, and_false, false_and, or_true, true_or, or_false, false_or, not_true_eq_false, not_false_eq_true, and_self, or_self, tn_c, ne_eq, dite_true, dite_false]
      rw [gB_0 (by omega)]; rfl
theorem get_v {M : Mem} {r b n c : Nat} {u : Nat → Nat} (h : RV M r b n c u) (hu : ∀ i, u i < 256) {i : Int} (hi : 0 ≤ i ∧ i < c ∧ i < n) (hn : n < 1000000) : fX8_get (some r) (iI i) M = some (iI (u i.toNat), M) := by
  rw [get_ok h.1 i (by omega) hn, gB_u (h.2.2 i.toNat (by omega) (by omega)) (hu _) (by omega)]

theorem add_v {M : Mem} {r b n c : Nat} {u : Nat → Nat} (h : RV M r b n c u) (hc : c < 1000000000) (hn : n < 1000000) (hrb : r ≠ b) (v : Int32) (hv : u c = bN v) : Wp (fX8_add (some r) v M) fun _ N => RV N r b n (c + 1) u ∧ Sm (Rw r b) M N := by
  obtain ⟨⟨h1, h2, h3, h4⟩, h5, h6⟩ := h
  by_cases c2 : c < n
  · refine ⟨(), sI (sI M b c (i2b v)) r 1 (iI ((c : Int) + 1)), ?_, ⟨⟨h1, h2, h3, h4⟩, ?_, ?_⟩, ?_⟩
    · simp -implicitDefEqProofs (disch := (first | decide | omega)) only [fX8_add, fX8_add_L30, h1, h2, h3, h4, h5, bo_s, bd_s, bn_s, gI_s, gJ_s, gR_s, pI_s, pZ_s, pJ_s, pR_s, chk_s, chN_s, chN_n, aL_s, aI_c, aJ_c, aR_c, wI_c, wB_c, wS_c, wZ_c, wJ_c, wR_c, mK_sI, mK_sJ, mK_sR, mK_cpI, mL_sI, mL_sJ, mL_sR, mL_cpI, mI_sI, mI_sJ, mI_sR, mI_cpI, mJ_sI, mJ_sJ, mJ_sR, mJ_cpI, mR_sI, mR_sJ, mR_sR, mR_cpI, i2b_i2b, i2b_sb, iI_lit, iI_add, iI_sub, iI_mul, iI_neg, iI_lt, iI_le, iI_eq, iI_J, lt_T, lt_F, le_T, le_F, eq_T, eq_F, eqN_T, eqN_F, leN_T, leN_F, ltN_T, ltN_F, if_true, if_false, and_true, true_and, and_false, false_and, or_true, true_or, or_false, false_or, not_true_eq_false, not_false_eq_true, and_self, or_self, tn_c, ne_eq, dite_true, dite_false]
    · simp -implicitDefEqProofs (disch := (first | decide | omega)) only [mK_sI, mK_sJ, mK_sR, mK_cpI, mL_sI, mL_sJ, mL_sR, mL_cpI, mI_sI, mI_sJ, mI_sR, mI_cpI, mJ_sI, mJ_sJ, mJ_sR, mJ_cpI, mR_sI, mR_sJ, mR_sR, mR_cpI, eqN_T, eqN_F, if_true, if_false, and_true, true_and, and_false, false_and, or_true, true_or, or_false, false_or, not_true_eq_false, not_false_eq_true, and_self, or_self, tn_c, ne_eq, dite_true, dite_false]
      rfl
    · intro i hi hi2
      by_cases e : i = c
      · subst e
        simp -implicitDefEqProofs (disch := (first | decide | omega)) only [mK_sI, mK_sJ, mK_sR, mK_cpI, mL_sI, mL_sJ, mL_sR, mL_cpI, mI_sI, mI_sJ, mI_sR, mI_cpI, mJ_sI, mJ_sJ, mJ_sR, mJ_cpI, mR_sI, mR_sJ, mR_sR, mR_cpI, eqN_T, eqN_F, if_true, if_false, and_true, true_and, and_false, false_and, or_true, true_or, or_false, false_or, not_true_eq_false, not_false_eq_true, and_self, or_self, tn_c, ne_eq, dite_true, dite_false]
        rw [hv, bN_i2b]
      · simp -implicitDefEqProofs (disch := (first | decide | omega)) only [mK_sI, mK_sJ, mK_sR, mK_cpI, mL_sI, mL_sJ, mL_sR, mL_cpI, mI_sI, mI_sJ, mI_sR, mI_cpI, mJ_sI, mJ_sJ, mJ_sR, mJ_cpI, mR_sI, mR_sJ, mR_sR, mR_cpI, eqN_T, eqN_F, if_true, if_false, and_true, true_and, and_false, false_and, or_true, true_or, or_false, false_or, not_true_eq_false, not_false_eq_true, and_self, or_self, tn_c, ne_eq, dite_true, dite_false]
        exact h6 i (by omega) hi2
    · exact (Sm.rf.sI (Or.inr rfl)).sI (Or.inl ⟨rfl, rfl⟩)
  · refine ⟨(), sI M r 1 (iI ((c : Int) + 1)), ?_, ⟨⟨h1, h2, h3, h4⟩, ?_, ?_⟩, ?_⟩
    · simp -implicitDefEqProofs (disch := (first | decide | omega)) only [fX8_add, fX8_add_L30, h1, h2, h3, h4, h5, bo_s, bd_s, bn_s, gI_s, gJ_s, gR_s, pI_s, pZ_s, pJ_s, pR_s, chk_s, chN_s, chN_n, aL_s, aI_c, aJ_c, aR_c, wI_c, wB_c, wS_c, wZ_c, wJ_c, wR_c, mK_sI, mK_sJ, mK_sR, mK_cpI, mL_sI, mL_sJ, mL_sR, mL_cpI, mI_sI, mI_sJ, mI_sR, mI_cpI, mJ_sI, mJ_sJ, mJ_sR, mJ_cpI, mR_sI, mR_sJ, mR_sR, mR_cpI, i2b_i2b, i2b_sb, iI_lit, iI_add, iI_sub, iI_mul, iI_neg, iI_lt, iI_le, iI_eq, iI_J, lt_T, lt_F, le_T, le_F, eq_T, eq_F, eqN_T, eqN_F, leN_T, leN_F, ltN_T, ltN_F, if_true, if_false, and_true, true_and, and_false, false_and, or_true, true_or, or_false, false_or, not_true_eq_false, not_false_eq_true, and_self, or_self, tn_c, ne_eq, dite_true, dite_false]
    · simp -implicitDefEqProofs (disch := (first | decide | omega)) only [mK_sI, mK_sJ, mK_sR, mK_cpI, mL_sI, mL_sJ, mL_sR, mL_cpI, mI_sI, mI_sJ, mI_sR, mI_cpI, mJ_sI, mJ_sJ, mJ_sR, mJ_cpI, mR_sI, mR_sJ, mR_sR, mR_cpI, eqN_T, eqN_F, if_true, if_false, and_true, true_and, and_false, false_and, or_true, true_or, or_false, false_or, not_true_eq_false, not_false_eq_true, and_self, or_self, tn_c, ne_eq, dite_true, dite_false]
      rfl
    · intro i hi hi2
      simp -implicitDefEqProofs (disch := (first | decide | omega)) only [mK_sI, mK_sJ, mK_sR, mK_cpI, mL_sI, mL_sJ, mL_sR, mL_cpI, mI_sI, mI_sJ, mI_sR, mI_cpI, mJ_sI, mJ_sJ, mJ_sR, mJ_cpI, mR_sI, mR_sJ, mR_sR, mR_cpI, eqN_T, eqN_F, if_true, if_false, and_true, true_and, and_false, false_and, or_true, true_or, or_false, false_or, not_true_eq_false, not_false_eq_true, and_self, or_self, tn_c, ne_eq, dite_true, dite_false]
      exact h6 i (by omega) hi2
    · exact Sm.rf.sI (Or.inl ⟨rfl, rfl⟩)

theorem RS.sm {M N : Mem} {r b n : Nat} {S : Nat → Nat → Prop} (h : RS M r b n) (s : Sm S M N) (hr : ¬ S r 0) : RS N r b n := ⟨(s.K r).trans h.1, (s.R r 0 hr).trans h.2.1, (s.K b).trans h.2.2.1, (s.L b).trans h.2.2.2⟩
theorem RV.sm {M N : Mem} {r b n c : Nat} {u : Nat → Nat} {S : Nat → Nat → Prop} (h : RV M r b n c u) (s : Sm S M N) (h0 : ¬ S r 0) (h1 : ¬ S r 1) (hb : ∀ j, ¬ S b j) : RV N r b n c u := ⟨h.1.sm s h0, (s.I r 1 h1).trans h.2.1, fun i hi hn => (s.I b i (hb i)).trans (h.2.2 i hi hn)⟩
theorem RV.ext {M : Mem} {r b n c : Nat} {u v : Nat → Nat} (h : RV M r b n c u) (e : ∀ i, i < c → i < n → u i = v i) : RV M r b n c v := ⟨h.1, h.2.1, fun i hi hn => by rw [← e i hi hn]; exact h.2.2 i hi hn⟩
theorem gB_sm {M N : Mem} {S : Nat → Nat → Prop} {b n : Nat} {i : Int} (s : Sm S M N) (h : 0 ≤ i → ¬ S b i.toNat) : gB N b n i = gB M b n i := by
  unfold gB
  by_cases q : 0 ≤ i ∧ i < n
  · rw [if_pos q, if_pos q, s.I _ _ (h q.1)]
  · rw [if_neg q, if_neg q]
theorem addFrom_v {M : Mem} {r b n o ob on c k f : Nat} {u : Nat → Nat} (hr : RV M r b n c u) (ho : RS M o ob on) (hrb : r ≠ b) (hc : c < 100000000) (hk : k < 100000000) (hn : n < 900000) (hon : on < 900000) (hf : f + k < 1000000000) (hs : ob ≠ b ∨ f + k ≤ c) (hv : ∀ i, i < k → c + i < n → u (c + i) = gB M ob on (f + i : Nat)) :
    Wp (fX8_addFrom (some r) (some o) (iI f) (iI k) M) fun _ N => RV N r b n (c + k) u ∧ Sm (Rw r b) M N := by
  obtain ⟨⟨h1, h2, h3, h4⟩, h5, h6⟩ := hr
  have hob : o ≠ b := fun e => by have := ho.1; rw [e] at this; omega
  simp -implicitDefEqProofs (disch := (first | decide | omega)) only [fX8_addFrom, fX8_addFrom_L19, h1, h2, h3, h4, h5, minI_iI, bo_s, bd_s, bn_s, gI_s, gJ_s, gR_s, pI_s, pZ_s, pJ_s, pR_s, chk_s, chN_s, chN_n, aL_s, aI_c, aJ_c, aR_c, wI_c, wB_c, wS_c, wZ_c, wJ_c, wR_c, mK_sI, mK_sJ, mK_sR, mK_cpI, mL_sI, mL_sJ, mL_sR, mL_cpI, mI_sI, mI_sJ, mI_sR, mI_cpI, mJ_sI, mJ_sJ, mJ_sR, mJ_cpI, mR_sI, mR_sJ, mR_sR, mR_cpI, i2b_i2b, i2b_sb, iI_lit, iI_add, iI_sub, iI_mul, iI_neg, iI_lt, iI_le, iI_eq, iI_J, lt_T, lt_F, le_T, le_F, eq_T, eq_F, eqN_T, eqN_F, leN_T, leN_F, ltN_T, ltN_F, if_true, if_false, and_true, true_and, and_false, false_and, or_true, true_or, or_false, false_or, not_true_eq_false, not_false_eq_true, and_self, or_self, tn_c, ne_eq, dite_true, dite_false]
  refine w_lpF (fun d x M' => ∃ i : Nat, x = (some r, some o, iI f, iI k, iI (min (k : Int) (n - c)), iI i) ∧ (i : Int) + d = max 0 (min (k : Int) (n - c)) ∧ Sm (fun a j => a = b ∧ c ≤ j) M M' ∧ ∀ j, j < c + i → j < n → mI M' b j = sb (u j)) (max 0 (min (k : Int) (n - c))).toNat (by omega) ⟨0, rfl, by omega, Sm.rf, fun j hj => h6 j (by omega)⟩ ?_
  rintro g d x M' ⟨i, rfl, hi, hS, hb⟩ ih
  have g1 := (hS.K r).trans h1
  have g2 := (hS.R r 0 (by omega)).trans h2
  have g3 := (hS.K b).trans h3
  have g4 := (hS.L b).trans h4
  have g5 := (hS.I r 1 (by omega)).trans h5
  by_cases q : (i : Int) < min (k : Int) (n - c)
  · have q2 : i < k := by omega
    have e := get_ok (ho.sm hS (by omega)) ((f : Int) + i) (by omega) (by omega)
    rw [gB_sm (b := ob) (n := on) (i := (f : Int) + i) hS (by omega)] at e
    have ho' := (hS.K o).trans ho.1
    simp -implicitDefEqProofs (disch := (first | decide | omega)) only [fX8_addFrom_B19, g1, g2, g3, g4, g5, ho', e, bo_s, bd_s, bn_s, gI_s, gJ_s, gR_s, pI_s, pZ_s, pJ_s, pR_s, chk_s, chN_s, chN_n, aL_s, aI_c, aJ_c, aR_c, wI_c, wB_c, wS_c, wZ_c, wJ_c, wR_c, mK_sI, mK_sJ, mK_sR, mK_cpI, mL_sI, mL_sJ, mL_sR, mL_cpI, mI_sI, mI_sJ, mI_sR, mI_cpI, mJ_sI, mJ_sJ, mJ_sR, mJ_cpI, mR_sI, mR_sJ, mR_sR, mR_cpI, i2b_i2b, i2b_sb, iI_lit, iI_add, iI_sub, iI_mul, iI_neg, iI_lt, iI_le, iI_eq, iI_J, lt_T, lt_F, le_T, le_F, eq_T, eq_F, eqN_T, eqN_F, leN_T, leN_F, ltN_T, ltN_F, if_true, if_false, and_true, true_and, and_false, false_and, or_true, true_or, or_false, false_or, not_true_eq_false, not_false_eq_true, and_self, or_self, tn_c, ne_eq, dite_true, dite_false]
    refine ih (d - 1) _ _ (by omega) ⟨i + 1, rfl, by omega, hS.sI ⟨rfl, by omega⟩, fun j hj hn => ?_⟩
    by_cases ej : j = c + i
    · rw [mI_sI, if_pos ⟨rfl, by omega⟩, ej, hv i (by omega) (by omega), i2b_nat, Nat.mod_eq_of_lt (gB_lt _ _ _ _)]
      rfl
    · rw [mI_sI, if_neg (by omega)]
      exact hb j (by omega) hn
  · simp -implicitDefEqProofs (disch := (first | decide | omega)) only [fX8_addFrom_B19, g1, g2, g3, g4, g5, bo_s, bd_s, bn_s, gI_s, gJ_s, gR_s, pI_s, pZ_s, pJ_s, pR_s, chk_s, chN_s, chN_n, aL_s, aI_c, aJ_c, aR_c, wI_c, wB_c, wS_c, wZ_c, wJ_c, wR_c, mK_sI, mK_sJ, mK_sR, mK_cpI, mL_sI, mL_sJ, mL_sR, mL_cpI, mI_sI, mI_sJ, mI_sR, mI_cpI, mJ_sI, mJ_sJ, mJ_sR, mJ_cpI, mR_sI, mR_sJ, mR_sR, mR_cpI, i2b_i2b, i2b_sb, iI_lit, iI_add, iI_sub, iI_mul, iI_neg, iI_lt, iI_le, iI_eq, iI_J, lt_T, lt_F, le_T, le_F, eq_T, eq_F, eqN_T, eqN_F, leN_T, leN_F, ltN_T, ltN_F, if_true, if_false, and_true, true_and, and_false, false_and, or_true, true_or, or_false, false_or, not_true_eq_false, not_false_eq_true, and_self, or_self, tn_c, ne_eq, dite_true, dite_false]
    refine w_ret ⟨⟨⟨g1, g2, g3, g4⟩, ?_, fun j hj hn => ?_⟩, ?_⟩
    · simp -implicitDefEqProofs (disch := (first | decide | omega)) only [mK_sI, mK_sJ, mK_sR, mK_cpI, mL_sI, mL_sJ, mL_sR, mL_cpI, mI_sI, mI_sJ, mI_sR, mI_cpI, mJ_sI, mJ_sJ, mJ_sR, mJ_cpI, mR_sI, mR_sJ, mR_sR, mR_cpI, eqN_T, eqN_F, if_true, if_false, and_true, true_and, and_false, false_and, or_true, true_or, or_false, false_or, not_true_eq_false, not_false_eq_true, and_self, or_self, tn_c, ne_eq, dite_true, dite_false]
      rfl
    · simp -implicitDefEqProofs (disch := (first | decide | omega)) only [mK_sI, mK_sJ, mK_sR, mK_cpI, mL_sI, mL_sJ, mL_sR, mL_cpI, mI_sI, mI_sJ, mI_sR, mI_cpI, mJ_sI, mJ_sJ, mJ_sR, mJ_cpI, mR_sI, mR_sJ, mR_sR, mR_cpI, eqN_T, eqN_F, if_true, if_false, and_true, true_and, and_false, false_and, or_true, true_or, or_false, false_or, not_true_eq_false, not_false_eq_true, and_self, or_self, tn_c, ne_eq, dite_true, dite_false]
      exact hb j (by omega) hn
    · exact (hS.weak fun a j h => Or.inr h.1).sI (Or.inl ⟨rfl, rfl⟩)
theorem addSame_v {M : Mem} {r b n c k w : Nat} {u : Nat → Nat} (hr : RV M r b n c u) (hrb : r ≠ b) (hc : c < 100000000) (hk : k < 100000000) (hn : n < 900000) (hw : w < 256) (hv : ∀ i, i < k → c + i < n → u (c + i) = w) :
    Wp (fX8_addSame (some r) (iI w) (iI k) M) fun _ N => RV N r b n (c + k) u ∧ Sm (Rw r b) M N := by
  obtain ⟨⟨h1, h2, h3, h4⟩, h5, h6⟩ := hr
  simp -implicitDefEqProofs (disch := (first | decide | omega)) only [fX8_addSame, fX8_addSame_L18, h1, h2, h3, h4, h5, minI_iI, bo_s, bd_s, bn_s, gI_s, gJ_s, gR_s, pI_s, pZ_s, pJ_s, pR_s, chk_s, chN_s, chN_n, aL_s, aI_c, aJ_c, aR_c, wI_c, wB_c, wS_c, wZ_c, wJ_c, wR_c, mK_sI, mK_sJ, mK_sR, mK_cpI, mL_sI, mL_sJ, mL_sR, mL_cpI, mI_sI, mI_sJ, mI_sR, mI_cpI, mJ_sI, mJ_sJ, mJ_sR, mJ_cpI, mR_sI, mR_sJ, mR_sR, mR_cpI, i2b_i2b, i2b_sb, iI_lit, iI_add, iI_sub, iI_mul, iI_neg, iI_lt, iI_le, iI_eq, iI_J, lt_T, lt_F, le_T, le_F, eq_T, eq_F, eqN_T, eqN_F, leN_T, leN_F, ltN_T, ltN_F, if_true, if_false, and_true, true_and, and_false, false_and, or_true, true_or, or_false, false_or, not_true_eq_false, not_false_eq_true, and_self, or_self, tn_c, ne_eq, dite_true, dite_false]
  refine w_lpF (fun d x M' => ∃ i : Nat, x = (some r, iI w, iI k, iI (min (k : Int) (n - c)), iI i) ∧ (i : Int) + d = max 0 (min (k : Int) (n - c)) ∧ Sm (fun a j => a = b ∧ c ≤ j) M M' ∧ ∀ j, j < c + i → j < n → mI M' b j = sb (u j)) (max 0 (min (k : Int) (n - c))).toNat (by omega) ⟨0, rfl, by omega, Sm.rf, fun j hj => h6 j (by omega)⟩ ?_
  rintro g d x M' ⟨i, rfl, hi, hS, hb⟩ ih
  have g1 := (hS.K r).trans h1
  have g2 := (hS.R r 0 (by omega)).trans h2
  have g3 := (hS.K b).trans h3
  have g4 := (hS.L b).trans h4
  have g5 := (hS.I r 1 (by omega)).trans h5
  by_cases q : (i : Int) < min (k : Int) (n - c)
  · simp -implicitDefEqProofs (disch := (first | decide | omega)) only [fX8_addSame_B18, g1, g2, g3, g4, g5, bo_s, bd_s, bn_s, gI_s, gJ_s, gR_s, pI_s, pZ_s, pJ_s, pR_s, chk_s, chN_s, chN_n, aL_s, aI_c, aJ_c, aR_c, wI_c, wB_c, wS_c, wZ_c, wJ_c, wR_c, mK_sI, mK_sJ, mK_sR, mK_cpI, mL_sI, mL_sJ, mL_sR, mL_cpI, mI_sI, mI_sJ, mI_sR, mI_cpI, mJ_sI, mJ_sJ, mJ_sR, mJ_cpI, mR_sI, mR_sJ, mR_sR, mR_cpI, i2b_i2b, i2b_sb, iI_lit, iI_add, iI_sub, iI_mul, iI_neg, iI_lt, iI_le, iI_eq, iI_J, lt_T, lt_F, le_T, le_F, eq_T, eq_F, eqN_T, eqN_F, leN_T, leN_F, ltN_T, ltN_F, if_true, if_false, and_true, true_and, and_false, false_and, or_true, true_or, or_false, false_or, not_true_eq_false, not_false_eq_true, and_self, or_self, tn_c, ne_eq, dite_true, dite_false]
    refine ih (d - 1) _ _ (by omega) ⟨i + 1, rfl, by omega, hS.sI ⟨rfl, by omega⟩, fun j hj hn => ?_⟩
    by_cases ej : j = c + i
    · rw [mI_sI, if_pos ⟨rfl, by omega⟩, ej, hv i (by omega) (by omega), i2b_nat, Nat.mod_eq_of_lt hw]
    · rw [mI_sI, if_neg (by omega)]
      exact hb j (by omega) hn
  · simp -implicitDefEqProofs (disch := (first | decide | omega)) only [fX8_addSame_B18, g1, g2, g3, g4, g5, bo_s, bd_s, bn_s, gI_s, gJ_s, gR_s, pI_s, pZ_s, pJ_s, pR_s, chk_s, chN_s, chN_n, aL_s, aI_c, aJ_c, aR_c, wI_c, wB_c, wS_c, wZ_c, wJ_c, wR_c, mK_sI, mK_sJ, mK_sR, mK_cpI, mL_sI, mL_sJ, mL_sR, mL_cpI, mI_sI, mI_sJ, mI_sR, mI_cpI, mJ_sI, mJ_sJ, mJ_sR, mJ_cpI, mR_sI, mR_sJ, mR_sR, mR_cpI, i2b_i2b, i2b_sb, iI_lit, iI_add, iI_sub, iI_mul, iI_neg, iI_lt, iI_le, iI_eq, iI_J, lt_T, lt_F, le_T, le_F, eq_T, eq_F, eqN_T, eqN_F, leN_T, leN_F, ltN_T, ltN_F, if_true, if_false, and_true, true_and, and_false, false_and, or_true, true_or, or_false, false_or, not_true_eq_false, not_false_eq_true, and_self, or_self, tn_c, ne_eq, dite_true, dite_false]
    refine w_ret ⟨⟨⟨g1, g2, g3, g4⟩, ?_, fun j hj hn => ?_⟩, ?_⟩
    · simp -implicitDefEqProofs (disch := (first | decide | omega)) only [mK_sI, mK_sJ, mK_sR, mK_cpI, mL_sI, mL_sJ, mL_sR, mL_cpI, mI_sI, mI_sJ, mI_sR, mI_cpI, mJ_sI, mJ_sJ, mJ_sR, mJ_cpI, mR_sI, mR_sJ, mR_sR, mR_cpI, eqN_T, eqN_F, if_true, if_false, and_true, true_and, and_false, false_and, or_true, true_or, or_false, false_or, not_true_eq_false, not_false_eq_true, and_self, or_self, tn_c, ne_eq, dite_true, dite_false]
      rfl
    · simp -implicitDefEqProofs (disch := (first | decide | omega)) only [mK_sI, mK_sJ, mK_sR, mK_cpI, mL_sI, mL_sJ, mL_sR, mL_cpI, mI_sI, mI_sJ, mI_sR, mI_cpI, mJ_sI, mJ_sJ, mJ_sR, mJ_cpI, mR_sI, mR_sJ, mR_sR, mR_cpI, eqN_T, eqN_F, if_true, if_false, and_true, true_and, and_false, false_and, or_true, true_or, or_false, false_or, not_true_eq_false, not_false_eq_true, and_self, or_self, tn_c, ne_eq, dite_true, dite_false]
      exact hb j (by omega) hn
    · exact (hS.weak fun a j h => Or.inr h.1).sI (Or.inl ⟨rfl, rfl⟩)

/-! numbers of bytes, the lowest first -/
def num (g : Nat → Nat) : Nat → Nat → Nat
  | _, 0 => 0
  | f, k + 1 => g f + 256 * num g (f + 1) k
theorem num_lt {g : Nat → Nat} (hg : ∀ i, g i < 256) : ∀ k f, num g f k < 256 ^ k := by
  intro k
  induction k with
  | zero => intro f; show 0 < 1; omega
  | succ k ih =>
    intro f
    have := ih (f + 1)
    have := hg f
    rw [num, Nat.pow_succ]
    omega
theorem num_congr {g h : Nat → Nat} : ∀ k f, (∀ i, f ≤ i → i < f + k → g i = h i) → num g f k = num h f k := by
  intro k
  induction k with
  | zero => intro f _; rfl
  | succ k ih =>
    intro f e
    rw [num, num, e f (by omega) (by omega), ih (f + 1) fun i h1 h2 => e i (by omega) (by omega)]
theorem orJ_8 (a : Int) {w : Nat} (hw : w < 256) : shlJ (iJ a) (iI 8) ||| (iI (w : Int)).toInt64 = iJ (w + 256 * a) := by
  rw [shlJ_i (by omega), iI_J (by omega), show Int.toNat 8 = 8 from rfl, iJ_or (k := 8) a (by omega) (by omega)]
  refine congrArg iJ ?_
  show a * 256 + _ = _
  omega
theorem number_ok {M : Mem} {r b n : Nat} (h : RS M r b n) (hn : n < 1000000) (f k : Nat) (hk : k ≤ 8) (hf : f < 1000000000) : fX8_number (some r) (iI f) (iI k) M = some (iJ (num (fun i => gB M b n i) f k), M) := by
  apply Wp.eq
  simp -implicitDefEqProofs (disch := (first | decide | omega)) only [fX8_number, fX8_number_L7, bo_s, bd_s, bn_s, gI_s, gJ_s, gR_s, pI_s, pZ_s, pJ_s, pR_s, chk_s, chN_s, chN_n, aL_s, aI_c, aJ_c, aR_c, wI_c, wB_c, wS_c, wZ_c, wJ_c, wR_c, mK_sI, mK_sJ, mK_sR, mK_cpI, mL_sI, mL_sJ, mL_sR, mL_cpI, mI_sI, mI_sJ, mI_sR, mI_cpI, mJ_sI, mJ_sJ, mJ_sR, mJ_cpI, mR_sI, mR_sJ, mR_sR, mR_cpI, i2b_i2b, i2b_sb, iI_lit, iI_add, iI_sub, iI_mul, iI_neg, iI_lt, iI_le, iI_eq, iI_J, lt_T, lt_F, le_T, le_F, eq_T, eq_F, eqN_T, eqN_F, leN_T, leN_F, ltN_T, ltN_F, if_true, if_false, and_true, true_and, and_false, false_and, or_true, true_or, or_false, false_or, not_true_eq_false, not_false_eq_true, and_self, or_self, tn_c, ne_eq, dite_true, dite_false]
  refine w_lpF (fun d x M' => ∃ t : Nat, t = d ∧ t ≤ k ∧ M' = M ∧ x = (some r, iI f, iJ (num (fun i => gB M b n i) (f + t) (k - t)), iI ((t : Int) - 1))) k (by omega) ⟨k, rfl, by omega, rfl, by rw [Nat.sub_self]; rfl⟩ ?_
  rintro g d x M' ⟨t, rfl, hi, rfl, rfl⟩ ih
  have h1 := h.1
  by_cases q : t = 0
  · subst q
    simp -implicitDefEqProofs (disch := (first | decide | omega)) only [fX8_number_B7, bo_s, bd_s, bn_s, gI_s, gJ_s, gR_s, pI_s, pZ_s, pJ_s, pR_s, chk_s, chN_s, chN_n, aL_s, aI_c, aJ_c, aR_c, wI_c, wB_c, wS_c, wZ_c, wJ_c, wR_c, mK_sI, mK_sJ, mK_sR, mK_cpI, mL_sI, mL_sJ, mL_sR, mL_cpI, mI_sI, mI_sJ, mI_sR, mI_cpI, mJ_sI, mJ_sJ, mJ_sR, mJ_cpI, mR_sI, mR_sJ, mR_sR, mR_cpI, i2b_i2b, i2b_sb, iI_lit, iI_add, iI_sub, iI_mul, iI_neg, iI_lt, iI_le, iI_eq, iI_J, lt_T, lt_F, le_T, le_F, eq_T, eq_F, eqN_T, eqN_F, leN_T, leN_F, ltN_T, ltN_F, if_true, if_false, and_true, true_and, and_false, false_and, or_true, true_or, or_false, false_or, not_true_eq_false, not_false_eq_true, and_self, or_self, tn_c, ne_eq, dite_true, dite_false]
    exact w_ret ⟨rfl, rfl⟩
  · have e := get_ok h ((f : Int) + (t - 1)) (by omega) (by omega)
    simp -implicitDefEqProofs (disch := (first | decide | omega)) only [fX8_number_B7, h1, e, bo_s, bd_s, bn_s, gI_s, gJ_s, gR_s, pI_s, pZ_s, pJ_s, pR_s, chk_s, chN_s, chN_n, aL_s, aI_c, aJ_c, aR_c, wI_c, wB_c, wS_c, wZ_c, wJ_c, wR_c, mK_sI, mK_sJ, mK_sR, mK_cpI, mL_sI, mL_sJ, mL_sR, mL_cpI, mI_sI, mI_sJ, mI_sR, mI_cpI, mJ_sI, mJ_sJ, mJ_sR, mJ_cpI, mR_sI, mR_sJ, mR_sR, mR_cpI, i2b_i2b, i2b_sb, iI_lit, iI_add, iI_sub, iI_mul, iI_neg, iI_lt, iI_le, iI_eq, iI_J, lt_T, lt_F, le_T, le_F, eq_T, eq_F, eqN_T, eqN_F, leN_T, leN_F, ltN_T, ltN_F, if_true, if_false, and_true, true_and, and_false, false_and, or_true, true_or, or_false, false_or, not_true_eq_false, not_false_eq_true, and_self, or_self, tn_c, ne_eq, dite_true, dite_false]
    rw [orJ_8 _ (gB_lt _ _ _ _)]
    refine ih (t - 1) _ _ (by omega) ⟨t - 1, rfl, by omega, rfl, ?_⟩
    rw [show k - (t - 1) = (k - t) + 1 by omega, num, show f + (t - 1) + 1 = f + t by omega]
    rw [show ((f : Int) + (t - 1)) = ((f + (t - 1) : Nat) : Int) by omega, show ((t : Int) - 1 + -1) = ((t - 1 : Nat) : Int) - 1 by omega]
    rfl
theorem eight_ok {M : Mem} {b n : Nat} (h1 : mK M b = 14) (h2 : mL M b = n) (hn : n < 1000000) (f k : Nat) (hk : k ≤ 8) (hf : f + k ≤ n) : fX13_eight (some b) (iI f) (iI k) M = some (iJ (num (fun i => gB M b n i) f k), M) := by
  apply Wp.eq
  simp -implicitDefEqProofs (disch := (first | decide | omega)) only [fX13_eight, fX13_eight_L7, bo_s, bd_s, bn_s, gI_s, gJ_s, gR_s, pI_s, pZ_s, pJ_s, pR_s, chk_s, chN_s, chN_n, aL_s, aI_c, aJ_c, aR_c, wI_c, wB_c, wS_c, wZ_c, wJ_c, wR_c, mK_sI, mK_sJ, mK_sR, mK_cpI, mL_sI, mL_sJ, mL_sR, mL_cpI, mI_sI, mI_sJ, mI_sR, mI_cpI, mJ_sI, mJ_sJ, mJ_sR, mJ_cpI, mR_sI, mR_sJ, mR_sR, mR_cpI, i2b_i2b, i2b_sb, iI_lit, iI_add, iI_sub, iI_mul, iI_neg, iI_lt, iI_le, iI_eq, iI_J, lt_T, lt_F, le_T, le_F, eq_T, eq_F, eqN_T, eqN_F, leN_T, leN_F, ltN_T, ltN_F, if_true, if_false, and_true, true_and, and_false, false_and, or_true, true_or, or_false, false_or, not_true_eq_false, not_false_eq_true, and_self, or_self, tn_c, ne_eq, dite_true, dite_false]
  refine w_lpF (fun d x M' => ∃ t : Nat, t = d ∧ t ≤ k ∧ M' = M ∧ x = (some b, iI f, iJ (num (fun i => gB M b n i) (f + t) (k - t)), iI ((t : Int) - 1))) k (by omega) ⟨k, rfl, by omega, rfl, by rw [Nat.sub_self]; rfl⟩ ?_
  rintro g d x M' ⟨t, rfl, hi, rfl, rfl⟩ ih
  by_cases q : t = 0
  · subst q
    simp -implicitDefEqProofs (disch := (first | decide | omega)) only [fX13_eight_B7, bo_s, bd_s, bn_s, gI_s, gJ_s, gR_s, pI_s, pZ_s, pJ_s, pR_s, chk_s, chN_s, chN_n, aL_s, aI_c, aJ_c, aR_c, wI_c, wB_c, wS_c, wZ_c, wJ_c, wR_c, mK_sI, mK_sJ, mK_sR, mK_cpI, mL_sI, mL_sJ, mL_sR, mL_cpI, mI_sI, mI_sJ, mI_sR, mI_cpI, mJ_sI, mJ_sJ, mJ_sR, mJ_cpI, mR_sI, mR_sJ, mR_sR, mR_cpI, i2b_i2b, i2b_sb, iI_lit, iI_add, iI_sub, iI_mul, iI_neg, iI_lt, iI_le, iI_eq, iI_J, lt_T, lt_F, le_T, le_F, eq_T, eq_F, eqN_T, eqN_F, leN_T, leN_F, ltN_T, ltN_F, if_true, if_false, and_true, true_and, and_false, false_and, or_true, true_or, or_false, false_or, not_true_eq_false, not_false_eq_true, and_self, or_self, tn_c, ne_eq, dite_true, dite_false]
    exact w_ret ⟨rfl, rfl⟩
  · simp -implicitDefEqProofs (disch := (first | decide | omega)) only [fX13_eight_B7, h1, h2, bo_s, bd_s, bn_s, gI_s, gJ_s, gR_s, pI_s, pZ_s, pJ_s, pR_s, chk_s, chN_s, chN_n, aL_s, aI_c, aJ_c, aR_c, wI_c, wB_c, wS_c, wZ_c, wJ_c, wR_c, mK_sI, mK_sJ, mK_sR, mK_cpI, mL_sI, mL_sJ, mL_sR, mL_cpI, mI_sI, mI_sJ, mI_sR, mI_cpI, mJ_sI, mJ_sJ, mJ_sR, mJ_cpI, mR_sI, mR_sJ, mR_sR, mR_cpI, i2b_i2b, i2b_sb, iI_lit, iI_add, iI_sub, iI_mul, iI_neg, iI_lt, iI_le, iI_eq, iI_J, lt_T, lt_F, le_T, le_F, eq_T, eq_F, eqN_T, eqN_F, leN_T, leN_F, ltN_T, ltN_F, if_true, if_false, and_true, true_and, and_false, false_and, or_true, true_or, or_false, false_or, not_true_eq_false, not_false_eq_true, and_self, or_self, tn_c, ne_eq, dite_true, dite_false]
    rw [gB_i (n := n) (by omega), orJ_8 _ (gB_lt _ _ _ _)]
    refine ih (t - 1) _ _ (by omega) ⟨t - 1, rfl, by omega, rfl, ?_⟩
    rw [show k - (t - 1) = (k - t) + 1 by omega, num, show f + (t - 1) + 1 = f + t by omega]
    rw [show ((f : Int) + (t - 1)) = ((f + (t - 1) : Nat) : Int) by omega, show ((t : Int) - 1 + -1) = ((t - 1 : Nat) : Int) - 1 by omega]
    rfl
