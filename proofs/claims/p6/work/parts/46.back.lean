/-! bits of a reversed row: the class's Back (cell k), the reference (cell o) -/
abbrev BK (M : Mem) (k b F L : Nat) (z : Int) : Prop := mK M k = 0 ∧ mR M k 0 = some b ∧ mI M k 1 = iI F ∧ mI M k 2 = iI L ∧ mI M k 3 = iI z
abbrev RK (M : Mem) (o b F L : Nat) (z : Int) : Prop := mK M o = 13 ∧ mR M o 6 = some b ∧ mI M o 10 = iI F ∧ mI M o 11 = iI L ∧ mI M o 9 = iI z
theorem sbJ {w : Nat} (h : w < 256) : (sb w).toInt64 &&& iJ 255 = iJ w := by
  rw [sb, iI_J (by rw [bmod_u h]; split <;> omega), andJ_255]
  refine congrArg iJ ?_
  rw [bmod_u h]
  split <;> omega
theorem num_lt2 {u : Nat → Nat} (hu : ∀ i, u i < 256) (t a : Nat) : num u a t < 2 ^ (8 * t) := by
  have := num_lt hu t a
  rwa [show 256 = 2 ^ 8 from rfl, ← Nat.pow_mul] at this
theorem num_or {u : Nat → Nat} (hu : ∀ i, u i < 256) {a t : Nat} (ht : t ≤ 7) : iJ (num u a t) ||| shlJ (iJ (u (a + t))) (iI ((8 * t : Nat) : Int)) = iJ (num u a (t + 1)) := by
  have h := num_lt2 hu t a
  rw [shlJ_n (by omega), Int64.or_comm, Int.natCast_mul, Int.natCast_pow]
  show iJ ((u (a + t) : Int) * 2 ^ (8 * t)) ||| _ = _
  rw [iJ_or (k := 8 * t) _ (by omega) ⟨by omega, by rw [p2]; exact Int.ofNat_lt.mpr h⟩, num_snoc]
  refine congrArg iJ ?_
  rw [Int.natCast_add, Int.natCast_mul, p2, Int.add_comm]
section BACK
variable {M : Mem} {b n e : Nat} {u : Nat → Nat}
theorem bitsFrom_ok {k F p m : Nat} (h0 : mK M k = 0) (h1 : mR M k 0 = some b) (h2 : mI M k 1 = iI F) (hb : BV M b n e u) (hu : ∀ i, u i < 256) (hm : m ≤ 40) (he : 8 * F + p + m ≤ 8 * e) :
    fX0_bitsFrom (some k) (iI p) (iI m) M = some (iJ (bits u (8 * F + p) m), M) := by
  apply Wp.eq
  have g1 := hb.1
  have g2 := hb.2.1
  have g3 := hb.2.2.1
  have g4 := hb.2.2.2.1
  simp -implicitDefEqProofs (disch := (first | decide | omega)) only [fX0_bitsFrom, fX0_bitsFrom_L15, h0, h2, shr_3, bo_s, bd_s, bn_s, gI_s, gJ_s, gR_s, pI_s, pZ_s, pJ_s, pR_s, chk_s, chN_s, chN_n, aL_s, aI_c, aJ_c, aR_c, wI_c, wB_c, wS_c, wZ_c, wJ_c, wR_c, mK_sI, mK_sJ, mK_sR, mK_cpI, mL_sI, mL_sJ, mL_sR, mL_cpI, mI_sI, mI_sJ, mI_sR, mI_cpI, mJ_sI, mJ_sJ, mJ_sR, mJ_cpI, mR_sI, mR_sJ, mR_sR, mR_cpI, i2b_i2b, i2b_sb, iI_lit, iI_add, iI_sub, iI_mul, iI_neg, iI_lt, iI_le, iI_eq, iI_J, lt_T, lt_F, le_T, le_F, eq_T, eq_F, eqN_T, eqN_F, leN_T, leN_F, ltN_T, ltN_F, if_true, if_false, and_true, true_and, and_false, false_and, or_true, true_or, or_false, false_or, not_true_eq_false, not_false_eq_true, and_self, or_self, tn_c, ne_eq, dite_true, dite_false]
  refine w_lpF (fun d x M' => ∃ t : Nat, t + d = (p % 8 + m + 7) / 8 ∧ M' = M ∧ x = (some k, iI p, iI m, iI ((F : Int) + p / 8 + t), iJ (num u (F + p / 8) t), iI ((8 * t : Nat) : Int))) ((p % 8 + m + 7) / 8) (by omega) ⟨0, by omega, rfl, by rw [show ((F : Int) + p / 8 + (0 : Nat)) = (F : Int) + p / 8 by omega, iJ_lit]; rfl⟩ ?_
  rintro g d x M' ⟨t, hd, rfl, rfl⟩ ih
  by_cases c : d = 0
  · have c2 : p % 8 + m ≤ 8 * t := by omega
    have c3 := num_lt2 hu t (F + p / 8)
    have c4 : 2 ^ (8 * t) ≤ 2 ^ 48 := pow_le2 (by omega)
    have e1 : ushJ (iJ (num u (F + p / 8) t)) (iI ((p : Int) % 8)) = iJ ((num u (F + p / 8) t / 2 ^ (p % 8) : Nat) : Int) := by
      rw [show (p : Int) % 8 = ((p % 8 : Nat) : Int) by omega]
      exact ushJ_n (a := num u (F + p / 8) t) (k := p % 8) (by omega) (by omega)
    have e2 : iJ ((num u (F + p / 8) t / 2 ^ (p % 8) : Nat) : Int) &&& (shlJ 1 (iI m) - 1) = iJ (bits u (8 * F + p) m) := by
      rw [iJ_lit, shlJ_i (by omega), iJ_sub, tn_c, Int.one_mul, iJ_and _ m (by omega), p2, ← Int.natCast_emod, num_bits hu m (F + p / 8) t (p % 8) (by omega), show 8 * (F + p / 8) + p % 8 = 8 * F + p by omega]
    simp -implicitDefEqProofs (disch := (first | decide | omega)) only [fX0_bitsFrom_B15, and_7, e1, e2, bo_s, bd_s, bn_s, gI_s, gJ_s, gR_s, pI_s, pZ_s, pJ_s, pR_s, chk_s, chN_s, chN_n, aL_s, aI_c, aJ_c, aR_c, wI_c, wB_c, wS_c, wZ_c, wJ_c, wR_c, mK_sI, mK_sJ, mK_sR, mK_cpI, mL_sI, mL_sJ, mL_sR, mL_cpI, mI_sI, mI_sJ, mI_sR, mI_cpI, mJ_sI, mJ_sJ, mJ_sR, mJ_cpI, mR_sI, mR_sJ, mR_sR, mR_cpI, i2b_i2b, i2b_sb, iI_lit, iI_add, iI_sub, iI_mul, iI_neg, iI_lt, iI_le, iI_eq, iI_J, lt_T, lt_F, le_T, le_F, eq_T, eq_F, eqN_T, eqN_F, leN_T, leN_F, ltN_T, ltN_F, if_true, if_false, and_true, true_and, and_false, false_and, or_true, true_or, or_false, false_or, not_true_eq_false, not_false_eq_true, and_self, or_self, tn_c, ne_eq, dite_true, dite_false]
    exact w_ret ⟨rfl, rfl⟩
  · have c2 : 8 * t < p % 8 + m := by omega
    have e1 := hb.rd (i := (F : Int) + p / 8 + t) (j := F + p / 8 + t) (by omega) (by omega)
    have e2 := sbJ (hu (F + p / 8 + t))
    have e3 := num_or hu (a := F + p / 8) (t := t) (by omega)
    have e4 : (255 : Int64) = iJ 255 := iJ_lit 255
    simp -implicitDefEqProofs (disch := (first | decide | omega)) only [fX0_bitsFrom_B15, fX0_bitsFrom_L58, and_7, h0, h1, g1, g2, e1, e4, e2, e3, bo_s, bd_s, bn_s, gI_s, gJ_s, gR_s, pI_s, pZ_s, pJ_s, pR_s, chk_s, chN_s, chN_n, aL_s, aI_c, aJ_c, aR_c, wI_c, wB_c, wS_c, wZ_c, wJ_c, wR_c, mK_sI, mK_sJ, mK_sR, mK_cpI, mL_sI, mL_sJ, mL_sR, mL_cpI, mI_sI, mI_sJ, mI_sR, mI_cpI, mJ_sI, mJ_sJ, mJ_sR, mJ_cpI, mR_sI, mR_sJ, mR_sR, mR_cpI, i2b_i2b, i2b_sb, iI_lit, iI_add, iI_sub, iI_mul, iI_neg, iI_lt, iI_le, iI_eq, iI_J, lt_T, lt_F, le_T, le_F, eq_T, eq_F, eqN_T, eqN_F, leN_T, leN_F, ltN_T, ltN_F, if_true, if_false, and_true, true_and, and_false, false_and, or_true, true_or, or_false, false_or, not_true_eq_false, not_false_eq_true, and_self, or_self, tn_c, ne_eq, dite_true, dite_false]
    refine ih (d - 1) _ _ (by omega) ⟨t + 1, by omega, rfl, ?_⟩
    rw [show ((F : Int) + p / 8 + (t + 1 : Nat)) = (F : Int) + p / 8 + t + 1 by omega, show ((8 * (t + 1) : Nat) : Int) = ((8 * t : Nat) : Int) + 8 by omega]
theorem take_ok {k F L m : Nat} {z : Int} (h : BK M k b F L z) (hb : BV M b n e u) (hu : ∀ i, u i < 256) (hm : m ≤ 40) (hL : m ≤ L) (he : 8 * F + L ≤ 8 * e) :
    fX0_take (some k) (iI m) M = some (iJ (bits u (8 * F + L - m) m), sI M k 2 (iI ((L - m : Nat) : Int))) := by
  obtain ⟨h0, h1, h2, h3, h4⟩ := h
  have g3 := hb.2.2.1
  have g4 := hb.2.2.2.1
  have hkb : b ≠ k := fun q => by have := hb.1; rw [q] at this; omega
  have hb' : BV (sI M k 2 (iI ((L - m : Nat) : Int))) b n e u := hb.sm (S := fun a j => a = k) (Sm.rf.sI rfl) (by omega)
  have e1 := bitsFrom_ok (M := sI M k 2 (iI ((L - m : Nat) : Int))) (k := k) (F := F) (p := L - m) (m := m) h0 h1 (by simp -implicitDefEqProofs (disch := (first | decide | omega)) only [mK_sI, mK_sJ, mK_sR, mK_cpI, mL_sI, mL_sJ, mL_sR, mL_cpI, mI_sI, mI_sJ, mI_sR, mI_cpI, mJ_sI, mJ_sJ, mJ_sR, mJ_cpI, mR_sI, mR_sJ, mR_sR, mR_cpI, eqN_T, eqN_F, if_true, if_false, and_true, true_and, and_false, false_and, or_true, true_or, or_false, false_or, not_true_eq_false, not_false_eq_true, and_self, or_self, tn_c, ne_eq, dite_true, dite_false]; exact h2) hb' hu hm (by omega)
  rw [show 8 * F + (L - m) = 8 * F + L - m by omega] at e1
  rw [show (((L - m : Nat) : Int)) = (L : Int) - m by omega] at e1 ⊢
  simp -implicitDefEqProofs (disch := (first | decide | omega)) only [fX0_take, h0, h1, h2, h3, e1, bo_s, bd_s, bn_s, gI_s, gJ_s, gR_s, pI_s, pZ_s, pJ_s, pR_s, chk_s, chN_s, chN_n, aL_s, aI_c, aJ_c, aR_c, wI_c, wB_c, wS_c, wZ_c, wJ_c, wR_c, mK_sI, mK_sJ, mK_sR, mK_cpI, mL_sI, mL_sJ, mL_sR, mL_cpI, mI_sI, mI_sJ, mI_sR, mI_cpI, mJ_sI, mJ_sJ, mJ_sR, mJ_cpI, mR_sI, mR_sJ, mR_sR, mR_cpI, i2b_i2b, i2b_sb, iI_lit, iI_add, iI_sub, iI_mul, iI_neg, iI_lt, iI_le, iI_eq, iI_J, lt_T, lt_F, le_T, le_F, eq_T, eq_F, eqN_T, eqN_F, leN_T, leN_F, ltN_T, ltN_F, if_true, if_false, and_true, true_and, and_false, false_and, or_true, true_or, or_false, false_or, not_true_eq_false, not_false_eq_true, and_self, or_self, tn_c, ne_eq, dite_true, dite_false]
theorem take_no {k F L m : Nat} {z : Int} (h : BK M k b F L z) (hm : m ≤ 40) (hL : L < m) :
    fX0_take (some k) (iI m) M = some (iJ 0, sI M k 3 (iI 1)) := by
  obtain ⟨h0, h1, h2, h3, h4⟩ := h
  simp -implicitDefEqProofs (disch := (first | decide | omega)) only [fX0_take, h0, h1, h2, h3, bo_s, bd_s, bn_s, gI_s, gJ_s, gR_s, pI_s, pZ_s, pJ_s, pR_s, chk_s, chN_s, chN_n, aL_s, aI_c, aJ_c, aR_c, wI_c, wB_c, wS_c, wZ_c, wJ_c, wR_c, mK_sI, mK_sJ, mK_sR, mK_cpI, mL_sI, mL_sJ, mL_sR, mL_cpI, mI_sI, mI_sJ, mI_sR, mI_cpI, mJ_sI, mJ_sJ, mJ_sR, mJ_cpI, mR_sI, mR_sJ, mR_sR, mR_cpI, i2b_i2b, i2b_sb, iI_lit, iI_add, iI_sub, iI_mul, iI_neg, iI_lt, iI_le, iI_eq, iI_J, lt_T, lt_F, le_T, le_F, eq_T, eq_F, eqN_T, eqN_F, leN_T, leN_F, ltN_T, ltN_F, if_true, if_false, and_true, true_and, and_false, false_and, or_true, true_or, or_false, false_or, not_true_eq_false, not_false_eq_true, and_self, or_self, tn_c, ne_eq, dite_true, dite_false]
  rfl
theorem look_ok {k F L m : Nat} {z : Int} (h : BK M k b F L z) (hb : BV M b n e u) (hu : ∀ i, u i < 256) (hm : m ≤ 20) (he : 8 * F + L ≤ 8 * e) :
    fX0_look (some k) (iI m) M = some (iI ((bits u (8 * F + L - min m L) (min m L) * 2 ^ (m - min m L) : Nat) : Int), M) := by
  obtain ⟨h0, h1, h2, h3, h4⟩ := h
  have g3 := hb.2.2.1
  have g4 := hb.2.2.2.1
  have e1 := bitsFrom_ok (M := M) (k := k) (F := F) (p := L - min m L) (m := min m L) h0 h1 h2 hb hu (by omega) (by omega)
  rw [show 8 * F + (L - min m L) = 8 * F + L - min m L by omega] at e1
  have e2 := shlJ_n (a := bits u (8 * F + L - min m L) (min m L)) (k := m - min m L) (by omega)
  have e3 := minI_iI (a := (m : Int)) (b := L) (by omega) (by omega)
  rw [show min (m : Int) L = ((min m L : Nat) : Int) by omega] at e3
  have hq1 : min m L ≤ m := by omega
  have hq2 : min m L ≤ L := by omega
  generalize min m L = q at *
  have e4 : ((L - q : Nat) : Int) = (L : Int) - q := by omega
  have e5 : ((m - q : Nat) : Int) = (m : Int) - q := by omega
  rw [e4] at e1
  rw [e5] at e2
  simp -implicitDefEqProofs (disch := (first | decide | omega)) only [fX0_look, h0, h1, h2, h3, e3, e1, e2, iJ_I, bo_s, bd_s, bn_s, gI_s, gJ_s, gR_s, pI_s, pZ_s, pJ_s, pR_s, chk_s, chN_s, chN_n, aL_s, aI_c, aJ_c, aR_c, wI_c, wB_c, wS_c, wZ_c, wJ_c, wR_c, mK_sI, mK_sJ, mK_sR, mK_cpI, mL_sI, mL_sJ, mL_sR, mL_cpI, mI_sI, mI_sJ, mI_sR, mI_cpI, mJ_sI, mJ_sJ, mJ_sR, mJ_cpI, mR_sI, mR_sJ, mR_sR, mR_cpI, i2b_i2b, i2b_sb, iI_lit, iI_add, iI_sub, iI_mul, iI_neg, iI_lt, iI_le, iI_eq, iI_J, lt_T, lt_F, le_T, le_F, eq_T, eq_F, eqN_T, eqN_F, leN_T, leN_F, ltN_T, ltN_F, if_true, if_false, and_true, true_and, and_false, false_and, or_true, true_or, or_false, false_or, not_true_eq_false, not_false_eq_true, and_self, or_self, tn_c, ne_eq, dite_true, dite_false]
theorem begin_no {k r rb rn f g : Nat} (hk : mK M k = 0) (hr : RS M r rb rn) (hb : BV M rb rn e u) (hu : ∀ i, u i < 256) (hg : g ≤ e) (hf : f < 1000000) (h : g ≤ f ∨ u (g - 1) = 0) :
    Wp (fX0_begin (some k) (some r) (iI f) (iI g) M) fun v N => v = iI 0 ∧ Sm (fun a j => a = k) M N ∧ BK N k rb f 0 0 := by
  obtain ⟨r1, r2, r3, r4⟩ := hr
  have g3 := hb.2.2.1
  have g4 := hb.2.2.2.1
  have hkr : k ≠ r := fun q => by rw [q] at hk; omega
  have hkb : k ≠ rb := fun q => by rw [q] at hk; omega
  by_cases c : g ≤ f
  · simp -implicitDefEqProofs (disch := (first | decide | omega)) only [fX0_begin, fX0_begin_L38, hk, r1, r2, rtZ, bo_s, bd_s, bn_s, gI_s, gJ_s, gR_s, pI_s, pZ_s, pJ_s, pR_s, chk_s, chN_s, chN_n, aL_s, aI_c, aJ_c, aR_c, wI_c, wB_c, wS_c, wZ_c, wJ_c, wR_c, mK_sI, mK_sJ, mK_sR, mK_cpI, mL_sI, mL_sJ, mL_sR, mL_cpI, mI_sI, mI_sJ, mI_sR, mI_cpI, mJ_sI, mJ_sJ, mJ_sR, mJ_cpI, mR_sI, mR_sJ, mR_sR, mR_cpI, i2b_i2b, i2b_sb, iI_lit, iI_add, iI_sub, iI_mul, iI_neg, iI_lt, iI_le, iI_eq, iI_J, lt_T, lt_F, le_T, le_F, eq_T, eq_F, eqN_T, eqN_F, leN_T, leN_F, ltN_T, ltN_F, if_true, if_false, and_true, true_and, and_false, false_and, or_true, true_or, or_false, false_or, not_true_eq_false, not_false_eq_true, and_self, or_self, tn_c, ne_eq, dite_true, dite_false]
    refine w_ret ⟨rfl, by (repeat' first | assumption | exact Sm.rf | refine Sm.sI ?_ (by first | omega | rfl) | refine Sm.sR ?_ (by first | omega | rfl) | refine Sm.sJ ?_ (by first | omega | rfl)), ?_⟩
    refine ⟨hk, ?_, ?_, ?_, ?_⟩ <;> simp -implicitDefEqProofs (disch := (first | decide | omega)) only [mK_sI, mK_sJ, mK_sR, mK_cpI, mL_sI, mL_sJ, mL_sR, mL_cpI, mI_sI, mI_sJ, mI_sR, mI_cpI, mJ_sI, mJ_sJ, mJ_sR, mJ_cpI, mR_sI, mR_sJ, mR_sR, mR_cpI, eqN_T, eqN_F, if_true, if_false, and_true, true_and, and_false, false_and, or_true, true_or, or_false, false_or, not_true_eq_false, not_false_eq_true, and_self, or_self, tn_c, ne_eq, dite_true, dite_false] <;> rfl
  · have c2 : u (g - 1) = 0 := by omega
    have hs : Sm (fun a j => a = k) M (sI (sI (sI (sR M k 0 (some rb)) k 1 (iI f)) k 2 (iI 0)) k 3 (iI 0)) := by (repeat' first | assumption | exact Sm.rf | refine Sm.sI ?_ (by first | omega | rfl) | refine Sm.sR ?_ (by first | omega | rfl) | refine Sm.sJ ?_ (by first | omega | rfl))
    have e1 := get_ok (RS.sm ⟨r1, r2, r3, r4⟩ hs (by omega)) ((g : Int) - 1) (by omega) (by omega)
    rw [gB_u ((hb.sm hs (by omega)).rd (i := (g : Int) - 1) (j := g - 1) (by omega) (by omega)) (hu _) (by omega), c2] at e1
    have r1' := (hs.K r).trans r1
    simp -implicitDefEqProofs (disch := (first | decide | omega)) only [fX0_begin, fX0_begin_L38, hk, r1, r2, rtZ, r1', e1, bo_s, bd_s, bn_s, gI_s, gJ_s, gR_s, pI_s, pZ_s, pJ_s, pR_s, chk_s, chN_s, chN_n, aL_s, aI_c, aJ_c, aR_c, wI_c, wB_c, wS_c, wZ_c, wJ_c, wR_c, mK_sI, mK_sJ, mK_sR, mK_cpI, mL_sI, mL_sJ, mL_sR, mL_cpI, mI_sI, mI_sJ, mI_sR, mI_cpI, mJ_sI, mJ_sJ, mJ_sR, mJ_cpI, mR_sI, mR_sJ, mR_sR, mR_cpI, i2b_i2b, i2b_sb, iI_lit, iI_add, iI_sub, iI_mul, iI_neg, iI_lt, iI_le, iI_eq, iI_J, lt_T, lt_F, le_T, le_F, eq_T, eq_F, eqN_T, eqN_F, leN_T, leN_F, ltN_T, ltN_F, if_true, if_false, and_true, true_and, and_false, false_and, or_true, true_or, or_false, false_or, not_true_eq_false, not_false_eq_true, and_self, or_self, tn_c, ne_eq, dite_true, dite_false]
    refine w_ret ⟨rfl, hs, ?_⟩
    refine ⟨hk, ?_, ?_, ?_, ?_⟩ <;> simp -implicitDefEqProofs (disch := (first | decide | omega)) only [mK_sI, mK_sJ, mK_sR, mK_cpI, mL_sI, mL_sJ, mL_sR, mL_cpI, mI_sI, mI_sJ, mI_sR, mI_cpI, mJ_sI, mJ_sJ, mJ_sR, mJ_cpI, mR_sI, mR_sJ, mR_sR, mR_cpI, eqN_T, eqN_F, if_true, if_false, and_true, true_and, and_false, false_and, or_true, true_or, or_false, false_or, not_true_eq_false, not_false_eq_true, and_self, or_self, tn_c, ne_eq, dite_true, dite_false] <;> rfl
theorem begin_ok {k r rb rn f g : Nat} (hk : mK M k = 0) (hr : RS M r rb rn) (hb : BV M rb rn e u) (hu : ∀ i, u i < 256) (hg : g ≤ e) (hf : f < g) (h : u (g - 1) ≠ 0) :
    Wp (fX0_begin (some k) (some r) (iI f) (iI g) M) fun v N => v = iI 1 ∧ Sm (fun a j => a = k) M N ∧ BK N k rb f (8 * (g - 1 - f) + Nat.log2 (u (g - 1))) 0 := by
  obtain ⟨r1, r2, r3, r4⟩ := hr
  have g3 := hb.2.2.1
  have g4 := hb.2.2.2.1
  have hkr : k ≠ r := fun q => by rw [q] at hk; omega
  have hkb : k ≠ rb := fun q => by rw [q] at hk; omega
  have hu' := hu (g - 1)
  have hs : Sm (fun a j => a = k) M (sI (sI (sI (sR M k 0 (some rb)) k 1 (iI f)) k 2 (iI 0)) k 3 (iI 0)) := by (repeat' first | assumption | exact Sm.rf | refine Sm.sI ?_ (by first | omega | rfl) | refine Sm.sR ?_ (by first | omega | rfl) | refine Sm.sJ ?_ (by first | omega | rfl))
  have e1 := get_ok (RS.sm ⟨r1, r2, r3, r4⟩ hs (by omega)) ((g : Int) - 1) (by omega) (by omega)
  rw [gB_u ((hb.sm hs (by omega)).rd (i := (g : Int) - 1) (j := g - 1) (by omega) (by omega)) (hu _) (by omega)] at e1
  have e2 := logOf_ok (M := sI (sI (sI (sR M k 0 (some rb)) k 1 (iI f)) k 2 (iI 0)) k 3 (iI 0)) (u (g - 1)) (by omega)
  have r1' := (hs.K r).trans r1
  simp -implicitDefEqProofs (disch := (first | decide | omega)) only [fX0_begin, fX0_begin_L38, hk, r1, r2, rtZ, r1', e1, e2, bo_s, bd_s, bn_s, gI_s, gJ_s, gR_s, pI_s, pZ_s, pJ_s, pR_s, chk_s, chN_s, chN_n, aL_s, aI_c, aJ_c, aR_c, wI_c, wB_c, wS_c, wZ_c, wJ_c, wR_c, mK_sI, mK_sJ, mK_sR, mK_cpI, mL_sI, mL_sJ, mL_sR, mL_cpI, mI_sI, mI_sJ, mI_sR, mI_cpI, mJ_sI, mJ_sJ, mJ_sR, mJ_cpI, mR_sI, mR_sJ, mR_sR, mR_cpI, i2b_i2b, i2b_sb, iI_lit, iI_add, iI_sub, iI_mul, iI_neg, iI_lt, iI_le, iI_eq, iI_J, lt_T, lt_F, le_T, le_F, eq_T, eq_F, eqN_T, eqN_F, leN_T, leN_F, ltN_T, ltN_F, if_true, if_false, and_true, true_and, and_false, false_and, or_true, true_or, or_false, false_or, not_true_eq_false, not_false_eq_true, and_self, or_self, tn_c, ne_eq, dite_true, dite_false]
  refine w_ret ⟨rfl, hs.sI rfl, ?_⟩
  refine ⟨hk, ?_, ?_, ?_, ?_⟩ <;> simp -implicitDefEqProofs (disch := (first | decide | omega)) only [mK_sI, mK_sJ, mK_sR, mK_cpI, mL_sI, mL_sJ, mL_sR, mL_cpI, mI_sI, mI_sJ, mI_sR, mI_cpI, mJ_sI, mJ_sJ, mJ_sR, mJ_cpI, mR_sI, mR_sJ, mR_sR, mR_cpI, eqN_T, eqN_F, if_true, if_false, and_true, true_and, and_false, false_and, or_true, true_or, or_false, false_or, not_true_eq_false, not_false_eq_true, and_self, or_self, tn_c, ne_eq, dite_true, dite_false]
  refine congrArg iI ?_
  omega
theorem back_ok {o F L m : Nat} {z : Int} (h : RK M o b F L z) (hb : BV M b n e u) (hu : ∀ i, u i < 256) (hm : m ≤ 40) (hL : m ≤ L) (he : 8 * F + L ≤ 8 * e) :
    Wp (fX13_back (some o) (iI m) M) fun v N => v = iJ (bits u (8 * F + L - m) m) ∧ RK N o b F (L - m) z ∧ Sq (fun a j => a = o ∧ j = 11) M N := by
  obtain ⟨h0, h1, h2, h3, h4⟩ := h
  have g3 := hb.2.2.1
  have g4 := hb.2.2.2.1
  have hob : o ≠ b := fun q => by have := hb.1; rw [← q] at this; omega
  simp -implicitDefEqProofs (disch := (first | decide | omega)) only [fX13_back, fX13_back_L20, h0, h3, bo_s, bd_s, bn_s, gI_s, gJ_s, gR_s, pI_s, pZ_s, pJ_s, pR_s, chk_s, chN_s, chN_n, aL_s, aI_c, aJ_c, aR_c, wI_c, wB_c, wS_c, wZ_c, wJ_c, wR_c, mK_sI, mK_sJ, mK_sR, mK_cpI, mL_sI, mL_sJ, mL_sR, mL_cpI, mI_sI, mI_sJ, mI_sR, mI_cpI, mJ_sI, mJ_sJ, mJ_sR, mJ_cpI, mR_sI, mR_sJ, mR_sR, mR_cpI, i2b_i2b, i2b_sb, iI_lit, iI_add, iI_sub, iI_mul, iI_neg, iI_lt, iI_le, iI_eq, iI_J, lt_T, lt_F, le_T, le_F, eq_T, eq_F, eqN_T, eqN_F, leN_T, leN_F, ltN_T, ltN_F, if_true, if_false, and_true, true_and, and_false, false_and, or_true, true_or, or_false, false_or, not_true_eq_false, not_false_eq_true, and_self, or_self, tn_c, ne_eq, dite_true, dite_false]
  refine w_lpF (fun d x M' => ∃ t : Nat, t + d = m ∧ Sq (fun a j => a = o ∧ j = 11) M M' ∧ mI M' o 11 = iI ((L : Int) - t) ∧ x = (some o, iI m, iJ (bits u (8 * F + L - t) t), iI t)) m (by omega) ⟨0, by omega, Sq.rf, by rw [h3]; refine congrArg iI ?_; omega, by rw [iJ_lit]; rfl⟩ ?_
  rintro g d x M' ⟨t, hd, hS, hi, rfl⟩ ih
  have f0 := (hS.K o).trans h0
  have f1 := (hS.R o 6).trans h1
  have f2 := (hS.I o 10 (by omega)).trans h2
  by_cases c : d = 0
  · obtain rfl : t = m := by omega
    simp -implicitDefEqProofs (disch := (first | decide | omega)) only [fX13_back_B20, bo_s, bd_s, bn_s, gI_s, gJ_s, gR_s, pI_s, pZ_s, pJ_s, pR_s, chk_s, chN_s, chN_n, aL_s, aI_c, aJ_c, aR_c, wI_c, wB_c, wS_c, wZ_c, wJ_c, wR_c, mK_sI, mK_sJ, mK_sR, mK_cpI, mL_sI, mL_sJ, mL_sR, mL_cpI, mI_sI, mI_sJ, mI_sR, mI_cpI, mJ_sI, mJ_sJ, mJ_sR, mJ_cpI, mR_sI, mR_sJ, mR_sR, mR_cpI, i2b_i2b, i2b_sb, iI_lit, iI_add, iI_sub, iI_mul, iI_neg, iI_lt, iI_le, iI_eq, iI_J, lt_T, lt_F, le_T, le_F, eq_T, eq_F, eqN_T, eqN_F, leN_T, leN_F, ltN_T, ltN_F, if_true, if_false, and_true, true_and, and_false, false_and, or_true, true_or, or_false, false_or, not_true_eq_false, not_false_eq_true, and_self, or_self, tn_c, ne_eq, dite_true, dite_false]
    refine w_ret ⟨rfl, ⟨f0, f1, f2, ?_, (hS.I o 9 (by omega)).trans h4⟩, hS⟩
    rw [hi]
    refine congrArg iI ?_
    omega
  · have hS2 : Sq (fun a j => a = o ∧ j = 11) M (sI M' o 11 (iI ((L : Int) - t - 1))) := hS.sI ⟨rfl, rfl⟩
    have f3 := hb.sm hS.sm (by omega)
    have f4 := f3.1
    have f5 := f3.2.1
    have e1 := f3.rd (i := (F : Int) + ((L : Int) - t - 1) / 8) (j := (8 * F + L - (t + 1)) / 8) (by omega) (by omega)
    have e2 := bt_i hu (p := 8 * F + L - (t + 1)) (e := 8 * F + ((L : Int) - t - 1)) (by omega)
    rw [show (8 * F + ((L : Int) - t - 1)) % 8 = ((L : Int) - t - 1) % 8 by omega] at e2
    have e3 : shlJ (iJ (bits u (8 * F + L - t) t)) (iI 1) ||| iJ (bt u (8 * F + L - (t + 1))) = iJ (bits u (8 * F + L - (t + 1)) (t + 1)) := by
      have := bt_lt u (8 * F + L - (t + 1))
      rw [shlJ_i (by omega), show Int.toNat 1 = 1 from rfl, iJ_or (k := 1) _ (by omega) (by omega), bits, show 8 * F + L - (t + 1) + 1 = 8 * F + L - t by omega]
      refine congrArg iJ ?_
      show _ * 2 + _ = _
      omega
    have e4 := iI_J (a := (bt u (8 * F + L - (t + 1)) : Int)) (by have := bt_lt u (8 * F + L - (t + 1)); omega)
    simp -implicitDefEqProofs (disch := (first | decide | omega)) only [fX13_back_B20, f0, f1, f2, hi, f4, f5, shr_3, and_7, e1, e2, e4, e3, bo_s, bd_s, bn_s, gI_s, gJ_s, gR_s, pI_s, pZ_s, pJ_s, pR_s, chk_s, chN_s, chN_n, aL_s, aI_c, aJ_c, aR_c, wI_c, wB_c, wS_c, wZ_c, wJ_c, wR_c, mK_sI, mK_sJ, mK_sR, mK_cpI, mL_sI, mL_sJ, mL_sR, mL_cpI, mI_sI, mI_sJ, mI_sR, mI_cpI, mJ_sI, mJ_sJ, mJ_sR, mJ_cpI, mR_sI, mR_sJ, mR_sR, mR_cpI, i2b_i2b, i2b_sb, iI_lit, iI_add, iI_sub, iI_mul, iI_neg, iI_lt, iI_le, iI_eq, iI_J, lt_T, lt_F, le_T, le_F, eq_T, eq_F, eqN_T, eqN_F, leN_T, leN_F, ltN_T, ltN_F, if_true, if_false, and_true, true_and, and_false, false_and, or_true, true_or, or_false, false_or, not_true_eq_false, not_false_eq_true, and_self, or_self, tn_c, ne_eq, dite_true, dite_false]
    refine ih (d - 1) _ _ (by omega) ⟨t + 1, by omega, hS2, ?_, rfl⟩
    simp -implicitDefEqProofs (disch := (first | decide | omega)) only [mK_sI, mK_sJ, mK_sR, mK_cpI, mL_sI, mL_sJ, mL_sR, mL_cpI, mI_sI, mI_sJ, mI_sR, mI_cpI, mJ_sI, mJ_sJ, mJ_sR, mJ_cpI, mR_sI, mR_sJ, mR_sR, mR_cpI, eqN_T, eqN_F, if_true, if_false, and_true, true_and, and_false, false_and, or_true, true_or, or_false, false_or, not_true_eq_false, not_false_eq_true, and_self, or_self, tn_c, ne_eq, dite_true, dite_false]
    refine congrArg iI ?_
    omega
theorem back_no {o F L m : Nat} {z : Int} (h : RK M o b F L z) (hm : m ≤ 40) (hL : L < m) :
    fX13_back (some o) (iI m) M = some (iJ 0, sI M o 9 (iI 1)) := by
  obtain ⟨h0, h1, h2, h3, h4⟩ := h
  simp -implicitDefEqProofs (disch := (first | decide | omega)) only [fX13_back, h0, h3, bo_s, bd_s, bn_s, gI_s, gJ_s, gR_s, pI_s, pZ_s, pJ_s, pR_s, chk_s, chN_s, chN_n, aL_s, aI_c, aJ_c, aR_c, wI_c, wB_c, wS_c, wZ_c, wJ_c, wR_c, mK_sI, mK_sJ, mK_sR, mK_cpI, mL_sI, mL_sJ, mL_sR, mL_cpI, mI_sI, mI_sJ, mI_sR, mI_cpI, mJ_sI, mJ_sJ, mJ_sR, mJ_cpI, mR_sI, mR_sJ, mR_sR, mR_cpI, i2b_i2b, i2b_sb, iI_lit, iI_add, iI_sub, iI_mul, iI_neg, iI_lt, iI_le, iI_eq, iI_J, lt_T, lt_F, le_T, le_F, eq_T, eq_F, eqN_T, eqN_F, leN_T, leN_F, ltN_T, ltN_F, if_true, if_false, and_true, true_and, and_false, false_and, or_true, true_or, or_false, false_or, not_true_eq_false, not_false_eq_true, and_self, or_self, tn_c, ne_eq, dite_true, dite_false]
  rfl
theorem reversed_no {o f g : Nat} (h0 : mK M o = 13) (h1 : mR M o 6 = some b) (hb : BV M b n e u) (hu : ∀ i, u i < 256) (hg : g ≤ e) (hf : f < 1000000) (h : g ≤ f ∨ u (g - 1) = 0) :
    Wp (fX13_reversed (some o) (iI f) (iI g) M) fun v N => v = iI 0 ∧ Sq (fun a j => a = o ∧ (j = 9 ∨ j = 10 ∨ j = 11)) M N ∧ RK N o b f 0 (mI M o 9).toInt := by
  have g1 := hb.1
  have g2 := hb.2.1
  have g3 := hb.2.2.1
  have g4 := hb.2.2.2.1
  have hob : o ≠ b := fun q => by rw [q] at h0; omega
  have h9 : mI M o 9 = iI (mI M o 9).toInt := iI_of _
  by_cases c : g ≤ f
  · simp -implicitDefEqProofs (disch := (first | decide | omega)) only [fX13_reversed, fX13_reversed_L26, h0, rtZ, bo_s, bd_s, bn_s, gI_s, gJ_s, gR_s, pI_s, pZ_s, pJ_s, pR_s, chk_s, chN_s, chN_n, aL_s, aI_c, aJ_c, aR_c, wI_c, wB_c, wS_c, wZ_c, wJ_c, wR_c, mK_sI, mK_sJ, mK_sR, mK_cpI, mL_sI, mL_sJ, mL_sR, mL_cpI, mI_sI, mI_sJ, mI_sR, mI_cpI, mJ_sI, mJ_sJ, mJ_sR, mJ_cpI, mR_sI, mR_sJ, mR_sR, mR_cpI, i2b_i2b, i2b_sb, iI_lit, iI_add, iI_sub, iI_mul, iI_neg, iI_lt, iI_le, iI_eq, iI_J, lt_T, lt_F, le_T, le_F, eq_T, eq_F, eqN_T, eqN_F, leN_T, leN_F, ltN_T, ltN_F, if_true, if_false, and_true, true_and, and_false, false_and, or_true, true_or, or_false, false_or, not_true_eq_false, not_false_eq_true, and_self, or_self, tn_c, ne_eq, dite_true, dite_false]
    refine w_ret ⟨rfl, (Sq.rf.sI ⟨rfl, by omega⟩).sI ⟨rfl, by omega⟩, h0, h1, ?_, ?_, ?_⟩ <;> simp -implicitDefEqProofs (disch := (first | decide | omega)) only [mK_sI, mK_sJ, mK_sR, mK_cpI, mL_sI, mL_sJ, mL_sR, mL_cpI, mI_sI, mI_sJ, mI_sR, mI_cpI, mJ_sI, mJ_sJ, mJ_sR, mJ_cpI, mR_sI, mR_sJ, mR_sR, mR_cpI, eqN_T, eqN_F, if_true, if_false, and_true, true_and, and_false, false_and, or_true, true_or, or_false, false_or, not_true_eq_false, not_false_eq_true, and_self, or_self, tn_c, ne_eq, dite_true, dite_false]
    · rfl
    · exact h9
  · have c2 : u (g - 1) = 0 := by omega
    have e1 := hb.rd (i := (g : Int) - 1) (j := g - 1) (by omega) (by omega)
    rw [c2, show sb 0 = iI 0 from rfl] at e1
    simp -implicitDefEqProofs (disch := (first | decide | omega)) only [fX13_reversed, fX13_reversed_L26, h0, h1, g1, g2, rtZ, e1, bo_s, bd_s, bn_s, gI_s, gJ_s, gR_s, pI_s, pZ_s, pJ_s, pR_s, chk_s, chN_s, chN_n, aL_s, aI_c, aJ_c, aR_c, wI_c, wB_c, wS_c, wZ_c, wJ_c, wR_c, mK_sI, mK_sJ, mK_sR, mK_cpI, mL_sI, mL_sJ, mL_sR, mL_cpI, mI_sI, mI_sJ, mI_sR, mI_cpI, mJ_sI, mJ_sJ, mJ_sR, mJ_cpI, mR_sI, mR_sJ, mR_sR, mR_cpI, i2b_i2b, i2b_sb, iI_lit, iI_add, iI_sub, iI_mul, iI_neg, iI_lt, iI_le, iI_eq, iI_J, lt_T, lt_F, le_T, le_F, eq_T, eq_F, eqN_T, eqN_F, leN_T, leN_F, ltN_T, ltN_F, if_true, if_false, and_true, true_and, and_false, false_and, or_true, true_or, or_false, false_or, not_true_eq_false, not_false_eq_true, and_self, or_self, tn_c, ne_eq, dite_true, dite_false]
    refine w_ret ⟨rfl, (Sq.rf.sI ⟨rfl, by omega⟩).sI ⟨rfl, by omega⟩, h0, h1, ?_, ?_, ?_⟩ <;> simp -implicitDefEqProofs (disch := (first | decide | omega)) only [mK_sI, mK_sJ, mK_sR, mK_cpI, mL_sI, mL_sJ, mL_sR, mL_cpI, mI_sI, mI_sJ, mI_sR, mI_cpI, mJ_sI, mJ_sJ, mJ_sR, mJ_cpI, mR_sI, mR_sJ, mR_sR, mR_cpI, eqN_T, eqN_F, if_true, if_false, and_true, true_and, and_false, false_and, or_true, true_or, or_false, false_or, not_true_eq_false, not_false_eq_true, and_self, or_self, tn_c, ne_eq, dite_true, dite_false]
    · rfl
    · exact h9
theorem reversed_ok {o f g : Nat} (h0 : mK M o = 13) (h1 : mR M o 6 = some b) (hb : BV M b n e u) (hu : ∀ i, u i < 256) (hg : g ≤ e) (hf : f < g) (h : u (g - 1) ≠ 0) :
    Wp (fX13_reversed (some o) (iI f) (iI g) M) fun v N => v = iI 1 ∧ Sq (fun a j => a = o ∧ (j = 9 ∨ j = 10 ∨ j = 11)) M N ∧ RK N o b f (8 * (g - 1 - f) + Nat.log2 (u (g - 1))) 0 := by
  have g1 := hb.1
  have g2 := hb.2.1
  have g3 := hb.2.2.1
  have g4 := hb.2.2.2.1
  have hob : o ≠ b := fun q => by rw [q] at h0; omega
  have hu' := hu (g - 1)
  have e1 := hb.rd (i := (g : Int) - 1) (j := g - 1) (by omega) (by omega)
  have e2 : (sb (u (g - 1)) = iI 0) = False := by
    refine eq_false fun q => h ?_
    have := sb_and hu'
    rw [q, and_255, iI_eq (by omega) (by omega)] at this
    omega
  have e3 := sb_and hu'
  have e4 := log_ok (M := sI (sI M o 10 (iI f)) o 11 (iI 0)) (u (g - 1)) (by omega)
  simp -implicitDefEqProofs (disch := (first | decide | omega)) only [fX13_reversed, fX13_reversed_L26, h0, h1, g1, g2, rtZ, e1, e2, e3, e4, bo_s, bd_s, bn_s, gI_s, gJ_s, gR_s, pI_s, pZ_s, pJ_s, pR_s, chk_s, chN_s, chN_n, aL_s, aI_c, aJ_c, aR_c, wI_c, wB_c, wS_c, wZ_c, wJ_c, wR_c, mK_sI, mK_sJ, mK_sR, mK_cpI, mL_sI, mL_sJ, mL_sR, mL_cpI, mI_sI, mI_sJ, mI_sR, mI_cpI, mJ_sI, mJ_sJ, mJ_sR, mJ_cpI, mR_sI, mR_sJ, mR_sR, mR_cpI, i2b_i2b, i2b_sb, iI_lit, iI_add, iI_sub, iI_mul, iI_neg, iI_lt, iI_le, iI_eq, iI_J, lt_T, lt_F, le_T, le_F, eq_T, eq_F, eqN_T, eqN_F, leN_T, leN_F, ltN_T, ltN_F, if_true, if_false, and_true, true_and, and_false, false_and, or_true, true_or, or_false, false_or, not_true_eq_false, not_false_eq_true, and_self, or_self, tn_c, ne_eq, dite_true, dite_false]
  refine w_ret ⟨rfl, (((Sq.rf.sI ⟨rfl, by omega⟩).sI ⟨rfl, by omega⟩).sI ⟨rfl, by omega⟩).sI ⟨rfl, by omega⟩, h0, h1, ?_, ?_, ?_⟩ <;> simp -implicitDefEqProofs (disch := (first | decide | omega)) only [mK_sI, mK_sJ, mK_sR, mK_cpI, mL_sI, mL_sJ, mL_sR, mL_cpI, mI_sI, mI_sJ, mI_sR, mI_cpI, mJ_sI, mJ_sJ, mJ_sR, mJ_cpI, mR_sI, mR_sJ, mR_sR, mR_cpI, eqN_T, eqN_F, if_true, if_false, and_true, true_and, and_false, false_and, or_true, true_or, or_false, false_or, not_true_eq_false, not_false_eq_true, and_self, or_self, tn_c, ne_eq, dite_true, dite_false]
  refine congrArg iI ?_
  omega
end BACK
