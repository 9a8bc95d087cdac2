/-! counts as they are told -/
def bz {β : Type} (o : Option (Nat × Nat)) (F : Nat → Nat → Option β) : Option β := match o with
  | none => none
  | some x => F x.1 x.2
theorem bz_s {β : Type} (a b : Nat) (F : Nat → Nat → Option β) : bz (some (a, b)) F = F a b := rfl
theorem bz_n {β : Type} (F : Nat → Nat → Option β) : bz none F = none := rfl
def few (r : Nat) : Nat := 2 ^ (Nat.log2 (r + 1) + 1) - 2 - r
def rdC (u : Nat → Nat) (q r p : Nat) : Option (Nat × Nat) :=
  if q < p + Nat.log2 (r + 1) then none else
  if bits u p (Nat.log2 (r + 1)) < few r then some (bits u p (Nat.log2 (r + 1)), p + Nat.log2 (r + 1)) else
  if q < p + Nat.log2 (r + 1) + 1 then none else
  some (bits u p (Nat.log2 (r + 1)) + (if bt u (p + Nat.log2 (r + 1)) = 1 then 2 ^ Nat.log2 (r + 1) - few r else 0), p + Nat.log2 (r + 1) + 1)
def rdZ (u : Nat → Nat) (q : Nat) : Nat → Nat → Nat → Option (Nat × Nat)
  | 0, _, _ => none
  | k + 1, s, p => if q < p + 2 then none else if bits u p 2 = 3 then rdZ u q k (s + 3) (p + 2) else some (s + bits u p 2, p + 2)
def up (c : Nat → Int) (s : Nat) (x : Int) (i : Nat) : Int := if i = s then x else c i
def rdL (u : Nat → Nat) (q gr : Nat) : Nat → Nat → Nat → Nat → (Nat → Int) → Option (Nat × Nat × (Nat → Int))
  | 0, _, _, _, _ => none
  | k + 1, r, s, p, c => if r = 0 then some (p, s, c) else if gr < s then none else
    bz (rdC u q r p) fun v p' => if r + 1 < v then none else if v = 1 then bz (rdZ u q q (s + 1) p') fun s' p'' => rdL u q gr k r s' p'' c else
      rdL u q gr k (r - if v = 0 then 1 else v - 1) (s + 1) p' (up c s ((v : Int) - 1))
theorem few_le {r : Nat} (hr : r < 1000) : few r + 1 ≤ 2 ^ Nat.log2 (r + 1) ∧ (few r : Int) = 2 ^ (Nat.log2 (r + 1) + 1) - 2 - r ∧ Nat.log2 (r + 1) ≤ 9 ∧ 2 ^ Nat.log2 (r + 1) ≤ 1000 := by
  have h1 := log2_l (a := r + 1) (by omega)
  have h2 := log2_u (r + 1)
  have h3 : Nat.log2 (r + 1) < 10 := pow_lt2 (b := 10) (by omega)
  rw [p2]
  unfold few
  rw [Nat.pow_succ] at *
  omega
theorem rdC_v {u : Nat → Nat} {q r p v p' : Nat} (hr : r < 1000) (h : rdC u q r p = some (v, p')) : v < 2000 ∧ p < p' + 1 ∧ p' ≤ q := by
  have hf := few_le hr
  have hb := bits_lt u (Nat.log2 (r + 1)) p
  unfold rdC at h
  split at h
  · cases h
  · split at h
    · cases h; omega
    · split at h
      · cases h
      · cases h
        split <;> omega
theorem rdZ_ge {u : Nat → Nat} {q : Nat} : ∀ {j s p s' p'}, rdZ u q j s p = some (s', p') → s ≤ s' := by
  intro j
  induction j with
  | zero => intro s p s' p' h; cases h
  | succ j ih =>
    intro s p s' p' h
    rw [rdZ] at h
    split at h
    · cases h
    · split at h
      · have := ih h; omega
      · cases h; omega
theorem rdL_gt {u : Nat → Nat} {q gr k r s p : Nat} {c : Nat → Int} (hr : 0 < r) (hs : gr < s) : rdL u q gr k r s p c = none := by
  cases k with
  | zero => rfl
  | succ k => rw [rdL, if_neg (by omega), if_pos hs]
theorem rdZ_gt {u : Nat → Nat} {q gr k r j s p : Nat} {c : Nat → Int} (hr : 0 < r) (hs : gr < s) : (bz (rdZ u q j s p) fun s' p'' => rdL u q gr k r s' p'' c) = none := by
  cases h : rdZ u q j s p with
  | none => rfl
  | some x =>
    have := rdZ_ge (s' := x.1) (p' := x.2) h
    exact rdL_gt hr (by omega)
section CLASS
variable {M : Mem} {b n e t p q : Nat} {u : Nat → Nat}
theorem takeCount_ok {r v p' : Nat} (h0 : mK M t = 10) (h1 : mR M t 5 = some b) (h2 : mI M t 6 = iI p) (h3 : mI M t 7 = iI q) (hb : BV M b n e u) (hu : ∀ i, u i < 256) (hq : q ≤ 8 * e) (hr : r < 1000) (hC : rdC u q r p = some (v, p')) :
    Wp (fX10_takeCount (some t) (iI r) M) fun x N => x = iI ((v : Int) - 1) ∧ Sm (fun a j => a = t ∧ j = 6) M N ∧ mI N t 6 = iI p' := by
  obtain ⟨f1, f2, f3, f4⟩ := few_le hr
  have g3 := hb.2.2.1
  have g4 := hb.2.2.2.1
  have el := logOf_ok (M := M) (r + 1) (by omega)
  rw [show ((r + 1 : Nat) : Int) = (r : Int) + 1 by omega] at el
  have hbt : t ≠ b := fun e => by have := hb.1; rw [← e] at this; omega
  have hv := bits_lt u (Nat.log2 (r + 1)) p
  unfold rdC at hC
  generalize Nat.log2 (r + 1) = m at *
  have es : shlI (iI 1) (iI ((m : Int) + 1)) = iI (2 ^ (m + 1)) := by
    have := shl_n (a := 1) (k := m + 1) (by omega)
    rwa [Nat.one_mul, ← p2] at this
  have es2 : shlI (iI 1) (iI ((m : Int) + 1 - 1)) = iI ((2 ^ m : Nat) : Int) := by
    have := shl_n (a := 1) (k := m) (by omega)
    rwa [Nat.one_mul, show (m : Int) = (m : Int) + 1 - 1 by omega] at this
  have f2s := f2.symm
  by_cases c1 : q < p + m
  · rw [if_pos c1] at hC; cases hC
  · rw [if_neg c1] at hC
    have et := takeBits_ok h0 h1 h2 h3 hb hu hq m (by omega) (by omega)
    rw [show (m : Int) = (m : Int) + 1 - 1 by omega] at et
    have hS : Sm (fun a j => a = t ∧ j = 6) M (sI M t 6 (iI ((p : Int) + ((m : Int) + 1 - 1)))) := Sm.rf.sI ⟨rfl, rfl⟩
    by_cases c2 : bits u p m < few r
    · rw [if_pos c2] at hC
      cases hC
      simp -implicitDefEqProofs (disch := (first | decide | omega)) only [fX10_takeCount, fX10_takeCount_L54, el, es, f2s, h0, et, bo_s, bd_s, bn_s, gI_s, gJ_s, gR_s, pI_s, pZ_s, pJ_s, pR_s, chk_s, chN_s, chN_n, aL_s, aI_c, aJ_c, aR_c, wI_c, wB_c, wS_c, wZ_c, wJ_c, wR_c, mK_sI, mK_sJ, mK_sR, mK_cpI, mL_sI, mL_sJ, mL_sR, mL_cpI, mI_sI, mI_sJ, mI_sR, mI_cpI, mJ_sI, mJ_sJ, mJ_sR, mJ_cpI, mR_sI, mR_sJ, mR_sR, mR_cpI, i2b_i2b, i2b_sb, iI_lit, iI_add, iI_sub, iI_mul, iI_neg, iI_lt, iI_le, iI_eq, iI_J, lt_T, lt_F, le_T, le_F, eq_T, eq_F, eqN_T, eqN_F, leN_T, leN_F, ltN_T, ltN_F, if_true, if_false, and_true, true_and, and_false, false_and, or_true, true_or, or_false, false_or, not_true_eq_false, not_false_eq_true, and_self, or_self, tn_c, ne_eq, dite_true, dite_false]
      refine w_ret ⟨rfl, hS, ?_⟩
      simp -implicitDefEqProofs (disch := (first | decide | omega)) only [mK_sI, mK_sJ, mK_sR, mK_cpI, mL_sI, mL_sJ, mL_sR, mL_cpI, mI_sI, mI_sJ, mI_sR, mI_cpI, mJ_sI, mJ_sJ, mJ_sR, mJ_cpI, mR_sI, mR_sJ, mR_sR, mR_cpI, eqN_T, eqN_F, if_true, if_false, and_true, true_and, and_false, false_and, or_true, true_or, or_false, false_or, not_true_eq_false, not_false_eq_true, and_self, or_self, tn_c, ne_eq, dite_true, dite_false]
      refine congrArg iI ?_
      omega
    · rw [if_neg c2] at hC
      by_cases c3 : q < p + m + 1
      · rw [if_pos c3] at hC; cases hC
      · rw [if_neg c3] at hC
        cases hC
        have et2 := takeBits_ok (M := sI M t 6 (iI ((p : Int) + ((m : Int) + 1 - 1)))) (p := p + m) h0 h1 (by simp -implicitDefEqProofs (disch := (first | decide | omega)) only [mK_sI, mK_sJ, mK_sR, mK_cpI, mL_sI, mL_sJ, mL_sR, mL_cpI, mI_sI, mI_sJ, mI_sR, mI_cpI, mJ_sI, mJ_sJ, mJ_sR, mJ_cpI, mR_sI, mR_sJ, mR_sR, mR_cpI, eqN_T, eqN_F, if_true, if_false, and_true, true_and, and_false, false_and, or_true, true_or, or_false, false_or, not_true_eq_false, not_false_eq_true, and_self, or_self, tn_c, ne_eq, dite_true, dite_false]; refine congrArg iI ?_; omega) (by simp -implicitDefEqProofs (disch := (first | decide | omega)) only [mK_sI, mK_sJ, mK_sR, mK_cpI, mL_sI, mL_sJ, mL_sR, mL_cpI, mI_sI, mI_sJ, mI_sR, mI_cpI, mJ_sI, mJ_sJ, mJ_sR, mJ_cpI, mR_sI, mR_sJ, mR_sR, mR_cpI, eqN_T, eqN_F, if_true, if_false, and_true, true_and, and_false, false_and, or_true, true_or, or_false, false_or, not_true_eq_false, not_false_eq_true, and_self, or_self, tn_c, ne_eq, dite_true, dite_false]; exact h3) (hb.sm hS (by omega)) hu hq 1 (by omega) (by omega)
        have hbt := bt_lt u (p + m)
        rw [show bits u (p + m) 1 = bt u (p + m) by rw [bits, bits]; rfl, show ((1 : Nat) : Int) = 1 from rfl] at et2
        by_cases c4 : bt u (p + m) = 1
        · rw [c4] at et2
          simp -implicitDefEqProofs (disch := (first | decide | omega)) only [fX10_takeCount, fX10_takeCount_L54, el, es, es2, f2s, h0, et, et2, bo_s, bd_s, bn_s, gI_s, gJ_s, gR_s, pI_s, pZ_s, pJ_s, pR_s, chk_s, chN_s, chN_n, aL_s, aI_c, aJ_c, aR_c, wI_c, wB_c, wS_c, wZ_c, wJ_c, wR_c, mK_sI, mK_sJ, mK_sR, mK_cpI, mL_sI, mL_sJ, mL_sR, mL_cpI, mI_sI, mI_sJ, mI_sR, mI_cpI, mJ_sI, mJ_sJ, mJ_sR, mJ_cpI, mR_sI, mR_sJ, mR_sR, mR_cpI, i2b_i2b, i2b_sb, iI_lit, iI_add, iI_sub, iI_mul, iI_neg, iI_lt, iI_le, iI_eq, iI_J, lt_T, lt_F, le_T, le_F, eq_T, eq_F, eqN_T, eqN_F, leN_T, leN_F, ltN_T, ltN_F, if_true, if_false, and_true, true_and, and_false, false_and, or_true, true_or, or_false, false_or, not_true_eq_false, not_false_eq_true, and_self, or_self, tn_c, ne_eq, dite_true, dite_false]
          refine w_ret ⟨?_, hS.sI ⟨rfl, rfl⟩, ?_⟩
          · refine congrArg iI ?_
            omega
          · simp -implicitDefEqProofs (disch := (first | decide | omega)) only [mK_sI, mK_sJ, mK_sR, mK_cpI, mL_sI, mL_sJ, mL_sR, mL_cpI, mI_sI, mI_sJ, mI_sR, mI_cpI, mJ_sI, mJ_sJ, mJ_sR, mJ_cpI, mR_sI, mR_sJ, mR_sR, mR_cpI, eqN_T, eqN_F, if_true, if_false, and_true, true_and, and_false, false_and, or_true, true_or, or_false, false_or, not_true_eq_false, not_false_eq_true, and_self, or_self, tn_c, ne_eq, dite_true, dite_false]
            refine congrArg iI ?_
            omega
        · simp -implicitDefEqProofs (disch := (first | decide | omega)) only [fX10_takeCount, fX10_takeCount_L54, el, es, es2, f2s, h0, et, et2, bo_s, bd_s, bn_s, gI_s, gJ_s, gR_s, pI_s, pZ_s, pJ_s, pR_s, chk_s, chN_s, chN_n, aL_s, aI_c, aJ_c, aR_c, wI_c, wB_c, wS_c, wZ_c, wJ_c, wR_c, mK_sI, mK_sJ, mK_sR, mK_cpI, mL_sI, mL_sJ, mL_sR, mL_cpI, mI_sI, mI_sJ, mI_sR, mI_cpI, mJ_sI, mJ_sJ, mJ_sR, mJ_cpI, mR_sI, mR_sJ, mR_sR, mR_cpI, i2b_i2b, i2b_sb, iI_lit, iI_add, iI_sub, iI_mul, iI_neg, iI_lt, iI_le, iI_eq, iI_J, lt_T, lt_F, le_T, le_F, eq_T, eq_F, eqN_T, eqN_F, leN_T, leN_F, ltN_T, ltN_F, if_true, if_false, and_true, true_and, and_false, false_and, or_true, true_or, or_false, false_or, not_true_eq_false, not_false_eq_true, and_self, or_self, tn_c, ne_eq, dite_true, dite_false]
          refine w_ret ⟨?_, hS.sI ⟨rfl, rfl⟩, ?_⟩
          · refine congrArg iI ?_
            omega
          · simp -implicitDefEqProofs (disch := (first | decide | omega)) only [mK_sI, mK_sJ, mK_sR, mK_cpI, mL_sI, mL_sJ, mL_sR, mL_cpI, mI_sI, mI_sJ, mI_sR, mI_cpI, mJ_sI, mJ_sJ, mJ_sR, mJ_cpI, mR_sI, mR_sJ, mR_sR, mR_cpI, eqN_T, eqN_F, if_true, if_false, and_true, true_and, and_false, false_and, or_true, true_or, or_false, false_or, not_true_eq_false, not_false_eq_true, and_self, or_self, tn_c, ne_eq, dite_true, dite_false]
            refine congrArg iI ?_
            omega
theorem takeCount_no {r : Nat} (h0 : mK M t = 10) (h1 : mR M t 5 = some b) (h2 : mI M t 6 = iI p) (h3 : mI M t 7 = iI q) (hb : BV M b n e u) (hu : ∀ i, u i < 256) (hq : q ≤ 8 * e) (hp : p ≤ q) (hr : r < 1000) (hC : rdC u q r p = none) :
    Wp (fX10_takeCount (some t) (iI r) M) fun x N => Sm (fun a j => a = t ∧ (j = 6 ∨ j = 8)) M N ∧ mI N t 8 = iI 1 := by
  obtain ⟨f1, f2, f3, f4⟩ := few_le hr
  have g3 := hb.2.2.1
  have g4 := hb.2.2.2.1
  have el := logOf_ok (M := M) (r + 1) (by omega)
  rw [show ((r + 1 : Nat) : Int) = (r : Int) + 1 by omega] at el
  have hbt : t ≠ b := fun e => by have := hb.1; rw [← e] at this; omega
  have hv := bits_lt u (Nat.log2 (r + 1)) p
  unfold rdC at hC
  generalize Nat.log2 (r + 1) = m at *
  have es : shlI (iI 1) (iI ((m : Int) + 1)) = iI (2 ^ (m + 1)) := by
    have := shl_n (a := 1) (k := m + 1) (by omega)
    rwa [Nat.one_mul, ← p2] at this
  have es2 : shlI (iI 1) (iI ((m : Int) + 1 - 1)) = iI ((2 ^ m : Nat) : Int) := by
    have := shl_n (a := 1) (k := m) (by omega)
    rwa [Nat.one_mul, show (m : Int) = (m : Int) + 1 - 1 by omega] at this
  have f2s := f2.symm
  by_cases c1 : q < p + m
  · have et := takeBits_no h0 h2 h3 m (by omega) (by omega) (by omega) (by omega)
    rw [show (m : Int) = (m : Int) + 1 - 1 by omega] at et
    have hS : Sm (fun a j => a = t ∧ (j = 6 ∨ j = 8)) M (sI M t 8 (iI 1)) := Sm.rf.sI ⟨rfl, Or.inr rfl⟩
    by_cases c2 : 0 < few r
    · simp -implicitDefEqProofs (disch := (first | decide | omega)) only [fX10_takeCount, fX10_takeCount_L54, el, es, f2s, h0, et, bo_s, bd_s, bn_s, gI_s, gJ_s, gR_s, pI_s, pZ_s, pJ_s, pR_s, chk_s, chN_s, chN_n, aL_s, aI_c, aJ_c, aR_c, wI_c, wB_c, wS_c, wZ_c, wJ_c, wR_c, mK_sI, mK_sJ, mK_sR, mK_cpI, mL_sI, mL_sJ, mL_sR, mL_cpI, mI_sI, mI_sJ, mI_sR, mI_cpI, mJ_sI, mJ_sJ, mJ_sR, mJ_cpI, mR_sI, mR_sJ, mR_sR, mR_cpI, i2b_i2b, i2b_sb, iI_lit, iI_add, iI_sub, iI_mul, iI_neg, iI_lt, iI_le, iI_eq, iI_J, lt_T, lt_F, le_T, le_F, eq_T, eq_F, eqN_T, eqN_F, leN_T, leN_F, ltN_T, ltN_F, if_true, if_false, and_true, true_and, and_false, false_and, or_true, true_or, or_false, false_or, not_true_eq_false, not_false_eq_true, and_self, or_self, tn_c, ne_eq, dite_true, dite_false]
      refine w_ret ⟨hS, ?_⟩
      simp -implicitDefEqProofs (disch := (first | decide | omega)) only [mK_sI, mK_sJ, mK_sR, mK_cpI, mL_sI, mL_sJ, mL_sR, mL_cpI, mI_sI, mI_sJ, mI_sR, mI_cpI, mJ_sI, mJ_sJ, mJ_sR, mJ_cpI, mR_sI, mR_sJ, mR_sR, mR_cpI, eqN_T, eqN_F, if_true, if_false, and_true, true_and, and_false, false_and, or_true, true_or, or_false, false_or, not_true_eq_false, not_false_eq_true, and_self, or_self, tn_c, ne_eq, dite_true, dite_false]
    · by_cases c3 : p + 1 ≤ q
      · have et2 := takeBits_ok (M := sI M t 8 (iI 1)) (p := p) h0 h1 (by simp -implicitDefEqProofs (disch := (first | decide | omega)) only [mK_sI, mK_sJ, mK_sR, mK_cpI, mL_sI, mL_sJ, mL_sR, mL_cpI, mI_sI, mI_sJ, mI_sR, mI_cpI, mJ_sI, mJ_sJ, mJ_sR, mJ_cpI, mR_sI, mR_sJ, mR_sR, mR_cpI, eqN_T, eqN_F, if_true, if_false, and_true, true_and, and_false, false_and, or_true, true_or, or_false, false_or, not_true_eq_false, not_false_eq_true, and_self, or_self, tn_c, ne_eq, dite_true, dite_false]; exact h2) (by simp -implicitDefEqProofs (disch := (first | decide | omega)) only [mK_sI, mK_sJ, mK_sR, mK_cpI, mL_sI, mL_sJ, mL_sR, mL_cpI, mI_sI, mI_sJ, mI_sR, mI_cpI, mJ_sI, mJ_sJ, mJ_sR, mJ_cpI, mR_sI, mR_sJ, mR_sR, mR_cpI, eqN_T, eqN_F, if_true, if_false, and_true, true_and, and_false, false_and, or_true, true_or, or_false, false_or, not_true_eq_false, not_false_eq_true, and_self, or_self, tn_c, ne_eq, dite_true, dite_false]; exact h3) (hb.sm hS (by omega)) hu hq 1 (by omega) (by omega)
        rw [show ((1 : Nat) : Int) = 1 from rfl] at et2
        have hbl := bits_lt u 1 p
        by_cases c4 : bits u p 1 = 1
        · simp -implicitDefEqProofs (disch := (first | decide | omega)) only [fX10_takeCount, fX10_takeCount_L54, el, es, es2, f2s, h0, et, et2, bo_s, bd_s, bn_s, gI_s, gJ_s, gR_s, pI_s, pZ_s, pJ_s, pR_s, chk_s, chN_s, chN_n, aL_s, aI_c, aJ_c, aR_c, wI_c, wB_c, wS_c, wZ_c, wJ_c, wR_c, mK_sI, mK_sJ, mK_sR, mK_cpI, mL_sI, mL_sJ, mL_sR, mL_cpI, mI_sI, mI_sJ, mI_sR, mI_cpI, mJ_sI, mJ_sJ, mJ_sR, mJ_cpI, mR_sI, mR_sJ, mR_sR, mR_cpI, i2b_i2b, i2b_sb, iI_lit, iI_add, iI_sub, iI_mul, iI_neg, iI_lt, iI_le, iI_eq, iI_J, lt_T, lt_F, le_T, le_F, eq_T, eq_F, eqN_T, eqN_F, leN_T, leN_F, ltN_T, ltN_F, if_true, if_false, and_true, true_and, and_false, false_and, or_true, true_or, or_false, false_or, not_true_eq_false, not_false_eq_true, and_self, or_self, tn_c, ne_eq, dite_true, dite_false]
          refine w_ret ⟨hS.sI ⟨rfl, Or.inl rfl⟩, ?_⟩
          simp -implicitDefEqProofs (disch := (first | decide | omega)) only [mK_sI, mK_sJ, mK_sR, mK_cpI, mL_sI, mL_sJ, mL_sR, mL_cpI, mI_sI, mI_sJ, mI_sR, mI_cpI, mJ_sI, mJ_sJ, mJ_sR, mJ_cpI, mR_sI, mR_sJ, mR_sR, mR_cpI, eqN_T, eqN_F, if_true, if_false, and_true, true_and, and_false, false_and, or_true, true_or, or_false, false_or, not_true_eq_false, not_false_eq_true, and_self, or_self, tn_c, ne_eq, dite_true, dite_false]
        · simp -implicitDefEqProofs (disch := (first | decide | omega)) only [fX10_takeCount, fX10_takeCount_L54, el, es, es2, f2s, h0, et, et2, bo_s, bd_s, bn_s, gI_s, gJ_s, gR_s, pI_s, pZ_s, pJ_s, pR_s, chk_s, chN_s, chN_n, aL_s, aI_c, aJ_c, aR_c, wI_c, wB_c, wS_c, wZ_c, wJ_c, wR_c, mK_sI, mK_sJ, mK_sR, mK_cpI, mL_sI, mL_sJ, mL_sR, mL_cpI, mI_sI, mI_sJ, mI_sR, mI_cpI, mJ_sI, mJ_sJ, mJ_sR, mJ_cpI, mR_sI, mR_sJ, mR_sR, mR_cpI, i2b_i2b, i2b_sb, iI_lit, iI_add, iI_sub, iI_mul, iI_neg, iI_lt, iI_le, iI_eq, iI_J, lt_T, lt_F, le_T, le_F, eq_T, eq_F, eqN_T, eqN_F, leN_T, leN_F, ltN_T, ltN_F, if_true, if_false, and_true, true_and, and_false, false_and, or_true, true_or, or_false, false_or, not_true_eq_false, not_false_eq_true, and_self, or_self, tn_c, ne_eq, dite_true, dite_false]
          refine w_ret ⟨hS.sI ⟨rfl, Or.inl rfl⟩, ?_⟩
          simp -implicitDefEqProofs (disch := (first | decide | omega)) only [mK_sI, mK_sJ, mK_sR, mK_cpI, mL_sI, mL_sJ, mL_sR, mL_cpI, mI_sI, mI_sJ, mI_sR, mI_cpI, mJ_sI, mJ_sJ, mJ_sR, mJ_cpI, mR_sI, mR_sJ, mR_sR, mR_cpI, eqN_T, eqN_F, if_true, if_false, and_true, true_and, and_false, false_and, or_true, true_or, or_false, false_or, not_true_eq_false, not_false_eq_true, and_self, or_self, tn_c, ne_eq, dite_true, dite_false]
      · have et2 := takeBits_no (M := sI M t 8 (iI 1)) (p := p) (q := q) h0 (by simp -implicitDefEqProofs (disch := (first | decide | omega)) only [mK_sI, mK_sJ, mK_sR, mK_cpI, mL_sI, mL_sJ, mL_sR, mL_cpI, mI_sI, mI_sJ, mI_sR, mI_cpI, mJ_sI, mJ_sJ, mJ_sR, mJ_cpI, mR_sI, mR_sJ, mR_sR, mR_cpI, eqN_T, eqN_F, if_true, if_false, and_true, true_and, and_false, false_and, or_true, true_or, or_false, false_or, not_true_eq_false, not_false_eq_true, and_self, or_self, tn_c, ne_eq, dite_true, dite_false]; exact h2) (by simp -implicitDefEqProofs (disch := (first | decide | omega)) only [mK_sI, mK_sJ, mK_sR, mK_cpI, mL_sI, mL_sJ, mL_sR, mL_cpI, mI_sI, mI_sJ, mI_sR, mI_cpI, mJ_sI, mJ_sJ, mJ_sR, mJ_cpI, mR_sI, mR_sJ, mR_sR, mR_cpI, eqN_T, eqN_F, if_true, if_false, and_true, true_and, and_false, false_and, or_true, true_or, or_false, false_or, not_true_eq_false, not_false_eq_true, and_self, or_self, tn_c, ne_eq, dite_true, dite_false]; exact h3) 1 (by omega) (by omega) (by omega) (by omega)
        rw [show ((1 : Nat) : Int) = 1 from rfl] at et2
        simp -implicitDefEqProofs (disch := (first | decide | omega)) only [fX10_takeCount, fX10_takeCount_L54, el, es, es2, f2s, h0, et, et2, bo_s, bd_s, bn_s, gI_s, gJ_s, gR_s, pI_s, pZ_s, pJ_s, pR_s, chk_s, chN_s, chN_n, aL_s, aI_c, aJ_c, aR_c, wI_c, wB_c, wS_c, wZ_c, wJ_c, wR_c, mK_sI, mK_sJ, mK_sR, mK_cpI, mL_sI, mL_sJ, mL_sR, mL_cpI, mI_sI, mI_sJ, mI_sR, mI_cpI, mJ_sI, mJ_sJ, mJ_sR, mJ_cpI, mR_sI, mR_sJ, mR_sR, mR_cpI, i2b_i2b, i2b_sb, iI_lit, iI_add, iI_sub, iI_mul, iI_neg, iI_lt, iI_le, iI_eq, iI_J, lt_T, lt_F, le_T, le_F, eq_T, eq_F, eqN_T, eqN_F, leN_T, leN_F, ltN_T, ltN_F, if_true, if_false, and_true, true_and, and_false, false_and, or_true, true_or, or_false, false_or, not_true_eq_false, not_false_eq_true, and_self, or_self, tn_c, ne_eq, dite_true, dite_false]
        refine w_ret ⟨hS.sI ⟨rfl, Or.inr rfl⟩, ?_⟩
        simp -implicitDefEqProofs (disch := (first | decide | omega)) only [mK_sI, mK_sJ, mK_sR, mK_cpI, mL_sI, mL_sJ, mL_sR, mL_cpI, mI_sI, mI_sJ, mI_sR, mI_cpI, mJ_sI, mJ_sJ, mJ_sR, mJ_cpI, mR_sI, mR_sJ, mR_sR, mR_cpI, eqN_T, eqN_F, if_true, if_false, and_true, true_and, and_false, false_and, or_true, true_or, or_false, false_or, not_true_eq_false, not_false_eq_true, and_self, or_self, tn_c, ne_eq, dite_true, dite_false]
  · rw [if_neg c1] at hC
    have et := takeBits_ok h0 h1 h2 h3 hb hu hq m (by omega) (by omega)
    rw [show (m : Int) = (m : Int) + 1 - 1 by omega] at et
    have hS : Sm (fun a j => a = t ∧ (j = 6 ∨ j = 8)) M (sI M t 6 (iI ((p : Int) + ((m : Int) + 1 - 1)))) := Sm.rf.sI ⟨rfl, Or.inl rfl⟩
    by_cases c2 : bits u p m < few r
    · rw [if_pos c2] at hC
      cases hC
    · rw [if_neg c2] at hC
      by_cases c3 : q < p + m + 1
      · have et2 := takeBits_no (M := sI M t 6 (iI ((p : Int) + ((m : Int) + 1 - 1)))) (p := p + m) (q := q) h0 (by simp -implicitDefEqProofs (disch := (first | decide | omega)) only [mK_sI, mK_sJ, mK_sR, mK_cpI, mL_sI, mL_sJ, mL_sR, mL_cpI, mI_sI, mI_sJ, mI_sR, mI_cpI, mJ_sI, mJ_sJ, mJ_sR, mJ_cpI, mR_sI, mR_sJ, mR_sR, mR_cpI, eqN_T, eqN_F, if_true, if_false, and_true, true_and, and_false, false_and, or_true, true_or, or_false, false_or, not_true_eq_false, not_false_eq_true, and_self, or_self, tn_c, ne_eq, dite_true, dite_false]; refine congrArg iI ?_; omega) (by simp -implicitDefEqProofs (disch := (first | decide | omega)) only [mK_sI, mK_sJ, mK_sR, mK_cpI, mL_sI, mL_sJ, mL_sR, mL_cpI, mI_sI, mI_sJ, mI_sR, mI_cpI, mJ_sI, mJ_sJ, mJ_sR, mJ_cpI, mR_sI, mR_sJ, mR_sR, mR_cpI, eqN_T, eqN_F, if_true, if_false, and_true, true_and, and_false, false_and, or_true, true_or, or_false, false_or, not_true_eq_false, not_false_eq_true, and_self, or_self, tn_c, ne_eq, dite_true, dite_false]; exact h3) 1 (by omega) (by omega) (by omega) (by omega)
        rw [show ((1 : Nat) : Int) = 1 from rfl] at et2
        simp -implicitDefEqProofs (disch := (first | decide | omega)) only [fX10_takeCount, fX10_takeCount_L54, el, es, es2, f2s, h0, et, et2, bo_s, bd_s, bn_s, gI_s, gJ_s, gR_s, pI_s, pZ_s, pJ_s, pR_s, chk_s, chN_s, chN_n, aL_s, aI_c, aJ_c, aR_c, wI_c, wB_c, wS_c, wZ_c, wJ_c, wR_c, mK_sI, mK_sJ, mK_sR, mK_cpI, mL_sI, mL_sJ, mL_sR, mL_cpI, mI_sI, mI_sJ, mI_sR, mI_cpI, mJ_sI, mJ_sJ, mJ_sR, mJ_cpI, mR_sI, mR_sJ, mR_sR, mR_cpI, i2b_i2b, i2b_sb, iI_lit, iI_add, iI_sub, iI_mul, iI_neg, iI_lt, iI_le, iI_eq, iI_J, lt_T, lt_F, le_T, le_F, eq_T, eq_F, eqN_T, eqN_F, leN_T, leN_F, ltN_T, ltN_F, if_true, if_false, and_true, true_and, and_false, false_and, or_true, true_or, or_false, false_or, not_true_eq_false, not_false_eq_true, and_self, or_self, tn_c, ne_eq, dite_true, dite_false]
        refine w_ret ⟨hS.sI ⟨rfl, Or.inr rfl⟩, ?_⟩
        simp -implicitDefEqProofs (disch := (first | decide | omega)) only [mK_sI, mK_sJ, mK_sR, mK_cpI, mL_sI, mL_sJ, mL_sR, mL_cpI, mI_sI, mI_sJ, mI_sR, mI_cpI, mJ_sI, mJ_sJ, mJ_sR, mJ_cpI, mR_sI, mR_sJ, mR_sR, mR_cpI, eqN_T, eqN_F, if_true, if_false, and_true, true_and, and_false, false_and, or_true, true_or, or_false, false_or, not_true_eq_false, not_false_eq_true, and_self, or_self, tn_c, ne_eq, dite_true, dite_false]
      · rw [if_neg c3] at hC
        cases hC
end CLASS
