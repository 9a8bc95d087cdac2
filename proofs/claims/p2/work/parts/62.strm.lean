/-! a STREAM of words: as numbers, and the class's -/
def lk (u : Nat → Nat) (F : Nat) (C : Cd) (L : Nat) : Nat := C.2.2 (bits u (8 * F + L - min C.1 L) (min C.1 L) * 2 ^ (C.1 - min C.1 L))
def stL (u : Nat → Nat) (F : Nat) (C : Cd) (L0 : Nat) : Nat → Option Nat
  | 0 => some L0
  | k + 1 => match stL u F C L0 k with
    | none => none
    | some L => if L < C.2.1 (lk u F C L) then none else some (L - C.2.1 (lk u F C L))
def lt0 (u : Nat → Nat) (F : Nat) (C : Cd) (L0 k : Nat) : Nat := lk u F C ((stL u F C L0 k).getD 0)
def rdS (u : Nat → Nat) (f g : Nat) (C : Cd) (n : Nat) : Option (Nat → Nat) :=
  if g ≤ f ∨ u (g - 1) = 0 then none else
  if stL u f C (8 * (g - 1 - f) + Nat.log2 (u (g - 1))) n = some 0 then some (lt0 u f C (8 * (g - 1 - f) + Nat.log2 (u (g - 1)))) else none
section STRM
variable {u : Nat → Nat} {F L0 : Nat} {C : Cd}
theorem stL_none {k : Nat} (h : stL u F C L0 k = none) : ∀ d, stL u F C L0 (k + d) = none := by
  intro d
  induction d with
  | zero => exact h
  | succ d ih => rw [← Nat.add_assoc, stL, ih]
theorem stL_le : ∀ {k L}, stL u F C L0 k = some L → L ≤ L0 := by
  intro k
  induction k with
  | zero => intro L h; cases h; exact Nat.le_refl _
  | succ k ih =>
    intro L h
    rw [stL] at h
    cases hk : stL u F C L0 k with
    | none => rw [hk] at h; cases h
    | some L1 =>
      rw [hk] at h
      have := ih hk
      dsimp only at h
      split at h
      · cases h
      · cases h; omega
theorem lk_w (hC : CdR C) (L : Nat) : bits u (8 * F + L - min C.1 L) (min C.1 L) * 2 ^ (C.1 - min C.1 L) < 2 ^ C.1 := by
  have h1 := bits_lt u (min C.1 L) (8 * F + L - min C.1 L)
  have h2 : 2 ^ C.1 = 2 ^ min C.1 L * 2 ^ (C.1 - min C.1 L) := pow_split (Nat.min_le_left _ _)
  rw [h2]
  exact Nat.mul_lt_mul_of_pos_right h1 (two_pos _)
theorem lk_lt (hC : CdR C) (L : Nat) : lk u F C L < 256 := (hC.2.2.2 _ (lk_w hC L)).1
theorem lg8 {x : Nat} (h : x < 256) : Nat.log2 x < 8 := by
  by_cases z : x = 0
  · rw [z]; decide
  · have := log2_l z
    exact pow_lt2 (b := 8) (by omega)
theorem csym_ok {M : Mem} {c i : Nat} (hS : CdS M c) (hR : CdR C) (hV : CdV M c C) (hi : i < 2 ^ C.1) : fX1_symbolOf (some c) (iI i) M = some (iI (C.2.2 i : Nat), M) := by
  have hp : 2 ^ C.1 ≤ 2 ^ 11 := pow_le2 hR.2.1
  obtain ⟨f1, f2, f3, f4, f5, f6, f7, f8, f9, f10⟩ := hS
  have e := hV.2.2 i hi
  simp -implicitDefEqProofs (disch := omega) only [fX1_symbolOf, fX1_symbolOf_L20, fX1_symbolOf_L21, f1, f4, f9, f10, e, bo_s, bd_s, bn_s, gI_s, gJ_s, gR_s, pI_s, pZ_s, pJ_s, pR_s, chk_s, chN_s, chN_n, aL_s, aI_c, aJ_c, aR_c, wI_c, wB_c, wS_c, wZ_c, wJ_c, wR_c, mK_sI, mK_sJ, mK_sR, mK_cpI, mL_sI, mL_sJ, mL_sR, mL_cpI, mI_sI, mI_sJ, mI_sR, mI_cpI, mJ_sI, mJ_sJ, mJ_sR, mJ_cpI, mR_sI, mR_sJ, mR_sR, mR_cpI, i2b_i2b, i2b_sb, iI_lit, iI_add, iI_sub, iI_mul, iI_neg, iI_lt, iI_le, iI_eq, iI_J, lt_T, lt_F, le_T, le_F, eq_T, eq_F, eqN_T, eqN_F, leN_T, leN_F, ltN_T, ltN_F, if_true, if_false, and_true, true_and, and_false, false_and, or_true, true_or, or_false, false_or, not_true_eq_false, not_false_eq_true, and_self, or_self, tn_c, ne_eq, dite_true, dite_false]
end STRM
def WSt (a j : Nat) : Prop := a = 132 ∨ (a = 126 ∧ j = 1) ∨ a = 127
theorem WSt_fx : ∀ a j, WSt a j → 10 ≤ a ∧ ¬ fx a j := by
  rintro a j h
  unfold WSt at h
  rcases h with rfl | ⟨rfl, h⟩ | rfl
  · exact ⟨by omega, fx_of 132 0 1 0 rfl rfl rfl (by omega)⟩
  · exact ⟨by omega, fx_of 126 1 1 0 rfl rfl rfl (by omega)⟩
  · exact ⟨by omega, fx_of 127 0 1 0 rfl rfl rfl (by omega)⟩
theorem CdV.sm {M N : Mem} {c : Nat} {C : Cd} {S : Nat → Nat → Prop} (h : CdV M c C) (s : Sm S M N) (h0 : ¬ S c 0) (h1 : ∀ j, ¬ S (c + 1) j) (h3 : ∀ j, ¬ S (c + 3) j) : CdV N c C := ⟨(s.I c 0 h0).trans h.1, fun i hi => (s.I _ _ (h1 i)).trans (h.2.1 i hi), fun i hi => (s.I _ _ (h3 i)).trans (h.2.2 i hi)⟩
section STREAM
variable {M : Mem} {r rb rn e cc : Nat} {u : Nat → Nat} {C : Cd}
theorem readStream_ok {f g n c : Nat} {old : Nat → Nat} (hC : CSt M) (hr : RS M r rb rn) (hb : BV M rb rn e u) (hr2 : r < 122 ∨ 158 < r) (hb2 : rb < 122 ∨ 158 < rb) (hu : ∀ i, u i < 256) (hg : g ≤ e) (hf : f < 1000000) (hl : mR M 125 1 = some cc) (hcS : CdS M cc) (hcV : CdV M cc C) (hcR : CdR C) (hcc : cc = 128 ∨ cc < 118) (hold : RV M 126 127 8000 c old) (hn : c + n < 900000) :
    Wp (fX4_readStream (some 125) (some r) (iI f) (iI g) (iI n) M) fun v N => Sm WSt M N ∧ (rdS u f g C n = none → v = iI 0) ∧ ∀ ls, rdS u f g C n = some ls → v = iI 1 ∧ RV N 126 127 8000 (c + n) (fun i => if i < c then old i else ls (i - c)) := by
  have g3 := hb.2.2.1
  have g4 := hb.2.2.2.1
  obtain ⟨k125, r125_0, r125_7, k132⟩ : mK M 125 = 4 ∧ mR M 125 0 = some 126 ∧ mR M 125 7 = some 132 ∧ mK M 132 = 0 := ⟨hC.k 125 (by omega) (by omega), hC.r 125 0 (by omega) (by omega) (by decide), hC.r 125 7 (by omega) (by omega) (by decide), hC.k 132 (by omega) (by omega)⟩
  have hp : 2 ^ C.1 ≤ 2 ^ 11 := pow_le2 hcR.2.1
  have hm := hcR.2.1
  by_cases c1 : g ≤ f ∨ u (g - 1) = 0
  · have hR : rdS u f g C n = none := by unfold rdS; rw [if_pos c1]
    obtain ⟨v, N, e1, rfl, hS, -⟩ := begin_no (k := 132) k132 hr hb hu hg hf c1
    simp -implicitDefEqProofs (disch := omega) only [fX4_readStream, fX4_readStream_L18, k125, r125_7, k132, e1, rtZ, bo_s, bd_s, bn_s, gI_s, gJ_s, gR_s, pI_s, pZ_s, pJ_s, pR_s, chk_s, chN_s, chN_n, aL_s, aI_c, aJ_c, aR_c, wI_c, wB_c, wS_c, wZ_c, wJ_c, wR_c, mK_sI, mK_sJ, mK_sR, mK_cpI, mL_sI, mL_sJ, mL_sR, mL_cpI, mI_sI, mI_sJ, mI_sR, mI_cpI, mJ_sI, mJ_sJ, mJ_sR, mJ_cpI, mR_sI, mR_sJ, mR_sR, mR_cpI, i2b_i2b, i2b_sb, iI_lit, iI_add, iI_sub, iI_mul, iI_neg, iI_lt, iI_le, iI_eq, iI_J, lt_T, lt_F, le_T, le_F, eq_T, eq_F, eqN_T, eqN_F, leN_T, leN_F, ltN_T, ltN_F, if_true, if_false, and_true, true_and, and_false, false_and, or_true, true_or, or_false, false_or, not_true_eq_false, not_false_eq_true, and_self, or_self, tn_c, ne_eq, dite_true, dite_false]
    refine w_ret ⟨hS.weak (by unfold WSt; omega), fun _ => rfl, fun ls h => ?_⟩
    rw [hR] at h; cases h
  · obtain ⟨v, N, e1, rfl, hS, hK⟩ := begin_ok (k := 132) (f := f) (g := g) k132 hr hb hu hg (by omega) (by omega)
    have hl8 := lg8 (hu (g - 1))
    have hR : rdS u f g C n = if stL u f C (8 * (g - 1 - f) + Nat.log2 (u (g - 1))) n = some 0 then some (lt0 u f C (8 * (g - 1 - f) + Nat.log2 (u (g - 1)))) else none := by unfold rdS; rw [if_neg c1]
    obtain ⟨L0, hL0⟩ : ∃ L0, 8 * (g - 1 - f) + Nat.log2 (u (g - 1)) = L0 := ⟨_, rfl⟩
    rw [hL0] at hR hK
    have hS1 : Sm WSt M N := hS.weak (by unfold WSt; omega)
    simp -implicitDefEqProofs (disch := omega) only [fX4_readStream, fX4_readStream_L18, fX4_readStream_L23, k125, r125_7, k132, e1, bo_s, bd_s, bn_s, gI_s, gJ_s, gR_s, pI_s, pZ_s, pJ_s, pR_s, chk_s, chN_s, chN_n, aL_s, aI_c, aJ_c, aR_c, wI_c, wB_c, wS_c, wZ_c, wJ_c, wR_c, mK_sI, mK_sJ, mK_sR, mK_cpI, mL_sI, mL_sJ, mL_sR, mL_cpI, mI_sI, mI_sJ, mI_sR, mI_cpI, mJ_sI, mJ_sJ, mJ_sR, mJ_cpI, mR_sI, mR_sJ, mR_sR, mR_cpI, i2b_i2b, i2b_sb, iI_lit, iI_add, iI_sub, iI_mul, iI_neg, iI_lt, iI_le, iI_eq, iI_J, lt_T, lt_F, le_T, le_F, eq_T, eq_F, eqN_T, eqN_F, leN_T, leN_F, ltN_T, ltN_F, if_true, if_false, and_true, true_and, and_false, false_and, or_true, true_or, or_false, false_or, not_true_eq_false, not_false_eq_true, and_self, or_self, tn_c, ne_eq, dite_true, dite_false]
    refine w_lpF (fun d x O => ∃ k L : Nat, k + d = n ∧ stL u f C L0 k = some L ∧ Sm WSt M O ∧ BK O 132 rb f L 0 ∧ RV O 126 127 8000 (c + k) (fun i => if i < c then old i else lt0 u f C L0 (i - c)) ∧ x = (some 125, iI n, iI k)) n (by omega) ⟨0, L0, by omega, rfl, hS1, hK, (hold.sm hS (by omega) (by omega) (by omega)).ext (fun i hi _ => by rw [if_pos (by omega)]), rfl⟩ ?_
    rintro q d x O ⟨k, L, hd, hk, hS, hK, hV, rfl⟩ ih
    have hC' := hC.sm hS WSt_fx
    obtain ⟨k125, r125_0, r125_7, k132, k126⟩ : mK O 125 = 4 ∧ mR O 125 0 = some 126 ∧ mR O 125 7 = some 132 ∧ mK O 132 = 0 ∧ mK O 126 = 8 := ⟨hC'.k 125 (by omega) (by omega), hC'.r 125 0 (by omega) (by omega) (by decide), hC'.r 125 7 (by omega) (by omega) (by decide), hC'.k 132 (by omega) (by omega), hC'.k 126 (by omega) (by omega)⟩
    have hLe := stL_le hk
    obtain ⟨b0, b1, b2, b3, b4⟩ := hK
    by_cases z : d = 0
    · obtain rfl : k = n := by omega
      rw [hk] at hR
      by_cases z2 : L = 0
      · subst z2
        rw [if_pos rfl] at hR
        simp -implicitDefEqProofs (disch := omega) only [fX4_readStream_B23, fX4_readStream_L123, k125, r125_7, b0, b3, rtZ, bo_s, bd_s, bn_s, gI_s, gJ_s, gR_s, pI_s, pZ_s, pJ_s, pR_s, chk_s, chN_s, chN_n, aL_s, aI_c, aJ_c, aR_c, wI_c, wB_c, wS_c, wZ_c, wJ_c, wR_c, mK_sI, mK_sJ, mK_sR, mK_cpI, mL_sI, mL_sJ, mL_sR, mL_cpI, mI_sI, mI_sJ, mI_sR, mI_cpI, mJ_sI, mJ_sJ, mJ_sR, mJ_cpI, mR_sI, mR_sJ, mR_sR, mR_cpI, i2b_i2b, i2b_sb, iI_lit, iI_add, iI_sub, iI_mul, iI_neg, iI_lt, iI_le, iI_eq, iI_J, lt_T, lt_F, le_T, le_F, eq_T, eq_F, eqN_T, eqN_F, leN_T, leN_F, ltN_T, ltN_F, if_true, if_false, and_true, true_and, and_false, false_and, or_true, true_or, or_false, false_or, not_true_eq_false, not_false_eq_true, and_self, or_self, tn_c, ne_eq, dite_true, dite_false]
        refine w_ret ⟨hS, fun h => (by rw [hR] at h; cases h), fun ls h => ?_⟩
        rw [hR] at h
        cases h
        exact ⟨rfl, hV⟩
      · rw [if_neg (fun h => z2 (Option.some.inj h))] at hR
        simp -implicitDefEqProofs (disch := omega) only [fX4_readStream_B23, fX4_readStream_L123, k125, r125_7, b0, b3, rtZ, bo_s, bd_s, bn_s, gI_s, gJ_s, gR_s, pI_s, pZ_s, pJ_s, pR_s, chk_s, chN_s, chN_n, aL_s, aI_c, aJ_c, aR_c, wI_c, wB_c, wS_c, wZ_c, wJ_c, wR_c, mK_sI, mK_sJ, mK_sR, mK_cpI, mL_sI, mL_sJ, mL_sR, mL_cpI, mI_sI, mI_sJ, mI_sR, mI_cpI, mJ_sI, mJ_sJ, mJ_sR, mJ_cpI, mR_sI, mR_sJ, mR_sR, mR_cpI, i2b_i2b, i2b_sb, iI_lit, iI_add, iI_sub, iI_mul, iI_neg, iI_lt, iI_le, iI_eq, iI_J, lt_T, lt_F, le_T, le_F, eq_T, eq_F, eqN_T, eqN_F, leN_T, leN_F, ltN_T, ltN_F, if_true, if_false, and_true, true_and, and_false, false_and, or_true, true_or, or_false, false_or, not_true_eq_false, not_false_eq_true, and_self, or_self, tn_c, ne_eq, dite_true, dite_false]
        refine w_ret ⟨hS, fun _ => rfl, fun ls h => ?_⟩
        rw [hR] at h; cases h
    · have hcS' := hcS.sm hS (by unfold WSt; omega)
      have hcV' := hcV.sm hS (by unfold WSt; omega) (by unfold WSt; omega) (by unfold WSt; omega)
      have hl' := (hS.R 125 1 (by unfold WSt; omega)).trans hl
      have hb' := hb.sm hS (by unfold WSt; omega)
      obtain ⟨f1, f2, f3, f4, f5, f6, f7, f8, f9, f10⟩ := hcS'
      have m0 := hcV'.1
      have e2 := look_ok (k := 132) (m := C.1) ⟨b0, b1, b2, b3, b4⟩ hb' hu (by omega) (by omega)
      have e3 := csym_ok (M := O) (c := cc) ⟨f1, f2, f3, f4, f5, f6, f7, f8, f9, f10⟩ hcR hcV' (lk_w (u := u) (F := f) hcR L)
      have e4 : C.2.2 (bits u (8 * f + L - min C.1 L) (min C.1 L) * 2 ^ (C.1 - min C.1 L)) = lk u f C L := rfl
      rw [e4] at e3
      generalize bits u (8 * f + L - min C.1 L) (min C.1 L) * 2 ^ (C.1 - min C.1 L) = wd at e2 e3
      have hlk := lk_lt (u := u) (F := f) hcR L
      have hln := hcR.2.2.1 (lk u f C L)
      have e5 := hcV'.2.1 (lk u f C L) hlk
      have hks : stL u f C L0 (k + 1) = if L < C.2.1 (lk u f C L) then none else some (L - C.2.1 (lk u f C L)) := by rw [stL, hk]
      have hlt : lt0 u f C L0 k = lk u f C L := by unfold lt0; rw [hk]; rfl
      generalize lk u f C L = s at *
      by_cases z2 : L < C.2.1 s
      · rw [if_pos z2] at hks
        have := stL_none hks (n - (k + 1))
        rw [show k + 1 + (n - (k + 1)) = n by omega] at this
        rw [this, if_neg (fun h => by cases h)] at hR
        simp -implicitDefEqProofs (disch := omega) only [fX4_readStream_B23, k125, r125_7, hl', f1, f2, f5, f6, m0, b0, e2, e3, e5, b3, rtZ, bo_s, bd_s, bn_s, gI_s, gJ_s, gR_s, pI_s, pZ_s, pJ_s, pR_s, chk_s, chN_s, chN_n, aL_s, aI_c, aJ_c, aR_c, wI_c, wB_c, wS_c, wZ_c, wJ_c, wR_c, mK_sI, mK_sJ, mK_sR, mK_cpI, mL_sI, mL_sJ, mL_sR, mL_cpI, mI_sI, mI_sJ, mI_sR, mI_cpI, mJ_sI, mJ_sJ, mJ_sR, mJ_cpI, mR_sI, mR_sJ, mR_sR, mR_cpI, i2b_i2b, i2b_sb, iI_lit, iI_add, iI_sub, iI_mul, iI_neg, iI_lt, iI_le, iI_eq, iI_J, lt_T, lt_F, le_T, le_F, eq_T, eq_F, eqN_T, eqN_F, leN_T, leN_F, ltN_T, ltN_F, if_true, if_false, and_true, true_and, and_false, false_and, or_true, true_or, or_false, false_or, not_true_eq_false, not_false_eq_true, and_self, or_self, tn_c, ne_eq, dite_true, dite_false]
        refine w_ret ⟨hS, fun _ => rfl, fun ls h => ?_⟩
        rw [hR] at h; cases h
      · rw [if_neg z2] at hks
        obtain ⟨P, hP⟩ : ∃ P, sI O 132 2 (iI ((L : Int) - C.2.1 s)) = P := ⟨_, rfl⟩
        have hSP : Sm (fun a j => a = 132) O P := by rw [← hP]; exact Sm.rf.sI rfl
        obtain ⟨v, Q, e6, hV2, hS2⟩ := add_v (hV.sm hSP (by omega) (by omega) (by omega)) (by omega) (by omega) (by omega) (iI s) (by
          show (if c + k < c then _ else _) = _
          rw [if_neg (by omega), show c + k - c = k by omega, hlt, bN_iI]
          omega)
        have p1 := (hSP.K 125).trans k125
        have p2 := (hSP.R 125 0 (by omega)).trans r125_0
        have p3 := (hSP.K 126).trans k126
        simp -implicitDefEqProofs (disch := omega) only [fX4_readStream_B23, k125, r125_7, hl', f1, f2, f5, f6, m0, b0, e2, e3, e5, b3, hP, p1, p2, p3, e6, r125_0, bo_s, bd_s, bn_s, gI_s, gJ_s, gR_s, pI_s, pZ_s, pJ_s, pR_s, chk_s, chN_s, chN_n, aL_s, aI_c, aJ_c, aR_c, wI_c, wB_c, wS_c, wZ_c, wJ_c, wR_c, mK_sI, mK_sJ, mK_sR, mK_cpI, mL_sI, mL_sJ, mL_sR, mL_cpI, mI_sI, mI_sJ, mI_sR, mI_cpI, mJ_sI, mJ_sJ, mJ_sR, mJ_cpI, mR_sI, mR_sJ, mR_sR, mR_cpI, i2b_i2b, i2b_sb, iI_lit, iI_add, iI_sub, iI_mul, iI_neg, iI_lt, iI_le, iI_eq, iI_J, lt_T, lt_F, le_T, le_F, eq_T, eq_F, eqN_T, eqN_F, leN_T, leN_F, ltN_T, ltN_F, if_true, if_false, and_true, true_and, and_false, false_and, or_true, true_or, or_false, false_or, not_true_eq_false, not_false_eq_true, and_self, or_self, tn_c, ne_eq, dite_true, dite_false]
        have hSQ : Sm WSt M Q := (hS.tr (hSP.weak (by unfold WSt; omega))).tr (hS2.weak (by unfold Rw WSt; omega))
        refine ih (d - 1) _ _ (by omega) ⟨k + 1, L - C.2.1 s, by omega, hks, hSQ, ?_, hV2, rfl⟩
        refine ⟨(hS2.K 132).trans ((hSP.K 132).trans b0), ?_, ?_, ?_, ?_⟩
        · rw [hS2.R 132 0 (by unfold Rw; omega), ← hP]
          exact b1
        · rw [hS2.I 132 1 (by unfold Rw; omega), ← hP]
          simp -implicitDefEqProofs (disch := omega) only [mK_sI, mK_sJ, mK_sR, mK_cpI, mL_sI, mL_sJ, mL_sR, mL_cpI, mI_sI, mI_sJ, mI_sR, mI_cpI, mJ_sI, mJ_sJ, mJ_sR, mJ_cpI, mR_sI, mR_sJ, mR_sR, mR_cpI, eqN_T, eqN_F, if_true, if_false, and_true, true_and, and_false, false_and, or_true, true_or, or_false, false_or, not_true_eq_false, not_false_eq_true, and_self, or_self, tn_c, ne_eq, dite_true, dite_false]
          exact b2
        · rw [hS2.I 132 2 (by unfold Rw; omega), ← hP]
          simp -implicitDefEqProofs (disch := omega) only [mK_sI, mK_sJ, mK_sR, mK_cpI, mL_sI, mL_sJ, mL_sR, mL_cpI, mI_sI, mI_sJ, mI_sR, mI_cpI, mJ_sI, mJ_sJ, mJ_sR, mJ_cpI, mR_sI, mR_sJ, mR_sR, mR_cpI, eqN_T, eqN_F, if_true, if_false, and_true, true_and, and_false, false_and, or_true, true_or, or_false, false_or, not_true_eq_false, not_false_eq_true, and_self, or_self, tn_c, ne_eq, dite_true, dite_false]
          refine congrArg iI ?_
          omega
        · rw [hS2.I 132 3 (by unfold Rw; omega), ← hP]
          simp -implicitDefEqProofs (disch := omega) only [mK_sI, mK_sJ, mK_sR, mK_cpI, mL_sI, mL_sJ, mL_sR, mL_cpI, mI_sI, mI_sJ, mI_sR, mI_cpI, mJ_sI, mJ_sJ, mJ_sR, mJ_cpI, mR_sI, mR_sJ, mR_sR, mR_cpI, eqN_T, eqN_F, if_true, if_false, and_true, true_and, and_false, false_and, or_true, true_or, or_false, false_or, not_true_eq_false, not_false_eq_true, and_self, or_self, tn_c, ne_eq, dite_true, dite_false]
          exact b4
end STREAM
