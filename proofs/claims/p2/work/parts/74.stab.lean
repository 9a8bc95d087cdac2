/-! a table of SEQUENCES is told: the class's -/
def WTk (k a j : Nat) : Prop := (a = 30 ∧ j ≤ 1) ∨ WT (144 + 5 * k) a j ∨ ((a = 135 ∨ a = 136) ∧ j = k)
theorem WTk_fx {k : Nat} (hk : k < 3) : ∀ a j, WTk k a j → 10 ≤ a ∧ ¬ fx a j := by
  rintro a j h
  rcases h with ⟨rfl, h⟩ | h | ⟨rfl | rfl, h⟩
  · exact ⟨by omega, fx_of 30 0 2 3 rfl rfl rfl (by omega)⟩
  · have : k = 0 ∨ k = 1 ∨ k = 2 := by omega
    unfold WT at h
    rcases this with rfl | rfl | rfl <;> rcases h with ⟨rfl, h⟩ | rfl | rfl | rfl
    · exact ⟨by omega, fx_of 144 0 1 3 rfl rfl rfl (by omega)⟩
    · exact ⟨by omega, fx_of 145 0 1 0 rfl rfl rfl (by omega)⟩
    · exact ⟨by omega, fx_of 146 0 1 0 rfl rfl rfl (by omega)⟩
    · exact ⟨by omega, fx_of 147 0 1 0 rfl rfl rfl (by omega)⟩
    · exact ⟨by omega, fx_of 149 0 1 3 rfl rfl rfl (by omega)⟩
    · exact ⟨by omega, fx_of 150 0 1 0 rfl rfl rfl (by omega)⟩
    · exact ⟨by omega, fx_of 151 0 1 0 rfl rfl rfl (by omega)⟩
    · exact ⟨by omega, fx_of 152 0 1 0 rfl rfl rfl (by omega)⟩
    · exact ⟨by omega, fx_of 154 0 1 3 rfl rfl rfl (by omega)⟩
    · exact ⟨by omega, fx_of 155 0 1 0 rfl rfl rfl (by omega)⟩
    · exact ⟨by omega, fx_of 156 0 1 0 rfl rfl rfl (by omega)⟩
    · exact ⟨by omega, fx_of 157 0 1 0 rfl rfl rfl (by omega)⟩
  · exact ⟨by omega, fx_of 135 0 1 0 rfl rfl rfl (by omega)⟩
  · exact ⟨by omega, fx_of 136 0 1 0 rfl rfl rfl (by omega)⟩
theorem TKd.set {N : Mem} {tb : Nat → Option Tb} {k t : Nat} {T : Tb} (h : ∀ i, i < 3 → i ≠ k → mI N 136 i = iI (if (tb i).isSome then 1 else 0) ∧ ∀ T, tb i = some T → TG i T ∧ ∃ t, mR N 135 i = some t ∧ tOk i t ∧ TbV N t T) (hT : TG k T) (ht : tOk k t) (hk : k < 3) (hV : TbV N t T) : TKd (sI (sR N 135 k (some t)) 136 k (iI (1 % 2))) (upT tb k (some T)) := by
  intro i hi
  have hs : Sm (fun a j => a = 135 ∨ a = 136) N (sI (sR N 135 k (some t)) 136 k (iI (1 % 2))) := Sm.sI (Sm.sR Sm.rf (Or.inl rfl)) (Or.inr rfl)
  by_cases e : i = k
  · subst e
    unfold upT
    rw [if_pos rfl]
    refine ⟨?_, fun T' hT' => ?_⟩
    · simp -implicitDefEqProofs (disch := omega) only [mK_sI, mK_sJ, mK_sR, mK_cpI, mL_sI, mL_sJ, mL_sR, mL_cpI, mI_sI, mI_sJ, mI_sR, mI_cpI, mJ_sI, mJ_sJ, mJ_sR, mJ_cpI, mR_sI, mR_sJ, mR_sR, mR_cpI, eqN_T, eqN_F, if_true, if_false, and_true, true_and, and_false, false_and, or_true, true_or, or_false, false_or, not_true_eq_false, not_false_eq_true, and_self, or_self, tn_c, ne_eq, dite_true, dite_false]
      rfl
    · cases hT'
      refine ⟨hT, t, ?_, ht, hV.sm hs (by omega) (by omega)⟩
      simp -implicitDefEqProofs (disch := omega) only [mK_sI, mK_sJ, mK_sR, mK_cpI, mL_sI, mL_sJ, mL_sR, mL_cpI, mI_sI, mI_sJ, mI_sR, mI_cpI, mJ_sI, mJ_sJ, mJ_sR, mJ_cpI, mR_sI, mR_sJ, mR_sR, mR_cpI, eqN_T, eqN_F, if_true, if_false, and_true, true_and, and_false, false_and, or_true, true_or, or_false, false_or, not_true_eq_false, not_false_eq_true, and_self, or_self, tn_c, ne_eq, dite_true, dite_false]
  · unfold upT
    rw [if_neg e]
    obtain ⟨a1, a2⟩ := h i hi e
    refine ⟨?_, fun T' hT' => ?_⟩
    · simp -implicitDefEqProofs (disch := omega) only [mK_sI, mK_sJ, mK_sR, mK_cpI, mL_sI, mL_sJ, mL_sR, mL_cpI, mI_sI, mI_sJ, mI_sR, mI_cpI, mJ_sI, mJ_sJ, mJ_sR, mJ_cpI, mR_sI, mR_sJ, mR_sR, mR_cpI, eqN_T, eqN_F, if_true, if_false, and_true, true_and, and_false, false_and, or_true, true_or, or_false, false_or, not_true_eq_false, not_false_eq_true, and_self, or_self, tn_c, ne_eq, dite_true, dite_false]
      exact a1
    · obtain ⟨b1, t', b2, b3, b4⟩ := a2 T' hT'
      refine ⟨b1, t', ?_, b3, b4.sm hs (by omega) (by omega)⟩
      simp -implicitDefEqProofs (disch := omega) only [mK_sI, mK_sJ, mK_sR, mK_cpI, mL_sI, mL_sJ, mL_sR, mL_cpI, mI_sI, mI_sJ, mI_sR, mI_cpI, mJ_sI, mJ_sJ, mJ_sR, mJ_cpI, mR_sI, mR_sJ, mR_sR, mR_cpI, eqN_T, eqN_F, if_true, if_false, and_true, true_and, and_false, false_and, or_true, true_or, or_false, false_or, not_true_eq_false, not_false_eq_true, and_self, or_self, tn_c, ne_eq, dite_true, dite_false]
      exact b2
section STAB
variable {M : Mem} {r rb rn e a g k md : Nat} {u : Nat → Nat} {tb : Nat → Option Tb}
abbrev STq (M : Mem) (u : Nat → Nat) (md g k a : Nat) (tb : Nat → Option Tb) (v : Int32) (N : Mem) : Prop := Sm (WTk k) M N ∧ TKd N (rdKt u md g k a tb) ∧ (∀ i, i < 3 → mR N 135 i = mR M 135 i ∨ mR N 135 i = some (107 + 5 * i) ∨ mR N 135 i = some (144 + 5 * i)) ∧ (rdKa u md g k a tb = none → v = iI (-1)) ∧ ∀ p, rdKa u md g k a tb = some p → v = iI p
theorem stab153 {N : Mem} {m p t : Nat} {T : Tb} (hC : CSt M) (hk : k < 3) (hS : Sm (WTk k) M N) (hm : m = 0 ∨ m = 1 ∨ m = 2) (ht : t = if m = 0 then 107 + 5 * k else 144 + 5 * k) (h : ∀ i, i < 3 → i ≠ k → mI N 136 i = iI (if (tb i).isSome then 1 else 0) ∧ ∀ T, tb i = some T → TG i T ∧ ∃ t, mR N 135 i = some t ∧ tOk i t ∧ TbV N t T) (hT : TG k T) (hV : TbV N t T) (h1 : rdKa u md g k a tb = some p) (h2 : rdKt u md g k a tb = upT tb k (some T)) :
    Wp (fX9_readTable_L153 (some 134) (iI k) (iI m) (iI p) N) (STq M u md g k a tb) := by
  have hCN := hC.sm hS (WTk_fx hk)
  obtain ⟨k134, r134_0, r134_1, r134_2, r134_3, k135, l135, k136, l136, k106, l106, k137, l137⟩ : mK N 134 = 9 ∧ mR N 134 0 = some 135 ∧ mR N 134 1 = some 136 ∧ mR N 134 2 = some 137 ∧ mR N 134 3 = some 106 ∧ mK N 135 = 20 ∧ mL N 135 = 3 ∧ mK N 136 = 18 ∧ mL N 136 = 3 ∧ mK N 106 = 20 ∧ mL N 106 = 3 ∧ mK N 137 = 20 ∧ mL N 137 = 3 := ⟨hCN.k 134 (by omega) (by omega), hCN.r 134 0 (by omega) (by omega) (by decide), hCN.r 134 1 (by omega) (by omega) (by decide), hCN.r 134 2 (by omega) (by omega) (by decide), hCN.r 134 3 (by omega) (by omega) (by decide), hCN.k 135 (by omega) (by omega), hCN.l 135 (by omega) (by omega), hCN.k 136 (by omega) (by omega), hCN.l 136 (by omega) (by omega), hCN.k 106 (by omega) (by omega), hCN.l 106 (by omega) (by omega), hCN.k 137 (by omega) (by omega), hCN.l 137 (by omega) (by omega)⟩
  obtain ⟨f1, f2, -, -⟩ := hCN.kf hk
  have ht' : tOk k t := by rw [ht]; split <;> omega
  have kt := (hCN.ts hk ht').1
  have hset := TKd.set (t := t) (T := T) h hT ht' hk hV
  have fin : STq M u md g k a tb (iI p) (sI (sR N 135 k (some t)) 136 k (iI (1 % 2))) := by
    refine ⟨Sm.sI (Sm.sR hS (Or.inr (Or.inr ⟨Or.inl rfl, rfl⟩))) (Or.inr (Or.inr ⟨Or.inr rfl, rfl⟩)), by rw [h2]; exact hset, fun i hi => ?_, fun h => (by rw [h1] at h; cases h), fun p' h => ?_⟩
    · by_cases ei : i = k
      · subst ei
        have ht2 : t = 107 + 5 * i ∨ t = 144 + 5 * i := by rw [ht]; split <;> omega
        refine Or.inr ?_
        rcases ht2 with rfl | rfl
        · exact Or.inl (by simp -implicitDefEqProofs (disch := omega) only [mK_sI, mK_sJ, mK_sR, mK_cpI, mL_sI, mL_sJ, mL_sR, mL_cpI, mI_sI, mI_sJ, mI_sR, mI_cpI, mJ_sI, mJ_sJ, mJ_sR, mJ_cpI, mR_sI, mR_sJ, mR_sR, mR_cpI, eqN_T, eqN_F, if_true, if_false, and_true, true_and, and_false, false_and, or_true, true_or, or_false, false_or, not_true_eq_false, not_false_eq_true, and_self, or_self, tn_c, ne_eq, dite_true, dite_false])
        · exact Or.inr (by simp -implicitDefEqProofs (disch := omega) only [mK_sI, mK_sJ, mK_sR, mK_cpI, mL_sI, mL_sJ, mL_sR, mL_cpI, mI_sI, mI_sJ, mI_sR, mI_cpI, mJ_sI, mJ_sJ, mJ_sR, mJ_cpI, mR_sI, mR_sJ, mR_sR, mR_cpI, eqN_T, eqN_F, if_true, if_false, and_true, true_and, and_false, false_and, or_true, true_or, or_false, false_or, not_true_eq_false, not_false_eq_true, and_self, or_self, tn_c, ne_eq, dite_true, dite_false])
      · refine Or.inl ?_
        simp -implicitDefEqProofs (disch := omega) only [mK_sI, mK_sJ, mK_sR, mK_cpI, mL_sI, mL_sJ, mL_sR, mL_cpI, mI_sI, mI_sJ, mI_sR, mI_cpI, mJ_sI, mJ_sJ, mJ_sR, mJ_cpI, mR_sI, mR_sJ, mR_sR, mR_cpI, eqN_T, eqN_F, if_true, if_false, and_true, true_and, and_false, false_and, or_true, true_or, or_false, false_or, not_true_eq_false, not_false_eq_true, and_self, or_self, tn_c, ne_eq, dite_true, dite_false]
        exact hS.R 135 i (by unfold WTk WT; omega)
    rw [h1] at h
    cases h
    rfl
  clear hset hC hS hCN h hV hT
  by_cases c : m = 0
  · subst c
    rw [if_pos rfl] at ht
    subst ht
    simp -implicitDefEqProofs (disch := omega) only [fX9_readTable_L153, fX9_readTable_L178, k134, r134_0, r134_3, k106, l106, f2, k135, l135, kt, r134_1, k136, l136, and_1, bo_s, bd_s, bn_s, gI_s, gJ_s, gR_s, pI_s, pZ_s, pJ_s, pR_s, chk_s, chN_s, chN_n, aL_s, aI_c, aJ_c, aR_c, wI_c, wB_c, wS_c, wZ_c, wJ_c, wR_c, mK_sI, mK_sJ, mK_sR, mK_cpI, mL_sI, mL_sJ, mL_sR, mL_cpI, mI_sI, mI_sJ, mI_sR, mI_cpI, mJ_sI, mJ_sJ, mJ_sR, mJ_cpI, mR_sI, mR_sJ, mR_sR, mR_cpI, i2b_i2b, i2b_sb, iI_lit, iI_add, iI_sub, iI_mul, iI_neg, iI_lt, iI_le, iI_eq, iI_J, lt_T, lt_F, le_T, le_F, eq_T, eq_F, eqN_T, eqN_F, leN_T, leN_F, ltN_T, ltN_F, if_true, if_false, and_true, true_and, and_false, false_and, or_true, true_or, or_false, false_or, not_true_eq_false, not_false_eq_true, and_self, or_self, tn_c, ne_eq, dite_true, dite_false]
    exact w_ret fin
  · rw [if_neg c] at ht
    subst ht
    simp -implicitDefEqProofs (disch := omega) only [fX9_readTable_L153, fX9_readTable_L178, k134, r134_0, r134_2, k137, l137, f1, k135, l135, kt, r134_1, k136, l136, and_1, bo_s, bd_s, bn_s, gI_s, gJ_s, gR_s, pI_s, pZ_s, pJ_s, pR_s, chk_s, chN_s, chN_n, aL_s, aI_c, aJ_c, aR_c, wI_c, wB_c, wS_c, wZ_c, wJ_c, wR_c, mK_sI, mK_sJ, mK_sR, mK_cpI, mL_sI, mL_sJ, mL_sR, mL_cpI, mI_sI, mI_sJ, mI_sR, mI_cpI, mJ_sI, mJ_sJ, mJ_sR, mJ_cpI, mR_sI, mR_sJ, mR_sR, mR_cpI, i2b_i2b, i2b_sb, iI_lit, iI_add, iI_sub, iI_mul, iI_neg, iI_lt, iI_le, iI_eq, iI_J, lt_T, lt_F, le_T, le_F, eq_T, eq_F, eqN_T, eqN_F, leN_T, leN_F, ltN_T, ltN_F, if_true, if_false, and_true, true_and, and_false, false_and, or_true, true_or, or_false, false_or, not_true_eq_false, not_false_eq_true, and_self, or_self, tn_c, ne_eq, dite_true, dite_false]
    exact w_ret fin
theorem buildOnly_ok {t s : Nat} (hT : TS M t) (hs : s < 256) : Wp (fX10_buildOnly (some t) (iI s) M) fun _ N => Sm (WT t) M N ∧ TbV N t (aln s) := by
  obtain ⟨t0, t1, t2, t3, t4, t5, t6, t7, t8, t9⟩ := hT
  have e1 : iI (s : Int) &&& iI 255 = iI s := by rw [and_255]; refine congrArg iI ?_; omega
  have mz : (0 : Int).toNat = 0 := rfl
  simp -implicitDefEqProofs (disch := omega) only [fX10_buildOnly, t0, t1, t4, t5, e1, mz, bo_s, bd_s, bn_s, gI_s, gJ_s, gR_s, pI_s, pZ_s, pJ_s, pR_s, chk_s, chN_s, chN_n, aL_s, aI_c, aJ_c, aR_c, wI_c, wB_c, wS_c, wZ_c, wJ_c, wR_c, mK_sI, mK_sJ, mK_sR, mK_cpI, mL_sI, mL_sJ, mL_sR, mL_cpI, mI_sI, mI_sJ, mI_sR, mI_cpI, mJ_sI, mJ_sJ, mJ_sR, mJ_cpI, mR_sI, mR_sJ, mR_sR, mR_cpI, i2b_i2b, i2b_sb, iI_lit, iI_add, iI_sub, iI_mul, iI_neg, iI_lt, iI_le, iI_eq, iI_J, lt_T, lt_F, le_T, le_F, eq_T, eq_F, eqN_T, eqN_F, leN_T, leN_F, ltN_T, ltN_F, if_true, if_false, and_true, true_and, and_false, false_and, or_true, true_or, or_false, false_or, not_true_eq_false, not_false_eq_true, and_self, or_self, tn_c, ne_eq, dite_true, dite_false]
  refine w_ret ⟨?_, ?_, fun q hq => ?_⟩
  · refine Sm.sI (Sm.sI Sm.rf ?_) ?_ <;> unfold WT <;> omega
  · simp -implicitDefEqProofs (disch := omega) only [mK_sI, mK_sJ, mK_sR, mK_cpI, mL_sI, mL_sJ, mL_sR, mL_cpI, mI_sI, mI_sJ, mI_sR, mI_cpI, mJ_sI, mJ_sJ, mJ_sR, mJ_cpI, mR_sI, mR_sJ, mR_sR, mR_cpI, eqN_T, eqN_F, if_true, if_false, and_true, true_and, and_false, false_and, or_true, true_or, or_false, false_or, not_true_eq_false, not_false_eq_true, and_self, or_self, tn_c, ne_eq, dite_true, dite_false]
    rfl
  · have hq : q < 2 ^ 0 := hq
    obtain rfl : q = 0 := by omega
    simp -implicitDefEqProofs (disch := omega) only [mK_sI, mK_sJ, mK_sR, mK_cpI, mL_sI, mL_sJ, mL_sR, mL_cpI, mI_sI, mI_sJ, mI_sR, mI_cpI, mJ_sI, mJ_sJ, mJ_sR, mJ_cpI, mR_sI, mR_sJ, mR_sR, mR_cpI, eqN_T, eqN_F, if_true, if_false, and_true, true_and, and_false, false_and, or_true, true_or, or_false, false_or, not_true_eq_false, not_false_eq_true, and_self, or_self, tn_c, ne_eq, dite_true, dite_false]
    refine congrArg iI ?_
    show (s : Int) = 0 * 65536 + 0 * 256 + s
    omega
set_option maxHeartbeats 4000000 in
theorem readTable_ok {st : Nat} (hC : CSt M) (hr : RS M r rb rn) (hb : BV M rb rn e u) (hr2 : r < 18) (hb2 : rb < 18) (hu : ∀ i, u i < 256) (hg : g ≤ e) (ha : a < 900000) (hk : k < 3) (h16 : mI M 134 16 = iI md) (hmd : md < 256) (hT : TKd M tb) (hD : DfV M) :
    Wp (fX9_readTable (some 134) (iI k) (some r) (iI st) (iI a) (iI g) M) (STq M u md g k a tb) := by
  have g3 := hb.2.2.1
  have g4 := hb.2.2.2.1
  obtain ⟨k134, r134_0, r134_1, r134_2, k136, l136, k137, l137⟩ : mK M 134 = 9 ∧ mR M 134 0 = some 135 ∧ mR M 134 1 = some 136 ∧ mR M 134 2 = some 137 ∧ mK M 136 = 18 ∧ mL M 136 = 3 ∧ mK M 137 = 20 ∧ mL M 137 = 3 := ⟨hC.k 134 (by omega) (by omega), hC.r 134 0 (by omega) (by omega) (by decide), hC.r 134 1 (by omega) (by omega) (by decide), hC.r 134 2 (by omega) (by omega) (by decide), hC.k 136 (by omega) (by omega), hC.l 136 (by omega) (by omega), hC.k 137 (by omega) (by omega), hC.l 137 (by omega) (by omega)⟩
  obtain ⟨f1, f2, f3, f4⟩ := hC.kf hk
  obtain ⟨s1, s2, s3, s4⟩ := hC.s0
  have hgr := grK_r k
  have hml := mlK_r k
  have em : shrI (iI md) (iI (6 - 2 * (k : Int))) &&& iI 3 = iI (mdK md k : Nat) := by
    have := shr_n (a := md) (k := 6 - 2 * k) (by omega) (by omega)
    rw [show ((6 - 2 * k : Nat) : Int) = 6 - 2 * (k : Int) by omega] at this
    rw [this, and_3]
    refine congrArg iI ?_
    unfold mdK
    omega
  have hm4 : mdK md k < 4 := Nat.mod_lt _ (by omega)
  have hoth : ∀ {N : Mem}, Sm (WTk k) M N → (∀ i, i < 3 → i ≠ k → mI N 136 i = iI (if (tb i).isSome then 1 else 0) ∧ ∀ T, tb i = some T → TG i T ∧ ∃ t, mR N 135 i = some t ∧ tOk i t ∧ TbV N t T) := by
    intro N hS i hi hne
    obtain ⟨a1, a2⟩ := hT i hi
    refine ⟨(hS.I 136 i (by unfold WTk WT; omega)).trans a1, fun T hT' => ?_⟩
    obtain ⟨b1, t, b2, b3, b4⟩ := a2 T hT'
    exact ⟨b1, t, (hS.R 135 i (by unfold WTk WT; omega)).trans b2, b3, b4.sm hS (by unfold WTk WT; omega) (by unfold WTk WT; omega)⟩
  have bad : ∀ {N : Mem} {x y : Int32}, Sm (WTk k) M N → (∀ i, mR N 135 i = mR M 135 i) → TKd N tb → rdKa u md g k a tb = none → rdKt u md g k a tb = tb → STq M u md g k a tb (iI (-1)) (sI (sI N 30 0 x) 30 1 y) := by
    intro N x y hS hR hK h1 h2
    have hs : Sm (fun a j => a = 30) N (sI (sI N 30 0 x) 30 1 y) := Sm.sI (Sm.sI Sm.rf rfl) rfl
    refine ⟨Sm.sI (Sm.sI hS (Or.inl ⟨rfl, by omega⟩)) (Or.inl ⟨rfl, by omega⟩), ?_, fun i _ => Or.inl (hR i), fun _ => rfl, fun p h => by rw [h1] at h; cases h⟩
    rw [h2]
    exact hK.sm hs fun i hi => ⟨by omega, by omega, fun t j ht => ⟨by omega, by omega⟩⟩
  by_cases c3 : mdK md k = 3
  · obtain ⟨q1, q2⟩ := hT k hk
    rw [c3, show ((3 : Nat) : Int) = 3 from rfl] at em
    cases hx : tb k with
    | none =>
      rw [hx] at q1
      have q1 : mI M 136 k = iI 0 := q1
      have h1 : rdKa u md g k a tb = none := by unfold rdKa; rw [if_pos c3, hx]; rfl
      have h2 : rdKt u md g k a tb = tb := by unfold rdKt; rw [if_pos c3]
      have e1 := wrong_ok hC (iI 16) (iI st)
      have := bad (x := iI 16) (y := iI st) Sm.rf (fun _ => rfl) hT h1 h2
      clear hb hr hC hT hD hoth bad
      simp -implicitDefEqProofs (disch := omega) only [fX9_readTable, fX9_readTable_L42, k134, h16, em, r134_1, k136, l136, q1, e1, bo_s, bd_s, bn_s, gI_s, gJ_s, gR_s, pI_s, pZ_s, pJ_s, pR_s, chk_s, chN_s, chN_n, aL_s, aI_c, aJ_c, aR_c, wI_c, wB_c, wS_c, wZ_c, wJ_c, wR_c, mK_sI, mK_sJ, mK_sR, mK_cpI, mL_sI, mL_sJ, mL_sR, mL_cpI, mI_sI, mI_sJ, mI_sR, mI_cpI, mJ_sI, mJ_sJ, mJ_sR, mJ_cpI, mR_sI, mR_sJ, mR_sR, mR_cpI, i2b_i2b, i2b_sb, iI_lit, iI_add, iI_sub, iI_mul, iI_neg, iI_lt, iI_le, iI_eq, iI_J, lt_T, lt_F, le_T, le_F, eq_T, eq_F, eqN_T, eqN_F, leN_T, leN_F, ltN_T, ltN_F, if_true, if_false, and_true, true_and, and_false, false_and, or_true, true_or, or_false, false_or, not_true_eq_false, not_false_eq_true, and_self, or_self, tn_c, ne_eq, dite_true, dite_false]
      exact w_ret this
    | some T =>
      rw [hx] at q1
      have q1 : mI M 136 k = iI 1 := q1
      have h1 : rdKa u md g k a tb = some a := by unfold rdKa; rw [if_pos c3, hx]; rfl
      have h2 : rdKt u md g k a tb = tb := by unfold rdKt; rw [if_pos c3]
      have fin : STq M u md g k a tb (iI a) M := ⟨Sm.rf, by rw [h2]; exact hT, fun i _ => Or.inl rfl, fun h => (by rw [h1] at h; cases h), fun p h => by rw [h1] at h; cases h; rfl⟩
      clear hb hr hC hT hD hoth bad
      simp -implicitDefEqProofs (disch := omega) only [fX9_readTable, fX9_readTable_L42, k134, h16, em, r134_1, k136, l136, q1, bo_s, bd_s, bn_s, gI_s, gJ_s, gR_s, pI_s, pZ_s, pJ_s, pR_s, chk_s, chN_s, chN_n, aL_s, aI_c, aJ_c, aR_c, wI_c, wB_c, wS_c, wZ_c, wJ_c, wR_c, mK_sI, mK_sJ, mK_sR, mK_cpI, mL_sI, mL_sJ, mL_sR, mL_cpI, mI_sI, mI_sJ, mI_sR, mI_cpI, mJ_sI, mJ_sJ, mJ_sR, mJ_cpI, mR_sI, mR_sJ, mR_sR, mR_cpI, i2b_i2b, i2b_sb, iI_lit, iI_add, iI_sub, iI_mul, iI_neg, iI_lt, iI_le, iI_eq, iI_J, lt_T, lt_F, le_T, le_F, eq_T, eq_F, eqN_T, eqN_F, leN_T, leN_F, ltN_T, ltN_F, if_true, if_false, and_true, true_and, and_false, false_and, or_true, true_or, or_false, false_or, not_true_eq_false, not_false_eq_true, and_self, or_self, tn_c, ne_eq, dite_true, dite_false]
      exact w_ret fin
  · by_cases c1 : mdK md k = 1
    · rw [c1, show ((1 : Nat) : Int) = 1 from rfl] at em
      by_cases c4 : g ≤ a
      · have h1 : rdKa u md g k a tb = none := by unfold rdKa; rw [if_neg c3, if_pos c1, if_pos (Or.inl c4)]
        have h2 : rdKt u md g k a tb = tb := by unfold rdKt; rw [if_neg c3, if_pos c1, if_pos (Or.inl c4)]
        have e1 := wrong_ok hC (iI 15) (iI a)
        have := bad (x := iI 15) (y := iI a) Sm.rf (fun _ => rfl) hT h1 h2
        clear hb hr hC hT hD hoth bad
        simp -implicitDefEqProofs (disch := omega) only [fX9_readTable, fX9_readTable_L80, k134, h16, em, e1, bo_s, bd_s, bn_s, gI_s, gJ_s, gR_s, pI_s, pZ_s, pJ_s, pR_s, chk_s, chN_s, chN_n, aL_s, aI_c, aJ_c, aR_c, wI_c, wB_c, wS_c, wZ_c, wJ_c, wR_c, mK_sI, mK_sJ, mK_sR, mK_cpI, mL_sI, mL_sJ, mL_sR, mL_cpI, mI_sI, mI_sJ, mI_sR, mI_cpI, mJ_sI, mJ_sJ, mJ_sR, mJ_cpI, mR_sI, mR_sJ, mR_sR, mR_cpI, i2b_i2b, i2b_sb, iI_lit, iI_add, iI_sub, iI_mul, iI_neg, iI_lt, iI_le, iI_eq, iI_J, lt_T, lt_F, le_T, le_F, eq_T, eq_F, eqN_T, eqN_F, leN_T, leN_F, ltN_T, ltN_F, if_true, if_false, and_true, true_and, and_false, false_and, or_true, true_or, or_false, false_or, not_true_eq_false, not_false_eq_true, and_self, or_self, tn_c, ne_eq, dite_true, dite_false]
        exact w_ret this
      · have r1 := hr.1
        have e0 := get_ok hr (a : Int) (by omega) (by omega)
        rw [gB_u (hb.rd (i := (a : Int)) (j := a) rfl (by omega)) (hu _) (by omega)] at e0
        have hua := hu a
        by_cases c5 : grK k < u a
        · have h1 : rdKa u md g k a tb = none := by unfold rdKa; rw [if_neg c3, if_pos c1, if_pos (Or.inr c5)]
          have h2 : rdKt u md g k a tb = tb := by unfold rdKt; rw [if_neg c3, if_pos c1, if_pos (Or.inr c5)]
          have e1 := wrong_ok hC (iI 15) (iI a)
          have := bad (x := iI 15) (y := iI a) Sm.rf (fun _ => rfl) hT h1 h2
          clear hb hr hC hT hD hoth bad
          simp -implicitDefEqProofs (disch := omega) only [fX9_readTable, fX9_readTable_L80, k134, h16, em, r1, e0, s1, s2, f3, e1, bo_s, bd_s, bn_s, gI_s, gJ_s, gR_s, pI_s, pZ_s, pJ_s, pR_s, chk_s, chN_s, chN_n, aL_s, aI_c, aJ_c, aR_c, wI_c, wB_c, wS_c, wZ_c, wJ_c, wR_c, mK_sI, mK_sJ, mK_sR, mK_cpI, mL_sI, mL_sJ, mL_sR, mL_cpI, mI_sI, mI_sJ, mI_sR, mI_cpI, mJ_sI, mJ_sJ, mJ_sR, mJ_cpI, mR_sI, mR_sJ, mR_sR, mR_cpI, i2b_i2b, i2b_sb, iI_lit, iI_add, iI_sub, iI_mul, iI_neg, iI_lt, iI_le, iI_eq, iI_J, lt_T, lt_F, le_T, le_F, eq_T, eq_F, eqN_T, eqN_F, leN_T, leN_F, ltN_T, ltN_F, if_true, if_false, and_true, true_and, and_false, false_and, or_true, true_or, or_false, false_or, not_true_eq_false, not_false_eq_true, and_self, or_self, tn_c, ne_eq, dite_true, dite_false]
          exact w_ret this
        · have h1 : rdKa u md g k a tb = some (a + 1) := by unfold rdKa; rw [if_neg c3, if_pos c1, if_neg (by omega)]
          have h2 : rdKt u md g k a tb = upT tb k (some (aln (u a))) := by unfold rdKt; rw [if_neg c3, if_pos c1, if_neg (by omega)]
          have hTS := hC.ts hk (Or.inr (Or.inl rfl))
          obtain ⟨v, N, e1, hS, hV⟩ := buildOnly_ok (t := 144 + 5 * k) hTS hua
          have hS' : Sm (WTk k) M N := hS.weak fun a j h => Or.inr (Or.inl h)
          have kt := hTS.1
          have := stab153 (N := N) (m := 1) (p := a + 1) (t := 144 + 5 * k) (T := aln (u a)) hC hk hS' (by omega) rfl (hoth hS') ⟨aln_R hua, fun q _ => by show u a ≤ grK k; omega⟩ hV h1 h2
          rw [show ((1 : Nat) : Int) = 1 from rfl, show ((a + 1 : Nat) : Int) = (a : Int) + 1 by omega] at this
          clear hb hr hC hT hD hoth bad hTS
          simp -implicitDefEqProofs (disch := omega) only [fX9_readTable, fX9_readTable_L80, k134, h16, em, r1, e0, s1, s2, f3, r134_2, k137, l137, f1, kt, e1, bo_s, bd_s, bn_s, gI_s, gJ_s, gR_s, pI_s, pZ_s, pJ_s, pR_s, chk_s, chN_s, chN_n, aL_s, aI_c, aJ_c, aR_c, wI_c, wB_c, wS_c, wZ_c, wJ_c, wR_c, mK_sI, mK_sJ, mK_sR, mK_cpI, mL_sI, mL_sJ, mL_sR, mL_cpI, mI_sI, mI_sJ, mI_sR, mI_cpI, mJ_sI, mJ_sJ, mJ_sR, mJ_cpI, mR_sI, mR_sJ, mR_sR, mR_cpI, i2b_i2b, i2b_sb, iI_lit, iI_add, iI_sub, iI_mul, iI_neg, iI_lt, iI_le, iI_eq, iI_J, lt_T, lt_F, le_T, le_F, eq_T, eq_F, eqN_T, eqN_F, leN_T, leN_F, ltN_T, ltN_F, if_true, if_false, and_true, true_and, and_false, false_and, or_true, true_or, or_false, false_or, not_true_eq_false, not_false_eq_true, and_self, or_self, tn_c, ne_eq, dite_true, dite_false]
          exact this
    · by_cases c2 : mdK md k = 2
      · rw [c2, show ((2 : Nat) : Int) = 2 from rfl] at em
        have hTS := hC.ts hk (Or.inr (Or.inl rfl))
        have kt := hTS.1
        obtain ⟨v, N, e1, hA, hB⟩ := read_ok (t := 144 + 5 * k) (a := a) (g := g) (gr := grK k) (most := mlK k) hTS hr hb (by omega) (by omega) hu hg (by omega) hgr hml
        cases hx : rdT u a g (grK k) (mlK k) with
        | none =>
          obtain ⟨hv, hS⟩ := hA hx
          subst hv
          have h1 : rdKa u md g k a tb = none := by unfold rdKa; rw [if_neg c3, if_neg c1, if_pos c2, hx]
          have h2 : rdKt u md g k a tb = tb := by unfold rdKt; rw [if_neg c3, if_neg c1, if_pos c2, hx]
          have hS' : Sm (WTk k) M N := hS.weak fun a j h => Or.inr (Or.inl (by unfold WN at h; unfold WT; omega))
          have hCN := hC.sm hS' (WTk_fx hk)
          have e2 := wrong_ok hCN (iI 15) (iI a)
          have := bad (x := iI 15) (y := iI a) hS' (fun i => hS.R 135 i (by unfold WN; omega)) (hT.sm hS fun i hi => ⟨by unfold WN; omega, by unfold WN; omega, fun t j ht => ⟨by unfold WN; omega, by unfold WN; omega⟩⟩) h1 h2
          have nk134 : mK N 134 = 9 := hCN.k 134 (by omega) (by omega)
          clear hb hr hC hT hD hoth bad hTS hCN
          simp -implicitDefEqProofs (disch := omega) only [fX9_readTable, k134, h16, em, r134_2, k137, l137, f1, s1, s2, s3, s4, f3, f4, kt, e1, nk134, e2, bo_s, bd_s, bn_s, gI_s, gJ_s, gR_s, pI_s, pZ_s, pJ_s, pR_s, chk_s, chN_s, chN_n, aL_s, aI_c, aJ_c, aR_c, wI_c, wB_c, wS_c, wZ_c, wJ_c, wR_c, mK_sI, mK_sJ, mK_sR, mK_cpI, mL_sI, mL_sJ, mL_sR, mL_cpI, mI_sI, mI_sJ, mI_sR, mI_cpI, mJ_sI, mJ_sJ, mJ_sR, mJ_cpI, mR_sI, mR_sJ, mR_sR, mR_cpI, i2b_i2b, i2b_sb, iI_lit, iI_add, iI_sub, iI_mul, iI_neg, iI_lt, iI_le, iI_eq, iI_J, lt_T, lt_F, le_T, le_F, eq_T, eq_F, eqN_T, eqN_F, leN_T, leN_F, ltN_T, ltN_F, if_true, if_false, and_true, true_and, and_false, false_and, or_true, true_or, or_false, false_or, not_true_eq_false, not_false_eq_true, and_self, or_self, tn_c, ne_eq, dite_true, dite_false]
          exact w_ret this
        | some x =>
          obtain ⟨p, T⟩ := x
          obtain ⟨hv, hS, hV⟩ := hB _ _ hx
          subst hv
          have h1 : rdKa u md g k a tb = some p := by unfold rdKa; rw [if_neg c3, if_neg c1, if_pos c2, hx]
          have h2 : rdKt u md g k a tb = upT tb k (some T) := by unfold rdKt; rw [if_neg c3, if_neg c1, if_pos c2, hx]
          have hS' : Sm (WTk k) M N := hS.weak fun a j h => Or.inr (Or.inl h)
          have := stab153 (N := N) (m := 2) (p := p) (t := 144 + 5 * k) (T := T) hC hk hS' (by omega) rfl (hoth hS') ⟨rdT_R hx hml hgr, fun q _ => rdT_s hx hml hgr q⟩ hV h1 h2
          rw [show ((2 : Nat) : Int) = 2 from rfl] at this
          obtain ⟨-, -, -, -, -, -, hpg, -⟩ := rdT_ok hx hml hgr
          clear hb hr hC hT hD hoth bad hTS
          simp -implicitDefEqProofs (disch := omega) only [fX9_readTable, k134, h16, em, r134_2, k137, l137, f1, s1, s2, s3, s4, f3, f4, kt, e1, bo_s, bd_s, bn_s, gI_s, gJ_s, gR_s, pI_s, pZ_s, pJ_s, pR_s, chk_s, chN_s, chN_n, aL_s, aI_c, aJ_c, aR_c, wI_c, wB_c, wS_c, wZ_c, wJ_c, wR_c, mK_sI, mK_sJ, mK_sR, mK_cpI, mL_sI, mL_sJ, mL_sR, mL_cpI, mI_sI, mI_sJ, mI_sR, mI_cpI, mJ_sI, mJ_sJ, mJ_sR, mJ_cpI, mR_sI, mR_sJ, mR_sR, mR_cpI, i2b_i2b, i2b_sb, iI_lit, iI_add, iI_sub, iI_mul, iI_neg, iI_lt, iI_le, iI_eq, iI_J, lt_T, lt_F, le_T, le_F, eq_T, eq_F, eqN_T, eqN_F, leN_T, leN_F, ltN_T, ltN_F, if_true, if_false, and_true, true_and, and_false, false_and, or_true, true_or, or_false, false_or, not_true_eq_false, not_false_eq_true, and_self, or_self, tn_c, ne_eq, dite_true, dite_false]
          exact this
      · have c0 : mdK md k = 0 := by omega
        rw [c0, show ((0 : Nat) : Int) = 0 from rfl] at em
        have h1 : rdKa u md g k a tb = some a := by unfold rdKa; rw [if_neg c3, if_neg c1, if_neg c2]
        have h2 : rdKt u md g k a tb = upT tb k (some (dft k)) := by unfold rdKt; rw [if_neg c3, if_neg c1, if_neg c2]
        have := stab153 (N := M) (m := 0) (p := a) (t := 107 + 5 * k) (T := dft k) hC hk Sm.rf (by omega) rfl (hoth Sm.rf) ⟨dft_R hk, fun q _ => dft_g hk q⟩ (hD k hk) h1 h2
        rw [show ((0 : Nat) : Int) = 0 from rfl] at this
        clear hb hr hC hT hD hoth bad
        simp -implicitDefEqProofs (disch := omega) only [fX9_readTable, k134, h16, em, bo_s, bd_s, bn_s, gI_s, gJ_s, gR_s, pI_s, pZ_s, pJ_s, pR_s, chk_s, chN_s, chN_n, aL_s, aI_c, aJ_c, aR_c, wI_c, wB_c, wS_c, wZ_c, wJ_c, wR_c, mK_sI, mK_sJ, mK_sR, mK_cpI, mL_sI, mL_sJ, mL_sR, mL_cpI, mI_sI, mI_sJ, mI_sR, mI_cpI, mJ_sI, mJ_sJ, mJ_sR, mJ_cpI, mR_sI, mR_sJ, mR_sR, mR_cpI, i2b_i2b, i2b_sb, iI_lit, iI_add, iI_sub, iI_mul, iI_neg, iI_lt, iI_le, iI_eq, iI_J, lt_T, lt_F, le_T, le_F, eq_T, eq_F, eqN_T, eqN_F, leN_T, leN_F, ltN_T, ltN_F, if_true, if_false, and_true, true_and, and_false, false_and, or_true, true_or, or_false, false_or, not_true_eq_false, not_false_eq_true, and_self, or_self, tn_c, ne_eq, dite_true, dite_false]
        exact this
end STAB
