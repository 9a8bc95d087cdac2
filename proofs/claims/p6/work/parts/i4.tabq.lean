/-! the table that SEQUENCES take: as numbers, and the class's -/
def gtQ (f : Nat → Nat) : Nat → Nat
  | 0 => 0
  | k + 1 => max (gtQ f k) (f k)
def mdQ (lv : Nat) (f : Nat → Nat) (m : Nat) : Nat := if lv < 2 ∨ m < 8 then 0 else if cnH f m (gtQ f m) = m then 1 else 2
def tqQ (lv k : Nat) (f : Nat → Nat) (m : Nat) : Tb := if mdQ lv f m = 0 then dft k else if mdQ lv f m = 1 then aln (gtQ f m) else pkT (cnH f m) (gtQ f m) m
def bQt (lv : Nat) (f : Nat → Nat) (m : Nat) : Nat × Nat := if mdQ lv f m = 0 then (0, 0) else if mdQ lv f m = 1 then (gtQ f m, 8) else (bWr (pkC (cnH f m) (gtQ f m) m) (pkl m) (gtQ f m + 1)).1
def ctQ (md k : Nat) : Nat := if md = 0 then 107 + 5 * k else 183 + 5 * k
section TABQ
variable {M N : Mem} {lv k m p i s : Nat} {f cn cp vl u : Nat → Nat}
theorem ctQ_0 {md : Nat} (h : md = 0) : ctQ md k = 107 + 5 * k := if_pos h
theorem ctQ_1 {md : Nat} (h : md ≠ 0) : ctQ md k = 183 + 5 * k := if_neg h
theorem ctQ_r (md k : Nat) : ctQ md k = 107 + 5 * k ∨ ctQ md k = 183 + 5 * k := by
  by_cases h : md = 0
  · exact Or.inl (ctQ_0 h)
  · exact Or.inr (ctQ_1 h)
theorem gtQ_le : ∀ m, (∀ i, i < m → f i ≤ gtQ f m)
  | 0, i, h => by omega
  | m + 1, i, h => by
    rw [gtQ]
    by_cases e : i = m
    · rw [e]; omega
    · have := gtQ_le m i (by omega)
      omega
theorem gtQ_b {b : Nat} : ∀ m, (∀ i, i < m → f i ≤ b) → gtQ f m ≤ b
  | 0, _ => Nat.zero_le _
  | m + 1, h => by
    have h1 := gtQ_b m fun i hi => h i (by omega)
    have h2 := h m (by omega)
    rw [gtQ]
    omega
theorem gtQ_ex : ∀ m, 0 < m → ∃ i, i < m ∧ f i = gtQ f m
  | 0, h => by omega
  | m + 1, _ => by
    rw [gtQ]
    by_cases e : gtQ f m ≤ f m
    · exact ⟨m, by omega, by omega⟩
    · by_cases z : m = 0
      · subst z
        rw [gtQ] at e
        omega
      · obtain ⟨i, h1, h2⟩ := gtQ_ex m (by omega)
        exact ⟨i, by omega, by omega⟩
theorem cnH_0 : ∀ m, (∀ i, i < m → f i ≠ s) → cnH f m s = 0
  | 0, _ => rfl
  | m + 1, h => by
    rw [cnH, if_neg (h m (by omega)), cnH_0 m fun i hi => h i (by omega)]
theorem cnH_b : ∀ m, cnH f m s ≤ m
  | 0 => Nat.le_refl _
  | m + 1 => by
    have := cnH_b m
    rw [cnH]
    split <;> omega
theorem cnH_all : ∀ m, cnH f m s = m → ∀ i, i < m → f i = s
  | 0, _, i, hi => by omega
  | m + 1, h, i, hi => by
    have hb := cnH_b (f := f) (s := s) m
    rw [cnH] at h
    by_cases e : f m = s
    · rw [if_pos e] at h
      by_cases ei : i = m
      · rw [ei]; exact e
      · exact cnH_all m (by omega) i (by omega)
    · rw [if_neg e] at h
      omega
theorem PH_of (hf : ∀ i, i < m → f i ≤ 52) (hm : 8 ≤ m ∧ m ≤ 512) : PH (cnH f m) (gtQ f m) m := by
  have hg := gtQ_b m hf
  have h0 : ∀ s, gtQ f m < s → cnH f m s = 0 := fun s hs => cnH_0 m fun i hi e => by
    have := gtQ_le (f := f) m i hi
    omega
  refine ⟨?_, h0, hg, hm.1, by omega⟩
  have h1 := cn_sum (u := f) m fun i hi => by
    have := hf i hi
    omega
  have h2 := suH_00 (f := cnH f m) (k := gtQ f m + 1) 128 (by omega) fun i a b => h0 i (by omega)
  omega
theorem pkC_g (hf : ∀ i, i < m → f i ≤ 52) (hm : 8 ≤ m ∧ m ≤ 512) (hi : i < m) : pkC (cnH f m) (gtQ f m) m (f i) ≠ 0 := by
  have h1 := (pkC_I (PH_of hf hm)).2.2 (f i)
  have h2 := cn_pos (lu := f) m i hi
  have := h1 (by omega)
  omega
theorem pkC_su (hP : PH (cnH f m) (gtQ f m) m) (q : Nat) : suH q (pkC (cnH f m) (gtQ f m) m) ≤ 2 ^ pkl m := by
  obtain ⟨i1, i2, i3⟩ := pkC_I hP
  have h2 := hP.2.1
  by_cases c : q ≤ gtQ f m + 1
  · rw [← i1]
    exact suH_mk c
  · rw [suH_00 (f := pkC (cnH f m) (gtQ f m) m) (k := gtQ f m + 1) q (by omega) fun i a b => i2 i (h2 i (by omega)), i1]
    exact Nat.le_refl _
theorem mdQ_2 : mdQ lv f m ≤ 2 := by
  unfold mdQ
  split
  · omega
  · split <;> omega
theorem mdQ_m (h : mdQ lv f m ≠ 0) : 2 ≤ lv ∧ 8 ≤ m := by
  unfold mdQ at h
  by_cases c : lv < 2 ∨ m < 8
  · rw [if_pos c] at h
    omega
  · omega
theorem tqQ_R (hk : k < 3) (hf : ∀ i, i < m → f i ≤ 52) (hm : m ≤ 512) : TbR (tqQ lv k f m) := by
  unfold tqQ
  by_cases c0 : mdQ lv f m = 0
  · rw [if_pos c0]
    exact dft_R hk
  · obtain ⟨l2, m8⟩ := mdQ_m c0
    rw [if_neg c0]
    by_cases c1 : mdQ lv f m = 1
    · rw [if_pos c1]
      have := gtQ_b m hf
      exact aln_R (by omega)
    · rw [if_neg c1]
      exact TR_of (pk_CO (PH_of hf ⟨m8, hm⟩))
theorem tqQ_cov (hk : k < 3) (hf : ∀ i, i < m → f i ≤ 52 ∧ f i < dSK k) (hm : m ≤ 512) (hi : i < m) : TCv (tqQ lv k f m) (f i) := by
  unfold tqQ
  by_cases c0 : mdQ lv f m = 0
  · rw [if_pos c0]
    exact dft_cov hk (hf i hi).2
  · obtain ⟨l2, m8⟩ := mdQ_m c0
    rw [if_neg c0]
    by_cases c1 : mdQ lv f m = 1
    · rw [if_pos c1]
      have e : cnH f m (gtQ f m) = m := Classical.byContradiction fun z => by
        unfold mdQ at c1
        rw [if_neg (by omega), if_neg z] at c1
        omega
      rw [cnH_all m e i hi]
      exact aln_cov
    · rw [if_neg c1]
      have hf1 : ∀ i, i < m → f i ≤ 52 := fun i hi => (hf i hi).1
      have hP := PH_of hf1 ⟨m8, hm⟩
      refine tb_cov (pk_CO hP) ?_ ?_
      · have := gtQ_le (f := f) m i hi
        omega
      · have := pkC_g hf1 ⟨m8, hm⟩ hi
        unfold pkI
        omega
theorem bQt_D (hf : ∀ i, i < m → f i ≤ 52) (hm : m ≤ 512) : (bQt lv f m).2 ≤ 700 := by
  unfold bQt
  by_cases c0 : mdQ lv f m = 0
  · rw [if_pos c0]
    exact Nat.zero_le _
  · obtain ⟨l2, m8⟩ := mdQ_m c0
    rw [if_neg c0]
    by_cases c1 : mdQ lv f m = 1
    · rw [if_pos c1]
      show 8 ≤ 700
      omega
    · rw [if_neg c1]
      have hP := PH_of hf ⟨m8, hm⟩
      have r := pkl_r m
      have := (bWr_f (c := pkC (cnH f m) (gtQ f m) m) (l := pkl m) (pkC_su hP) (by omega) (gtQ f m + 1)).2.2
      have hg := gtQ_b m hf
      omega
/-- the cells of the packer's own tables -/
theorem own_r (hC : CSt M) (hk : k < 3) : mR M 176 k = some (183 + 5 * k) ∧ mR M 106 k = some (107 + 5 * k) ∧ TS M (183 + 5 * k) ∧ TS M (107 + 5 * k) := by
  have h1 := (hC.kf hk).2.1
  have h2 := hC.ts hk (Or.inl rfl)
  have : k = 0 ∨ k = 1 ∨ k = 2 := by omega
  rcases this with rfl | rfl | rfl
  · exact ⟨hC.r 176 0 (by decide) (by decide) (by decide), h1, hC.t183, h2⟩
  · exact ⟨hC.r 176 1 (by decide) (by decide) (by decide), h1, hC.t188, h2⟩
  · exact ⟨hC.r 176 2 (by decide) (by decide) (by decide), h1, hC.t193, h2⟩
abbrev WTq (k a j : Nat) : Prop := (a = 177 ∧ j = k) ∨ a = 182 ∨ WT (183 + 5 * k) a j ∨ Rw2 170 171 a j
theorem WTq_fx (hk : k < 3) : ∀ a j, WTq k a j → 10 ≤ a ∧ ¬ fx a j := by
  intro a j h
  unfold WTq WT at h
  have h' : (a = 177 ∧ j = k) ∨ a = 182 ∨ ((a = 183 + 5 * k ∧ (j = 0 ∨ 4 ≤ j)) ∨ a = 184 + 5 * k ∨ a = 185 + 5 * k ∨ a = 186 + 5 * k) ∨ Rw2 170 171 a j := by
    rcases h with h | h | h | h
    · exact Or.inl h
    · exact Or.inr (Or.inl h)
    · exact Or.inr (Or.inr (Or.inl (by omega)))
    · exact Or.inr (Or.inr (Or.inr h))
  clear h
  rcases h' with ⟨rfl, h⟩ | rfl | h | h
  · exact ⟨by omega, fx_of 177 0 1 0 rfl rfl rfl (by omega)⟩
  · exact ⟨by omega, fx_of 182 0 1 0 rfl rfl rfl (by omega)⟩
  · have : k = 0 ∨ k = 1 ∨ k = 2 := by omega
    rcases this with rfl | rfl | rfl
    · rcases h with ⟨rfl, h⟩ | rfl | rfl | rfl
      · exact ⟨by omega, fx_of 183 0 1 3 rfl rfl rfl (by omega)⟩
      · exact ⟨by omega, fx_of 184 0 1 0 rfl rfl rfl (by omega)⟩
      · exact ⟨by omega, fx_of 185 0 1 0 rfl rfl rfl (by omega)⟩
      · exact ⟨by omega, fx_of 186 0 1 0 rfl rfl rfl (by omega)⟩
    · rcases h with ⟨rfl, h⟩ | rfl | rfl | rfl
      · exact ⟨by omega, fx_of 188 0 1 3 rfl rfl rfl (by omega)⟩
      · exact ⟨by omega, fx_of 189 0 1 0 rfl rfl rfl (by omega)⟩
      · exact ⟨by omega, fx_of 190 0 1 0 rfl rfl rfl (by omega)⟩
      · exact ⟨by omega, fx_of 191 0 1 0 rfl rfl rfl (by omega)⟩
    · rcases h with ⟨rfl, h⟩ | rfl | rfl | rfl
      · exact ⟨by omega, fx_of 193 0 1 3 rfl rfl rfl (by omega)⟩
      · exact ⟨by omega, fx_of 194 0 1 0 rfl rfl rfl (by omega)⟩
      · exact ⟨by omega, fx_of 195 0 1 0 rfl rfl rfl (by omega)⟩
      · exact ⟨by omega, fx_of 196 0 1 0 rfl rfl rfl (by omega)⟩
  · exact Rw2_c a j h
/-- what writeTable leaves -/
abbrev WTp (M : Mem) (lv k : Nat) (f : Nat → Nat) (m p : Nat) (u : Nat → Nat) (v : Int32) (N : Mem) : Prop := v = iI (mdQ lv f m) ∧ RV N 170 171 8000 (p + ((bQt lv f m).2 + 7) / 8) (wr u p (bQt lv f m).1) ∧ mJ N 170 2 = iJ 0 ∧ mI N 170 3 = iI 0 ∧ mR N 177 k = some (ctQ (mdQ lv f m) k) ∧ TbV N (ctQ (mdQ lv f m) k) (tqQ lv k f m) ∧ Sm (WTq k) M N
theorem wr_0 {X : Nat} (hB : RV M 170 171 8000 p u) : RV M 170 171 8000 p (wr u p X) := hB.ext fun j h1 h2 => by unfold wr; rw [if_pos h1]
theorem cwt14_ok (hC : CSt M) (hD : DfV M) (hk : k < 3) (hm0 : mdQ lv f m = 0) (hB : RV M 170 171 8000 p u) (h2 : mJ M 170 2 = iJ 0) (h3 : mI M 170 3 = iI 0) :
    Wp (fX6_writeTable_L14 (some 159) (iI k) M) fun v N => WTp M lv k f m p u v N := by
  obtain ⟨o1, o2, o3, o4⟩ := own_r hC hk
  obtain ⟨k159, r159_4, r159_6, k106, l106, k177, l177⟩ : mK M 159 = 6 ∧ mR M 159 4 = some 106 ∧ mR M 159 6 = some 177 ∧ mK M 106 = 20 ∧ mL M 106 = 3 ∧ mK M 177 = 20 ∧ mL M 177 = 3 := ⟨hC.k 159 (by decide) (by decide), hC.r 159 4 (by decide) (by decide) (by decide), hC.r 159 6 (by decide) (by decide) (by decide), hC.k 106 (by decide) (by decide), hC.l 106 (by decide) (by decide), hC.k 177 (by decide) (by decide), hC.l 177 (by decide) (by decide)⟩
  have kt := o4.1
  obtain ⟨N, hN⟩ : ∃ N, sR M 177 k (some (107 + 5 * k)) = N := ⟨_, rfl⟩
  have sN : Sm (fun a j => a = 177 ∧ j = k) M N := by rw [← hN]; exact Sm.sR Sm.rf ⟨rfl, rfl⟩
  have fin : (fun (v : Int32) N => WTp M lv k f m p u v N) (iI 0) N := by
    refine ⟨by rw [hm0]; rfl, ?_, (sN.J 170 2 (by first | decide | omega)).trans h2, (sN.I 170 3 (by first | decide | omega)).trans h3, ?_, ?_, sN.weak fun a j h => Or.inl h⟩
    · have e : bQt lv f m = (0, 0) := by unfold bQt; rw [if_pos hm0]
      rw [e]
      exact wr_0 (hB.sm sN (by omega) (by omega) (by omega))
    · rw [ctQ_0 hm0, ← hN]
      simp -implicitDefEqProofs (disch := (first | decide | omega)) only [mK_sI, mK_sJ, mK_sR, mK_cpI, mL_sI, mL_sJ, mL_sR, mL_cpI, mI_sI, mI_sJ, mI_sR, mI_cpI, mJ_sI, mJ_sJ, mJ_sR, mJ_cpI, mR_sI, mR_sJ, mR_sR, mR_cpI, eqN_T, eqN_F, if_true, if_false, and_true, true_and, and_false, false_and, or_true, true_or, or_false, false_or, not_true_eq_false, not_false_eq_true, and_self, or_self, tn_c, ne_eq, dite_true, dite_false]
    · have e : tqQ lv k f m = dft k := by unfold tqQ; rw [if_pos hm0]
      rw [ctQ_0 hm0, e]
      exact (hD k hk).sm sN (by omega) (by omega)
  clear hC hD hB o3 o4 sN h2 h3
  (with_reducible apply w_e; · ((repeat' (first | (with_reducible apply bo_t; · ((try (simp -implicitDefEqProofs (disch := (first | decide | omega)) only [k159, r159_4, r159_6, k106, l106, o2, k177, l177, kt, hN, bo_s, bd_s, bn_s, gI_s, gJ_s, gR_s, pI_s, pZ_s, pJ_s, pR_s, chk_s, chN_s, chN_n, aL_s, aI_c, aJ_c, aR_c, wI_c, wB_c, wS_c, wZ_c, wJ_c, wR_c, mK_sI, mK_sJ, mK_sR, mK_cpI, mL_sI, mL_sJ, mL_sR, mL_cpI, mI_sI, mI_sJ, mI_sR, mI_cpI, mJ_sI, mJ_sJ, mJ_sR, mJ_cpI, mR_sI, mR_sJ, mR_sR, mR_cpI, i2b_i2b, i2b_sb, iI_lit, iI_add, iI_sub, iI_mul, iI_neg, iI_lt, iI_le, iI_eq, iI_J, lt_T, lt_F, le_T, le_F, eq_T, eq_F, eqN_T, eqN_F, leN_T, leN_F, ltN_T, ltN_F, if_true, if_false, and_true, true_and, and_false, false_and, or_true, true_or, or_false, false_or, not_true_eq_false, not_false_eq_true, and_self, or_self, tn_c, ne_eq, dite_true, dite_false])); (with_reducible exact rfl))) | (with_reducible apply bd_t; · ((try (simp -implicitDefEqProofs (disch := (first | decide | omega)) only [k159, r159_4, r159_6, k106, l106, o2, k177, l177, kt, hN, bo_s, bd_s, bn_s, gI_s, gJ_s, gR_s, pI_s, pZ_s, pJ_s, pR_s, chk_s, chN_s, chN_n, aL_s, aI_c, aJ_c, aR_c, wI_c, wB_c, wS_c, wZ_c, wJ_c, wR_c, mK_sI, mK_sJ, mK_sR, mK_cpI, mL_sI, mL_sJ, mL_sR, mL_cpI, mI_sI, mI_sJ, mI_sR, mI_cpI, mJ_sI, mJ_sJ, mJ_sR, mJ_cpI, mR_sI, mR_sJ, mR_sR, mR_cpI, i2b_i2b, i2b_sb, iI_lit, iI_add, iI_sub, iI_mul, iI_neg, iI_lt, iI_le, iI_eq, iI_J, lt_T, lt_F, le_T, le_F, eq_T, eq_F, eqN_T, eqN_F, leN_T, leN_F, ltN_T, ltN_F, if_true, if_false, and_true, true_and, and_false, false_and, or_true, true_or, or_false, false_or, not_true_eq_false, not_false_eq_true, and_self, or_self, tn_c, ne_eq, dite_true, dite_false])); (with_reducible exact rfl))) | (with_reducible apply bn_t; · ((try (simp -implicitDefEqProofs (disch := (first | decide | omega)) only [k159, r159_4, r159_6, k106, l106, o2, k177, l177, kt, hN, bo_s, bd_s, bn_s, gI_s, gJ_s, gR_s, pI_s, pZ_s, pJ_s, pR_s, chk_s, chN_s, chN_n, aL_s, aI_c, aJ_c, aR_c, wI_c, wB_c, wS_c, wZ_c, wJ_c, wR_c, mK_sI, mK_sJ, mK_sR, mK_cpI, mL_sI, mL_sJ, mL_sR, mL_cpI, mI_sI, mI_sJ, mI_sR, mI_cpI, mJ_sI, mJ_sJ, mJ_sR, mJ_cpI, mR_sI, mR_sJ, mR_sR, mR_cpI, i2b_i2b, i2b_sb, iI_lit, iI_add, iI_sub, iI_mul, iI_neg, iI_lt, iI_le, iI_eq, iI_J, lt_T, lt_F, le_T, le_F, eq_T, eq_F, eqN_T, eqN_F, leN_T, leN_F, ltN_T, ltN_F, if_true, if_false, and_true, true_and, and_false, false_and, or_true, true_or, or_false, false_or, not_true_eq_false, not_false_eq_true, and_self, or_self, tn_c, ne_eq, dite_true, dite_false])); (with_reducible exact rfl))) | (with_reducible apply if_t; · (simp -implicitDefEqProofs (disch := (first | decide | omega)) only [k159, r159_4, r159_6, k106, l106, o2, k177, l177, kt, hN, bo_s, bd_s, bn_s, gI_s, gJ_s, gR_s, pI_s, pZ_s, pJ_s, pR_s, chk_s, chN_s, chN_n, aL_s, aI_c, aJ_c, aR_c, wI_c, wB_c, wS_c, wZ_c, wJ_c, wR_c, mK_sI, mK_sJ, mK_sR, mK_cpI, mL_sI, mL_sJ, mL_sR, mL_cpI, mI_sI, mI_sJ, mI_sR, mI_cpI, mJ_sI, mJ_sJ, mJ_sR, mJ_cpI, mR_sI, mR_sJ, mR_sR, mR_cpI, i2b_i2b, i2b_sb, iI_lit, iI_add, iI_sub, iI_mul, iI_neg, iI_lt, iI_le, iI_eq, iI_J, lt_T, lt_F, le_T, le_F, eq_T, eq_F, eqN_T, eqN_F, leN_T, leN_F, ltN_T, ltN_F, if_true, if_false, and_true, true_and, and_false, false_and, or_true, true_or, or_false, false_or, not_true_eq_false, not_false_eq_true, and_self, or_self, tn_c, ne_eq, dite_true, dite_false]; done)) | (with_reducible apply if_f; · (simp -implicitDefEqProofs (disch := (first | decide | omega)) only [k159, r159_4, r159_6, k106, l106, o2, k177, l177, kt, hN, bo_s, bd_s, bn_s, gI_s, gJ_s, gR_s, pI_s, pZ_s, pJ_s, pR_s, chk_s, chN_s, chN_n, aL_s, aI_c, aJ_c, aR_c, wI_c, wB_c, wS_c, wZ_c, wJ_c, wR_c, mK_sI, mK_sJ, mK_sR, mK_cpI, mL_sI, mL_sJ, mL_sR, mL_cpI, mI_sI, mI_sJ, mI_sR, mI_cpI, mJ_sI, mJ_sJ, mJ_sR, mJ_cpI, mR_sI, mR_sJ, mR_sR, mR_cpI, i2b_i2b, i2b_sb, iI_lit, iI_add, iI_sub, iI_mul, iI_neg, iI_lt, iI_le, iI_eq, iI_J, lt_T, lt_F, le_T, le_F, eq_T, eq_F, eqN_T, eqN_F, leN_T, leN_F, ltN_T, ltN_F, if_true, if_false, and_true, true_and, and_false, false_and, or_true, true_or, or_false, false_or, not_true_eq_false, not_false_eq_true, and_self, or_self, tn_c, ne_eq, dite_true, dite_false]; done)) | (with_reducible apply rz_t; · (simp -implicitDefEqProofs (disch := (first | decide | omega)) only [k159, r159_4, r159_6, k106, l106, o2, k177, l177, kt, hN, bo_s, bd_s, bn_s, gI_s, gJ_s, gR_s, pI_s, pZ_s, pJ_s, pR_s, chk_s, chN_s, chN_n, aL_s, aI_c, aJ_c, aR_c, wI_c, wB_c, wS_c, wZ_c, wJ_c, wR_c, mK_sI, mK_sJ, mK_sR, mK_cpI, mL_sI, mL_sJ, mL_sR, mL_cpI, mI_sI, mI_sJ, mI_sR, mI_cpI, mJ_sI, mJ_sJ, mJ_sR, mJ_cpI, mR_sI, mR_sJ, mR_sR, mR_cpI, i2b_i2b, i2b_sb, iI_lit, iI_add, iI_sub, iI_mul, iI_neg, iI_lt, iI_le, iI_eq, iI_J, lt_T, lt_F, le_T, le_F, eq_T, eq_F, eqN_T, eqN_F, leN_T, leN_F, ltN_T, ltN_F, if_true, if_false, and_true, true_and, and_false, false_and, or_true, true_or, or_false, false_or, not_true_eq_false, not_false_eq_true, and_self, or_self, tn_c, ne_eq, dite_true, dite_false]; done)) | (unfold fX6_writeTable_L14))); (try (simp -implicitDefEqProofs (disch := (first | decide | omega)) only [k159, r159_4, r159_6, k106, l106, o2, k177, l177, kt, hN, bo_s, bd_s, bn_s, gI_s, gJ_s, gR_s, pI_s, pZ_s, pJ_s, pR_s, chk_s, chN_s, chN_n, aL_s, aI_c, aJ_c, aR_c, wI_c, wB_c, wS_c, wZ_c, wJ_c, wR_c, mK_sI, mK_sJ, mK_sR, mK_cpI, mL_sI, mL_sJ, mL_sR, mL_cpI, mI_sI, mI_sJ, mI_sR, mI_cpI, mJ_sI, mJ_sJ, mJ_sR, mJ_cpI, mR_sI, mR_sJ, mR_sR, mR_cpI, i2b_i2b, i2b_sb, iI_lit, iI_add, iI_sub, iI_mul, iI_neg, iI_lt, iI_le, iI_eq, iI_J, lt_T, lt_F, le_T, le_F, eq_T, eq_F, eqN_T, eqN_F, leN_T, leN_F, ltN_T, ltN_F, if_true, if_false, and_true, true_and, and_false, false_and, or_true, true_or, or_false, false_or, not_true_eq_false, not_false_eq_true, and_self, or_self, tn_c, ne_eq, dite_true, dite_false])); (with_reducible exact rfl)))
  exact w_ret fin
set_option maxHeartbeats 4000000 in
/-- all counted -/
theorem cwt_end {k53 : Option Nat × Int32 × Int32 × Int32 × Int32 → Mem → Option (Int32 × Mem)} {A : Mem} (hA : Sm (WTq k) A M) (hC : CSt M) (hk : k < 3) (hf : ∀ i, i < m → f i ≤ 52) (hm : 8 ≤ m ∧ m ≤ 512) (hlv : 2 ≤ lv) (h177 : mR M 177 k = some (183 + 5 * k)) (ho : ∀ s, s < 64 → mI M 182 s = iI (cnH f m s)) (hB : RV M 170 171 8000 p u) (h2 : mJ M 170 2 = iJ 0) (h3 : mI M 170 3 = iI 0) (hp : p < 50000) :
    Wp (fX6_writeTable_B53 k53 (some 159) (iI k) (iI m) (iI (gtQ f m : Nat)) (iI m) M) fun v N => WTp A lv k f m p u v N := by
  obtain ⟨o1, o2, hTS, o4⟩ := own_r hC hk
  have hg := gtQ_b m hf
  have hP := PH_of hf hm
  have hog := ho (gtQ f m) (by omega)
  have hob := cnH_b (f := f) (s := gtQ f m) m
  obtain ⟨k159, r159_1, r159_5, r159_11, k176, l176, k182, l182⟩ : mK M 159 = 6 ∧ mR M 159 1 = some 170 ∧ mR M 159 5 = some 176 ∧ mR M 159 11 = some 182 ∧ mK M 176 = 20 ∧ mL M 176 = 3 ∧ mK M 182 = 15 ∧ mL M 182 = 64 := ⟨hC.k 159 (by decide) (by decide), hC.r 159 1 (by decide) (by decide) (by decide), hC.r 159 5 (by decide) (by decide) (by decide), hC.r 159 11 (by decide) (by decide) (by decide), hC.k 176 (by decide) (by decide), hC.l 176 (by decide) (by decide), hC.k 182 (by decide) (by decide), hC.l 182 (by decide) (by decide)⟩
  have k170 : mK M 170 = 8 := hB.1.1
  have kt := hTS.1
  by_cases c1 : cnH f m (gtQ f m) = m
  · have e1 : mdQ lv f m = 1 := by unfold mdQ; rw [if_neg (by omega), if_pos c1]
    have eb : bQt lv f m = (gtQ f m, 8) := by unfold bQt; rw [if_neg (by omega), if_pos e1]
    have et : tqQ lv k f m = aln (gtQ f m) := by unfold tqQ; rw [if_neg (by omega), if_pos e1]
    obtain ⟨v1, B, b1, sB, hVB⟩ := buildOnly_ok (s := gtQ f m) hTS (by omega)
    have hBB : RV B 170 171 8000 p (wr u p (gtQ f m)) := wr_0 (hB.sm sB (by unfold WT; omega) (by unfold WT; omega) (by unfold WT; omega))
    obtain ⟨v2, N, b2, hN, sN⟩ := add_v hBB (by omega) (by omega) (by omega) (iI (gtQ f m : Nat)) (by
      unfold wr
      rw [if_neg (by omega), Nat.sub_self, Nat.pow_zero, Nat.div_one, bN_iI]
      omega)
    have fin : (fun (v : Int32) N => WTp A lv k f m p u v N) (iI 1) N := by
      refine ⟨by rw [e1]; rfl, ?_, (sN.J 170 2 (by unfold Rw; omega)).trans ((sB.J 170 2 (by unfold WT; omega)).trans h2), (sN.I 170 3 (by unfold Rw; omega)).trans ((sB.I 170 3 (by unfold WT; omega)).trans h3), ?_, ?_, hA.tr ((sB.weak fun a j h => Or.inr (Or.inr (Or.inl h))).tr (sN.weak fun a j h => Or.inr (Or.inr (Or.inr (Rw_Rw2 h)))))⟩
      · have e8 : p + ((gtQ f m, 8).2 + 7) / 8 = p + 1 := by
          show p + (8 + 7) / 8 = p + 1
          omega
        rw [eb, e8]
        exact hN
      · rw [ctQ_1 (by omega)]
        exact (sN.R 177 k (by unfold Rw; omega)).trans ((sB.R 177 k (by unfold WT; omega)).trans h177)
      · rw [ctQ_1 (by omega), et]
        exact hVB.sm sN (by unfold Rw; omega) (by unfold Rw; omega)
    have bk159 := (sB.K 159).trans k159
    have br1 := (sB.R 159 1 (by unfold WT; omega)).trans r159_1
    have bk170 := (sB.K 170).trans k170
    clear hA hC hf hP h177 ho hB h2 h3 hTS o4 hBB hN sN sB hVB o2
    rw [c1] at hog
    generalize gtQ f m = g at *
    (with_reducible apply w_e; · ((repeat' (first | (with_reducible apply bo_t; · ((try (simp -implicitDefEqProofs (disch := (first | decide | omega)) only [k159, r159_11, k182, l182, hog, r159_5, k176, l176, o1, kt, b1, bk159, br1, bk170, b2, bo_s, bd_s, bn_s, gI_s, gJ_s, gR_s, pI_s, pZ_s, pJ_s, pR_s, chk_s, chN_s, chN_n, aL_s, aI_c, aJ_c, aR_c, wI_c, wB_c, wS_c, wZ_c, wJ_c, wR_c, mK_sI, mK_sJ, mK_sR, mK_cpI, mL_sI, mL_sJ, mL_sR, mL_cpI, mI_sI, mI_sJ, mI_sR, mI_cpI, mJ_sI, mJ_sJ, mJ_sR, mJ_cpI, mR_sI, mR_sJ, mR_sR, mR_cpI, i2b_i2b, i2b_sb, iI_lit, iI_add, iI_sub, iI_mul, iI_neg, iI_lt, iI_le, iI_eq, iI_J, lt_T, lt_F, le_T, le_F, eq_T, eq_F, eqN_T, eqN_F, leN_T, leN_F, ltN_T, ltN_F, if_true, if_false, and_true, true_and, and_false, false_and, or_true, true_or, or_false, false_or, not_true_eq_false, not_false_eq_true, and_self, or_self, tn_c, ne_eq, dite_true, dite_false])); (with_reducible exact rfl))) | (with_reducible apply bd_t; · ((try (simp -implicitDefEqProofs (disch := (first | decide | omega)) only [k159, r159_11, k182, l182, hog, r159_5, k176, l176, o1, kt, b1, bk159, br1, bk170, b2, bo_s, bd_s, bn_s, gI_s, gJ_s, gR_s, pI_s, pZ_s, pJ_s, pR_s, chk_s, chN_s, chN_n, aL_s, aI_c, aJ_c, aR_c, wI_c, wB_c, wS_c, wZ_c, wJ_c, wR_c, mK_sI, mK_sJ, mK_sR, mK_cpI, mL_sI, mL_sJ, mL_sR, mL_cpI, mI_sI, mI_sJ, mI_sR, mI_cpI, mJ_sI, mJ_sJ, mJ_sR, mJ_cpI, mR_sI, mR_sJ, mR_sR, mR_cpI, i2b_i2b, i2b_sb, iI_lit, iI_add, iI_sub, iI_mul, iI_neg, iI_lt, iI_le, iI_eq, iI_J, lt_T, lt_F, le_T, le_F, eq_T, eq_F, eqN_T, eqN_F, leN_T, leN_F, ltN_T, ltN_F, if_true, if_false, and_true, true_and, and_false, false_and, or_true, true_or, or_false, false_or, not_true_eq_false, not_false_eq_true, and_self, or_self, tn_c, ne_eq, dite_true, dite_false])); (with_reducible exact rfl))) | (with_reducible apply bn_t; · ((try (simp -implicitDefEqProofs (disch := (first | decide | omega)) only [k159, r159_11, k182, l182, hog, r159_5, k176, l176, o1, kt, b1, bk159, br1, bk170, b2, bo_s, bd_s, bn_s, gI_s, gJ_s, gR_s, pI_s, pZ_s, pJ_s, pR_s, chk_s, chN_s, chN_n, aL_s, aI_c, aJ_c, aR_c, wI_c, wB_c, wS_c, wZ_c, wJ_c, wR_c, mK_sI, mK_sJ, mK_sR, mK_cpI, mL_sI, mL_sJ, mL_sR, mL_cpI, mI_sI, mI_sJ, mI_sR, mI_cpI, mJ_sI, mJ_sJ, mJ_sR, mJ_cpI, mR_sI, mR_sJ, mR_sR, mR_cpI, i2b_i2b, i2b_sb, iI_lit, iI_add, iI_sub, iI_mul, iI_neg, iI_lt, iI_le, iI_eq, iI_J, lt_T, lt_F, le_T, le_F, eq_T, eq_F, eqN_T, eqN_F, leN_T, leN_F, ltN_T, ltN_F, if_true, if_false, and_true, true_and, and_false, false_and, or_true, true_or, or_false, false_or, not_true_eq_false, not_false_eq_true, and_self, or_self, tn_c, ne_eq, dite_true, dite_false])); (with_reducible exact rfl))) | (with_reducible apply if_t; · (simp -implicitDefEqProofs (disch := (first | decide | omega)) only [k159, r159_11, k182, l182, hog, r159_5, k176, l176, o1, kt, b1, bk159, br1, bk170, b2, bo_s, bd_s, bn_s, gI_s, gJ_s, gR_s, pI_s, pZ_s, pJ_s, pR_s, chk_s, chN_s, chN_n, aL_s, aI_c, aJ_c, aR_c, wI_c, wB_c, wS_c, wZ_c, wJ_c, wR_c, mK_sI, mK_sJ, mK_sR, mK_cpI, mL_sI, mL_sJ, mL_sR, mL_cpI, mI_sI, mI_sJ, mI_sR, mI_cpI, mJ_sI, mJ_sJ, mJ_sR, mJ_cpI, mR_sI, mR_sJ, mR_sR, mR_cpI, i2b_i2b, i2b_sb, iI_lit, iI_add, iI_sub, iI_mul, iI_neg, iI_lt, iI_le, iI_eq, iI_J, lt_T, lt_F, le_T, le_F, eq_T, eq_F, eqN_T, eqN_F, leN_T, leN_F, ltN_T, ltN_F, if_true, if_false, and_true, true_and, and_false, false_and, or_true, true_or, or_false, false_or, not_true_eq_false, not_false_eq_true, and_self, or_self, tn_c, ne_eq, dite_true, dite_false]; done)) | (with_reducible apply if_f; · (simp -implicitDefEqProofs (disch := (first | decide | omega)) only [k159, r159_11, k182, l182, hog, r159_5, k176, l176, o1, kt, b1, bk159, br1, bk170, b2, bo_s, bd_s, bn_s, gI_s, gJ_s, gR_s, pI_s, pZ_s, pJ_s, pR_s, chk_s, chN_s, chN_n, aL_s, aI_c, aJ_c, aR_c, wI_c, wB_c, wS_c, wZ_c, wJ_c, wR_c, mK_sI, mK_sJ, mK_sR, mK_cpI, mL_sI, mL_sJ, mL_sR, mL_cpI, mI_sI, mI_sJ, mI_sR, mI_cpI, mJ_sI, mJ_sJ, mJ_sR, mJ_cpI, mR_sI, mR_sJ, mR_sR, mR_cpI, i2b_i2b, i2b_sb, iI_lit, iI_add, iI_sub, iI_mul, iI_neg, iI_lt, iI_le, iI_eq, iI_J, lt_T, lt_F, le_T, le_F, eq_T, eq_F, eqN_T, eqN_F, leN_T, leN_F, ltN_T, ltN_F, if_true, if_false, and_true, true_and, and_false, false_and, or_true, true_or, or_false, false_or, not_true_eq_false, not_false_eq_true, and_self, or_self, tn_c, ne_eq, dite_true, dite_false]; done)) | (with_reducible apply rz_t; · (simp -implicitDefEqProofs (disch := (first | decide | omega)) only [k159, r159_11, k182, l182, hog, r159_5, k176, l176, o1, kt, b1, bk159, br1, bk170, b2, bo_s, bd_s, bn_s, gI_s, gJ_s, gR_s, pI_s, pZ_s, pJ_s, pR_s, chk_s, chN_s, chN_n, aL_s, aI_c, aJ_c, aR_c, wI_c, wB_c, wS_c, wZ_c, wJ_c, wR_c, mK_sI, mK_sJ, mK_sR, mK_cpI, mL_sI, mL_sJ, mL_sR, mL_cpI, mI_sI, mI_sJ, mI_sR, mI_cpI, mJ_sI, mJ_sJ, mJ_sR, mJ_cpI, mR_sI, mR_sJ, mR_sR, mR_cpI, i2b_i2b, i2b_sb, iI_lit, iI_add, iI_sub, iI_mul, iI_neg, iI_lt, iI_le, iI_eq, iI_J, lt_T, lt_F, le_T, le_F, eq_T, eq_F, eqN_T, eqN_F, leN_T, leN_F, ltN_T, ltN_F, if_true, if_false, and_true, true_and, and_false, false_and, or_true, true_or, or_false, false_or, not_true_eq_false, not_false_eq_true, and_self, or_self, tn_c, ne_eq, dite_true, dite_false]; done)) | (unfold fX6_writeTable_B53))); (try (simp -implicitDefEqProofs (disch := (first | decide | omega)) only [k159, r159_11, k182, l182, hog, r159_5, k176, l176, o1, kt, b1, bk159, br1, bk170, b2, bo_s, bd_s, bn_s, gI_s, gJ_s, gR_s, pI_s, pZ_s, pJ_s, pR_s, chk_s, chN_s, chN_n, aL_s, aI_c, aJ_c, aR_c, wI_c, wB_c, wS_c, wZ_c, wJ_c, wR_c, mK_sI, mK_sJ, mK_sR, mK_cpI, mL_sI, mL_sJ, mL_sR, mL_cpI, mI_sI, mI_sJ, mI_sR, mI_cpI, mJ_sI, mJ_sJ, mJ_sR, mJ_cpI, mR_sI, mR_sJ, mR_sR, mR_cpI, i2b_i2b, i2b_sb, iI_lit, iI_add, iI_sub, iI_mul, iI_neg, iI_lt, iI_le, iI_eq, iI_J, lt_T, lt_F, le_T, le_F, eq_T, eq_F, eqN_T, eqN_F, leN_T, leN_F, ltN_T, ltN_F, if_true, if_false, and_true, true_and, and_false, false_and, or_true, true_or, or_false, false_or, not_true_eq_false, not_false_eq_true, and_self, or_self, tn_c, ne_eq, dite_true, dite_false])); (with_reducible exact rfl)))
    exact w_ret fin
  · have e1 : mdQ lv f m = 2 := by unfold mdQ; rw [if_neg (by omega), if_neg c1]
    have eb : bQt lv f m = (bWr (pkC (cnH f m) (gtQ f m) m) (pkl m) (gtQ f m + 1)).1 := by unfold bQt; rw [if_neg (by omega), if_neg (by omega)]
    have et : tqQ lv k f m = pkT (cnH f m) (gtQ f m) m := by unfold tqQ; rw [if_neg (by omega), if_neg (by omega)]
    have r := pkl_r m
    obtain ⟨v1, B, b1, hVB, h4B, hcB, sB⟩ := cbfor_ok (a := 182) hTS hP (by omega) k182 l182 ho
    have hBB : RV B 170 171 8000 p u := hB.sm sB (by unfold WT; omega) (by unfold WT; omega) (by unfold WT; omega)
    have hTB := hTS.sm sB (by unfold WT; omega) (by unfold WT; omega) (by unfold WT; omega)
    obtain ⟨v2, N, b2, n1, n2, n3, sN⟩ := cwrite_ok (c := pkC (cnH f m) (gtQ f m) m) (l := pkl m) (g := gtQ f m) hTB (by omega) hVB.1 (by omega) h4B (by omega) hcB (pkC_su hP) hBB ((sB.J 170 2 (by unfold WT; omega)).trans h2) ((sB.I 170 3 (by unfold WT; omega)).trans h3) (by omega)
    have fin : (fun (v : Int32) N => WTp A lv k f m p u v N) (iI 2) N := by
      refine ⟨by rw [e1]; rfl, ?_, n2, n3, ?_, ?_, hA.tr ((sB.weak fun a j h => Or.inr (Or.inr (Or.inl h))).tr (sN.weak fun a j h => Or.inr (Or.inr (Or.inr h))))⟩
      · rw [eb]
        exact n1
      · rw [ctQ_1 (by omega)]
        exact (sN.R 177 k (by unfold Rw2; omega)).trans ((sB.R 177 k (by unfold WT; omega)).trans h177)
      · rw [ctQ_1 (by omega), et]
        exact hVB.sm sN (by unfold Rw2; omega) (by unfold Rw2; omega)
    have bk159 := (sB.K 159).trans k159
    have br1 := (sB.R 159 1 (by unfold WT; omega)).trans r159_1
    have br5 := (sB.R 159 5 (by unfold WT; omega)).trans r159_5
    have bk176 := (sB.K 176).trans k176
    have bl176 := (sB.L 176).trans l176
    have bo1 := (sB.R 176 k (by unfold WT; omega)).trans o1
    have bkt := (sB.K (183 + 5 * k)).trans kt
    clear hA hC hf hP h177 ho hB h2 h3 hTS hTB o4 hBB n1 n2 n3 sN sB hVB o2 h4B hcB eb et
    generalize cnH f m (gtQ f m) = og at *
    generalize gtQ f m = g at *
    (with_reducible apply w_e; · ((repeat' (first | (with_reducible apply bo_t; · ((try (simp -implicitDefEqProofs (disch := (first | decide | omega)) only [k159, r159_11, k182, l182, hog, r159_5, k176, l176, o1, kt, b1, bk159, br1, br5, bk176, bl176, bo1, bkt, b2, bo_s, bd_s, bn_s, gI_s, gJ_s, gR_s, pI_s, pZ_s, pJ_s, pR_s, chk_s, chN_s, chN_n, aL_s, aI_c, aJ_c, aR_c, wI_c, wB_c, wS_c, wZ_c, wJ_c, wR_c, mK_sI, mK_sJ, mK_sR, mK_cpI, mL_sI, mL_sJ, mL_sR, mL_cpI, mI_sI, mI_sJ, mI_sR, mI_cpI, mJ_sI, mJ_sJ, mJ_sR, mJ_cpI, mR_sI, mR_sJ, mR_sR, mR_cpI, i2b_i2b, i2b_sb, iI_lit, iI_add, iI_sub, iI_mul, iI_neg, iI_lt, iI_le, iI_eq, iI_J, lt_T, lt_F, le_T, le_F, eq_T, eq_F, eqN_T, eqN_F, leN_T, leN_F, ltN_T, ltN_F, if_true, if_false, and_true, true_and, and_false, false_and, or_true, true_or, or_false, false_or, not_true_eq_false, not_false_eq_true, and_self, or_self, tn_c, ne_eq, dite_true, dite_false])); (with_reducible exact rfl))) | (with_reducible apply bd_t; · ((try (simp -implicitDefEqProofs (disch := (first | decide | omega)) only [k159, r159_11, k182, l182, hog, r159_5, k176, l176, o1, kt, b1, bk159, br1, br5, bk176, bl176, bo1, bkt, b2, bo_s, bd_s, bn_s, gI_s, gJ_s, gR_s, pI_s, pZ_s, pJ_s, pR_s, chk_s, chN_s, chN_n, aL_s, aI_c, aJ_c, aR_c, wI_c, wB_c, wS_c, wZ_c, wJ_c, wR_c, mK_sI, mK_sJ, mK_sR, mK_cpI, mL_sI, mL_sJ, mL_sR, mL_cpI, mI_sI, mI_sJ, mI_sR, mI_cpI, mJ_sI, mJ_sJ, mJ_sR, mJ_cpI, mR_sI, mR_sJ, mR_sR, mR_cpI, i2b_i2b, i2b_sb, iI_lit, iI_add, iI_sub, iI_mul, iI_neg, iI_lt, iI_le, iI_eq, iI_J, lt_T, lt_F, le_T, le_F, eq_T, eq_F, eqN_T, eqN_F, leN_T, leN_F, ltN_T, ltN_F, if_true, if_false, and_true, true_and, and_false, false_and, or_true, true_or, or_false, false_or, not_true_eq_false, not_false_eq_true, and_self, or_self, tn_c, ne_eq, dite_true, dite_false])); (with_reducible exact rfl))) | (with_reducible apply bn_t; · ((try (simp -implicitDefEqProofs (disch := (first | decide | omega)) only [k159, r159_11, k182, l182, hog, r159_5, k176, l176, o1, kt, b1, bk159, br1, br5, bk176, bl176, bo1, bkt, b2, bo_s, bd_s, bn_s, gI_s, gJ_s, gR_s, pI_s, pZ_s, pJ_s, pR_s, chk_s, chN_s, chN_n, aL_s, aI_c, aJ_c, aR_c, wI_c, wB_c, wS_c, wZ_c, wJ_c, wR_c, mK_sI, mK_sJ, mK_sR, mK_cpI, mL_sI, mL_sJ, mL_sR, mL_cpI, mI_sI, mI_sJ, mI_sR, mI_cpI, mJ_sI, mJ_sJ, mJ_sR, mJ_cpI, mR_sI, mR_sJ, mR_sR, mR_cpI, i2b_i2b, i2b_sb, iI_lit, iI_add, iI_sub, iI_mul, iI_neg, iI_lt, iI_le, iI_eq, iI_J, lt_T, lt_F, le_T, le_F, eq_T, eq_F, eqN_T, eqN_F, leN_T, leN_F, ltN_T, ltN_F, if_true, if_false, and_true, true_and, and_false, false_and, or_true, true_or, or_false, false_or, not_true_eq_false, not_false_eq_true, and_self, or_self, tn_c, ne_eq, dite_true, dite_false])); (with_reducible exact rfl))) | (with_reducible apply if_t; · (simp -implicitDefEqProofs (disch := (first | decide | omega)) only [k159, r159_11, k182, l182, hog, r159_5, k176, l176, o1, kt, b1, bk159, br1, br5, bk176, bl176, bo1, bkt, b2, bo_s, bd_s, bn_s, gI_s, gJ_s, gR_s, pI_s, pZ_s, pJ_s, pR_s, chk_s, chN_s, chN_n, aL_s, aI_c, aJ_c, aR_c, wI_c, wB_c, wS_c, wZ_c, wJ_c, wR_c, mK_sI, mK_sJ, mK_sR, mK_cpI, mL_sI, mL_sJ, mL_sR, mL_cpI, mI_sI, mI_sJ, mI_sR, mI_cpI, mJ_sI, mJ_sJ, mJ_sR, mJ_cpI, mR_sI, mR_sJ, mR_sR, mR_cpI, i2b_i2b, i2b_sb, iI_lit, iI_add, iI_sub, iI_mul, iI_neg, iI_lt, iI_le, iI_eq, iI_J, lt_T, lt_F, le_T, le_F, eq_T, eq_F, eqN_T, eqN_F, leN_T, leN_F, ltN_T, ltN_F, if_true, if_false, and_true, true_and, and_false, false_and, or_true, true_or, or_false, false_or, not_true_eq_false, not_false_eq_true, and_self, or_self, tn_c, ne_eq, dite_true, dite_false]; done)) | (with_reducible apply if_f; · (simp -implicitDefEqProofs (disch := (first | decide | omega)) only [k159, r159_11, k182, l182, hog, r159_5, k176, l176, o1, kt, b1, bk159, br1, br5, bk176, bl176, bo1, bkt, b2, bo_s, bd_s, bn_s, gI_s, gJ_s, gR_s, pI_s, pZ_s, pJ_s, pR_s, chk_s, chN_s, chN_n, aL_s, aI_c, aJ_c, aR_c, wI_c, wB_c, wS_c, wZ_c, wJ_c, wR_c, mK_sI, mK_sJ, mK_sR, mK_cpI, mL_sI, mL_sJ, mL_sR, mL_cpI, mI_sI, mI_sJ, mI_sR, mI_cpI, mJ_sI, mJ_sJ, mJ_sR, mJ_cpI, mR_sI, mR_sJ, mR_sR, mR_cpI, i2b_i2b, i2b_sb, iI_lit, iI_add, iI_sub, iI_mul, iI_neg, iI_lt, iI_le, iI_eq, iI_J, lt_T, lt_F, le_T, le_F, eq_T, eq_F, eqN_T, eqN_F, leN_T, leN_F, ltN_T, ltN_F, if_true, if_false, and_true, true_and, and_false, false_and, or_true, true_or, or_false, false_or, not_true_eq_false, not_false_eq_true, and_self, or_self, tn_c, ne_eq, dite_true, dite_false]; done)) | (with_reducible apply rz_t; · (simp -implicitDefEqProofs (disch := (first | decide | omega)) only [k159, r159_11, k182, l182, hog, r159_5, k176, l176, o1, kt, b1, bk159, br1, br5, bk176, bl176, bo1, bkt, b2, bo_s, bd_s, bn_s, gI_s, gJ_s, gR_s, pI_s, pZ_s, pJ_s, pR_s, chk_s, chN_s, chN_n, aL_s, aI_c, aJ_c, aR_c, wI_c, wB_c, wS_c, wZ_c, wJ_c, wR_c, mK_sI, mK_sJ, mK_sR, mK_cpI, mL_sI, mL_sJ, mL_sR, mL_cpI, mI_sI, mI_sJ, mI_sR, mI_cpI, mJ_sI, mJ_sJ, mJ_sR, mJ_cpI, mR_sI, mR_sJ, mR_sR, mR_cpI, i2b_i2b, i2b_sb, iI_lit, iI_add, iI_sub, iI_mul, iI_neg, iI_lt, iI_le, iI_eq, iI_J, lt_T, lt_F, le_T, le_F, eq_T, eq_F, eqN_T, eqN_F, leN_T, leN_F, ltN_T, ltN_F, if_true, if_false, and_true, true_and, and_false, false_and, or_true, true_or, or_false, false_or, not_true_eq_false, not_false_eq_true, and_self, or_self, tn_c, ne_eq, dite_true, dite_false]; done)) | (unfold fX6_writeTable_B53))); (try (simp -implicitDefEqProofs (disch := (first | decide | omega)) only [k159, r159_11, k182, l182, hog, r159_5, k176, l176, o1, kt, b1, bk159, br1, br5, bk176, bl176, bo1, bkt, b2, bo_s, bd_s, bn_s, gI_s, gJ_s, gR_s, pI_s, pZ_s, pJ_s, pR_s, chk_s, chN_s, chN_n, aL_s, aI_c, aJ_c, aR_c, wI_c, wB_c, wS_c, wZ_c, wJ_c, wR_c, mK_sI, mK_sJ, mK_sR, mK_cpI, mL_sI, mL_sJ, mL_sR, mL_cpI, mI_sI, mI_sJ, mI_sR, mI_cpI, mJ_sI, mJ_sJ, mJ_sR, mJ_cpI, mR_sI, mR_sJ, mR_sR, mR_cpI, i2b_i2b, i2b_sb, iI_lit, iI_add, iI_sub, iI_mul, iI_neg, iI_lt, iI_le, iI_eq, iI_J, lt_T, lt_F, le_T, le_F, eq_T, eq_F, eqN_T, eqN_F, leN_T, leN_F, ltN_T, ltN_F, if_true, if_false, and_true, true_and, and_false, false_and, or_true, true_or, or_false, false_or, not_true_eq_false, not_false_eq_true, and_self, or_self, tn_c, ne_eq, dite_true, dite_false])); (with_reducible exact rfl)))
    exact w_ret fin
theorem QC.sm {S : Nat → Nat → Prop} (h : QC M m cn cp vl) (s : Sm S M N) (h1 : ¬ S 160 1) (h2 : ∀ j, ¬ S 163 j ∧ ¬ S 164 j ∧ ¬ S 179 j) : QC N m cn cp vl := ⟨(s.I _ _ h1).trans h.1, fun i hi => ⟨(s.I _ _ (h2 i).1).trans (h.2 i hi).1, (s.I _ _ (h2 i).2.1).trans (h.2 i hi).2.1, (s.I _ _ (h2 i).2.2).trans (h.2 i hi).2.2⟩⟩
set_option maxHeartbeats 4000000 in
theorem cwtab_ok (hC : CSt M) (hD : DfV M) (hQ : QC M m cn cp vl) (hR : QR m cn cp vl) (hk : k < 3) (h14 : mI M 159 14 = iI lv) (hlv : lv < 100) (hB : RV M 170 171 8000 p u) (h2 : mJ M 170 2 = iJ 0) (h3 : mI M 170 3 = iI 0) (hp : p < 50000) :
    Wp (fX6_writeTable (some 159) (iI k) (iI m) M) fun v N => WTp M lv k (syQ cn cp vl k) m p u v N := by
  obtain ⟨o1, o2, hTS, o4⟩ := own_r hC hk
  have hm := hR.1
  have hf : ∀ i, i < m → syQ cn cp vl k i ≤ 52 := fun i hi => by
    have := (syQ_r hR hk hi).2.2
    omega
  obtain ⟨k159, r159_5, r159_6, r159_11, k176, l176, k177, l177, k182, l182⟩ : mK M 159 = 6 ∧ mR M 159 5 = some 176 ∧ mR M 159 6 = some 177 ∧ mR M 159 11 = some 182 ∧ mK M 176 = 20 ∧ mL M 176 = 3 ∧ mK M 177 = 20 ∧ mL M 177 = 3 ∧ mK M 182 = 15 ∧ mL M 182 = 64 := ⟨hC.k 159 (by decide) (by decide), hC.r 159 5 (by decide) (by decide) (by decide), hC.r 159 6 (by decide) (by decide) (by decide), hC.r 159 11 (by decide) (by decide) (by decide), hC.k 176 (by decide) (by decide), hC.l 176 (by decide) (by decide), hC.k 177 (by decide) (by decide), hC.l 177 (by decide) (by decide), hC.k 182 (by decide) (by decide), hC.l 182 (by decide) (by decide)⟩
  have kt := hTS.1
  by_cases c0 : lv < 2 ∨ m < 8
  · have main := cwt14_ok (lv := lv) (m := m) (f := syQ cn cp vl k) hC hD hk (by unfold mdQ; rw [if_pos c0]) hB h2 h3
    clear hC hD hQ hB h2 h3 hTS o4 hf hR
    by_cases c1 : lv < 2
    · (with_reducible apply w_e; · ((repeat' (first | (with_reducible apply bo_t; · ((try (simp -implicitDefEqProofs (disch := (first | decide | omega)) only [k159, h14, bo_s, bd_s, bn_s, gI_s, gJ_s, gR_s, pI_s, pZ_s, pJ_s, pR_s, chk_s, chN_s, chN_n, aL_s, aI_c, aJ_c, aR_c, wI_c, wB_c, wS_c, wZ_c, wJ_c, wR_c, mK_sI, mK_sJ, mK_sR, mK_cpI, mL_sI, mL_sJ, mL_sR, mL_cpI, mI_sI, mI_sJ, mI_sR, mI_cpI, mJ_sI, mJ_sJ, mJ_sR, mJ_cpI, mR_sI, mR_sJ, mR_sR, mR_cpI, i2b_i2b, i2b_sb, iI_lit, iI_add, iI_sub, iI_mul, iI_neg, iI_lt, iI_le, iI_eq, iI_J, lt_T, lt_F, le_T, le_F, eq_T, eq_F, eqN_T, eqN_F, leN_T, leN_F, ltN_T, ltN_F, if_true, if_false, and_true, true_and, and_false, false_and, or_true, true_or, or_false, false_or, not_true_eq_false, not_false_eq_true, and_self, or_self, tn_c, ne_eq, dite_true, dite_false])); (with_reducible exact rfl))) | (with_reducible apply bd_t; · ((try (simp -implicitDefEqProofs (disch := (first | decide | omega)) only [k159, h14, bo_s, bd_s, bn_s, gI_s, gJ_s, gR_s, pI_s, pZ_s, pJ_s, pR_s, chk_s, chN_s, chN_n, aL_s, aI_c, aJ_c, aR_c, wI_c, wB_c, wS_c, wZ_c, wJ_c, wR_c, mK_sI, mK_sJ, mK_sR, mK_cpI, mL_sI, mL_sJ, mL_sR, mL_cpI, mI_sI, mI_sJ, mI_sR, mI_cpI, mJ_sI, mJ_sJ, mJ_sR, mJ_cpI, mR_sI, mR_sJ, mR_sR, mR_cpI, i2b_i2b, i2b_sb, iI_lit, iI_add, iI_sub, iI_mul, iI_neg, iI_lt, iI_le, iI_eq, iI_J, lt_T, lt_F, le_T, le_F, eq_T, eq_F, eqN_T, eqN_F, leN_T, leN_F, ltN_T, ltN_F, if_true, if_false, and_true, true_and, and_false, false_and, or_true, true_or, or_false, false_or, not_true_eq_false, not_false_eq_true, and_self, or_self, tn_c, ne_eq, dite_true, dite_false])); (with_reducible exact rfl))) | (with_reducible apply bn_t; · ((try (simp -implicitDefEqProofs (disch := (first | decide | omega)) only [k159, h14, bo_s, bd_s, bn_s, gI_s, gJ_s, gR_s, pI_s, pZ_s, pJ_s, pR_s, chk_s, chN_s, chN_n, aL_s, aI_c, aJ_c, aR_c, wI_c, wB_c, wS_c, wZ_c, wJ_c, wR_c, mK_sI, mK_sJ, mK_sR, mK_cpI, mL_sI, mL_sJ, mL_sR, mL_cpI, mI_sI, mI_sJ, mI_sR, mI_cpI, mJ_sI, mJ_sJ, mJ_sR, mJ_cpI, mR_sI, mR_sJ, mR_sR, mR_cpI, i2b_i2b, i2b_sb, iI_lit, iI_add, iI_sub, iI_mul, iI_neg, iI_lt, iI_le, iI_eq, iI_J, lt_T, lt_F, le_T, le_F, eq_T, eq_F, eqN_T, eqN_F, leN_T, leN_F, ltN_T, ltN_F, if_true, if_false, and_true, true_and, and_false, false_and, or_true, true_or, or_false, false_or, not_true_eq_false, not_false_eq_true, and_self, or_self, tn_c, ne_eq, dite_true, dite_false])); (with_reducible exact rfl))) | (with_reducible apply if_t; · (simp -implicitDefEqProofs (disch := (first | decide | omega)) only [k159, h14, bo_s, bd_s, bn_s, gI_s, gJ_s, gR_s, pI_s, pZ_s, pJ_s, pR_s, chk_s, chN_s, chN_n, aL_s, aI_c, aJ_c, aR_c, wI_c, wB_c, wS_c, wZ_c, wJ_c, wR_c, mK_sI, mK_sJ, mK_sR, mK_cpI, mL_sI, mL_sJ, mL_sR, mL_cpI, mI_sI, mI_sJ, mI_sR, mI_cpI, mJ_sI, mJ_sJ, mJ_sR, mJ_cpI, mR_sI, mR_sJ, mR_sR, mR_cpI, i2b_i2b, i2b_sb, iI_lit, iI_add, iI_sub, iI_mul, iI_neg, iI_lt, iI_le, iI_eq, iI_J, lt_T, lt_F, le_T, le_F, eq_T, eq_F, eqN_T, eqN_F, leN_T, leN_F, ltN_T, ltN_F, if_true, if_false, and_true, true_and, and_false, false_and, or_true, true_or, or_false, false_or, not_true_eq_false, not_false_eq_true, and_self, or_self, tn_c, ne_eq, dite_true, dite_false]; done)) | (with_reducible apply if_f; · (simp -implicitDefEqProofs (disch := (first | decide | omega)) only [k159, h14, bo_s, bd_s, bn_s, gI_s, gJ_s, gR_s, pI_s, pZ_s, pJ_s, pR_s, chk_s, chN_s, chN_n, aL_s, aI_c, aJ_c, aR_c, wI_c, wB_c, wS_c, wZ_c, wJ_c, wR_c, mK_sI, mK_sJ, mK_sR, mK_cpI, mL_sI, mL_sJ, mL_sR, mL_cpI, mI_sI, mI_sJ, mI_sR, mI_cpI, mJ_sI, mJ_sJ, mJ_sR, mJ_cpI, mR_sI, mR_sJ, mR_sR, mR_cpI, i2b_i2b, i2b_sb, iI_lit, iI_add, iI_sub, iI_mul, iI_neg, iI_lt, iI_le, iI_eq, iI_J, lt_T, lt_F, le_T, le_F, eq_T, eq_F, eqN_T, eqN_F, leN_T, leN_F, ltN_T, ltN_F, if_true, if_false, and_true, true_and, and_false, false_and, or_true, true_or, or_false, false_or, not_true_eq_false, not_false_eq_true, and_self, or_self, tn_c, ne_eq, dite_true, dite_false]; done)) | (with_reducible apply rz_t; · (simp -implicitDefEqProofs (disch := (first | decide | omega)) only [k159, h14, bo_s, bd_s, bn_s, gI_s, gJ_s, gR_s, pI_s, pZ_s, pJ_s, pR_s, chk_s, chN_s, chN_n, aL_s, aI_c, aJ_c, aR_c, wI_c, wB_c, wS_c, wZ_c, wJ_c, wR_c, mK_sI, mK_sJ, mK_sR, mK_cpI, mL_sI, mL_sJ, mL_sR, mL_cpI, mI_sI, mI_sJ, mI_sR, mI_cpI, mJ_sI, mJ_sJ, mJ_sR, mJ_cpI, mR_sI, mR_sJ, mR_sR, mR_cpI, i2b_i2b, i2b_sb, iI_lit, iI_add, iI_sub, iI_mul, iI_neg, iI_lt, iI_le, iI_eq, iI_J, lt_T, lt_F, le_T, le_F, eq_T, eq_F, eqN_T, eqN_F, leN_T, leN_F, ltN_T, ltN_F, if_true, if_false, and_true, true_and, and_false, false_and, or_true, true_or, or_false, false_or, not_true_eq_false, not_false_eq_true, and_self, or_self, tn_c, ne_eq, dite_true, dite_false]; done)) | (unfold fX6_writeTable))); (try (simp -implicitDefEqProofs (disch := (first | decide | omega)) only [k159, h14, bo_s, bd_s, bn_s, gI_s, gJ_s, gR_s, pI_s, pZ_s, pJ_s, pR_s, chk_s, chN_s, chN_n, aL_s, aI_c, aJ_c, aR_c, wI_c, wB_c, wS_c, wZ_c, wJ_c, wR_c, mK_sI, mK_sJ, mK_sR, mK_cpI, mL_sI, mL_sJ, mL_sR, mL_cpI, mI_sI, mI_sJ, mI_sR, mI_cpI, mJ_sI, mJ_sJ, mJ_sR, mJ_cpI, mR_sI, mR_sJ, mR_sR, mR_cpI, i2b_i2b, i2b_sb, iI_lit, iI_add, iI_sub, iI_mul, iI_neg, iI_lt, iI_le, iI_eq, iI_J, lt_T, lt_F, le_T, le_F, eq_T, eq_F, eqN_T, eqN_F, leN_T, leN_F, ltN_T, ltN_F, if_true, if_false, and_true, true_and, and_false, false_and, or_true, true_or, or_false, false_or, not_true_eq_false, not_false_eq_true, and_self, or_self, tn_c, ne_eq, dite_true, dite_false])); (with_reducible exact rfl)))
      exact main
    · have c2 : m < 8 := by omega
      (with_reducible apply w_e; · ((repeat' (first | (with_reducible apply bo_t; · ((try (simp -implicitDefEqProofs (disch := (first | decide | omega)) only [k159, h14, bo_s, bd_s, bn_s, gI_s, gJ_s, gR_s, pI_s, pZ_s, pJ_s, pR_s, chk_s, chN_s, chN_n, aL_s, aI_c, aJ_c, aR_c, wI_c, wB_c, wS_c, wZ_c, wJ_c, wR_c, mK_sI, mK_sJ, mK_sR, mK_cpI, mL_sI, mL_sJ, mL_sR, mL_cpI, mI_sI, mI_sJ, mI_sR, mI_cpI, mJ_sI, mJ_sJ, mJ_sR, mJ_cpI, mR_sI, mR_sJ, mR_sR, mR_cpI, i2b_i2b, i2b_sb, iI_lit, iI_add, iI_sub, iI_mul, iI_neg, iI_lt, iI_le, iI_eq, iI_J, lt_T, lt_F, le_T, le_F, eq_T, eq_F, eqN_T, eqN_F, leN_T, leN_F, ltN_T, ltN_F, if_true, if_false, and_true, true_and, and_false, false_and, or_true, true_or, or_false, false_or, not_true_eq_false, not_false_eq_true, and_self, or_self, tn_c, ne_eq, dite_true, dite_false])); (with_reducible exact rfl))) | (with_reducible apply bd_t; · ((try (simp -implicitDefEqProofs (disch := (first | decide | omega)) only [k159, h14, bo_s, bd_s, bn_s, gI_s, gJ_s, gR_s, pI_s, pZ_s, pJ_s, pR_s, chk_s, chN_s, chN_n, aL_s, aI_c, aJ_c, aR_c, wI_c, wB_c, wS_c, wZ_c, wJ_c, wR_c, mK_sI, mK_sJ, mK_sR, mK_cpI, mL_sI, mL_sJ, mL_sR, mL_cpI, mI_sI, mI_sJ, mI_sR, mI_cpI, mJ_sI, mJ_sJ, mJ_sR, mJ_cpI, mR_sI, mR_sJ, mR_sR, mR_cpI, i2b_i2b, i2b_sb, iI_lit, iI_add, iI_sub, iI_mul, iI_neg, iI_lt, iI_le, iI_eq, iI_J, lt_T, lt_F, le_T, le_F, eq_T, eq_F, eqN_T, eqN_F, leN_T, leN_F, ltN_T, ltN_F, if_true, if_false, and_true, true_and, and_false, false_and, or_true, true_or, or_false, false_or, not_true_eq_false, not_false_eq_true, and_self, or_self, tn_c, ne_eq, dite_true, dite_false])); (with_reducible exact rfl))) | (with_reducible apply bn_t; · ((try (simp -implicitDefEqProofs (disch := (first | decide | omega)) only [k159, h14, bo_s, bd_s, bn_s, gI_s, gJ_s, gR_s, pI_s, pZ_s, pJ_s, pR_s, chk_s, chN_s, chN_n, aL_s, aI_c, aJ_c, aR_c, wI_c, wB_c, wS_c, wZ_c, wJ_c, wR_c, mK_sI, mK_sJ, mK_sR, mK_cpI, mL_sI, mL_sJ, mL_sR, mL_cpI, mI_sI, mI_sJ, mI_sR, mI_cpI, mJ_sI, mJ_sJ, mJ_sR, mJ_cpI, mR_sI, mR_sJ, mR_sR, mR_cpI, i2b_i2b, i2b_sb, iI_lit, iI_add, iI_sub, iI_mul, iI_neg, iI_lt, iI_le, iI_eq, iI_J, lt_T, lt_F, le_T, le_F, eq_T, eq_F, eqN_T, eqN_F, leN_T, leN_F, ltN_T, ltN_F, if_true, if_false, and_true, true_and, and_false, false_and, or_true, true_or, or_false, false_or, not_true_eq_false, not_false_eq_true, and_self, or_self, tn_c, ne_eq, dite_true, dite_false])); (with_reducible exact rfl))) | (with_reducible apply if_t; · (simp -implicitDefEqProofs (disch := (first | decide | omega)) only [k159, h14, bo_s, bd_s, bn_s, gI_s, gJ_s, gR_s, pI_s, pZ_s, pJ_s, pR_s, chk_s, chN_s, chN_n, aL_s, aI_c, aJ_c, aR_c, wI_c, wB_c, wS_c, wZ_c, wJ_c, wR_c, mK_sI, mK_sJ, mK_sR, mK_cpI, mL_sI, mL_sJ, mL_sR, mL_cpI, mI_sI, mI_sJ, mI_sR, mI_cpI, mJ_sI, mJ_sJ, mJ_sR, mJ_cpI, mR_sI, mR_sJ, mR_sR, mR_cpI, i2b_i2b, i2b_sb, iI_lit, iI_add, iI_sub, iI_mul, iI_neg, iI_lt, iI_le, iI_eq, iI_J, lt_T, lt_F, le_T, le_F, eq_T, eq_F, eqN_T, eqN_F, leN_T, leN_F, ltN_T, ltN_F, if_true, if_false, and_true, true_and, and_false, false_and, or_true, true_or, or_false, false_or, not_true_eq_false, not_false_eq_true, and_self, or_self, tn_c, ne_eq, dite_true, dite_false]; done)) | (with_reducible apply if_f; · (simp -implicitDefEqProofs (disch := (first | decide | omega)) only [k159, h14, bo_s, bd_s, bn_s, gI_s, gJ_s, gR_s, pI_s, pZ_s, pJ_s, pR_s, chk_s, chN_s, chN_n, aL_s, aI_c, aJ_c, aR_c, wI_c, wB_c, wS_c, wZ_c, wJ_c, wR_c, mK_sI, mK_sJ, mK_sR, mK_cpI, mL_sI, mL_sJ, mL_sR, mL_cpI, mI_sI, mI_sJ, mI_sR, mI_cpI, mJ_sI, mJ_sJ, mJ_sR, mJ_cpI, mR_sI, mR_sJ, mR_sR, mR_cpI, i2b_i2b, i2b_sb, iI_lit, iI_add, iI_sub, iI_mul, iI_neg, iI_lt, iI_le, iI_eq, iI_J, lt_T, lt_F, le_T, le_F, eq_T, eq_F, eqN_T, eqN_F, leN_T, leN_F, ltN_T, ltN_F, if_true, if_false, and_true, true_and, and_false, false_and, or_true, true_or, or_false, false_or, not_true_eq_false, not_false_eq_true, and_self, or_self, tn_c, ne_eq, dite_true, dite_false]; done)) | (with_reducible apply rz_t; · (simp -implicitDefEqProofs (disch := (first | decide | omega)) only [k159, h14, bo_s, bd_s, bn_s, gI_s, gJ_s, gR_s, pI_s, pZ_s, pJ_s, pR_s, chk_s, chN_s, chN_n, aL_s, aI_c, aJ_c, aR_c, wI_c, wB_c, wS_c, wZ_c, wJ_c, wR_c, mK_sI, mK_sJ, mK_sR, mK_cpI, mL_sI, mL_sJ, mL_sR, mL_cpI, mI_sI, mI_sJ, mI_sR, mI_cpI, mJ_sI, mJ_sJ, mJ_sR, mJ_cpI, mR_sI, mR_sJ, mR_sR, mR_cpI, i2b_i2b, i2b_sb, iI_lit, iI_add, iI_sub, iI_mul, iI_neg, iI_lt, iI_le, iI_eq, iI_J, lt_T, lt_F, le_T, le_F, eq_T, eq_F, eqN_T, eqN_F, leN_T, leN_F, ltN_T, ltN_F, if_true, if_false, and_true, true_and, and_false, false_and, or_true, true_or, or_false, false_or, not_true_eq_false, not_false_eq_true, and_self, or_self, tn_c, ne_eq, dite_true, dite_false]; done)) | (unfold fX6_writeTable))); (try (simp -implicitDefEqProofs (disch := (first | decide | omega)) only [k159, h14, bo_s, bd_s, bn_s, gI_s, gJ_s, gR_s, pI_s, pZ_s, pJ_s, pR_s, chk_s, chN_s, chN_n, aL_s, aI_c, aJ_c, aR_c, wI_c, wB_c, wS_c, wZ_c, wJ_c, wR_c, mK_sI, mK_sJ, mK_sR, mK_cpI, mL_sI, mL_sJ, mL_sR, mL_cpI, mI_sI, mI_sJ, mI_sR, mI_cpI, mJ_sI, mJ_sJ, mJ_sR, mJ_cpI, mR_sI, mR_sJ, mR_sR, mR_cpI, i2b_i2b, i2b_sb, iI_lit, iI_add, iI_sub, iI_mul, iI_neg, iI_lt, iI_le, iI_eq, iI_J, lt_T, lt_F, le_T, le_F, eq_T, eq_F, eqN_T, eqN_F, leN_T, leN_F, ltN_T, ltN_F, if_true, if_false, and_true, true_and, and_false, false_and, or_true, true_or, or_false, false_or, not_true_eq_false, not_false_eq_true, and_self, or_self, tn_c, ne_eq, dite_true, dite_false])); (with_reducible exact rfl)))
      exact main
  · have hm8 : 8 ≤ m := by omega
    have hlv2 : 2 ≤ lv := by omega
    obtain ⟨A, hA⟩ : ∃ A, sR M 177 k (some (183 + 5 * k)) = A := ⟨_, rfl⟩
    have sA : Sm (WTq k) M A := by rw [← hA]; exact Sm.sR Sm.rf (Or.inl ⟨rfl, rfl⟩)
    obtain ⟨v0, B, e0, sB0, hz⟩ := fill_ok (n := 64) (iI 0) ((sA.K 182).trans k182) ((sA.L 182).trans l182) (by omega)
    have sB : Sm (WTq k) M B := sA.tr (sB0.weak fun a j h => Or.inr (Or.inl h))
    have b177 : mR B 177 k = some (183 + 5 * k) := (sB0.R 177 k (by omega)).trans (by rw [← hA]; simp -implicitDefEqProofs (disch := (first | decide | omega)) only [mK_sI, mK_sJ, mK_sR, mK_cpI, mL_sI, mL_sJ, mL_sR, mL_cpI, mI_sI, mI_sJ, mI_sR, mI_cpI, mJ_sI, mJ_sJ, mJ_sR, mJ_cpI, mR_sI, mR_sJ, mR_sR, mR_cpI, eqN_T, eqN_F, if_true, if_false, and_true, true_and, and_false, false_and, or_true, true_or, or_false, false_or, not_true_eq_false, not_false_eq_true, and_self, or_self, tn_c, ne_eq, dite_true, dite_false])
    have b170 : RV B 170 171 8000 p u := (hB.sm (S := fun a j => a = 177 ∧ j = k) (by rw [← hA]; exact Sm.sR Sm.rf ⟨rfl, rfl⟩) (by omega) (by omega) (by omega)).sm sB0 (by omega) (by omega) (by omega)
    have bJ : mJ B 170 2 = iJ 0 := (sB0.J 170 2 (by first | decide | omega)).trans (by rw [← hA]; simp -implicitDefEqProofs (disch := (first | decide | omega)) only [mK_sI, mK_sJ, mK_sR, mK_cpI, mL_sI, mL_sJ, mL_sR, mL_cpI, mI_sI, mI_sJ, mI_sR, mI_cpI, mJ_sI, mJ_sJ, mJ_sR, mJ_cpI, mR_sI, mR_sJ, mR_sR, mR_cpI, eqN_T, eqN_F, if_true, if_false, and_true, true_and, and_false, false_and, or_true, true_or, or_false, false_or, not_true_eq_false, not_false_eq_true, and_self, or_self, tn_c, ne_eq, dite_true, dite_false]; exact h2)
    have bI : mI B 170 3 = iI 0 := (sB0.I 170 3 (by first | decide | omega)).trans (by rw [← hA]; simp -implicitDefEqProofs (disch := (first | decide | omega)) only [mK_sI, mK_sJ, mK_sR, mK_cpI, mL_sI, mL_sJ, mL_sR, mL_cpI, mI_sI, mI_sJ, mI_sR, mI_cpI, mJ_sI, mJ_sJ, mJ_sR, mJ_cpI, mR_sI, mR_sJ, mR_sR, mR_cpI, eqN_T, eqN_F, if_true, if_false, and_true, true_and, and_false, false_and, or_true, true_or, or_false, false_or, not_true_eq_false, not_false_eq_true, and_self, or_self, tn_c, ne_eq, dite_true, dite_false]; exact h3)
    have hQB : QC B m cn cp vl := hQ.sm sB (by unfold WTq WT Rw2; omega) (by unfold WTq WT Rw2; omega)
    have hCB := hC.sm sB (WTq_fx hk)
    have hlp : Wp (fX6_writeTable_L53 (some 159) (iI k) (iI m) (iI 0) (iI 0) B) fun v N => WTp M lv k (syQ cn cp vl k) m p u v N := by
      unfold fX6_writeTable_L53
      refine w_lpF (fun dd y O => ∃ i : Nat, i + dd = m ∧ Sm (fun a _ => a = 182) B O ∧ (∀ s, s < 64 → mI O 182 s = iI (cnH (syQ cn cp vl k) i s)) ∧ y = (some 159, iI k, iI m, iI (gtQ (syQ cn cp vl k) i : Nat), iI i)) m (by omega) ⟨0, by omega, Sm.rf, hz, rfl⟩ ?_
      rintro gg dd y O ⟨i, hi, hS, ho, rfl⟩ ih
      have sO : Sm (WTq k) M O := sB.tr (hS.weak fun a j h => Or.inr (Or.inl h))
      have hCO := hC.sm sO (WTq_fx hk)
      by_cases cd : dd = 0
      · have ei : i = m := by omega
        subst ei
        exact cwt_end sO hCO hk hf ⟨hm8, hm⟩ hlv2 ((hS.R 177 k (by omega)).trans b177) ho (b170.sm hS (by omega) (by omega) (by omega)) ((hS.J 170 2 (by first | decide | omega)).trans bJ) ((hS.I 170 3 (by first | decide | omega)).trans bI) hp
      · have hQO : QC O m cn cp vl := hQB.sm hS (by omega) (by omega)
        have e1 := cqsym_ok hCO hQO hR hk (show i < m by omega)
        have hsy := hf i (by omega)
        have hgt := gtQ_b i fun j hj => hf j (by omega)
        have os := ho (syQ cn cp vl k i) (by omega)
        have hcb := cnH_b (f := syQ cn cp vl k) (s := syQ cn cp vl k i) i
        obtain ⟨ok159, or159_11, ok182, ol182⟩ : mK O 159 = 6 ∧ mR O 159 11 = some 182 ∧ mK O 182 = 15 ∧ mL O 182 = 64 := ⟨hCO.k 159 (by decide) (by decide), hCO.r 159 11 (by decide) (by decide) (by decide), hCO.k 182 (by decide) (by decide), hCO.l 182 (by decide) (by decide)⟩
        have emx : maxI (iI (gtQ (syQ cn cp vl k) i : Nat)) (iI (syQ cn cp vl k i : Nat)) = iI (gtQ (syQ cn cp vl k) (i + 1) : Nat) := by
          rw [maxI_iI (by omega) (by omega), gtQ]
          refine congrArg iI ?_
          omega
        have nx := ih (dd - 1) (some 159, iI k, iI m, iI (gtQ (syQ cn cp vl k) (i + 1) : Nat), iI ((i : Int) + 1)) (sI O 182 (syQ cn cp vl k i) (iI ((cnH (syQ cn cp vl k) i (syQ cn cp vl k i) : Int) + 1))) (by omega) ⟨i + 1, by omega, Sm.sI hS rfl, fun s hs => by
          rw [cnH]
          by_cases es : syQ cn cp vl k i = s
          · rw [if_pos es, es]
            simp -implicitDefEqProofs (disch := (first | decide | omega)) only [mK_sI, mK_sJ, mK_sR, mK_cpI, mL_sI, mL_sJ, mL_sR, mL_cpI, mI_sI, mI_sJ, mI_sR, mI_cpI, mJ_sI, mJ_sJ, mJ_sR, mJ_cpI, mR_sI, mR_sJ, mR_sR, mR_cpI, eqN_T, eqN_F, if_true, if_false, and_true, true_and, and_false, false_and, or_true, true_or, or_false, false_or, not_true_eq_false, not_false_eq_true, and_self, or_self, tn_c, ne_eq, dite_true, dite_false]
            refine congrArg iI ?_
            omega
          · rw [if_neg es]
            simp -implicitDefEqProofs (disch := (first | decide | omega)) only [mK_sI, mK_sJ, mK_sR, mK_cpI, mL_sI, mL_sJ, mL_sR, mL_cpI, mI_sI, mI_sJ, mI_sR, mI_cpI, mJ_sI, mJ_sJ, mJ_sR, mJ_cpI, mR_sI, mR_sJ, mR_sR, mR_cpI, eqN_T, eqN_F, if_true, if_false, and_true, true_and, and_false, false_and, or_true, true_or, or_false, false_or, not_true_eq_false, not_false_eq_true, and_self, or_self, tn_c, ne_eq, dite_true, dite_false]
            exact ho s hs, by rw [show ((i + 1 : Nat) : Int) = (i : Int) + 1 by omega]⟩
        clear ih hC hD hQ hB h2 h3 hTS o4 hf hR hCB hCO hQB hQO hS sO sB sB0 sA hz ho b177 b170 bJ bI hA
        generalize gtQ (syQ cn cp vl k) (i + 1) = g1 at *
        generalize gtQ (syQ cn cp vl k) i = g0 at *
        generalize cnH (syQ cn cp vl k) i (syQ cn cp vl k i) = c0' at *
        generalize syQ cn cp vl k i = sy at *
        (with_reducible apply w_e; · ((repeat' (first | (with_reducible apply bo_t; · ((try (simp -implicitDefEqProofs (disch := (first | decide | omega)) only [ok159, e1, or159_11, ok182, ol182, os, emx, bo_s, bd_s, bn_s, gI_s, gJ_s, gR_s, pI_s, pZ_s, pJ_s, pR_s, chk_s, chN_s, chN_n, aL_s, aI_c, aJ_c, aR_c, wI_c, wB_c, wS_c, wZ_c, wJ_c, wR_c, mK_sI, mK_sJ, mK_sR, mK_cpI, mL_sI, mL_sJ, mL_sR, mL_cpI, mI_sI, mI_sJ, mI_sR, mI_cpI, mJ_sI, mJ_sJ, mJ_sR, mJ_cpI, mR_sI, mR_sJ, mR_sR, mR_cpI, i2b_i2b, i2b_sb, iI_lit, iI_add, iI_sub, iI_mul, iI_neg, iI_lt, iI_le, iI_eq, iI_J, lt_T, lt_F, le_T, le_F, eq_T, eq_F, eqN_T, eqN_F, leN_T, leN_F, ltN_T, ltN_F, if_true, if_false, and_true, true_and, and_false, false_and, or_true, true_or, or_false, false_or, not_true_eq_false, not_false_eq_true, and_self, or_self, tn_c, ne_eq, dite_true, dite_false])); (with_reducible exact rfl))) | (with_reducible apply bd_t; · ((try (simp -implicitDefEqProofs (disch := (first | decide | omega)) only [ok159, e1, or159_11, ok182, ol182, os, emx, bo_s, bd_s, bn_s, gI_s, gJ_s, gR_s, pI_s, pZ_s, pJ_s, pR_s, chk_s, chN_s, chN_n, aL_s, aI_c, aJ_c, aR_c, wI_c, wB_c, wS_c, wZ_c, wJ_c, wR_c, mK_sI, mK_sJ, mK_sR, mK_cpI, mL_sI, mL_sJ, mL_sR, mL_cpI, mI_sI, mI_sJ, mI_sR, mI_cpI, mJ_sI, mJ_sJ, mJ_sR, mJ_cpI, mR_sI, mR_sJ, mR_sR, mR_cpI, i2b_i2b, i2b_sb, iI_lit, iI_add, iI_sub, iI_mul, iI_neg, iI_lt, iI_le, iI_eq, iI_J, lt_T, lt_F, le_T, le_F, eq_T, eq_F, eqN_T, eqN_F, leN_T, leN_F, ltN_T, ltN_F, if_true, if_false, and_true, true_and, and_false, false_and, or_true, true_or, or_false, false_or, not_true_eq_false, not_false_eq_true, and_self, or_self, tn_c, ne_eq, dite_true, dite_false])); (with_reducible exact rfl))) | (with_reducible apply bn_t; · ((try (simp -implicitDefEqProofs (disch := (first | decide | omega)) only [ok159, e1, or159_11, ok182, ol182, os, emx, bo_s, bd_s, bn_s, gI_s, gJ_s, gR_s, pI_s, pZ_s, pJ_s, pR_s, chk_s, chN_s, chN_n, aL_s, aI_c, aJ_c, aR_c, wI_c, wB_c, wS_c, wZ_c, wJ_c, wR_c, mK_sI, mK_sJ, mK_sR, mK_cpI, mL_sI, mL_sJ, mL_sR, mL_cpI, mI_sI, mI_sJ, mI_sR, mI_cpI, mJ_sI, mJ_sJ, mJ_sR, mJ_cpI, mR_sI, mR_sJ, mR_sR, mR_cpI, i2b_i2b, i2b_sb, iI_lit, iI_add, iI_sub, iI_mul, iI_neg, iI_lt, iI_le, iI_eq, iI_J, lt_T, lt_F, le_T, le_F, eq_T, eq_F, eqN_T, eqN_F, leN_T, leN_F, ltN_T, ltN_F, if_true, if_false, and_true, true_and, and_false, false_and, or_true, true_or, or_false, false_or, not_true_eq_false, not_false_eq_true, and_self, or_self, tn_c, ne_eq, dite_true, dite_false])); (with_reducible exact rfl))) | (with_reducible apply if_t; · (simp -implicitDefEqProofs (disch := (first | decide | omega)) only [ok159, e1, or159_11, ok182, ol182, os, emx, bo_s, bd_s, bn_s, gI_s, gJ_s, gR_s, pI_s, pZ_s, pJ_s, pR_s, chk_s, chN_s, chN_n, aL_s, aI_c, aJ_c, aR_c, wI_c, wB_c, wS_c, wZ_c, wJ_c, wR_c, mK_sI, mK_sJ, mK_sR, mK_cpI, mL_sI, mL_sJ, mL_sR, mL_cpI, mI_sI, mI_sJ, mI_sR, mI_cpI, mJ_sI, mJ_sJ, mJ_sR, mJ_cpI, mR_sI, mR_sJ, mR_sR, mR_cpI, i2b_i2b, i2b_sb, iI_lit, iI_add, iI_sub, iI_mul, iI_neg, iI_lt, iI_le, iI_eq, iI_J, lt_T, lt_F, le_T, le_F, eq_T, eq_F, eqN_T, eqN_F, leN_T, leN_F, ltN_T, ltN_F, if_true, if_false, and_true, true_and, and_false, false_and, or_true, true_or, or_false, false_or, not_true_eq_false, not_false_eq_true, and_self, or_self, tn_c, ne_eq, dite_true, dite_false]; done)) | (with_reducible apply if_f; · (simp -implicitDefEqProofs (disch := (first | decide | omega)) only [ok159, e1, or159_11, ok182, ol182, os, emx, bo_s, bd_s, bn_s, gI_s, gJ_s, gR_s, pI_s, pZ_s, pJ_s, pR_s, chk_s, chN_s, chN_n, aL_s, aI_c, aJ_c, aR_c, wI_c, wB_c, wS_c, wZ_c, wJ_c, wR_c, mK_sI, mK_sJ, mK_sR, mK_cpI, mL_sI, mL_sJ, mL_sR, mL_cpI, mI_sI, mI_sJ, mI_sR, mI_cpI, mJ_sI, mJ_sJ, mJ_sR, mJ_cpI, mR_sI, mR_sJ, mR_sR, mR_cpI, i2b_i2b, i2b_sb, iI_lit, iI_add, iI_sub, iI_mul, iI_neg, iI_lt, iI_le, iI_eq, iI_J, lt_T, lt_F, le_T, le_F, eq_T, eq_F, eqN_T, eqN_F, leN_T, leN_F, ltN_T, ltN_F, if_true, if_false, and_true, true_and, and_false, false_and, or_true, true_or, or_false, false_or, not_true_eq_false, not_false_eq_true, and_self, or_self, tn_c, ne_eq, dite_true, dite_false]; done)) | (with_reducible apply rz_t; · (simp -implicitDefEqProofs (disch := (first | decide | omega)) only [ok159, e1, or159_11, ok182, ol182, os, emx, bo_s, bd_s, bn_s, gI_s, gJ_s, gR_s, pI_s, pZ_s, pJ_s, pR_s, chk_s, chN_s, chN_n, aL_s, aI_c, aJ_c, aR_c, wI_c, wB_c, wS_c, wZ_c, wJ_c, wR_c, mK_sI, mK_sJ, mK_sR, mK_cpI, mL_sI, mL_sJ, mL_sR, mL_cpI, mI_sI, mI_sJ, mI_sR, mI_cpI, mJ_sI, mJ_sJ, mJ_sR, mJ_cpI, mR_sI, mR_sJ, mR_sR, mR_cpI, i2b_i2b, i2b_sb, iI_lit, iI_add, iI_sub, iI_mul, iI_neg, iI_lt, iI_le, iI_eq, iI_J, lt_T, lt_F, le_T, le_F, eq_T, eq_F, eqN_T, eqN_F, leN_T, leN_F, ltN_T, ltN_F, if_true, if_false, and_true, true_and, and_false, false_and, or_true, true_or, or_false, false_or, not_true_eq_false, not_false_eq_true, and_self, or_self, tn_c, ne_eq, dite_true, dite_false]; done)) | (unfold fX6_writeTable_B53))); (try (simp -implicitDefEqProofs (disch := (first | decide | omega)) only [ok159, e1, or159_11, ok182, ol182, os, emx, bo_s, bd_s, bn_s, gI_s, gJ_s, gR_s, pI_s, pZ_s, pJ_s, pR_s, chk_s, chN_s, chN_n, aL_s, aI_c, aJ_c, aR_c, wI_c, wB_c, wS_c, wZ_c, wJ_c, wR_c, mK_sI, mK_sJ, mK_sR, mK_cpI, mL_sI, mL_sJ, mL_sR, mL_cpI, mI_sI, mI_sJ, mI_sR, mI_cpI, mJ_sI, mJ_sJ, mJ_sR, mJ_cpI, mR_sI, mR_sJ, mR_sR, mR_cpI, i2b_i2b, i2b_sb, iI_lit, iI_add, iI_sub, iI_mul, iI_neg, iI_lt, iI_le, iI_eq, iI_J, lt_T, lt_F, le_T, le_F, eq_T, eq_F, eqN_T, eqN_F, leN_T, leN_F, ltN_T, ltN_F, if_true, if_false, and_true, true_and, and_false, false_and, or_true, true_or, or_false, false_or, not_true_eq_false, not_false_eq_true, and_self, or_self, tn_c, ne_eq, dite_true, dite_false])); (with_reducible exact rfl)))
        exact nx
    have ar := (sA.R 159 11 (by unfold WTq WT Rw2; omega)).trans r159_11
    have ak := (sA.K 159).trans k159
    clear hC hD hQ hB h2 h3 hTS o4 hf hR hCB hQB sB sB0 sA hz b177 b170 bJ bI
    (with_reducible apply w_e; · ((repeat' (first | (with_reducible apply bo_t; · ((try (simp -implicitDefEqProofs (disch := (first | decide | omega)) only [k159, h14, r159_6, r159_5, k176, l176, o1, k177, l177, kt, hA, ar, ak, e0, bo_s, bd_s, bn_s, gI_s, gJ_s, gR_s, pI_s, pZ_s, pJ_s, pR_s, chk_s, chN_s, chN_n, aL_s, aI_c, aJ_c, aR_c, wI_c, wB_c, wS_c, wZ_c, wJ_c, wR_c, mK_sI, mK_sJ, mK_sR, mK_cpI, mL_sI, mL_sJ, mL_sR, mL_cpI, mI_sI, mI_sJ, mI_sR, mI_cpI, mJ_sI, mJ_sJ, mJ_sR, mJ_cpI, mR_sI, mR_sJ, mR_sR, mR_cpI, i2b_i2b, i2b_sb, iI_lit, iI_add, iI_sub, iI_mul, iI_neg, iI_lt, iI_le, iI_eq, iI_J, lt_T, lt_F, le_T, le_F, eq_T, eq_F, eqN_T, eqN_F, leN_T, leN_F, ltN_T, ltN_F, if_true, if_false, and_true, true_and, and_false, false_and, or_true, true_or, or_false, false_or, not_true_eq_false, not_false_eq_true, and_self, or_self, tn_c, ne_eq, dite_true, dite_false])); (with_reducible exact rfl))) | (with_reducible apply bd_t; · ((try (simp -implicitDefEqProofs (disch := (first | decide | omega)) only [k159, h14, r159_6, r159_5, k176, l176, o1, k177, l177, kt, hA, ar, ak, e0, bo_s, bd_s, bn_s, gI_s, gJ_s, gR_s, pI_s, pZ_s, pJ_s, pR_s, chk_s, chN_s, chN_n, aL_s, aI_c, aJ_c, aR_c, wI_c, wB_c, wS_c, wZ_c, wJ_c, wR_c, mK_sI, mK_sJ, mK_sR, mK_cpI, mL_sI, mL_sJ, mL_sR, mL_cpI, mI_sI, mI_sJ, mI_sR, mI_cpI, mJ_sI, mJ_sJ, mJ_sR, mJ_cpI, mR_sI, mR_sJ, mR_sR, mR_cpI, i2b_i2b, i2b_sb, iI_lit, iI_add, iI_sub, iI_mul, iI_neg, iI_lt, iI_le, iI_eq, iI_J, lt_T, lt_F, le_T, le_F, eq_T, eq_F, eqN_T, eqN_F, leN_T, leN_F, ltN_T, ltN_F, if_true, if_false, and_true, true_and, and_false, false_and, or_true, true_or, or_false, false_or, not_true_eq_false, not_false_eq_true, and_self, or_self, tn_c, ne_eq, dite_true, dite_false])); (with_reducible exact rfl))) | (with_reducible apply bn_t; · ((try (simp -implicitDefEqProofs (disch := (first | decide | omega)) only [k159, h14, r159_6, r159_5, k176, l176, o1, k177, l177, kt, hA, ar, ak, e0, bo_s, bd_s, bn_s, gI_s, gJ_s, gR_s, pI_s, pZ_s, pJ_s, pR_s, chk_s, chN_s, chN_n, aL_s, aI_c, aJ_c, aR_c, wI_c, wB_c, wS_c, wZ_c, wJ_c, wR_c, mK_sI, mK_sJ, mK_sR, mK_cpI, mL_sI, mL_sJ, mL_sR, mL_cpI, mI_sI, mI_sJ, mI_sR, mI_cpI, mJ_sI, mJ_sJ, mJ_sR, mJ_cpI, mR_sI, mR_sJ, mR_sR, mR_cpI, i2b_i2b, i2b_sb, iI_lit, iI_add, iI_sub, iI_mul, iI_neg, iI_lt, iI_le, iI_eq, iI_J, lt_T, lt_F, le_T, le_F, eq_T, eq_F, eqN_T, eqN_F, leN_T, leN_F, ltN_T, ltN_F, if_true, if_false, and_true, true_and, and_false, false_and, or_true, true_or, or_false, false_or, not_true_eq_false, not_false_eq_true, and_self, or_self, tn_c, ne_eq, dite_true, dite_false])); (with_reducible exact rfl))) | (with_reducible apply if_t; · (simp -implicitDefEqProofs (disch := (first | decide | omega)) only [k159, h14, r159_6, r159_5, k176, l176, o1, k177, l177, kt, hA, ar, ak, e0, bo_s, bd_s, bn_s, gI_s, gJ_s, gR_s, pI_s, pZ_s, pJ_s, pR_s, chk_s, chN_s, chN_n, aL_s, aI_c, aJ_c, aR_c, wI_c, wB_c, wS_c, wZ_c, wJ_c, wR_c, mK_sI, mK_sJ, mK_sR, mK_cpI, mL_sI, mL_sJ, mL_sR, mL_cpI, mI_sI, mI_sJ, mI_sR, mI_cpI, mJ_sI, mJ_sJ, mJ_sR, mJ_cpI, mR_sI, mR_sJ, mR_sR, mR_cpI, i2b_i2b, i2b_sb, iI_lit, iI_add, iI_sub, iI_mul, iI_neg, iI_lt, iI_le, iI_eq, iI_J, lt_T, lt_F, le_T, le_F, eq_T, eq_F, eqN_T, eqN_F, leN_T, leN_F, ltN_T, ltN_F, if_true, if_false, and_true, true_and, and_false, false_and, or_true, true_or, or_false, false_or, not_true_eq_false, not_false_eq_true, and_self, or_self, tn_c, ne_eq, dite_true, dite_false]; done)) | (with_reducible apply if_f; · (simp -implicitDefEqProofs (disch := (first | decide | omega)) only [k159, h14, r159_6, r159_5, k176, l176, o1, k177, l177, kt, hA, ar, ak, e0, bo_s, bd_s, bn_s, gI_s, gJ_s, gR_s, pI_s, pZ_s, pJ_s, pR_s, chk_s, chN_s, chN_n, aL_s, aI_c, aJ_c, aR_c, wI_c, wB_c, wS_c, wZ_c, wJ_c, wR_c, mK_sI, mK_sJ, mK_sR, mK_cpI, mL_sI, mL_sJ, mL_sR, mL_cpI, mI_sI, mI_sJ, mI_sR, mI_cpI, mJ_sI, mJ_sJ, mJ_sR, mJ_cpI, mR_sI, mR_sJ, mR_sR, mR_cpI, i2b_i2b, i2b_sb, iI_lit, iI_add, iI_sub, iI_mul, iI_neg, iI_lt, iI_le, iI_eq, iI_J, lt_T, lt_F, le_T, le_F, eq_T, eq_F, eqN_T, eqN_F, leN_T, leN_F, ltN_T, ltN_F, if_true, if_false, and_true, true_and, and_false, false_and, or_true, true_or, or_false, false_or, not_true_eq_false, not_false_eq_true, and_self, or_self, tn_c, ne_eq, dite_true, dite_false]; done)) | (with_reducible apply rz_t; · (simp -implicitDefEqProofs (disch := (first | decide | omega)) only [k159, h14, r159_6, r159_5, k176, l176, o1, k177, l177, kt, hA, ar, ak, e0, bo_s, bd_s, bn_s, gI_s, gJ_s, gR_s, pI_s, pZ_s, pJ_s, pR_s, chk_s, chN_s, chN_n, aL_s, aI_c, aJ_c, aR_c, wI_c, wB_c, wS_c, wZ_c, wJ_c, wR_c, mK_sI, mK_sJ, mK_sR, mK_cpI, mL_sI, mL_sJ, mL_sR, mL_cpI, mI_sI, mI_sJ, mI_sR, mI_cpI, mJ_sI, mJ_sJ, mJ_sR, mJ_cpI, mR_sI, mR_sJ, mR_sR, mR_cpI, i2b_i2b, i2b_sb, iI_lit, iI_add, iI_sub, iI_mul, iI_neg, iI_lt, iI_le, iI_eq, iI_J, lt_T, lt_F, le_T, le_F, eq_T, eq_F, eqN_T, eqN_F, leN_T, leN_F, ltN_T, ltN_F, if_true, if_false, and_true, true_and, and_false, false_and, or_true, true_or, or_false, false_or, not_true_eq_false, not_false_eq_true, and_self, or_self, tn_c, ne_eq, dite_true, dite_false]; done)) | (unfold fX6_writeTable))); (try (simp -implicitDefEqProofs (disch := (first | decide | omega)) only [k159, h14, r159_6, r159_5, k176, l176, o1, k177, l177, kt, hA, ar, ak, e0, bo_s, bd_s, bn_s, gI_s, gJ_s, gR_s, pI_s, pZ_s, pJ_s, pR_s, chk_s, chN_s, chN_n, aL_s, aI_c, aJ_c, aR_c, wI_c, wB_c, wS_c, wZ_c, wJ_c, wR_c, mK_sI, mK_sJ, mK_sR, mK_cpI, mL_sI, mL_sJ, mL_sR, mL_cpI, mI_sI, mI_sJ, mI_sR, mI_cpI, mJ_sI, mJ_sJ, mJ_sR, mJ_cpI, mR_sI, mR_sJ, mR_sR, mR_cpI, i2b_i2b, i2b_sb, iI_lit, iI_add, iI_sub, iI_mul, iI_neg, iI_lt, iI_le, iI_eq, iI_J, lt_T, lt_F, le_T, le_F, eq_T, eq_F, eqN_T, eqN_F, leN_T, leN_F, ltN_T, ltN_F, if_true, if_false, and_true, true_and, and_false, false_and, or_true, true_or, or_false, false_or, not_true_eq_false, not_false_eq_true, and_self, or_self, tn_c, ne_eq, dite_true, dite_false])); (with_reducible exact rfl)))
    exact hlp
end TABQ
