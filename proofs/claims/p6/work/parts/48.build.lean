/-! the table as the class and the reference build it -/
abbrev TS (M : Mem) (t : Nat) : Prop := mK M t = 10 ∧ mR M t 1 = some (t + 1) ∧ mR M t 2 = some (t + 2) ∧ mR M t 3 = some (t + 3) ∧ mK M (t + 1) = 15 ∧ mL M (t + 1) = 512 ∧ mK M (t + 2) = 15 ∧ mL M (t + 2) = 256 ∧ mK M (t + 3) = 15 ∧ mL M (t + 3) = 256
theorem TS.sm {M N : Mem} {t : Nat} {S : Nat → Nat → Prop} (h : TS M t) (s : Sm S M N) (h1 : ¬ S t 1) (h2 : ¬ S t 2) (h3 : ¬ S t 3) : TS N t := ⟨(s.K _).trans h.1, (s.R _ _ h1).trans h.2.1, (s.R _ _ h2).trans h.2.2.1, (s.R _ _ h3).trans h.2.2.2.1, (s.K _).trans h.2.2.2.2.1, (s.L _).trans h.2.2.2.2.2.1, (s.K _).trans h.2.2.2.2.2.2.1, (s.L _).trans h.2.2.2.2.2.2.2.1, (s.K _).trans h.2.2.2.2.2.2.2.2.1, (s.L _).trans h.2.2.2.2.2.2.2.2.2⟩
/-- w places are spread, the next one is turn j's: symbols stand from place b of cell x on -/
def SP (l S : Nat) (c : Nat → Int) (x b : Nat) (M : Mem) (w j : Nat) : Prop := rk l (cum c S) j = w ∧ j ≤ 2 ^ l ∧ ∀ q, q < cum c S → kk l q < j → mI M x (b + q) = iI (sy l S c q)
theorem SP.w {l S x b w j s : Nat} {c : Nat → Int} {M : Mem} (h : CO l S c) (hp : SP l S c x b M w j) (ho : orb l j < cum c S) (hs : s < S) (h1 : cum c s ≤ w) (h2 : w < cum c (s + 1)) : SP l S c x b (sI M x (b + orb l j) (iI s)) (w + 1) (j + 1) := by
  obtain ⟨p1, p2, p3⟩ := hp
  have hE : cum c S ≤ 2 ^ l := by have := h.2.2.2.2.1; omega
  have hj : j < 2 ^ l := by
    by_cases q : j < 2 ^ l
    · exact q
    · have := rk_n (l := l) (E := cum c S) (j := j) (by omega)
      have := cum_m c (show s + 1 ≤ S from hs)
      omega
  refine ⟨by rw [rk_s h.1 h.2.1 hj hE, if_pos ho, p1], hj, fun q hq hk => ?_⟩
  by_cases e : q = orb l j
  · rw [mI_sI, if_pos ⟨rfl, by omega⟩, e, sy_o h hj ho hs (by omega) (by omega)]
  · have : kk l q ≠ j := fun w => e (by rw [← w]; exact (orb_kk h.1 h.2.1 (by omega)).symm)
    rw [mI_sI, if_neg (by omega)]
    exact p3 q hq (by omega)
theorem SP.n {l S x b w j : Nat} {c : Nat → Int} {M : Mem} (h : CO l S c) (hp : SP l S c x b M w j) (ho : ¬ orb l j < cum c S) (hE : 0 < cum c S) : SP l S c x b M w (j + 1) ∧ j < 2 ^ l := by
  obtain ⟨p1, p2, p3⟩ := hp
  have hE : cum c S ≤ 2 ^ l := by have := h.2.2.2.2.1; omega
  have hj : j < 2 ^ l := by
    by_cases q : j = 2 ^ l
    · rw [q, orb_n] at ho; omega
    · omega
  refine ⟨⟨by rw [rk_s h.1 h.2.1 hj hE, if_neg ho, p1]; omega, hj, fun q hq hk => ?_⟩, hj⟩
  have : kk l q ≠ j := fun w => ho (by rw [← w, orb_kk h.1 h.2.1 (by omega)]; exact hq)
  exact p3 q hq (by omega)
theorem SP.all {l S x b j : Nat} {c : Nat → Int} {M : Mem} (hp : SP l S c x b M (cum c S) j) {q : Nat} (hq : q < cum c S) : mI M x (b + q) = iI (sy l S c q) := hp.2.2 q hq (rk_all hp.1 hq)
theorem and_n {l n : Nat} (hn : 2 ^ l = n) (hl : l ≤ 31) (a : Int) : iI a &&& iI ((n : Int) - 1) = iI (a % n) := by
  have := iI_and a l hl
  rwa [p2, hn] at this
theorem orb_i {l n j : Nat} (hn : 2 ^ l = n) (hl : l ≤ 31) {e : Int} (he : e = orb l j + st l) : iI e &&& iI ((n : Int) - 1) = iI (orb l (j + 1)) := by
  rw [and_n hn hl, he]
  refine congrArg iI ?_
  have := orb_s l j
  rw [hn] at this
  rw [← this, Int.natCast_emod, Int.natCast_add]
theorem c_le {l S : Nat} {c : Nat → Int} (h : CO l S c) {s : Nat} (hs : s < S) : -1 ≤ c s ∧ c s ≤ 512 ∧ (cum c (s + 1) : Int) = cum c s + max 0 (c s) := by
  have e1 := h.2.2.2.2.1
  have e2 := cum_m c (show s + 1 ≤ S from hs)
  have e3 : cum c (s + 1) = cum c s + (c s).toNat := rfl
  have e4 := h.2.2.2.2.2.1 s
  have e5 : 2 ^ l ≤ 2 ^ 9 := pow_le2 h.2.1
  omega
theorem pow_r {l : Nat} (h1 : 5 ≤ l) (h2 : l ≤ 9) : 32 ≤ 2 ^ l ∧ 2 ^ l ≤ 512 := ⟨pow_le2 (a := 5) h1, pow_le2 (b := 9) h2⟩
theorem spread_ok {M : Mem} {t l S n : Nat} {c : Nat → Int} (hT : TS M t) (hC : CO l S c) (hn : 2 ^ l = n) (h4 : mI M t 4 = iI S) (hc : ∀ i, i < S → mI M (t + 2) i = iI (c i)) :
    Wp (fX10_spread (some t) (iI n) (iI ((cum c S : Int) - 1)) M) fun _ N => Sm (fun a i => a = t + 1 ∧ i < cum c S) M N ∧ ∀ q, q < cum c S → mI N (t + 1) q = iI (sy l S c q) := by
  have hr := pow_r hC.1 hC.2.1
  have hS1 := hC.2.2.1
  have hS2 := hC.2.2.2.1
  have hE := hC.2.2.2.2.1
  rw [hn] at hr hE
  have hst : (st l : Int) = (n : Int) / 2 + n / 8 + 3 := by unfold st; rw [hn]; omega
  obtain ⟨t0, t1, t2, t3, t4, t5, t6, t7, t8, t9⟩ := hT
  simp -implicitDefEqProofs (disch := (first | decide | omega)) only [fX10_spread, fX10_spread_L17, dv_i, bo_s, bd_s, bn_s, gI_s, gJ_s, gR_s, pI_s, pZ_s, pJ_s, pR_s, chk_s, chN_s, chN_n, aL_s, aI_c, aJ_c, aR_c, wI_c, wB_c, wS_c, wZ_c, wJ_c, wR_c, mK_sI, mK_sJ, mK_sR, mK_cpI, mL_sI, mL_sJ, mL_sR, mL_cpI, mI_sI, mI_sJ, mI_sR, mI_cpI, mJ_sI, mJ_sJ, mJ_sR, mJ_cpI, mR_sI, mR_sJ, mR_sR, mR_cpI, i2b_i2b, i2b_sb, iI_lit, iI_add, iI_sub, iI_mul, iI_neg, iI_lt, iI_le, iI_eq, iI_J, lt_T, lt_F, le_T, le_F, eq_T, eq_F, eqN_T, eqN_F, leN_T, leN_F, ltN_T, ltN_F, if_true, if_false, and_true, true_and, and_false, false_and, or_true, true_or, or_false, false_or, not_true_eq_false, not_false_eq_true, and_self, or_self, tn_c, ne_eq, dite_true, dite_false]
  rw [← hst]
  refine w_lpF (fun d x M' => ∃ s j, s + d = S ∧ Sm (fun a i => a = t + 1 ∧ i < cum c S) M M' ∧ SP l S c (t + 1) 0 M' (cum c s) j ∧ (cum c s < cum c S → orb l j < cum c S) ∧ x = (some t, iI n, iI ((cum c S : Int) - 1), iI (st l), iI (orb l j), iI s)) S (by omega) ⟨0, 0, by omega, Sm.rf, ⟨rk_0 _ _, by omega, fun q _ h => by omega⟩, fun h => by rw [orb_0]; exact Nat.lt_of_le_of_lt (Nat.zero_le _) h, by rw [orb_0]; rfl⟩ ?_
  rintro g d x M' ⟨s, j, hd, hS, hP, ho, rfl⟩ ih
  have f0 := (hS.K t).trans t0
  have f4 := (hS.I t 4 (by omega)).trans h4
  by_cases q : d = 0
  · obtain rfl : s = S := by omega
    simp -implicitDefEqProofs (disch := (first | decide | omega)) only [fX10_spread_B17, f0, f4, bo_s, bd_s, bn_s, gI_s, gJ_s, gR_s, pI_s, pZ_s, pJ_s, pR_s, chk_s, chN_s, chN_n, aL_s, aI_c, aJ_c, aR_c, wI_c, wB_c, wS_c, wZ_c, wJ_c, wR_c, mK_sI, mK_sJ, mK_sR, mK_cpI, mL_sI, mL_sJ, mL_sR, mL_cpI, mI_sI, mI_sJ, mI_sR, mI_cpI, mJ_sI, mJ_sJ, mJ_sR, mJ_cpI, mR_sI, mR_sJ, mR_sR, mR_cpI, i2b_i2b, i2b_sb, iI_lit, iI_add, iI_sub, iI_mul, iI_neg, iI_lt, iI_le, iI_eq, iI_J, lt_T, lt_F, le_T, le_F, eq_T, eq_F, eqN_T, eqN_F, leN_T, leN_F, ltN_T, ltN_F, if_true, if_false, and_true, true_and, and_false, false_and, or_true, true_or, or_false, false_or, not_true_eq_false, not_false_eq_true, and_self, or_self, tn_c, ne_eq, dite_true, dite_false]
    refine w_ret ⟨hS, fun q hq => ?_⟩
    have := hP.all hq
    rwa [Nat.zero_add] at this
  · have cl := c_le hC (s := s) (by omega)
    have cm := cum_m c (show s + 1 ≤ S by omega)
    simp -implicitDefEqProofs (disch := (first | decide | omega)) only [fX10_spread_B17, fX10_spread_L29, f0, f4, bo_s, bd_s, bn_s, gI_s, gJ_s, gR_s, pI_s, pZ_s, pJ_s, pR_s, chk_s, chN_s, chN_n, aL_s, aI_c, aJ_c, aR_c, wI_c, wB_c, wS_c, wZ_c, wJ_c, wR_c, mK_sI, mK_sJ, mK_sR, mK_cpI, mL_sI, mL_sJ, mL_sR, mL_cpI, mI_sI, mI_sJ, mI_sR, mI_cpI, mJ_sI, mJ_sJ, mJ_sR, mJ_cpI, mR_sI, mR_sJ, mR_sR, mR_cpI, i2b_i2b, i2b_sb, iI_lit, iI_add, iI_sub, iI_mul, iI_neg, iI_lt, iI_le, iI_eq, iI_J, lt_T, lt_F, le_T, le_F, eq_T, eq_F, eqN_T, eqN_F, leN_T, leN_F, ltN_T, ltN_F, if_true, if_false, and_true, true_and, and_false, false_and, or_true, true_or, or_false, false_or, not_true_eq_false, not_false_eq_true, and_self, or_self, tn_c, ne_eq, dite_true, dite_false]
    refine w_lpF (fun e x M' => ∃ i j : Nat, (i : Int) + e = max 0 (c s) ∧ Sm (fun a i => a = t + 1 ∧ i < cum c S) M M' ∧ SP l S c (t + 1) 0 M' (cum c s + i) j ∧ (cum c s + i < cum c S → orb l j < cum c S) ∧ x = (some t, iI n, iI ((cum c S : Int) - 1), iI (st l), iI (orb l j), iI s, iI i)) (max 0 (c s)).toNat (by omega) ⟨0, j, by omega, hS, hP, ho, rfl⟩ ?_
    rintro g2 e x M2 ⟨i, j, he, hS, hP, ho, rfl⟩ ih2
    have f0 := (hS.K t).trans t0
    have f1 := (hS.R t 1 (by omega)).trans t1
    have f2 := (hS.R t 2 (by omega)).trans t2
    have f4 := (hS.K (t + 1)).trans t4
    have f5 := (hS.L (t + 1)).trans t5
    have f6 := (hS.K (t + 2)).trans t6
    have f7 := (hS.L (t + 2)).trans t7
    have fc := (hS.I (t + 2) s (by omega)).trans (hc s (by omega))
    by_cases q2 : e = 0
    · simp -implicitDefEqProofs (disch := (first | decide | omega)) only [fX10_spread_B29, f0, f2, f6, f7, fc, bo_s, bd_s, bn_s, gI_s, gJ_s, gR_s, pI_s, pZ_s, pJ_s, pR_s, chk_s, chN_s, chN_n, aL_s, aI_c, aJ_c, aR_c, wI_c, wB_c, wS_c, wZ_c, wJ_c, wR_c, mK_sI, mK_sJ, mK_sR, mK_cpI, mL_sI, mL_sJ, mL_sR, mL_cpI, mI_sI, mI_sJ, mI_sR, mI_cpI, mJ_sI, mJ_sJ, mJ_sR, mJ_cpI, mR_sI, mR_sJ, mR_sR, mR_cpI, i2b_i2b, i2b_sb, iI_lit, iI_add, iI_sub, iI_mul, iI_neg, iI_lt, iI_le, iI_eq, iI_J, lt_T, lt_F, le_T, le_F, eq_T, eq_F, eqN_T, eqN_F, leN_T, leN_F, ltN_T, ltN_F, if_true, if_false, and_true, true_and, and_false, false_and, or_true, true_or, or_false, false_or, not_true_eq_false, not_false_eq_true, and_self, or_self, tn_c, ne_eq, dite_true, dite_false]
      exact ih (d - 1) _ _ (by omega) ⟨s + 1, j, by omega, hS, by rw [show cum c (s + 1) = cum c s + i by omega]; exact hP, fun h => ho (by omega), rfl⟩
    · have ho2 := ho (by omega)
      have e1 := orb_i hn (l := l) (j := j) (by omega) (e := (orb l j : Int) + st l) rfl
      have hP2 := hP.w hC ho2 (s := s) (by omega) (by omega) (by omega)
      rw [Nat.zero_add] at hP2
      simp -implicitDefEqProofs (disch := (first | decide | omega)) only [fX10_spread_B29, fX10_spread_L63, f0, f1, f2, f4, f5, f6, f7, fc, e1, bo_s, bd_s, bn_s, gI_s, gJ_s, gR_s, pI_s, pZ_s, pJ_s, pR_s, chk_s, chN_s, chN_n, aL_s, aI_c, aJ_c, aR_c, wI_c, wB_c, wS_c, wZ_c, wJ_c, wR_c, mK_sI, mK_sJ, mK_sR, mK_cpI, mL_sI, mL_sJ, mL_sR, mL_cpI, mI_sI, mI_sJ, mI_sR, mI_cpI, mJ_sI, mJ_sJ, mJ_sR, mJ_cpI, mR_sI, mR_sJ, mR_sR, mR_cpI, i2b_i2b, i2b_sb, iI_lit, iI_add, iI_sub, iI_mul, iI_neg, iI_lt, iI_le, iI_eq, iI_J, lt_T, lt_F, le_T, le_F, eq_T, eq_F, eqN_T, eqN_F, leN_T, leN_F, ltN_T, ltN_F, if_true, if_false, and_true, true_and, and_false, false_and, or_true, true_or, or_false, false_or, not_true_eq_false, not_false_eq_true, and_self, or_self, tn_c, ne_eq, dite_true, dite_false]
      have hS3 : Sm (fun a i => a = t + 1 ∧ i < cum c S) M (sI M2 (t + 1) (orb l j) (iI s)) := hS.sI ⟨rfl, ho2⟩
      refine w_lpF (fun r x M' => ∃ v : Nat, j + 1 + v + r = n ∧ M' = sI M2 (t + 1) (orb l j) (iI s) ∧ SP l S c (t + 1) 0 M' (cum c s + i + 1) (j + 1 + v) ∧ x = (some t, iI n, iI ((cum c S : Int) - 1), iI (st l), iI (orb l (j + 1 + v)), iI s, iI i, iI v)) (n - (j + 1)) (by omega) ⟨0, by have := hP2.2.1; omega, rfl, hP2, rfl⟩ ?_
      rintro g3 r x M3 ⟨v, hv, rfl, hP3, rfl⟩ ih3
      have ol := orb_lt l (j + 1 + v)
      by_cases q3 : orb l (j + 1 + v) < cum c S
      · simp -implicitDefEqProofs (disch := (first | decide | omega)) only [fX10_spread_B63, fX10_spread_L91, bo_s, bd_s, bn_s, gI_s, gJ_s, gR_s, pI_s, pZ_s, pJ_s, pR_s, chk_s, chN_s, chN_n, aL_s, aI_c, aJ_c, aR_c, wI_c, wB_c, wS_c, wZ_c, wJ_c, wR_c, mK_sI, mK_sJ, mK_sR, mK_cpI, mL_sI, mL_sJ, mL_sR, mL_cpI, mI_sI, mI_sJ, mI_sR, mI_cpI, mJ_sI, mJ_sJ, mJ_sR, mJ_cpI, mR_sI, mR_sJ, mR_sR, mR_cpI, i2b_i2b, i2b_sb, iI_lit, iI_add, iI_sub, iI_mul, iI_neg, iI_lt, iI_le, iI_eq, iI_J, lt_T, lt_F, le_T, le_F, eq_T, eq_F, eqN_T, eqN_F, leN_T, leN_F, ltN_T, ltN_F, if_true, if_false, and_true, true_and, and_false, false_and, or_true, true_or, or_false, false_or, not_true_eq_false, not_false_eq_true, and_self, or_self, tn_c, ne_eq, dite_true, dite_false]
        exact ih2 (e - 1) _ _ (by omega) ⟨i + 1, j + 1 + v, by omega, hS3, hP3, fun _ => q3, rfl⟩
      · have hP4 := hP3.n hC q3 (by omega)
        have e2 := orb_i hn (l := l) (j := j + 1 + v) (by omega) (e := (orb l (j + 1 + v) : Int) + st l) rfl
        simp -implicitDefEqProofs (disch := (first | decide | omega)) only [fX10_spread_B63, fX10_spread_L91, e2, bo_s, bd_s, bn_s, gI_s, gJ_s, gR_s, pI_s, pZ_s, pJ_s, pR_s, chk_s, chN_s, chN_n, aL_s, aI_c, aJ_c, aR_c, wI_c, wB_c, wS_c, wZ_c, wJ_c, wR_c, mK_sI, mK_sJ, mK_sR, mK_cpI, mL_sI, mL_sJ, mL_sR, mL_cpI, mI_sI, mI_sJ, mI_sR, mI_cpI, mJ_sI, mJ_sJ, mJ_sR, mJ_cpI, mR_sI, mR_sJ, mR_sR, mR_cpI, i2b_i2b, i2b_sb, iI_lit, iI_add, iI_sub, iI_mul, iI_neg, iI_lt, iI_le, iI_eq, iI_J, lt_T, lt_F, le_T, le_F, eq_T, eq_F, eqN_T, eqN_F, leN_T, leN_F, ltN_T, ltN_F, if_true, if_false, and_true, true_and, and_false, false_and, or_true, true_or, or_false, false_or, not_true_eq_false, not_false_eq_true, and_self, or_self, tn_c, ne_eq, dite_true, dite_false]
        exact ih3 (r - 1) _ _ (by omega) ⟨v + 1, by omega, rfl, hP4.1, rfl⟩
theorem pack3 (A : Int) {B C : Nat} (hB : B < 256) (hC : C < 256) : shlI (iI A) (iI 16) ||| shlI (iI B) (iI 8) ||| iI C = iI (A * 65536 + B * 256 + C) := by
  rw [shl_i (by omega), shl_i (by omega), show Int.toNat 16 = 16 from rfl, show Int.toNat 8 = 8 from rfl, iI_or (k := 16) A (by omega) (by omega), show A * 2 ^ 16 + (B : Int) * 2 ^ 8 = (A * 256 + B) * 2 ^ 8 by omega, iI_or (k := 8) _ (by omega) (by omega)]
  refine congrArg iI ?_
  omega
/-- a table: of each place below 2 ^ l symbol f, bits g, base h -/
abbrev TR (l : Nat) (f g h : Nat → Nat) : Prop := l ≤ 9 ∧ ∀ q, q < 2 ^ l → f q < 256 ∧ g q ≤ 9 ∧ h q + 2 ^ g q ≤ 2 ^ l
abbrev TV (M : Mem) (t l : Nat) (f g h : Nat → Nat) : Prop := mI M t 0 = iI l ∧ ∀ q, q < 2 ^ l → mI M (t + 1) q = iI ((h q : Int) * 65536 + g q * 256 + f q)
theorem TR_of {l S : Nat} {c : Nat → Int} (h : CO l S c) : TR l (sy l S c) (bb l S c) (ba l S c) := by
  refine ⟨h.2.1, fun q hq => ⟨?_, ?_, ?_⟩⟩
  · have := sy_lt (l := l) (c := c) (q := q) h.2.2.1
    have := h.2.2.2.1
    omega
  · have := h.2.1
    unfold bb
    omega
  · obtain ⟨b1, b2, b3, b4, b5⟩ := bb_sp h hq
    rw [Nat.add_mul, Nat.one_mul] at b2
    unfold ba
    omega
theorem symbolAt_ok {M : Mem} {t l : Nat} {f g h : Nat → Nat} (hT : TS M t) (hR : TR l f g h) (hV : TV M t l f g h) {q : Nat} (hq : q < 2 ^ l) : fX10_symbolAt (some t) (iI q) M = some (iI (f q), M) := by
  obtain ⟨t0, t1, t2, t3, t4, t5, t6, t7, t8, t9⟩ := hT
  have h9 : 2 ^ l ≤ 512 := pow_le2 (b := 9) hR.1
  have hf := (hR.2 q hq).1
  have e := hV.2 q hq
  have e2 : ((h q : Int) * 65536 + g q * 256 + f q) % 256 = f q := by omega
  simp -implicitDefEqProofs (disch := (first | decide | omega)) only [fX10_symbolAt, fX10_symbolAt_L24, fX10_symbolAt_L25, t0, t1, t4, t5, e, and_255, e2, bo_s, bd_s, bn_s, gI_s, gJ_s, gR_s, pI_s, pZ_s, pJ_s, pR_s, chk_s, chN_s, chN_n, aL_s, aI_c, aJ_c, aR_c, wI_c, wB_c, wS_c, wZ_c, wJ_c, wR_c, mK_sI, mK_sJ, mK_sR, mK_cpI, mL_sI, mL_sJ, mL_sR, mL_cpI, mI_sI, mI_sJ, mI_sR, mI_cpI, mJ_sI, mJ_sJ, mJ_sR, mJ_cpI, mR_sI, mR_sJ, mR_sR, mR_cpI, i2b_i2b, i2b_sb, iI_lit, iI_add, iI_sub, iI_mul, iI_neg, iI_lt, iI_le, iI_eq, iI_J, lt_T, lt_F, le_T, le_F, eq_T, eq_F, eqN_T, eqN_F, leN_T, leN_F, ltN_T, ltN_F, if_true, if_false, and_true, true_and, and_false, false_and, or_true, true_or, or_false, false_or, not_true_eq_false, not_false_eq_true, and_self, or_self, tn_c, ne_eq, dite_true, dite_false]
theorem bitsAt_ok {M : Mem} {t l : Nat} {f g h : Nat → Nat} (hT : TS M t) (hR : TR l f g h) (hV : TV M t l f g h) {q : Nat} (hq : q < 2 ^ l) : fX10_bitsAt (some t) (iI q) M = some (iI (g q), M) := by
  obtain ⟨t0, t1, t2, t3, t4, t5, t6, t7, t8, t9⟩ := hT
  have h9 : 2 ^ l ≤ 512 := pow_le2 (b := 9) hR.1
  obtain ⟨hf, hg, hh⟩ := hR.2 q hq
  have hp := two_pos (g q)
  have e := hV.2 q hq
  have e1 := shr_i (a := (h q : Int) * 65536 + g q * 256 + f q) (k := 8) (by omega) (by omega)
  have e2 : ((h q : Int) * 65536 + g q * 256 + f q) / 2 ^ Int.toNat 8 % 256 = g q := by
    show _ / 256 % 256 = _
    omega
  simp -implicitDefEqProofs (disch := (first | decide | omega)) only [fX10_bitsAt, fX10_bitsAt_L27, fX10_bitsAt_L28, t0, t1, t4, t5, e, e1, and_255, e2, bo_s, bd_s, bn_s, gI_s, gJ_s, gR_s, pI_s, pZ_s, pJ_s, pR_s, chk_s, chN_s, chN_n, aL_s, aI_c, aJ_c, aR_c, wI_c, wB_c, wS_c, wZ_c, wJ_c, wR_c, mK_sI, mK_sJ, mK_sR, mK_cpI, mL_sI, mL_sJ, mL_sR, mL_cpI, mI_sI, mI_sJ, mI_sR, mI_cpI, mJ_sI, mJ_sJ, mJ_sR, mJ_cpI, mR_sI, mR_sJ, mR_sR, mR_cpI, i2b_i2b, i2b_sb, iI_lit, iI_add, iI_sub, iI_mul, iI_neg, iI_lt, iI_le, iI_eq, iI_J, lt_T, lt_F, le_T, le_F, eq_T, eq_F, eqN_T, eqN_F, leN_T, leN_F, ltN_T, ltN_F, if_true, if_false, and_true, true_and, and_false, false_and, or_true, true_or, or_false, false_or, not_true_eq_false, not_false_eq_true, and_self, or_self, tn_c, ne_eq, dite_true, dite_false]
theorem baseAt_ok {M : Mem} {t l : Nat} {f g h : Nat → Nat} (hT : TS M t) (hR : TR l f g h) (hV : TV M t l f g h) {q : Nat} (hq : q < 2 ^ l) : fX10_baseAt (some t) (iI q) M = some (iI (h q), M) := by
  obtain ⟨t0, t1, t2, t3, t4, t5, t6, t7, t8, t9⟩ := hT
  have h9 : 2 ^ l ≤ 512 := pow_le2 (b := 9) hR.1
  obtain ⟨hf, hg, hh⟩ := hR.2 q hq
  have hp := two_pos (g q)
  have e := hV.2 q hq
  have e1 := shr_i (a := (h q : Int) * 65536 + g q * 256 + f q) (k := 16) (by omega) (by omega)
  have e2 : ((h q : Int) * 65536 + g q * 256 + f q) / 2 ^ Int.toNat 16 = h q := by
    show _ / 65536 = _
    omega
  simp -implicitDefEqProofs (disch := (first | decide | omega)) only [fX10_baseAt, fX10_baseAt_L23, fX10_baseAt_L24, t0, t1, t4, t5, e, e1, e2, bo_s, bd_s, bn_s, gI_s, gJ_s, gR_s, pI_s, pZ_s, pJ_s, pR_s, chk_s, chN_s, chN_n, aL_s, aI_c, aJ_c, aR_c, wI_c, wB_c, wS_c, wZ_c, wJ_c, wR_c, mK_sI, mK_sJ, mK_sR, mK_cpI, mL_sI, mL_sJ, mL_sR, mL_cpI, mI_sI, mI_sJ, mI_sR, mI_cpI, mJ_sI, mJ_sJ, mJ_sR, mJ_cpI, mR_sI, mR_sJ, mR_sR, mR_cpI, i2b_i2b, i2b_sb, iI_lit, iI_add, iI_sub, iI_mul, iI_neg, iI_lt, iI_le, iI_eq, iI_J, lt_T, lt_F, le_T, le_F, eq_T, eq_F, eqN_T, eqN_F, leN_T, leN_F, ltN_T, ltN_F, if_true, if_false, and_true, true_and, and_false, false_and, or_true, true_or, or_false, false_or, not_true_eq_false, not_false_eq_true, and_self, or_self, tn_c, ne_eq, dite_true, dite_false]
theorem oc_s (l S : Nat) (c : Nat → Int) (s k : Nat) : oc l S c s (k + 1) = oc l S c s k + if sy l S c k = s then 1 else 0 := by
  show cnt _ k + _ = _
  by_cases h : sy l S c k = s
  · rw [if_pos h, if_pos (decide_eq_true h)]; rfl
  · rw [if_neg h, if_neg (fun w => h (of_decide_eq_true w))]; rfl
theorem build3_ok {M : Mem} {t l S n : Nat} {c : Nat → Int} (hT : TS M t) (hC : CO l S c) (hn : 2 ^ l = n) (h0 : mI M t 0 = iI l) (hx : ∀ i, i < S → mI M (t + 3) i = iI ((c i).natAbs : Nat)) (hs : ∀ q, q < n → mI M (t + 1) q = iI (sy l S c q)) :
    Wp (fX10_build_L91 (some t) (iI n) (iI 0) M) fun _ N => Sm (fun a i => a = t + 1 ∨ a = t + 3) M N ∧ TV N t l (sy l S c) (bb l S c) (ba l S c) := by
  have hr := pow_r hC.1 hC.2.1
  rw [hn] at hr
  have hS2 := hC.2.2.2.1
  have hl := hC.2.1
  obtain ⟨t0, t1, t2, t3, t4, t5, t6, t7, t8, t9⟩ := hT
  unfold fX10_build_L91
  refine w_lpF (fun d x M' => ∃ k : Nat, k + d = n ∧ Sm (fun a i => a = t + 1 ∨ a = t + 3) M M' ∧ (∀ i, i < S → mI M' (t + 3) i = iI (((c i).natAbs + oc l S c i k : Nat) : Int)) ∧ (∀ q, k ≤ q → q < n → mI M' (t + 1) q = iI (sy l S c q)) ∧ (∀ q, q < k → mI M' (t + 1) q = iI ((ba l S c q : Int) * 65536 + bb l S c q * 256 + sy l S c q)) ∧ x = (some t, iI n, iI k)) n (by omega) ⟨0, by omega, Sm.rf, hx, fun q _ hq => hs q hq, fun q hq => by omega, rfl⟩ ?_
  rintro g d x M' ⟨k, hd, hS, h3, hu, hf, rfl⟩ ih
  have f0 := (hS.K t).trans t0
  have g0 := (hS.I t 0 (by omega)).trans h0
  by_cases q : d = 0
  · obtain rfl : k = n := by omega
    simp -implicitDefEqProofs (disch := (first | decide | omega)) only [fX10_build_B91, bo_s, bd_s, bn_s, gI_s, gJ_s, gR_s, pI_s, pZ_s, pJ_s, pR_s, chk_s, chN_s, chN_n, aL_s, aI_c, aJ_c, aR_c, wI_c, wB_c, wS_c, wZ_c, wJ_c, wR_c, mK_sI, mK_sJ, mK_sR, mK_cpI, mL_sI, mL_sJ, mL_sR, mL_cpI, mI_sI, mI_sJ, mI_sR, mI_cpI, mJ_sI, mJ_sJ, mJ_sR, mJ_cpI, mR_sI, mR_sJ, mR_sR, mR_cpI, i2b_i2b, i2b_sb, iI_lit, iI_add, iI_sub, iI_mul, iI_neg, iI_lt, iI_le, iI_eq, iI_J, lt_T, lt_F, le_T, le_F, eq_T, eq_F, eqN_T, eqN_F, leN_T, leN_F, ltN_T, ltN_F, if_true, if_false, and_true, true_and, and_false, false_and, or_true, true_or, or_false, false_or, not_true_eq_false, not_false_eq_true, and_self, or_self, tn_c, ne_eq, dite_true, dite_false]
    exact w_ret ⟨hS, g0, fun q hq => hf q (by omega)⟩
  · have f1 := (hS.R t 1 (by omega)).trans t1
    have f3 := (hS.R t 3 (by omega)).trans t3
    have f4 := (hS.K (t + 1)).trans t4
    have f5 := (hS.L (t + 1)).trans t5
    have f8 := (hS.K (t + 3)).trans t8
    have f9 := (hS.L (t + 3)).trans t9
    have hy := sy_lt (l := l) (c := c) (q := k) hC.2.2.1
    have e1 := hu k (by omega) (by omega)
    have e2 : (sy l S c k : Int) % 256 = sy l S c k := by omega
    have e3 := h3 _ hy
    obtain ⟨b1, b2, b3, b4, b5⟩ := bb_sp hC (k := k) (by omega)
    rw [Nat.add_mul, Nat.one_mul] at b2
    have hp := two_pos (bb l S c k)
    have e4 : (c (sy l S c k)).natAbs + oc l S c (sy l S c k) k = xx l S c k := rfl
    rw [e4] at e3
    have e5 := logOf_ok (M := sI M' (t + 3) (sy l S c k) (iI ((xx l S c k : Int) + 1))) (xx l S c k) (by omega)
    have e6 : (l : Int) - Nat.log2 (xx l S c k) = bb l S c k := by unfold bb; omega
    have hb : bb l S c k ≤ 9 := by unfold bb; omega
    have e7 := shl_n (a := xx l S c k) (k := bb l S c k) (by omega)
    have e8 : ((xx l S c k * 2 ^ bb l S c k : Nat) : Int) - n = ba l S c k := by unfold ba; omega
    have e9 := pack3 (ba l S c k : Int) (B := bb l S c k) (C := sy l S c k) (by omega) (by omega)
    simp -implicitDefEqProofs (disch := (first | decide | omega)) only [fX10_build_B91, fX10_symbolAt, fX10_symbolAt_L25, fX10_symbolAt_L24, f0, g0, f1, f3, f4, f5, f8, f9, e1, and_255, e2, e3, e5, e6, e7, e8, e9, bo_s, bd_s, bn_s, gI_s, gJ_s, gR_s, pI_s, pZ_s, pJ_s, pR_s, chk_s, chN_s, chN_n, aL_s, aI_c, aJ_c, aR_c, wI_c, wB_c, wS_c, wZ_c, wJ_c, wR_c, mK_sI, mK_sJ, mK_sR, mK_cpI, mL_sI, mL_sJ, mL_sR, mL_cpI, mI_sI, mI_sJ, mI_sR, mI_cpI, mJ_sI, mJ_sJ, mJ_sR, mJ_cpI, mR_sI, mR_sJ, mR_sR, mR_cpI, i2b_i2b, i2b_sb, iI_lit, iI_add, iI_sub, iI_mul, iI_neg, iI_lt, iI_le, iI_eq, iI_J, lt_T, lt_F, le_T, le_F, eq_T, eq_F, eqN_T, eqN_F, leN_T, leN_F, ltN_T, ltN_F, if_true, if_false, and_true, true_and, and_false, false_and, or_true, true_or, or_false, false_or, not_true_eq_false, not_false_eq_true, and_self, or_self, tn_c, ne_eq, dite_true, dite_false]
    refine ih (d - 1) _ _ (by omega) ⟨k + 1, by omega, ?_, ?_, ?_, ?_, rfl⟩
    · (repeat' first | assumption | exact Sm.rf | refine Sm.sI ?_ (by first | omega | rfl) | refine Sm.sR ?_ (by first | omega | rfl) | refine Sm.sJ ?_ (by first | omega | rfl))
    · intro i hi
      rw [oc_s]
      by_cases ei : i = sy l S c k
      · simp -implicitDefEqProofs (disch := (first | decide | omega)) only [mK_sI, mK_sJ, mK_sR, mK_cpI, mL_sI, mL_sJ, mL_sR, mL_cpI, mI_sI, mI_sJ, mI_sR, mI_cpI, mJ_sI, mJ_sJ, mJ_sR, mJ_cpI, mR_sI, mR_sJ, mR_sR, mR_cpI, eqN_T, eqN_F, if_true, if_false, and_true, true_and, and_false, false_and, or_true, true_or, or_false, false_or, not_true_eq_false, not_false_eq_true, and_self, or_self, tn_c, ne_eq, dite_true, dite_false]
        rw [ei, ← Nat.add_assoc, e4]
        rfl
      · simp -implicitDefEqProofs (disch := (first | decide | omega)) only [mK_sI, mK_sJ, mK_sR, mK_cpI, mL_sI, mL_sJ, mL_sR, mL_cpI, mI_sI, mI_sJ, mI_sR, mI_cpI, mJ_sI, mJ_sJ, mJ_sR, mJ_cpI, mR_sI, mR_sJ, mR_sR, mR_cpI, eqN_T, eqN_F, if_true, if_false, and_true, true_and, and_false, false_and, or_true, true_or, or_false, false_or, not_true_eq_false, not_false_eq_true, and_self, or_self, tn_c, ne_eq, dite_true, dite_false]
        exact h3 i hi
    · intro q hq1 hq2
      simp -implicitDefEqProofs (disch := (first | decide | omega)) only [mK_sI, mK_sJ, mK_sR, mK_cpI, mL_sI, mL_sJ, mL_sR, mL_cpI, mI_sI, mI_sJ, mI_sR, mI_cpI, mJ_sI, mJ_sJ, mJ_sR, mJ_cpI, mR_sI, mR_sJ, mR_sR, mR_cpI, eqN_T, eqN_F, if_true, if_false, and_true, true_and, and_false, false_and, or_true, true_or, or_false, false_or, not_true_eq_false, not_false_eq_true, and_self, or_self, tn_c, ne_eq, dite_true, dite_false]
      exact hu q (by omega) hq2
    · intro q hq1
      by_cases eq : q = k
      · subst eq
        simp -implicitDefEqProofs (disch := (first | decide | omega)) only [mK_sI, mK_sJ, mK_sR, mK_cpI, mL_sI, mL_sJ, mL_sR, mL_cpI, mI_sI, mI_sJ, mI_sR, mI_cpI, mJ_sI, mJ_sJ, mJ_sR, mJ_cpI, mR_sI, mR_sJ, mR_sR, mR_cpI, eqN_T, eqN_F, if_true, if_false, and_true, true_and, and_false, false_and, or_true, true_or, or_false, false_or, not_true_eq_false, not_false_eq_true, and_self, or_self, tn_c, ne_eq, dite_true, dite_false]
      · simp -implicitDefEqProofs (disch := (first | decide | omega)) only [mK_sI, mK_sJ, mK_sR, mK_cpI, mL_sI, mL_sJ, mL_sR, mL_cpI, mI_sI, mI_sJ, mI_sR, mI_cpI, mJ_sI, mJ_sJ, mJ_sR, mJ_cpI, mR_sI, mR_sJ, mR_sR, mR_cpI, eqN_T, eqN_F, if_true, if_false, and_true, true_and, and_false, false_and, or_true, true_or, or_false, false_or, not_true_eq_false, not_false_eq_true, and_self, or_self, tn_c, ne_eq, dite_true, dite_false]
        exact hf q (by omega)
theorem build_ok {M : Mem} {t l S : Nat} {c : Nat → Int} (hT : TS M t) (hC : CO l S c) (h4 : mI M t 4 = iI S) (hc : ∀ i, i < S → mI M (t + 2) i = iI (c i)) :
    Wp (fX10_build (some t) (iI l) M) fun _ N => Sm (fun a i => (a = t ∧ i = 0) ∨ a = t + 1 ∨ a = t + 3) M N ∧ TV N t l (sy l S c) (bb l S c) (ba l S c) := by
  obtain ⟨n, hn⟩ : ∃ n, 2 ^ l = n := ⟨_, rfl⟩
  have hr := pow_r hC.1 hC.2.1
  have hE := hC.2.2.2.2.1
  have hl := hC.2.1
  rw [hn] at hr hE
  have hS2 := hC.2.2.2.1
  have hT0 := hT
  obtain ⟨t0, t1, t2, t3, t4, t5, t6, t7, t8, t9⟩ := hT
  have e1 : shlI (iI 1) (iI l) = iI n := by
    have := shl_n (a := 1) (k := l) (by omega)
    rwa [Nat.one_mul, hn] at this
  have e2 := minI_iI (a := (n : Int)) (b := 512) (by omega) (by omega)
  rw [show min (n : Int) 512 = n by omega] at e2
  simp -implicitDefEqProofs (disch := (first | decide | omega)) only [fX10_build, fX10_build_L25, t0, e1, e2, bo_s, bd_s, bn_s, gI_s, gJ_s, gR_s, pI_s, pZ_s, pJ_s, pR_s, chk_s, chN_s, chN_n, aL_s, aI_c, aJ_c, aR_c, wI_c, wB_c, wS_c, wZ_c, wJ_c, wR_c, mK_sI, mK_sJ, mK_sR, mK_cpI, mL_sI, mL_sJ, mL_sR, mL_cpI, mI_sI, mI_sJ, mI_sR, mI_cpI, mJ_sI, mJ_sJ, mJ_sR, mJ_cpI, mR_sI, mR_sJ, mR_sR, mR_cpI, i2b_i2b, i2b_sb, iI_lit, iI_add, iI_sub, iI_mul, iI_neg, iI_lt, iI_le, iI_eq, iI_J, lt_T, lt_F, le_T, le_F, eq_T, eq_F, eqN_T, eqN_F, leN_T, leN_F, ltN_T, ltN_F, if_true, if_false, and_true, true_and, and_false, false_and, or_true, true_or, or_false, false_or, not_true_eq_false, not_false_eq_true, and_self, or_self, tn_c, ne_eq, dite_true, dite_false]
  have hS0 : Sm (fun a i => (a = t ∧ i = 0) ∨ a = t + 1 ∨ a = t + 3) M (sI M t 0 (iI l)) := by (repeat' first | assumption | exact Sm.rf | refine Sm.sI ?_ (by first | omega | rfl) | refine Sm.sR ?_ (by first | omega | rfl) | refine Sm.sJ ?_ (by first | omega | rfl))
  refine w_lpF (fun d x M' => ∃ s : Nat, s + d = S ∧ Sm (fun a i => (a = t ∧ i = 0) ∨ a = t + 1 ∨ a = t + 3) M M' ∧ mI M' t 0 = iI l ∧ (∀ i, i < s → mI M' (t + 3) i = iI ((c i).natAbs : Nat)) ∧ (∀ q, n - neg c s ≤ q → q < n → mI M' (t + 1) q = iI (sy l S c q)) ∧ x = (some t, iI n, iI ((n : Int) - 1 - neg c s), iI s)) S (by omega) ⟨0, by omega, hS0, by simp -implicitDefEqProofs (disch := (first | decide | omega)) only [mK_sI, mK_sJ, mK_sR, mK_cpI, mL_sI, mL_sJ, mL_sR, mL_cpI, mI_sI, mI_sJ, mI_sR, mI_cpI, mJ_sI, mJ_sJ, mJ_sR, mJ_cpI, mR_sI, mR_sJ, mR_sR, mR_cpI, eqN_T, eqN_F, if_true, if_false, and_true, true_and, and_false, false_and, or_true, true_or, or_false, false_or, not_true_eq_false, not_false_eq_true, and_self, or_self, tn_c, ne_eq, dite_true, dite_false], fun i hi => by omega, fun q h1 h2 => by rw [neg] at h1; omega, by rw [neg, show (n : Int) - 1 - (0 : Nat) = (n : Int) - 1 by omega]; rfl⟩ ?_
  rintro g d x M' ⟨s, hd, hS, g0, hx, hs, rfl⟩ ih
  have f0 := (hS.K t).trans t0
  have f4 := (hS.I t 4 (by omega)).trans h4
  by_cases q : d = 0
  · obtain rfl : s = S := by omega
    have hT' := hT0.sm hS (by omega) (by omega) (by omega)
    have hc' : ∀ i, i < s → mI M' (t + 2) i = iI (c i) := fun i hi => (hS.I (t + 2) i (by omega)).trans (hc i hi)
    have e3 : (n : Int) - 1 - neg c s = (cum c s : Int) - 1 := by omega
    obtain ⟨_, N, e4, hN, hN2⟩ := spread_ok hT' hC hn f4 hc'
    show Wp (fX10_build_B25 g (some t) (iI n) (iI ((n : Int) - 1 - neg c s)) (iI s) M') _
    rw [fX10_build_B25, gI_s, if_pos f0, bo_s, f4, if_pos (by rw [iI_le (by omega) (by omega)]; omega), chk_s, if_pos f0, bo_s, e3, e4, bd_s, bn, iI_0]
    refine w_mono (build3_ok (hT'.sm hN (by omega) (by omega) (by omega)) hC hn ((hN.I t 0 (by omega)).trans g0) (fun i hi => (hN.I (t + 3) i (by omega)).trans (hx i hi)) fun q hq => ?_) fun v O h => ⟨(hS.tr (hN.weak (by omega))).tr (h.1.weak (by omega)), h.2⟩
    by_cases c1 : q < cum c s
    · exact hN2 q c1
    · exact (hN.I (t + 1) q (by omega)).trans (hs q (by omega) hq)
  · have cl := c_le hC (s := s) (by omega)
    have f1 := (hS.R t 1 (by omega)).trans t1
    have f2 := (hS.R t 2 (by omega)).trans t2
    have f3 := (hS.R t 3 (by omega)).trans t3
    have f5 := (hS.K (t + 1)).trans t4
    have f6 := (hS.L (t + 1)).trans t5
    have f7 := (hS.K (t + 2)).trans t6
    have f8 := (hS.L (t + 2)).trans t7
    have f9 := (hS.K (t + 3)).trans t8
    have f10 := (hS.L (t + 3)).trans t9
    have fc := (hS.I (t + 2) s (by omega)).trans (hc s (by omega))
    have nm := neg_m c (show s + 1 ≤ S by omega)
    have ea := absI_iI (a := c s) (by omega)
    rw [show (if 0 ≤ c s then c s else -c s) = ((c s).natAbs : Int) by omega] at ea
    by_cases c1 : c s = -1
    · have en : neg c (s + 1) = neg c s + 1 := by rw [neg, if_pos c1]
      have et := sy_t hC (s := s) (by omega) c1
      rw [hn] at et
      have e5 : ((n : Int) - 1 - neg c s).toNat = n - 1 - neg c s := by omega
      rw [c1] at fc ea
      simp -implicitDefEqProofs (disch := (first | decide | omega)) only [fX10_build_B25, fX10_build_L76, f0, f1, f2, f3, f4, f5, f6, f7, f8, f9, f10, fc, ea, e5, bo_s, bd_s, bn_s, gI_s, gJ_s, gR_s, pI_s, pZ_s, pJ_s, pR_s, chk_s, chN_s, chN_n, aL_s, aI_c, aJ_c, aR_c, wI_c, wB_c, wS_c, wZ_c, wJ_c, wR_c, mK_sI, mK_sJ, mK_sR, mK_cpI, mL_sI, mL_sJ, mL_sR, mL_cpI, mI_sI, mI_sJ, mI_sR, mI_cpI, mJ_sI, mJ_sJ, mJ_sR, mJ_cpI, mR_sI, mR_sJ, mR_sR, mR_cpI, i2b_i2b, i2b_sb, iI_lit, iI_add, iI_sub, iI_mul, iI_neg, iI_lt, iI_le, iI_eq, iI_J, lt_T, lt_F, le_T, le_F, eq_T, eq_F, eqN_T, eqN_F, leN_T, leN_F, ltN_T, ltN_F, if_true, if_false, and_true, true_and, and_false, false_and, or_true, true_or, or_false, false_or, not_true_eq_false, not_false_eq_true, and_self, or_self, tn_c, ne_eq, dite_true, dite_false]
      refine ih (d - 1) _ _ (by omega) ⟨s + 1, by omega, ?_, ?_, ?_, ?_, ?_⟩
      · (repeat' first | assumption | exact Sm.rf | refine Sm.sI ?_ (by first | omega | rfl) | refine Sm.sR ?_ (by first | omega | rfl) | refine Sm.sJ ?_ (by first | omega | rfl))
      · simp -implicitDefEqProofs (disch := (first | decide | omega)) only [mK_sI, mK_sJ, mK_sR, mK_cpI, mL_sI, mL_sJ, mL_sR, mL_cpI, mI_sI, mI_sJ, mI_sR, mI_cpI, mJ_sI, mJ_sJ, mJ_sR, mJ_cpI, mR_sI, mR_sJ, mR_sR, mR_cpI, eqN_T, eqN_F, if_true, if_false, and_true, true_and, and_false, false_and, or_true, true_or, or_false, false_or, not_true_eq_false, not_false_eq_true, and_self, or_self, tn_c, ne_eq, dite_true, dite_false]
        exact g0
      · intro i hi
        by_cases ei : i = s
        · subst ei
          simp -implicitDefEqProofs (disch := (first | decide | omega)) only [mK_sI, mK_sJ, mK_sR, mK_cpI, mL_sI, mL_sJ, mL_sR, mL_cpI, mI_sI, mI_sJ, mI_sR, mI_cpI, mJ_sI, mJ_sJ, mJ_sR, mJ_cpI, mR_sI, mR_sJ, mR_sR, mR_cpI, eqN_T, eqN_F, if_true, if_false, and_true, true_and, and_false, false_and, or_true, true_or, or_false, false_or, not_true_eq_false, not_false_eq_true, and_self, or_self, tn_c, ne_eq, dite_true, dite_false]
          rw [c1]
        · simp -implicitDefEqProofs (disch := (first | decide | omega)) only [mK_sI, mK_sJ, mK_sR, mK_cpI, mL_sI, mL_sJ, mL_sR, mL_cpI, mI_sI, mI_sJ, mI_sR, mI_cpI, mJ_sI, mJ_sJ, mJ_sR, mJ_cpI, mR_sI, mR_sJ, mR_sR, mR_cpI, eqN_T, eqN_F, if_true, if_false, and_true, true_and, and_false, false_and, or_true, true_or, or_false, false_or, not_true_eq_false, not_false_eq_true, and_self, or_self, tn_c, ne_eq, dite_true, dite_false]
          exact hx i (by omega)
      · intro q h1 h2
        by_cases eq : q = n - 1 - neg c s
        · subst eq
          simp -implicitDefEqProofs (disch := (first | decide | omega)) only [mK_sI, mK_sJ, mK_sR, mK_cpI, mL_sI, mL_sJ, mL_sR, mL_cpI, mI_sI, mI_sJ, mI_sR, mI_cpI, mJ_sI, mJ_sJ, mJ_sR, mJ_cpI, mR_sI, mR_sJ, mR_sR, mR_cpI, eqN_T, eqN_F, if_true, if_false, and_true, true_and, and_false, false_and, or_true, true_or, or_false, false_or, not_true_eq_false, not_false_eq_true, and_self, or_self, tn_c, ne_eq, dite_true, dite_false]
          rw [et]
        · simp -implicitDefEqProofs (disch := (first | decide | omega)) only [mK_sI, mK_sJ, mK_sR, mK_cpI, mL_sI, mL_sJ, mL_sR, mL_cpI, mI_sI, mI_sJ, mI_sR, mI_cpI, mJ_sI, mJ_sJ, mJ_sR, mJ_cpI, mR_sI, mR_sJ, mR_sR, mR_cpI, eqN_T, eqN_F, if_true, if_false, and_true, true_and, and_false, false_and, or_true, true_or, or_false, false_or, not_true_eq_false, not_false_eq_true, and_self, or_self, tn_c, ne_eq, dite_true, dite_false]
          exact hs q (by omega) h2
      · rw [en, show (n : Int) - 1 - ((neg c s + 1 : Nat) : Int) = (n : Int) - 1 - neg c s + -1 by omega]
        rfl
    · have en : neg c (s + 1) = neg c s := by rw [neg, if_neg c1]; rfl
      simp -implicitDefEqProofs (disch := (first | decide | omega)) only [fX10_build_B25, fX10_build_L76, f0, f1, f2, f3, f4, f5, f6, f7, f8, f9, f10, fc, ea, bo_s, bd_s, bn_s, gI_s, gJ_s, gR_s, pI_s, pZ_s, pJ_s, pR_s, chk_s, chN_s, chN_n, aL_s, aI_c, aJ_c, aR_c, wI_c, wB_c, wS_c, wZ_c, wJ_c, wR_c, mK_sI, mK_sJ, mK_sR, mK_cpI, mL_sI, mL_sJ, mL_sR, mL_cpI, mI_sI, mI_sJ, mI_sR, mI_cpI, mJ_sI, mJ_sJ, mJ_sR, mJ_cpI, mR_sI, mR_sJ, mR_sR, mR_cpI, i2b_i2b, i2b_sb, iI_lit, iI_add, iI_sub, iI_mul, iI_neg, iI_lt, iI_le, iI_eq, iI_J, lt_T, lt_F, le_T, le_F, eq_T, eq_F, eqN_T, eqN_F, leN_T, leN_F, ltN_T, ltN_F, if_true, if_false, and_true, true_and, and_false, false_and, or_true, true_or, or_false, false_or, not_true_eq_false, not_false_eq_true, and_self, or_self, tn_c, ne_eq, dite_true, dite_false]
      refine ih (d - 1) _ _ (by omega) ⟨s + 1, by omega, ?_, ?_, ?_, ?_, ?_⟩
      · (repeat' first | assumption | exact Sm.rf | refine Sm.sI ?_ (by first | omega | rfl) | refine Sm.sR ?_ (by first | omega | rfl) | refine Sm.sJ ?_ (by first | omega | rfl))
      · simp -implicitDefEqProofs (disch := (first | decide | omega)) only [mK_sI, mK_sJ, mK_sR, mK_cpI, mL_sI, mL_sJ, mL_sR, mL_cpI, mI_sI, mI_sJ, mI_sR, mI_cpI, mJ_sI, mJ_sJ, mJ_sR, mJ_cpI, mR_sI, mR_sJ, mR_sR, mR_cpI, eqN_T, eqN_F, if_true, if_false, and_true, true_and, and_false, false_and, or_true, true_or, or_false, false_or, not_true_eq_false, not_false_eq_true, and_self, or_self, tn_c, ne_eq, dite_true, dite_false]
        exact g0
      · intro i hi
        by_cases ei : i = s
        · subst ei
          simp -implicitDefEqProofs (disch := (first | decide | omega)) only [mK_sI, mK_sJ, mK_sR, mK_cpI, mL_sI, mL_sJ, mL_sR, mL_cpI, mI_sI, mI_sJ, mI_sR, mI_cpI, mJ_sI, mJ_sJ, mJ_sR, mJ_cpI, mR_sI, mR_sJ, mR_sR, mR_cpI, eqN_T, eqN_F, if_true, if_false, and_true, true_and, and_false, false_and, or_true, true_or, or_false, false_or, not_true_eq_false, not_false_eq_true, and_self, or_self, tn_c, ne_eq, dite_true, dite_false]
        · simp -implicitDefEqProofs (disch := (first | decide | omega)) only [mK_sI, mK_sJ, mK_sR, mK_cpI, mL_sI, mL_sJ, mL_sR, mL_cpI, mI_sI, mI_sJ, mI_sR, mI_cpI, mJ_sI, mJ_sJ, mJ_sR, mJ_cpI, mR_sI, mR_sJ, mR_sR, mR_cpI, eqN_T, eqN_F, if_true, if_false, and_true, true_and, and_false, false_and, or_true, true_or, or_false, false_or, not_true_eq_false, not_false_eq_true, and_self, or_self, tn_c, ne_eq, dite_true, dite_false]
          exact hx i (by omega)
      · intro q h1 h2
        simp -implicitDefEqProofs (disch := (first | decide | omega)) only [mK_sI, mK_sJ, mK_sR, mK_cpI, mL_sI, mL_sJ, mL_sR, mL_cpI, mI_sI, mI_sJ, mI_sR, mI_cpI, mJ_sI, mJ_sJ, mJ_sR, mJ_cpI, mR_sI, mR_sJ, mR_sR, mR_cpI, eqN_T, eqN_F, if_true, if_false, and_true, true_and, and_false, false_and, or_true, true_or, or_false, false_or, not_true_eq_false, not_false_eq_true, and_self, or_self, tn_c, ne_eq, dite_true, dite_false]
        rw [en] at h1
        exact hs q h1 h2
      · rw [en]
        rfl
