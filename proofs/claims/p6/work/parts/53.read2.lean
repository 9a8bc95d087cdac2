/-! counts that are told make a table; the class reads one -/
abbrev Tb : Type := Nat × (Nat → Nat) × (Nat → Nat) × (Nat → Nat)
abbrev TbR (T : Tb) : Prop := TR T.1 T.2.1 T.2.2.1 T.2.2.2
abbrev TbV (M : Mem) (t : Nat) (T : Tb) : Prop := TV M t T.1 T.2.1 T.2.2.1 T.2.2.2
abbrev TbM (M : Mem) (k : Nat) (T : Tb) : Prop := MTV M k T.1 T.2.1 T.2.2.1 T.2.2.2
def tbOf (l S : Nat) (c : Nat → Int) : Tb := (l, sy l S c, bb l S c, ba l S c)
def rdT (u : Nat → Nat) (a g gr most : Nat) : Option (Nat × Tb) :=
  if 8 * g < 8 * a + 4 then none else
  if most < 5 + bits u (8 * a) 4 then none else
  match rdL u (8 * g) gr 300 (2 ^ (5 + bits u (8 * a) 4)) 0 (8 * a + 4) (fun _ => 0) with
  | none => none
  | some x => some ((x.1 + 7) / 8, tbOf (5 + bits u (8 * a) 4) x.2.1 x.2.2)
theorem cum_congr {c d : Nat → Int} : ∀ {s}, (∀ i, i < s → c i = d i) → cum c s = cum d s := by
  intro s
  induction s with
  | zero => intro _; rfl
  | succ s ih => intro h; rw [cum, cum, ih fun i hi => h i (by omega), h s (by omega)]
theorem neg_congr {c d : Nat → Int} : ∀ {s}, (∀ i, i < s → c i = d i) → neg c s = neg d s := by
  intro s
  induction s with
  | zero => intro _; rfl
  | succ s ih => intro h; rw [neg, neg, ih fun i hi => h i (by omega), h s (by omega)]
theorem rdZ_p {u : Nat → Nat} {q : Nat} : ∀ {j s p s' p'}, rdZ u q j s p = some (s', p') → p ≤ p' ∧ p' ≤ q := by
  intro j
  induction j with
  | zero => intro s p s' p' h; cases h
  | succ j ih =>
    intro s p s' p' h
    rw [rdZ] at h
    split at h
    · cases h
    · split at h
      · have := ih h; omega
      · cases h; omega
theorem rdL_co {u : Nat → Nat} {q gr R : Nat} : ∀ {k r s p c p' s' c'}, rdL u q gr k r s p c = some (p', s', c') → cum c s + neg c s + r = R → r < 1000 → (∀ i, s ≤ i → c i = 0) → (∀ i, -1 ≤ c i) → (r = 0 → s ≤ gr + 1) → p ≤ q →
    cum c' s' + neg c' s' = R ∧ (∀ i, s' ≤ i → c' i = 0) ∧ (∀ i, -1 ≤ c' i) ∧ s' ≤ gr + 1 ∧ p ≤ p' ∧ p' ≤ q := by
  intro k
  induction k with
  | zero => intro r s p c p' s' c' h; cases h
  | succ k ih =>
    intro r s p c p' s' c' h h1 hr h2 h3 h4 h5
    rw [rdL] at h
    split at h
    · rename_i c1
      cases h
      exact ⟨by omega, h2, h3, h4 c1, Nat.le_refl _, h5⟩
    · split at h
      · cases h
      · cases hC : rdC u q r p with
        | none => rw [hC] at h; cases h
        | some vp =>
          obtain ⟨v, p1⟩ := vp
          rw [hC, bz_s] at h
          obtain ⟨v1, v2, v3⟩ := rdC_v hr hC
          split at h
          · cases h
          · split at h
            · cases hZ : rdZ u q q (s + 1) p1 with
              | none => rw [hZ] at h; cases h
              | some sp =>
                obtain ⟨s2, p2⟩ := sp
                rw [hZ, bz_s] at h
                have z1 := rdZ_ge hZ
                have z2 := rdZ_p hZ
                have e1 := cum_ge h2 (s2 - s)
                have e2 := neg_ge h2 (s2 - s)
                rw [show s + (s2 - s) = s2 by omega] at e1 e2
                obtain ⟨a1, a2, a3, a4, a5, a6⟩ := ih h (by omega) hr (fun i hi => h2 i (by omega)) h3 (by omega) z2.2
                exact ⟨a1, a2, a3, a4, by omega, a6⟩
            · have e1 : cum (up c s ((v : Int) - 1)) (s + 1) = cum c s + ((v : Int) - 1).toNat := by
                rw [cum, cum_congr (c := up c s ((v : Int) - 1)) (d := c) fun i hi => if_neg (by omega)]
                unfold up
                rw [if_pos rfl]
              have e2 : neg (up c s ((v : Int) - 1)) (s + 1) = neg c s + if (v : Int) - 1 = -1 then 1 else 0 := by
                rw [neg, neg_congr (c := up c s ((v : Int) - 1)) (d := c) fun i hi => if_neg (by omega)]
                unfold up
                rw [if_pos rfl]
              obtain ⟨a1, a2, a3, a4, a5, a6⟩ := ih h (by
                rw [e1, e2]
                by_cases c6 : v = 0
                · rw [if_pos c6, if_pos (by omega)]; omega
                · rw [if_neg c6, if_neg (by omega)]; omega) (by omega) (fun i hi => by unfold up; rw [if_neg (by omega)]; exact h2 i (by omega)) (fun i => by
                unfold up
                split
                · omega
                · exact h3 i) (by omega) v3
              exact ⟨a1, a2, a3, a4, by omega, a6⟩
theorem rdT_ok {u : Nat → Nat} {a g gr most p : Nat} {T : Tb} (h : rdT u a g gr most = some (p, T)) (hm : most ≤ 9) (hgr : gr < 256) :
    ∃ S c, T = tbOf T.1 S c ∧ CO T.1 S c ∧ S ≤ gr + 1 ∧ a < p ∧ p ≤ g ∧ T.1 ≤ most := by
  unfold rdT at h
  split at h
  · cases h
  · split at h
    · cases h
    · have hl : 5 + bits u (8 * a) 4 ≤ 9 := by omega
      generalize hL : 5 + bits u (8 * a) 4 = l at *
      have hp := pow_r (l := l) (by omega) hl
      cases hR : rdL u (8 * g) gr 300 (2 ^ l) 0 (8 * a + 4) (fun _ => 0) with
      | none => rw [hR] at h; cases h
      | some x =>
        obtain ⟨p1, S, c⟩ := x
        rw [hR] at h
        cases h
        obtain ⟨a1, a2, a3, a4, a5, a6⟩ := rdL_co (R := 2 ^ l) hR (by show 0 + 0 + _ = _; omega) (by omega) (fun _ _ => rfl) (fun _ => by omega) (by omega) (by omega)
        have hS : 0 < S := by
          by_cases q : S = 0
          · rw [q] at a1
            have : cum c 0 + neg c 0 = 0 := rfl
            omega
          · omega
        exact ⟨S, c, rfl, ⟨by show 5 ≤ l; omega, hl, hS, by omega, a1, a3, a2⟩, a4, by show a < (p1 + 7) / 8; omega, by show (p1 + 7) / 8 ≤ g; omega, by show l ≤ most; omega⟩
theorem rdT_R {u : Nat → Nat} {a g gr most p : Nat} {T : Tb} (h : rdT u a g gr most = some (p, T)) (hm : most ≤ 9) (hgr : gr < 256) : TbR T := by
  obtain ⟨S, c, e, hC, -⟩ := rdT_ok h hm hgr
  rw [e]
  exact TR_of hC
theorem rdT_s {u : Nat → Nat} {a g gr most p : Nat} {T : Tb} (h : rdT u a g gr most = some (p, T)) (hm : most ≤ 9) (hgr : gr < 256) : ∀ q, T.2.1 q ≤ gr := by
  obtain ⟨S, c, e, hC, hS, -⟩ := rdT_ok h hm hgr
  intro q
  rw [e]
  have := sy_lt (l := T.1) (c := c) (q := q) hC.2.2.1
  show sy T.1 S c q ≤ gr
  omega
def WN (t a j : Nat) : Prop := (a = t ∧ 4 ≤ j) ∨ a = t + 2
def WT (t a j : Nat) : Prop := (a = t ∧ (j = 0 ∨ 4 ≤ j)) ∨ a = t + 1 ∨ a = t + 2 ∨ a = t + 3
theorem read_ok {M : Mem} {t r rb rn e a g gr most : Nat} {u : Nat → Nat} (hT : TS M t) (hr : RS M r rb rn) (hb : BV M rb rn e u) (hbt : rb ≠ t) (hbt2 : rb ≠ t + 2) (hu : ∀ i, u i < 256) (hg : g ≤ e) (ha : a < 1000000) (hgr : gr < 256) (hm : most ≤ 9) :
    Wp (fX10_read (some t) (some r) (iI a) (iI g) (iI gr) (iI most) M) fun v N => (rdT u a g gr most = none → v = iI (-1) ∧ Sm (WN t) M N) ∧ ∀ p T, rdT u a g gr most = some (p, T) → v = iI p ∧ Sm (WT t) M N ∧ TbV N t T := by
  have hT0 := hT
  obtain ⟨t0, t1, t2, t3, t4, t5, t6, t7, t8, t9⟩ := hT
  obtain ⟨r1, r2, r3, r4⟩ := hr
  have g3 := hb.2.2.1
  have g4 := hb.2.2.2.1
  obtain ⟨N0, hN0⟩ : ∃ N0, sI (sI (sI (sI (sR M t 5 (some rb)) t 6 (iI (8 * (a : Int)))) t 7 (iI (8 * (g : Int)))) t 8 (iI 0)) t 4 (iI 0) = N0 := ⟨_, rfl⟩
  have hS0 : Sm (WN t) M N0 := by
    rw [← hN0]
    refine Sm.sI (Sm.sI (Sm.sI (Sm.sI (Sm.sR Sm.rf ?_) ?_) ?_) ?_) ?_ <;> unfold WN <;> omega
  have n0 := (hS0.K t).trans t0
  have n5 : mR N0 t 5 = some rb := by rw [← hN0]; simp -implicitDefEqProofs (disch := (first | decide | omega)) only [mK_sI, mK_sJ, mK_sR, mK_cpI, mL_sI, mL_sJ, mL_sR, mL_cpI, mI_sI, mI_sJ, mI_sR, mI_cpI, mJ_sI, mJ_sJ, mJ_sR, mJ_cpI, mR_sI, mR_sJ, mR_sR, mR_cpI, eqN_T, eqN_F, if_true, if_false, and_true, true_and, and_false, false_and, or_true, true_or, or_false, false_or, not_true_eq_false, not_false_eq_true, and_self, or_self, tn_c, ne_eq, dite_true, dite_false]
  have n6 : mI N0 t 6 = iI ((8 * a : Nat) : Int) := by rw [← hN0]; simp -implicitDefEqProofs (disch := (first | decide | omega)) only [mK_sI, mK_sJ, mK_sR, mK_cpI, mL_sI, mL_sJ, mL_sR, mL_cpI, mI_sI, mI_sJ, mI_sR, mI_cpI, mJ_sI, mJ_sJ, mJ_sR, mJ_cpI, mR_sI, mR_sJ, mR_sR, mR_cpI, eqN_T, eqN_F, if_true, if_false, and_true, true_and, and_false, false_and, or_true, true_or, or_false, false_or, not_true_eq_false, not_false_eq_true, and_self, or_self, tn_c, ne_eq, dite_true, dite_false]; rfl
  have n7 : mI N0 t 7 = iI ((8 * g : Nat) : Int) := by rw [← hN0]; simp -implicitDefEqProofs (disch := (first | decide | omega)) only [mK_sI, mK_sJ, mK_sR, mK_cpI, mL_sI, mL_sJ, mL_sR, mL_cpI, mI_sI, mI_sJ, mI_sR, mI_cpI, mJ_sI, mJ_sJ, mJ_sR, mJ_cpI, mR_sI, mR_sJ, mR_sR, mR_cpI, eqN_T, eqN_F, if_true, if_false, and_true, true_and, and_false, false_and, or_true, true_or, or_false, false_or, not_true_eq_false, not_false_eq_true, and_self, or_self, tn_c, ne_eq, dite_true, dite_false]; rfl
  have n8 : mI N0 t 8 = iI 0 := by rw [← hN0]; simp -implicitDefEqProofs (disch := (first | decide | omega)) only [mK_sI, mK_sJ, mK_sR, mK_cpI, mL_sI, mL_sJ, mL_sR, mL_cpI, mI_sI, mI_sJ, mI_sR, mI_cpI, mJ_sI, mJ_sJ, mJ_sR, mJ_cpI, mR_sI, mR_sJ, mR_sR, mR_cpI, eqN_T, eqN_F, if_true, if_false, and_true, true_and, and_false, false_and, or_true, true_or, or_false, false_or, not_true_eq_false, not_false_eq_true, and_self, or_self, tn_c, ne_eq, dite_true, dite_false]
  have n4 : mI N0 t 4 = iI 0 := by rw [← hN0]; simp -implicitDefEqProofs (disch := (first | decide | omega)) only [mK_sI, mK_sJ, mK_sR, mK_cpI, mL_sI, mL_sJ, mL_sR, mL_cpI, mI_sI, mI_sJ, mI_sR, mI_cpI, mJ_sI, mJ_sJ, mJ_sR, mJ_cpI, mR_sI, mR_sJ, mR_sR, mR_cpI, eqN_T, eqN_F, if_true, if_false, and_true, true_and, and_false, false_and, or_true, true_or, or_false, false_or, not_true_eq_false, not_false_eq_true, and_self, or_self, tn_c, ne_eq, dite_true, dite_false]
  have hb0 := hb.sm hS0 (by unfold WN; omega)
  by_cases c1 : 8 * g < 8 * a + 4
  · have hR : rdT u a g gr most = none := by unfold rdT; rw [if_pos c1]
    have e1 := takeBits_no (k := 4) n0 n6 n7 (by omega) (by omega) (by omega) (by omega)
    rw [show ((4 : Nat) : Int) = 4 from rfl] at e1
    simp -implicitDefEqProofs (disch := (first | decide | omega)) only [fX10_read, fX10_read_L72, t0, r1, r2, hN0, n0, e1, bo_s, bd_s, bn_s, gI_s, gJ_s, gR_s, pI_s, pZ_s, pJ_s, pR_s, chk_s, chN_s, chN_n, aL_s, aI_c, aJ_c, aR_c, wI_c, wB_c, wS_c, wZ_c, wJ_c, wR_c, mK_sI, mK_sJ, mK_sR, mK_cpI, mL_sI, mL_sJ, mL_sR, mL_cpI, mI_sI, mI_sJ, mI_sR, mI_cpI, mJ_sI, mJ_sJ, mJ_sR, mJ_cpI, mR_sI, mR_sJ, mR_sR, mR_cpI, i2b_i2b, i2b_sb, iI_lit, iI_add, iI_sub, iI_mul, iI_neg, iI_lt, iI_le, iI_eq, iI_J, lt_T, lt_F, le_T, le_F, eq_T, eq_F, eqN_T, eqN_F, leN_T, leN_F, ltN_T, ltN_F, if_true, if_false, and_true, true_and, and_false, false_and, or_true, true_or, or_false, false_or, not_true_eq_false, not_false_eq_true, and_self, or_self, tn_c, ne_eq, dite_true, dite_false]
    refine w_ret ⟨fun _ => ⟨rfl, hS0.sI ?_⟩, fun p T h => ?_⟩
    · unfold WN; omega
    · rw [hR] at h; cases h
  · have e1 := takeBits_ok (k := 4) n0 n5 n6 n7 hb0 hu (by omega) (by omega) (by omega)
    rw [show ((4 : Nat) : Int) = 4 from rfl] at e1
    have hl16 := bits_lt u 4 (8 * a)
    have hRd : rdT u a g gr most = if most < 5 + bits u (8 * a) 4 then none else
        match rdL u (8 * g) gr 300 (2 ^ (5 + bits u (8 * a) 4)) 0 (8 * a + 4) (fun _ => 0) with
        | none => none
        | some x => some ((x.1 + 7) / 8, tbOf (5 + bits u (8 * a) 4) x.2.1 x.2.2) := by
      unfold rdT
      rw [if_neg c1]
    obtain ⟨N1, hN1⟩ : ∃ N1, sI N0 t 6 (iI (((8 * a : Nat) : Int) + 4)) = N1 := ⟨_, rfl⟩
    have hS1 : Sm (WN t) M N1 := by
      rw [← hN1]
      refine hS0.sI ?_
      unfold WN; omega
    rw [hN1] at e1
    have m0 := (hS1.K t).trans t0
    have m8 : mI N1 t 8 = iI 0 := by rw [← hN1]; simp -implicitDefEqProofs (disch := (first | decide | omega)) only [mK_sI, mK_sJ, mK_sR, mK_cpI, mL_sI, mL_sJ, mL_sR, mL_cpI, mI_sI, mI_sJ, mI_sR, mI_cpI, mJ_sI, mJ_sJ, mJ_sR, mJ_cpI, mR_sI, mR_sJ, mR_sR, mR_cpI, eqN_T, eqN_F, if_true, if_false, and_true, true_and, and_false, false_and, or_true, true_or, or_false, false_or, not_true_eq_false, not_false_eq_true, and_self, or_self, tn_c, ne_eq, dite_true, dite_false]; exact n8
    generalize hL : bits u (8 * a) 4 = l4 at *
    by_cases c2 : most < 5 + l4
    · rw [if_pos c2] at hRd
      simp -implicitDefEqProofs (disch := (first | decide | omega)) only [fX10_read, fX10_read_L72, t0, r1, r2, hN0, n0, e1, m0, m8, bo_s, bd_s, bn_s, gI_s, gJ_s, gR_s, pI_s, pZ_s, pJ_s, pR_s, chk_s, chN_s, chN_n, aL_s, aI_c, aJ_c, aR_c, wI_c, wB_c, wS_c, wZ_c, wJ_c, wR_c, mK_sI, mK_sJ, mK_sR, mK_cpI, mL_sI, mL_sJ, mL_sR, mL_cpI, mI_sI, mI_sJ, mI_sR, mI_cpI, mJ_sI, mJ_sJ, mJ_sR, mJ_cpI, mR_sI, mR_sJ, mR_sR, mR_cpI, i2b_i2b, i2b_sb, iI_lit, iI_add, iI_sub, iI_mul, iI_neg, iI_lt, iI_le, iI_eq, iI_J, lt_T, lt_F, le_T, le_F, eq_T, eq_F, eqN_T, eqN_F, leN_T, leN_F, ltN_T, ltN_F, if_true, if_false, and_true, true_and, and_false, false_and, or_true, true_or, or_false, false_or, not_true_eq_false, not_false_eq_true, and_self, or_self, tn_c, ne_eq, dite_true, dite_false]
      refine w_ret ⟨fun _ => ⟨rfl, hS1⟩, fun p T h => ?_⟩
      rw [hRd] at h; cases h
    · rw [if_neg c2] at hRd
      obtain ⟨l, hl⟩ : ∃ l, 5 + l4 = l := ⟨_, rfl⟩
      rw [hl] at hRd c2
      have el : (5 : Int) + l4 = l := by omega
      have es := shl_n (a := 1) (k := l) (by omega)
      rw [Nat.one_mul, show ((1 : Nat) : Int) = 1 from rfl] at es
      have m4 : mI N1 t 4 = iI ((0 : Nat) : Int) := by rw [← hN1]; simp -implicitDefEqProofs (disch := (first | decide | omega)) only [mK_sI, mK_sJ, mK_sR, mK_cpI, mL_sI, mL_sJ, mL_sR, mL_cpI, mI_sI, mI_sJ, mI_sR, mI_cpI, mJ_sI, mJ_sJ, mJ_sR, mJ_cpI, mR_sI, mR_sJ, mR_sR, mR_cpI, eqN_T, eqN_F, if_true, if_false, and_true, true_and, and_false, false_and, or_true, true_or, or_false, false_or, not_true_eq_false, not_false_eq_true, and_self, or_self, tn_c, ne_eq, dite_true, dite_false]; exact n4
      have m6 : mI N1 t 6 = iI ((8 * a + 4 : Nat) : Int) := by rw [← hN1]; simp -implicitDefEqProofs (disch := (first | decide | omega)) only [mK_sI, mK_sJ, mK_sR, mK_cpI, mL_sI, mL_sJ, mL_sR, mL_cpI, mI_sI, mI_sJ, mI_sR, mI_cpI, mJ_sI, mJ_sJ, mJ_sR, mJ_cpI, mR_sI, mR_sJ, mR_sR, mR_cpI, eqN_T, eqN_F, if_true, if_false, and_true, true_and, and_false, false_and, or_true, true_or, or_false, false_or, not_true_eq_false, not_false_eq_true, and_self, or_self, tn_c, ne_eq, dite_true, dite_false]; rfl
      have m7 : mI N1 t 7 = iI ((8 * g : Nat) : Int) := by rw [← hN1]; simp -implicitDefEqProofs (disch := (first | decide | omega)) only [mK_sI, mK_sJ, mK_sR, mK_cpI, mL_sI, mL_sJ, mL_sR, mL_cpI, mI_sI, mI_sJ, mI_sR, mI_cpI, mJ_sI, mJ_sJ, mJ_sR, mJ_cpI, mR_sI, mR_sJ, mR_sR, mR_cpI, eqN_T, eqN_F, if_true, if_false, and_true, true_and, and_false, false_and, or_true, true_or, or_false, false_or, not_true_eq_false, not_false_eq_true, and_self, or_self, tn_c, ne_eq, dite_true, dite_false]; exact n7
      have m5 : mR N1 t 5 = some rb := by rw [← hN1]; simp -implicitDefEqProofs (disch := (first | decide | omega)) only [mK_sI, mK_sJ, mK_sR, mK_cpI, mL_sI, mL_sJ, mL_sR, mL_cpI, mI_sI, mI_sJ, mI_sR, mI_cpI, mJ_sI, mJ_sJ, mJ_sR, mJ_cpI, mR_sI, mR_sJ, mR_sR, mR_cpI, eqN_T, eqN_F, if_true, if_false, and_true, true_and, and_false, false_and, or_true, true_or, or_false, false_or, not_true_eq_false, not_false_eq_true, and_self, or_self, tn_c, ne_eq, dite_true, dite_false]; exact n5
      have hT1 := hT0.sm hS1 (by unfold WN; omega) (by unfold WN; omega) (by unfold WN; omega)
      have hb1 := hb.sm hS1 (by unfold WN; omega)
      simp -implicitDefEqProofs (disch := (first | decide | omega)) only [fX10_read, fX10_read_L72, t0, r1, r2, hN0, n0, e1, m0, m8, el, es, bo_s, bd_s, bn_s, gI_s, gJ_s, gR_s, pI_s, pZ_s, pJ_s, pR_s, chk_s, chN_s, chN_n, aL_s, aI_c, aJ_c, aR_c, wI_c, wB_c, wS_c, wZ_c, wJ_c, wR_c, mK_sI, mK_sJ, mK_sR, mK_cpI, mL_sI, mL_sJ, mL_sR, mL_cpI, mI_sI, mI_sJ, mI_sR, mI_cpI, mJ_sI, mJ_sJ, mJ_sR, mJ_cpI, mR_sI, mR_sJ, mR_sR, mR_cpI, i2b_i2b, i2b_sb, iI_lit, iI_add, iI_sub, iI_mul, iI_neg, iI_lt, iI_le, iI_eq, iI_J, lt_T, lt_F, le_T, le_F, eq_T, eq_F, eqN_T, eqN_F, leN_T, leN_F, ltN_T, ltN_F, if_true, if_false, and_true, true_and, and_false, false_and, or_true, true_or, or_false, false_or, not_true_eq_false, not_false_eq_true, and_self, or_self, tn_c, ne_eq, dite_true, dite_false]
      refine readL_ok hT1 m5 m7 hb1 hbt hbt2 hu (by omega) hgr (by omega) (p0 := 8 * a + 4) (by omega) ⟨Sm.rf, m4, m6, m8, fun i hi => by omega⟩ (fun hN N hS => ?_) fun p s c N hR hp hM => ?_
      · rw [hN] at hRd
        refine ⟨fun _ => ⟨rfl, hS1.tr (hS.weak ?_)⟩, fun p T h => ?_⟩
        · unfold WS WN; omega
        · rw [hRd] at h; cases h
      · rw [hR] at hRd
        have hp5 := pow_r (l := l) (by omega) (by omega)
        obtain ⟨a1, a2, a3, a4, a5, a6⟩ := rdL_co (R := 2 ^ l) hR (by show 0 + 0 + _ = _; omega) (by omega) (fun _ _ => rfl) (fun _ => by omega) (by omega) (by omega)
        have hS : 0 < s := by
          by_cases q : s = 0
          · rw [q] at a1
            have : cum c 0 + neg c 0 = 0 := rfl
            omega
          · omega
        obtain ⟨hS2, q4, q6, q8, qc⟩ := hM
        have q0 := (hS2.K t).trans m0
        obtain ⟨w, O, e2, hS3, hTV⟩ := build_ok (hT1.sm hS2 (by unfold WS; omega) (by unfold WS; omega) (by unfold WS; omega)) (l := l) (S := s) (c := c) ⟨by omega, by omega, hS, by omega, a1, a3, a2⟩ q4 qc
        have o0 := (hS3.K t).trans q0
        have o6 := (hS3.I t 6 (by omega)).trans q6
        have ed := dv_i (a := (p : Int) + 7) (b := 8) (by omega) (by omega)
        simp -implicitDefEqProofs (disch := (first | decide | omega)) only [fX10_read_L245, q0, q8, e2, o0, o6, ed, bo_s, bd_s, bn_s, gI_s, gJ_s, gR_s, pI_s, pZ_s, pJ_s, pR_s, chk_s, chN_s, chN_n, aL_s, aI_c, aJ_c, aR_c, wI_c, wB_c, wS_c, wZ_c, wJ_c, wR_c, mK_sI, mK_sJ, mK_sR, mK_cpI, mL_sI, mL_sJ, mL_sR, mL_cpI, mI_sI, mI_sJ, mI_sR, mI_cpI, mJ_sI, mJ_sJ, mJ_sR, mJ_cpI, mR_sI, mR_sJ, mR_sR, mR_cpI, i2b_i2b, i2b_sb, iI_lit, iI_add, iI_sub, iI_mul, iI_neg, iI_lt, iI_le, iI_eq, iI_J, lt_T, lt_F, le_T, le_F, eq_T, eq_F, eqN_T, eqN_F, leN_T, leN_F, ltN_T, ltN_F, if_true, if_false, and_true, true_and, and_false, false_and, or_true, true_or, or_false, false_or, not_true_eq_false, not_false_eq_true, and_self, or_self, tn_c, ne_eq, dite_true, dite_false]
        refine w_ret ⟨fun h => ?_, fun p' T h => ?_⟩
        · rw [hRd] at h; cases h
        · rw [hRd] at h
          cases h
          refine ⟨rfl, ?_, hTV⟩
          refine ((hS1.weak ?_).tr (hS2.weak ?_)).tr (hS3.weak ?_)
          · unfold WN WT; omega
          · unfold WS WT; omega
          · unfold WT; omega
