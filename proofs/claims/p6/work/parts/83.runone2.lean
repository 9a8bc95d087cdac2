/-! one SEQUENCE: the class's, all of it -/
theorem tkZ_0 {L m z : Nat} (h : tkZ L m z = 0) : z = 0 := by
  unfold tkZ at h
  split at h
  · exact h
  · omega
section RUNONE2
variable {M : Mem} {Ts : Nat → Tb} {rb rn e F m mb cr cb cn cs ff lim span blk cnt : Nat} {u ct ls old : Nat → Nat}
theorem sV_r (hT : TG 1 (Ts 1)) {L o : Nat} (ho : o < 2 ^ (Ts 1).1) : syK Ts 1 o ≤ 31 ∧ 1 ≤ sV u F Ts L o ∧ sV u F Ts L o < 10000000000 := by
  have h1 : syK Ts 1 o ≤ 31 := hT.2 o ho
  have h2 := tkV_lt u F L (syK Ts 1 o)
  have h3 : 2 ^ syK Ts 1 o ≤ 2 ^ 31 := pow_le2 h1
  have h4 := two_pos (syK Ts 1 o)
  refine ⟨h1, ?_, ?_⟩ <;> unfold sV <;> omega
theorem ex_r {k L : Nat} (hk : k = 0 ∨ k = 2) (hT : TG k (Ts k)) {q : Nat} (hq : q < 2 ^ (Ts k).1) : bsK k (syK Ts k q) + tkV u F L (exK k (syK Ts k q)) < 200000 := by
  obtain ⟨b1, b2⟩ := bs_r hk (hT.2 q hq)
  have h2 := tkV_lt u F L (exK k (syK Ts k q))
  have h3 : 2 ^ exK k (syK Ts k q) ≤ 2 ^ 16 := pow_le2 b2
  unfold syK at *
  omega
abbrev WDc (a j : Nat) : Prop := (a = 140 ∧ (j = 2 ∨ j = 3)) ∨ a = 138
theorem WDc_fx : ∀ a j, WDc a j → 10 ≤ a ∧ ¬ fx a j := by
  rintro a j (⟨rfl, h⟩ | rfl)
  · exact ⟨by omega, fx_of 140 0 1 0 rfl rfl rfl (by omega)⟩
  · exact ⟨by omega, fx_of 138 0 1 0 rfl rfl rfl (by omega)⟩
theorem SKd.dc {N : Mem} (h : SKd M Ts) (s : Sm WDc M N) : SKd N Ts := h.sm s fun k hk => ⟨by omega, fun t j ht => ⟨by omega, by omega⟩⟩
set_option maxHeartbeats 8000000 in
/-- the bits of one SEQUENCE -/
theorem dec_ok {L l o c lst : Nat} {Q : Int32 → Mem → Prop} (hC : CSt M) (hT : SKd M Ts) (hb : BV M rb rn e u) (hrb : rb < 18) (hu : ∀ i, u i < 256) (he : 8 * F + L ≤ 8 * e) (hK : BK M 140 rb F L (0 : Nat)) (hl : mI M 138 0 = iI l ∧ l < 2 ^ (Ts 0).1) (ho : mI M 138 1 = iI o ∧ o < 2 ^ (Ts 1).1) (hc : mI M 138 2 = iI c ∧ c < 2 ^ (Ts 2).1) (hlst : lst ≤ 1)
    (hQ : ∀ N, Sm WDc M N → (lst = 1 → BK N 140 rb F (sL3 Ts L l o c) (sZ3 Ts L l o c : Nat) ∧ mI N 138 0 = iI l ∧ mI N 138 1 = iI o ∧ mI N 138 2 = iI c) → (lst = 0 → BK N 140 rb F (sL6 Ts L l o c) (sZ6 Ts L l o c : Nat) ∧ mI N 138 0 = iI (goK u F Ts 0 l (sL3 Ts L l o c) : Nat) ∧ mI N 138 1 = iI (goK u F Ts 1 o (sL5 Ts L l o c) : Nat) ∧ mI N 138 2 = iI (goK u F Ts 2 c (sL4 Ts L l o c) : Nat)) →
      Wp (fX9_runOne_L52 (some 134) (iJ (sV u F Ts L o : Nat)) (iI (sC u F Ts L o c : Nat)) (iI (sN u F Ts L l o c : Nat)) N) Q) :
    Wp (fX9_runOne (some 134) (iI lst) M) Q := by
  obtain ⟨k134, r134_8, k140⟩ : mK M 134 = 9 ∧ mR M 134 8 = some 140 ∧ mK M 140 = 0 := ⟨hC.k 134 (by decide) (by decide), hC.r 134 8 (by decide) (by decide) (by decide), hC.k 140 (by decide) (by decide)⟩
  have e1 := ssym_ok hC hT (k := 1) (by omega) ho.2 ho.1
  obtain ⟨v1, v2, v3⟩ := sV_r (u := u) (F := F) (L := L) (hT 1 (by omega)).1 ho.2
  obtain ⟨N1, e2, hK1, hS1⟩ := take_u (m := syK Ts 1 o) hK hb hu (by omega) he
  have s1 : Sm WDc M N1 := hS1.weak fun a j h => Or.inl h
  have hC1 := hC.sm s1 WDc_fx
  have hT1 := hT.dc s1
  have hl1 := (hS1.I 138 0 (by first | decide | omega)).trans hl.1
  have ho1 := (hS1.I 138 1 (by first | decide | omega)).trans ho.1
  have hc1 := (hS1.I 138 2 (by first | decide | omega)).trans hc.1
  have q1 := tkL_le L (syK Ts 1 o)
  obtain ⟨N2, e3, hK2, hS2⟩ := slen_ok (k := 2) (u := u) hC1 hT1 (Or.inr rfl) hc.2 hc1 hK1 (hb.sm s1 (by omega)) hu (by omega)
  have s2 : Sm WDc M N2 := s1.tr (hS2.weak fun a j h => Or.inl h)
  have hC2 := hC.sm s2 WDc_fx
  have hT2 := hT.dc s2
  have hl2 := (hS2.I 138 0 (by first | decide | omega)).trans hl1
  have ho2 := (hS2.I 138 1 (by first | decide | omega)).trans ho1
  have hc2 := (hS2.I 138 2 (by first | decide | omega)).trans hc1
  have q2 := tkL_le (tkL L (syK Ts 1 o)) (exK 2 (syK Ts 2 c))
  obtain ⟨N3, e4, hK3, hS3⟩ := slen_ok (k := 0) (u := u) hC2 hT2 (Or.inl rfl) hl.2 hl2 hK2 (hb.sm s2 (by omega)) hu (by omega)
  have s3 : Sm WDc M N3 := s2.tr (hS3.weak fun a j h => Or.inl h)
  have hC3 := hC.sm s3 WDc_fx
  have hT3 := hT.dc s3
  have hl3 := (hS3.I 138 0 (by first | decide | omega)).trans hl2
  have ho3 := (hS3.I 138 1 (by first | decide | omega)).trans ho2
  have hc3 := (hS3.I 138 2 (by first | decide | omega)).trans hc2
  have q3 := tkL_le (tkL (tkL L (syK Ts 1 o)) (exK 2 (syK Ts 2 c))) (exK 0 (syK Ts 0 l))
  have ak134 : mK N1 134 = 9 := hC1.k 134 (by decide) (by decide)
  have bk134 : mK N2 134 = 9 := hC2.k 134 (by decide) (by decide)
  have ck134 : mK N3 134 = 9 := hC3.k 134 (by decide) (by decide)
  have eV : shlJ (1 : Int64) (iI (syK Ts 1 o : Nat)) + iJ (tkV u F L (syK Ts 1 o) : Nat) = iJ (sV u F Ts L o : Nat) := by
    have := shlJ_n (a := 1) (k := syK Ts 1 o) (by omega)
    rw [Nat.one_mul, show ((1 : Nat) : Int) = 1 from rfl] at this
    rw [show (1 : Int64) = iJ 1 from iJ_lit 1, this, iJ_add]
    rfl
  have e3 : fX9_lengthOf (some 134) (iI 2) N1 = some (iI (sC u F Ts L o c : Nat), N2) := e3
  have e4 : fX9_lengthOf (some 134) (iI 0) N2 = some (iI (sN u F Ts L l o c : Nat), N3) := e4
  have e1 : fX9_symbolOf (some 134) (iI 1) M = some (iI (syK Ts 1 o : Nat), M) := e1
  by_cases z : lst = 1
  · subst z
    have := hQ N3 s3 (fun _ => ⟨hK3, hl3, ho3, hc3⟩) (fun h => by omega)
    clear hQ hC hT hb hK hC1 hT1 hC2 hT2 hC3 hT3 hK1 hK2 hK3 hS1 hS2 hS3 s1 s2 s3
    rw [show ((1 : Nat) : Int) = 1 from rfl]
    simp -implicitDefEqProofs (disch := (first | decide | omega)) only [fX9_runOne, k134, e1, r134_8, k140, e2, eV, ak134, e3, bk134, e4, bo_s, bd_s, bn_s, gI_s, gJ_s, gR_s, pI_s, pZ_s, pJ_s, pR_s, chk_s, chN_s, chN_n, aL_s, aI_c, aJ_c, aR_c, wI_c, wB_c, wS_c, wZ_c, wJ_c, wR_c, mK_sI, mK_sJ, mK_sR, mK_cpI, mL_sI, mL_sJ, mL_sR, mL_cpI, mI_sI, mI_sJ, mI_sR, mI_cpI, mJ_sI, mJ_sJ, mJ_sR, mJ_cpI, mR_sI, mR_sJ, mR_sR, mR_cpI, i2b_i2b, i2b_sb, iI_lit, iI_add, iI_sub, iI_mul, iI_neg, iI_lt, iI_le, iI_eq, iI_J, lt_T, lt_F, le_T, le_F, eq_T, eq_F, eqN_T, eqN_F, leN_T, leN_F, ltN_T, ltN_F, if_true, if_false, and_true, true_and, and_false, false_and, or_true, true_or, or_false, false_or, not_true_eq_false, not_false_eq_true, and_self, or_self, tn_c, ne_eq, dite_true, dite_false]
    exact this
  · obtain rfl : lst = 0 := by omega
    obtain ⟨N4, e5, hK4, hg4, -, hS4⟩ := sgo_ok (k := 0) (u := u) hC3 hT3 (by omega) hl.2 hl3 hK3 (hb.sm s3 (by omega)) hu (by omega)
    have s4 : Sm WDc M N4 := s3.tr (hS4.weak fun a j h => by omega)
    have hC4 := hC.sm s4 WDc_fx
    have hT4 := hT.dc s4
    have ho4 := (hS4.I 138 1 (by first | decide | omega)).trans ho3
    have hc4 := (hS4.I 138 2 (by first | decide | omega)).trans hc3
    have q4 := tkL_le (tkL (tkL (tkL L (syK Ts 1 o)) (exK 2 (syK Ts 2 c))) (exK 0 (syK Ts 0 l))) ((Ts 0).2.2.1 l)
    obtain ⟨N5, e6, hK5, hg5, -, hS5⟩ := sgo_ok (k := 2) (u := u) hC4 hT4 (by omega) hc.2 hc4 hK4 (hb.sm s4 (by omega)) hu (by omega)
    have s5 : Sm WDc M N5 := s4.tr (hS5.weak fun a j h => by omega)
    have hC5 := hC.sm s5 WDc_fx
    have hT5 := hT.dc s5
    have ho5 := (hS5.I 138 1 (by first | decide | omega)).trans ho4
    have hl5 := (hS5.I 138 0 (by first | decide | omega)).trans hg4
    have q5 := tkL_le (tkL (tkL (tkL (tkL L (syK Ts 1 o)) (exK 2 (syK Ts 2 c))) (exK 0 (syK Ts 0 l))) ((Ts 0).2.2.1 l)) ((Ts 2).2.2.1 c)
    obtain ⟨N6, e7, hK6, hg6, -, hS6⟩ := sgo_ok (k := 1) (u := u) hC5 hT5 (by omega) ho.2 ho5 hK5 (hb.sm s5 (by omega)) hu (by omega)
    have s6 : Sm WDc M N6 := s5.tr (hS6.weak fun a j h => by omega)
    have := hQ N6 s6 (fun h => by omega) (fun _ => ⟨hK6, (hS6.I 138 0 (by first | decide | omega)).trans hl5, hg6, (hS6.I 138 2 (by first | decide | omega)).trans hg5⟩)
    have dk134 : mK N4 134 = 9 := hC4.k 134 (by decide) (by decide)
    have fk134 : mK N5 134 = 9 := hC5.k 134 (by decide) (by decide)
    have e5 : fX9_goOn (some 134) (iI 0) N3 = some ((), N4) := e5
    have e6 : fX9_goOn (some 134) (iI 2) N4 = some ((), N5) := e6
    have e7 : fX9_goOn (some 134) (iI 1) N5 = some ((), N6) := e7
    clear hQ hC hT hb hK hC1 hT1 hC2 hT2 hC3 hT3 hC4 hT4 hC5 hT5 hK1 hK2 hK3 hK4 hK5 hK6 hS1 hS2 hS3 hS4 hS5 hS6 s1 s2 s3 s4 s5 s6
    rw [show ((0 : Nat) : Int) = 0 from rfl]
    simp -implicitDefEqProofs (disch := (first | decide | omega)) only [fX9_runOne, k134, e1, r134_8, k140, e2, eV, ak134, e3, bk134, e4, ck134, e5, dk134, e6, fk134, e7, bo_s, bd_s, bn_s, gI_s, gJ_s, gR_s, pI_s, pZ_s, pJ_s, pR_s, chk_s, chN_s, chN_n, aL_s, aI_c, aJ_c, aR_c, wI_c, wB_c, wS_c, wZ_c, wJ_c, wR_c, mK_sI, mK_sJ, mK_sR, mK_cpI, mL_sI, mL_sJ, mL_sR, mL_cpI, mI_sI, mI_sJ, mI_sR, mI_cpI, mJ_sI, mJ_sJ, mJ_sR, mJ_cpI, mR_sI, mR_sJ, mR_sR, mR_cpI, i2b_i2b, i2b_sb, iI_lit, iI_add, iI_sub, iI_mul, iI_neg, iI_lt, iI_le, iI_eq, iI_J, lt_T, lt_F, le_T, le_F, eq_T, eq_F, eqN_T, eqN_F, leN_T, leN_F, ltN_T, ltN_F, if_true, if_false, and_true, true_and, and_false, false_and, or_true, true_or, or_false, false_or, not_true_eq_false, not_false_eq_true, and_self, or_self, tn_c, ne_eq, dite_true, dite_false]
    exact this
end RUNONE2
