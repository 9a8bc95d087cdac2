/-! one SEQUENCE: the class's -/
def WRo (m mb a j : Nat) : Prop := (a = 140 ∧ (j = 2 ∨ j = 3)) ∨ a = 138 ∨ Rw m mb a j ∨ (a = 134 ∧ j = 18) ∨ a = 139 ∨ (a = 31 ∧ (j = 4 ∨ (6 ≤ j ∧ j < 9))) ∨ a = 32
theorem WRo_fx {m mb : Nat} (hm : m = 12 ∨ m = 14 ∨ m = 16) (hb : mb = m + 1) : ∀ a j, WRo m mb a j → 10 ≤ a ∧ ¬ fx a j := by
  rintro a j h
  unfold WRo Rw at h
  rcases h with ⟨rfl, h⟩ | rfl | (⟨h1, h2⟩ | h1) | ⟨rfl, h⟩ | rfl | ⟨rfl, h⟩ | rfl
  · exact ⟨by omega, fx_of 140 0 1 0 rfl rfl rfl (by omega)⟩
  · exact ⟨by omega, fx_of 138 0 1 0 rfl rfl rfl (by omega)⟩
  · subst h1 h2
    rcases hm with rfl | rfl | rfl
    · exact ⟨by omega, fx_of 12 1 1 0 rfl rfl rfl (by omega)⟩
    · exact ⟨by omega, fx_of 14 1 1 0 rfl rfl rfl (by omega)⟩
    · exact ⟨by omega, fx_of 16 1 1 0 rfl rfl rfl (by omega)⟩
  · subst h1 hb
    rcases hm with rfl | rfl | rfl
    · exact ⟨by omega, fx_of 13 0 1 0 rfl rfl rfl (by omega)⟩
    · exact ⟨by omega, fx_of 15 0 1 0 rfl rfl rfl (by omega)⟩
    · exact ⟨by omega, fx_of 17 0 1 0 rfl rfl rfl (by omega)⟩
  · exact ⟨by omega, fx_of 134 0 0 9 rfl rfl rfl (by omega)⟩
  · exact ⟨by omega, fx_of 139 0 1 0 rfl rfl rfl (by omega)⟩
  · exact ⟨by omega, fx_of 31 0 1 0 rfl rfl rfl (by omega)⟩
  · exact ⟨by omega, fx_of 32 0 1 0 rfl rfl rfl (by omega)⟩
/-- what a run of SEQUENCES stands on -/
abbrev SE (M : Mem) (Ts : Nat → Tb) (m mb cr cb cn cs ff : Nat) (ct : Nat → Nat) (lim span blk cnt : Nat) (ls : Nat → Nat) : Prop := CSt M ∧ SKd M Ts ∧ FR M m mb cr cb cn cs ff ct lim span blk ∧ RV M 126 127 8000 cnt ls
/-- what is told of the SEQUENCES -/
abbrev SN (M : Mem) (s : SSt) : Prop := (∀ i, i < 3 → mI M 139 i = iI (s.2.1 i : Nat) ∧ 1 ≤ s.2.1 i ∧ s.2.1 i < 1000000000) ∧ NTd M s.2.2.2.2.2.1 s.2.2.2.2.2.2 ∧ ∀ i, i < 3 → mI M 31 (6 + i) = iI (s.2.1 i : Nat)
/-- the bits, the states, the row that is made -/
abbrev SB (M : Mem) (Ts : Nat → Tb) (rb F : Nat) (m mb ff : Nat) (old : Nat → Nat) (z : Nat) (s : SSt) : Prop := BK M 140 rb F s.1.1 z ∧ (mI M 138 0 = iI (s.1.2.1 : Nat) ∧ s.1.2.1 < 2 ^ (Ts 0).1) ∧ (mI M 138 1 = iI (s.1.2.2.1 : Nat) ∧ s.1.2.2.1 < 2 ^ (Ts 1).1) ∧ (mI M 138 2 = iI (s.1.2.2.2 : Nat) ∧ s.1.2.2.2 < 2 ^ (Ts 2).1) ∧ mI M 134 18 = iI (s.2.2.1 : Nat) ∧ RV M m mb 8000 (ff + s.2.2.2.1) (frW old s.2.2.2.2.1 ff)
section RUNONE
variable {M : Mem} {Ts : Nat → Tb} {rb rn e F m mb cr cb cn cs ff lim span blk cnt : Nat} {u ct ls old : Nat → Nat}
theorem SKd.ro {N : Mem} (hm : m = 12 ∨ m = 14 ∨ m = 16) (hb : mb = m + 1) (h : SKd M Ts) (s : Sm (WRo m mb) M N) : SKd N Ts := h.sm s fun k hk => ⟨by unfold WRo Rw; omega, fun t j ht => ⟨by unfold WRo Rw; omega, by unfold WRo Rw; omega⟩⟩
theorem FR.ro {N : Mem} (hm : m = 12 ∨ m = 14 ∨ m = 16) (hb : mb = m + 1) (hcr : (cr = 41 ∨ cr = 65 ∨ cr = 89 ∨ cr = 142) ∧ cb = cr + 1) (h : FR M m mb cr cb cn cs ff ct lim span blk) (s : Sm (WRo m mb) M N) : FR N m mb cr cb cn cs ff ct lim span blk := by
  obtain ⟨f1, f2, f3, f4, f5, f6, f7⟩ := h
  refine ⟨(s.R _ _ (by unfold WRo Rw; omega)).trans f1, (s.R _ _ (by unfold WRo Rw; omega)).trans f2, f3.sm s (by unfold WRo Rw; omega) (by unfold WRo Rw; omega) (by unfold WRo Rw; omega), (s.I _ _ (by unfold WRo Rw; omega)).trans f4, (s.I _ _ (by unfold WRo Rw; omega)).trans f5, (s.J _ _ (by unfold WRo Rw; omega)).trans f6, (s.I _ _ (by unfold WRo Rw; omega)).trans f7⟩
abbrev L52S (m mb a j : Nat) : Prop := Rw m mb a j ∨ (a = 134 ∧ j = 18) ∨ a = 139 ∨ (a = 31 ∧ (j = 4 ∨ (6 ≤ j ∧ j < 9))) ∨ a = 32
abbrev L52O (lim span blk cnt cs : Nat) (r : Nat → Nat) (z v cp n us t : Nat) : Prop := z = 0 ∧ ¬ cnt - us < n ∧ rcK (t + n) (ofK r v n) cs span ∧ ¬ lim < t + n + cp - blk
abbrev L52Q (M : Mem) (m mb ff lim span blk cnt cs : Nat) (ct ls old w r : Nat → Nat) (nt : Nat → Nat → Int) (z v cp n us t ts : Nat) (x : Int32) (N : Mem) : Prop := Sm (L52S m mb) M N ∧
      (¬ L52O lim span blk cnt cs r z v cp n us t → (∃ y : Int, x = iI y ∧ 0 < y ∧ y < 100) ∧ NTd N ts nt ∧ ∀ i, i < 3 → mI N 31 (6 + i) = iI (r i : Nat)) ∧
      (L52O lim span blk cnt cs r z v cp n us t → x = iI 0 ∧ mI N 134 18 = iI (us + n : Nat) ∧ RV N m mb 8000 (ff + (t + n + cp)) (frW old (ptC (ptL w ls t us n) ct (t + n) (ofK r v n) cs cp) ff) ∧ (∀ i, i < 3 → mI N 139 i = iI (rmK r (whK v n) (ofK r v n) i : Nat) ∧ 1 ≤ rmK r (whK v n) (ofK r v n) i ∧ rmK r (whK v n) (ofK r v n) i < 1000000000) ∧ NTd N (ts + 1) (ntK nt ts n cp v (ofK r v n)) ∧ ∀ i, i < 3 → mI N 31 (6 + i) = iI (rmK r (whK v n) (ofK r v n) i : Nat))
set_option maxHeartbeats 8000000 in
theorem l52_ok {s : SSt} {L z v cp n us t ts : Nat} {w r : Nat → Nat} {nt : Nat → Nat → Int} (hm : m = 12 ∨ m = 14 ∨ m = 16) (hmb : mb = m + 1) (hcr : (cr = 41 ∨ cr = 65 ∨ cr = 89 ∨ cr = 142) ∧ cb = cr + 1) (hcn : cs ≤ cn ∧ cn < 4000) (hff : ff + t < 300000) (hlim : lim ≤ 131072) (hspan : span < 9223372036854775808) (hblk : blk ≤ t) (hcnt : cnt < 300000) (husc : us ≤ cnt) (hus : us ≤ ff + t)
    (hold : ∀ i, old i < 256) (hw : ∀ i, w i < 256) (hct : ∀ i, ct i < 256) (hls : ∀ i, ls i < 256) (hv1 : 1 ≤ v) (hv2 : v < 10000000000) (hcp : cp < 200000) (hn : n < 200000) (hts : ts < 900000000) (hz : z ≤ 1)
    (hC : CSt M) (hF : FR M m mb cr cb cn cs ff ct lim span blk) (hLt : RV M 126 127 8000 cnt ls) (hK : mK M 140 = 0 ∧ mI M 140 3 = iI z) (h18 : mI M 134 18 = iI us) (hV : RV M m mb 8000 (ff + t) (frW old w ff)) (hr : ∀ i, i < 3 → mI M 139 i = iI (r i : Nat) ∧ 1 ≤ r i ∧ r i < 1000000000) (hnt : NTd M ts nt) (h31 : ∀ i, i < 3 → mI M 31 (6 + i) = iI (r i : Nat)) :
    Wp (fX9_runOne_L52 (some 134) (iJ v) (iI cp) (iI n) M) (L52Q M m mb ff lim span blk cnt cs ct ls old w r nt z v cp n us t ts) := by
  have hS0 : Sm (L52S m mb) M M := Sm.rf
  have hfx : ∀ a j, L52S m mb a j → 10 ≤ a ∧ ¬ fx a j := fun a j h => WRo_fx hm hmb a j (by unfold WRo; rcases h with h | h | h | h | h <;> simp [h])
  obtain ⟨k134, r134_8, r134_7, k125, r125_0, k126⟩ : mK M 134 = 9 ∧ mR M 134 8 = some 140 ∧ mR M 134 7 = some 125 ∧ mK M 125 = 4 ∧ mR M 125 0 = some 126 ∧ mK M 126 = 8 := ⟨hC.k 134 (by omega) (by omega), hC.r 134 8 (by omega) (by omega) (by decide), hC.r 134 7 (by omega) (by omega) (by decide), hC.k 125 (by omega) (by omega), hC.r 125 0 (by omega) (by omega) (by decide), hC.k 126 (by omega) (by omega)⟩
  obtain ⟨k0, k3⟩ := hK
  by_cases c1 : z = 0
  · subst c1
    have l1 := hLt.2.1
    by_cases c2 : cnt - us < n
    · clear hC hF hV hLt hfx
      simp -implicitDefEqProofs (disch := omega) only [fX9_runOne_L52, k134, r134_8, k0, k3, r134_7, k125, r125_0, k126, l1, h18, bo_s, bd_s, bn_s, gI_s, gJ_s, gR_s, pI_s, pZ_s, pJ_s, pR_s, chk_s, chN_s, chN_n, aL_s, aI_c, aJ_c, aR_c, wI_c, wB_c, wS_c, wZ_c, wJ_c, wR_c, mK_sI, mK_sJ, mK_sR, mK_cpI, mL_sI, mL_sJ, mL_sR, mL_cpI, mI_sI, mI_sJ, mI_sR, mI_cpI, mJ_sI, mJ_sJ, mJ_sR, mJ_cpI, mR_sI, mR_sJ, mR_sR, mR_cpI, i2b_i2b, i2b_sb, iI_lit, iI_add, iI_sub, iI_mul, iI_neg, iI_lt, iI_le, iI_eq, iI_J, lt_T, lt_F, le_T, le_F, eq_T, eq_F, eqN_T, eqN_F, leN_T, leN_F, ltN_T, ltN_F, if_true, if_false, and_true, true_and, and_false, false_and, or_true, true_or, or_false, false_or, not_true_eq_false, not_false_eq_true, and_self, or_self, tn_c, ne_eq, dite_true, dite_false]
      exact w_ret ⟨hS0, fun _ => ⟨⟨19, rfl, by omega, by omega⟩, hnt, h31⟩, fun h => absurd c2 h.2.1⟩
    · have en : (cnt : Int) - us = ((cnt - us : Nat) : Int) := by omega
      obtain ⟨v1, N1, e1, hS1, hV1, h18'⟩ := putL_ok (n := n) hC hF.1 (by omega) (by omega) (by omega) hV hLt hls h18 hus (by omega) (by omega) (by omega)
      have s1 : Sm (L52S m mb) M N1 := hS1.weak fun a j h => by
        rcases h with h | h
        · exact Or.inl h
        · exact Or.inr (Or.inl h)
      have hC1 := hC.sm s1 hfx
      have hF1 := FR.ro (M := M) (N := N1) hm hmb hcr hF (s1.weak fun a j h => by unfold WRo; rcases h with h | h | h | h | h <;> simp [h])
      have r1 : ∀ i, i < 3 → mI N1 139 i = iI (r i : Nat) ∧ 1 ≤ r i ∧ r i < 1000000000 := fun i hi => ⟨(hS1.I 139 i (by unfold Rw; omega)).trans (hr i hi).1, (hr i hi).2⟩
      have nt1 : NTd N1 ts nt := ⟨(hS1.I 31 4 (by unfold Rw; omega)).trans hnt.1, fun i j h1 h2 h3 => (hS1.I 32 _ (by unfold Rw; omega)).trans (hnt.2 i j h1 h2 h3)⟩
      have t1 : ∀ i, i < 3 → mI N1 31 (6 + i) = iI (r i : Nat) := fun i hi => (hS1.I 31 _ (by unfold Rw; omega)).trans (h31 i hi)
      obtain ⟨ak134, ar134_5, ak139, al139⟩ : mK N1 134 = 9 ∧ mR N1 134 5 = some 139 ∧ mK N1 139 = 15 ∧ mL N1 139 = 3 := ⟨hC1.k 134 (by omega) (by omega), hC1.r 134 5 (by omega) (by omega) (by decide), hC1.k 139 (by omega) (by omega), hC1.l 139 (by omega) (by omega)⟩
      have e2 := off_ok (M := N1) (ra := 139) (v := v) (n := n) ak139 al139 r1 hv2 hv1 (by omega)
      have m1 := hV1.1.1
      have m11 := hV1.2.1
      have ho9 : ofK r v n < 10000000000 := by
        unfold ofK
        split
        · omega
        · split
          · have := (hr 0 (by omega)).2; omega
          · have := wh_r (n := n) hv1
            have := (hr (whK v n - 1) (by omega)).2; omega
      have e3 := reach_ok (off := ofK r v n) (t := t + n) hC1 hF1 m1 m11 (by omega) (by omega) ho9 hspan
      by_cases c3 : rcK (t + n) (ofK r v n) cs span
      · rw [if_pos c3, show ((1 : Nat) : Int) = 1 from rfl] at e3
        have hof : 1 ≤ ofK r v n ∧ ofK r v n ≤ t + n + cs := by have := c3.1; have := c3.2.1; omega
        obtain ⟨v2, N2, e4, hS2, hV2⟩ := putC_ok (off := ofK r v n) (n := cp) (t := t + n) hC1 hF1.1 hF1.2.1 hF1.2.2.2.1 (by omega) (by omega) (by omega) (by omega) (by omega) hV1 hF1.2.2.1 ⟨hcn.1, by omega⟩ hold (ptL_lt hw hls n) hct hof (by omega) (by omega) (by omega)
        have s2 : Sm (L52S m mb) M N2 := s1.tr (hS2.weak fun a j h => Or.inl h)
        have hC2 := hC.sm s2 hfx
        have hF2 := FR.ro (M := M) (N := N2) hm hmb hcr hF (s2.weak fun a j h => by unfold WRo; rcases h with h | h | h | h | h <;> simp [h])
        have nt2 : NTd N2 ts nt := ⟨(hS2.I 31 4 (by unfold Rw; omega)).trans nt1.1, fun i j h1 h2 h3 => (hS2.I 32 _ (by unfold Rw; omega)).trans (nt1.2 i j h1 h2 h3)⟩
        have t2 : ∀ i, i < 3 → mI N2 31 (6 + i) = iI (r i : Nat) := fun i hi => (hS2.I 31 _ (by unfold Rw; omega)).trans (t1 i hi)
        have m2 := hV2.1.1
        have m22 := hV2.2.1
        have e5 := many_ok (x := ff + (t + n + cp)) hC2 hF2.1 hF2.2.2.2.2.1 hF2.2.2.2.2.2.2 m2 m22 (by omega) (by omega) (by omega)
        rw [show ff + (t + n + cp) - (ff + blk) = t + n + cp - blk by omega] at e5
        obtain ⟨bk134, br134_5, bk139, bl139⟩ : mK N2 134 = 9 ∧ mR N2 134 5 = some 139 ∧ mK N2 139 = 15 ∧ mL N2 139 = 3 := ⟨hC2.k 134 (by omega) (by omega), hC2.r 134 5 (by omega) (by omega) (by decide), hC2.k 139 (by omega) (by omega), hC2.l 139 (by omega) (by omega)⟩
        by_cases c4 : lim < t + n + cp - blk
        · rw [if_pos c4, show ((1 : Nat) : Int) = 1 from rfl] at e5
          have fin : Wp (some (iI 20, N2)) (L52Q M m mb ff lim span blk cnt cs ct ls old w r nt 0 v cp n us t ts) := w_ret ⟨s2, fun _ => ⟨⟨20, rfl, by omega, by omega⟩, nt2, t2⟩, fun h => absurd c4 h.2.2.2⟩
          clear hC hF hV hLt hfx hC1 hF1 hC2 hF2 hV1 hV2 hnt nt1 nt2 h31 t1 t2 hr r1 hS1 hS2 s1 s2 hS0 c3 hold hw hct hls
          simp -implicitDefEqProofs (disch := omega) only [fX9_runOne_L52, k134, r134_8, k0, k3, r134_7, k125, r125_0, k126, l1, h18, en, e1, ak134, ar134_5, e2, e3, iJ_I, e4, bk134, e5, bo_s, bd_s, bn_s, gI_s, gJ_s, gR_s, pI_s, pZ_s, pJ_s, pR_s, chk_s, chN_s, chN_n, aL_s, aI_c, aJ_c, aR_c, wI_c, wB_c, wS_c, wZ_c, wJ_c, wR_c, mK_sI, mK_sJ, mK_sR, mK_cpI, mL_sI, mL_sJ, mL_sR, mL_cpI, mI_sI, mI_sJ, mI_sR, mI_cpI, mJ_sI, mJ_sJ, mJ_sR, mJ_cpI, mR_sI, mR_sJ, mR_sR, mR_cpI, i2b_i2b, i2b_sb, iI_lit, iI_add, iI_sub, iI_mul, iI_neg, iI_lt, iI_le, iI_eq, iI_J, lt_T, lt_F, le_T, le_F, eq_T, eq_F, eqN_T, eqN_F, leN_T, leN_F, ltN_T, ltN_F, if_true, if_false, and_true, true_and, and_false, false_and, or_true, true_or, or_false, false_or, not_true_eq_false, not_false_eq_true, and_self, or_self, tn_c, ne_eq, dite_true, dite_false]
          exact fin
        · rw [if_neg c4, show ((0 : Nat) : Int) = 0 from rfl] at e5
          have e6 := which_ok (M := N2) (v := v) (n := n) hv2 (by omega)
          have hw4 := (wh_r (v := v) (n := n) hv1).1
          obtain ⟨v3, N3, e7, hS3, r3⟩ := rem_ok (M := N2) (ra := 139) (wh := whK v n) (off := ofK r v n) (r := r) bk139 bl139 (fun i hi => (hS2.I 139 i (by unfold Rw; omega)).trans (r1 i hi).1) hw4
          have s3 : Sm (L52S m mb) M N3 := s2.tr (hS3.weak fun a j h => Or.inr (Or.inr (Or.inl h)))
          have hC3 := hC.sm s3 hfx
          have nt3 : NTd N3 ts nt := ⟨(hS3.I 31 4 (by omega)).trans nt2.1, fun i j h1 h2 h3 => (hS3.I 32 _ (by omega)).trans (nt2.2 i j h1 h2 h3)⟩
          obtain ⟨v4, N4, e8, hS4, nt4⟩ := note_ok (a1 := n) (a2 := cp) (a3 := v) (a4 := ofK r v n) hC3 nt3 (by omega)
          have s4 : Sm (L52S m mb) M N4 := s3.tr (hS4.weak fun a j h => by
            rcases h with ⟨h1, h2⟩ | h
            · exact Or.inr (Or.inr (Or.inr (Or.inl ⟨h1, Or.inl h2⟩)))
            · exact Or.inr (Or.inr (Or.inr (Or.inr h))))
          have hC4 := hC.sm s4 hfx
          have r4 : ∀ i, i < 3 → mI N4 139 i = iI (rmK r (whK v n) (ofK r v n) i : Nat) := fun i hi => (hS4.I 139 i (by omega)).trans (r3 i hi)
          obtain ⟨v5, N5, e9, hS5, t5⟩ := noteR_ok hC4 r4
          have s5 : Sm (L52S m mb) M N5 := s4.tr (hS5.weak fun a j h => Or.inr (Or.inr (Or.inr (Or.inl ⟨h.1, Or.inr h.2⟩))))
          obtain ⟨ck134, cr134_6, ck30⟩ : mK N3 134 = 9 ∧ mR N3 134 6 = some 30 ∧ mK N3 30 = 7 := ⟨hC3.k 134 (by omega) (by omega), hC3.r 134 6 (by omega) (by omega) (by decide), hC3.k 30 (by omega) (by omega)⟩
          obtain ⟨dk134, dr134_5, dr134_6, dk30⟩ : mK N4 134 = 9 ∧ mR N4 134 5 = some 139 ∧ mR N4 134 6 = some 30 ∧ mK N4 30 = 7 := ⟨hC4.k 134 (by omega) (by omega), hC4.r 134 5 (by omega) (by omega) (by decide), hC4.r 134 6 (by omega) (by omega) (by decide), hC4.k 30 (by omega) (by omega)⟩
          have hrm : ∀ i, i < 3 → 1 ≤ rmK r (whK v n) (ofK r v n) i ∧ rmK r (whK v n) (ofK r v n) i < 1000000000 := fun i hi => by
            unfold rmK
            have q0 := (hr 0 (by omega)).2
            have q1 := (hr 1 (by omega)).2
            have q2 := (hr 2 (by omega)).2
            have qi := (hr i hi).2
            split
            · omega
            · split
              · omega
              · split
                · omega
                · split <;> omega
          have hSx : Sm (fun a j => a = 139 ∨ (a = 31 ∧ (j = 4 ∨ (6 ≤ j ∧ j < 9))) ∨ a = 32) N2 N5 := ((hS3.weak fun a j h => Or.inl h).tr (hS4.weak fun a j h => by omega)).tr (hS5.weak fun a j h => by omega)
          have g18 : mI N5 134 18 = iI (us + n : Nat) := (hSx.I 134 18 (by omega)).trans ((hS2.I 134 18 (by unfold Rw; omega)).trans h18')
          have gV : RV N5 m mb 8000 (ff + (t + n + cp)) (frW old (ptC (ptL w ls t us n) ct (t + n) (ofK r v n) cs cp) ff) := hV2.sm hSx (by omega) (by omega) (by omega)
          have gN : NTd N5 (ts + 1) (ntK nt ts n cp v (ofK r v n)) := ⟨(hS5.I 31 4 (by omega)).trans nt4.1, fun i j h1 h2 h3 => (hS5.I 32 _ (by omega)).trans (nt4.2 i j h1 h2 h3)⟩
          have fin : Wp (some (iI 0, N5)) (L52Q M m mb ff lim span blk cnt cs ct ls old w r nt 0 v cp n us t ts) := w_ret ⟨s5, fun h => absurd ⟨rfl, c2, c3, c4⟩ h, fun _ => ⟨rfl, g18, gV, fun i hi => ⟨(hS5.I 139 i (by omega)).trans (r4 i hi), hrm i hi⟩, gN, t5⟩⟩
          clear hC hF hV hLt hfx hC1 hF1 hC2 hF2 hC3 hC4 hV1 hV2 hnt nt1 nt2 nt3 nt4 h31 t1 t2 t5 hr r1 r3 r4 hS1 hS2 hS3 hS4 hS5 hSx s1 s2 s3 s4 s5 hS0 c3 hold hw hct hls g18 gV gN hrm
          simp -implicitDefEqProofs (disch := omega) only [fX9_runOne_L52, k134, r134_8, k0, k3, r134_7, k125, r125_0, k126, l1, h18, en, e1, ak134, ar134_5, e2, e3, iJ_I, e4, bk134, e5, br134_5, e6, e7, ck134, cr134_6, ck30, e8, dk134, dr134_5, dr134_6, dk30, e9, bo_s, bd_s, bn_s, gI_s, gJ_s, gR_s, pI_s, pZ_s, pJ_s, pR_s, chk_s, chN_s, chN_n, aL_s, aI_c, aJ_c, aR_c, wI_c, wB_c, wS_c, wZ_c, wJ_c, wR_c, mK_sI, mK_sJ, mK_sR, mK_cpI, mL_sI, mL_sJ, mL_sR, mL_cpI, mI_sI, mI_sJ, mI_sR, mI_cpI, mJ_sI, mJ_sJ, mJ_sR, mJ_cpI, mR_sI, mR_sJ, mR_sR, mR_cpI, i2b_i2b, i2b_sb, iI_lit, iI_add, iI_sub, iI_mul, iI_neg, iI_lt, iI_le, iI_eq, iI_J, lt_T, lt_F, le_T, le_F, eq_T, eq_F, eqN_T, eqN_F, leN_T, leN_F, ltN_T, ltN_F, if_true, if_false, and_true, true_and, and_false, false_and, or_true, true_or, or_false, false_or, not_true_eq_false, not_false_eq_true, and_self, or_self, tn_c, ne_eq, dite_true, dite_false]
          exact fin
      · rw [if_neg c3, show ((0 : Nat) : Int) = 0 from rfl] at e3
        have fin : Wp (some (iI 18, N1)) (L52Q M m mb ff lim span blk cnt cs ct ls old w r nt 0 v cp n us t ts) := w_ret ⟨s1, fun _ => ⟨⟨18, rfl, by omega, by omega⟩, nt1, t1⟩, fun h => absurd h.2.2.1 c3⟩
        clear hC hF hV hLt hfx hC1 hF1 hV1 hnt nt1 h31 t1 hr r1 hS1 s1 hS0 c3 hold hw hct hls
        simp -implicitDefEqProofs (disch := omega) only [fX9_runOne_L52, k134, r134_8, k0, k3, r134_7, k125, r125_0, k126, l1, h18, en, e1, ak134, ar134_5, e2, e3, bo_s, bd_s, bn_s, gI_s, gJ_s, gR_s, pI_s, pZ_s, pJ_s, pR_s, chk_s, chN_s, chN_n, aL_s, aI_c, aJ_c, aR_c, wI_c, wB_c, wS_c, wZ_c, wJ_c, wR_c, mK_sI, mK_sJ, mK_sR, mK_cpI, mL_sI, mL_sJ, mL_sR, mL_cpI, mI_sI, mI_sJ, mI_sR, mI_cpI, mJ_sI, mJ_sJ, mJ_sR, mJ_cpI, mR_sI, mR_sJ, mR_sR, mR_cpI, i2b_i2b, i2b_sb, iI_lit, iI_add, iI_sub, iI_mul, iI_neg, iI_lt, iI_le, iI_eq, iI_J, lt_T, lt_F, le_T, le_F, eq_T, eq_F, eqN_T, eqN_F, leN_T, leN_F, ltN_T, ltN_F, if_true, if_false, and_true, true_and, and_false, false_and, or_true, true_or, or_false, false_or, not_true_eq_false, not_false_eq_true, and_self, or_self, tn_c, ne_eq, dite_true, dite_false]
        exact fin
  · obtain rfl : z = 1 := by omega
    clear hC hF hV hLt hfx
    rw [show ((1 : Nat) : Int) = 1 from rfl] at k3
    simp -implicitDefEqProofs (disch := omega) only [fX9_runOne_L52, k134, r134_8, k0, k3, bo_s, bd_s, bn_s, gI_s, gJ_s, gR_s, pI_s, pZ_s, pJ_s, pR_s, chk_s, chN_s, chN_n, aL_s, aI_c, aJ_c, aR_c, wI_c, wB_c, wS_c, wZ_c, wJ_c, wR_c, mK_sI, mK_sJ, mK_sR, mK_cpI, mL_sI, mL_sJ, mL_sR, mL_cpI, mI_sI, mI_sJ, mI_sR, mI_cpI, mJ_sI, mJ_sJ, mJ_sR, mJ_cpI, mR_sI, mR_sJ, mR_sR, mR_cpI, i2b_i2b, i2b_sb, iI_lit, iI_add, iI_sub, iI_mul, iI_neg, iI_lt, iI_le, iI_eq, iI_J, lt_T, lt_F, le_T, le_F, eq_T, eq_F, eqN_T, eqN_F, leN_T, leN_F, ltN_T, ltN_F, if_true, if_false, and_true, true_and, and_false, false_and, or_true, true_or, or_false, false_or, not_true_eq_false, not_false_eq_true, and_self, or_self, tn_c, ne_eq, dite_true, dite_false]
    exact w_ret ⟨hS0, fun _ => ⟨⟨17, rfl, by omega, by omega⟩, hnt, h31⟩, fun h => absurd h.1 c1⟩
end RUNONE
