/-! the SEQUENCES of a block: the class's -/
section CRUN3
variable {M : Mem} {Ts : Nat → Tb} {r rb rn e m mb cr cb cn cs ff lim span blk cnt ts many p g : Nat} {u ct ls old w rr : Nat → Nat} {nt : Nat → Nat → Int}
/-- what is told of the SEQUENCES, without the numbers that they stand on -/
abbrev SM (M : Mem) (r : Nat → Nat) (ts : Nat) (nt : Nat → Nat → Int) : Prop := NTd M ts nt ∧ ∀ i, i < 3 → mI M 31 (6 + i) = iI (r i : Nat)
abbrev SR (M : Mem) (r : Nat → Nat) : Prop := ∀ i, i < 3 → mI M 139 i = iI (r i : Nat) ∧ 1 ≤ r i ∧ r i < 1000000000
theorem SM.sm {N : Mem} {S : Nat → Nat → Prop} (h : SM M rr ts nt) (s : Sm S M N) (h1 : ¬ S 31 4 ∧ ¬ S 31 6 ∧ ¬ S 31 7 ∧ ¬ S 31 8) (h2 : ∀ j, ¬ S 32 j) : SM N rr ts nt := ⟨⟨(s.I _ _ h1.1).trans h.1.1, fun i j a b c => (s.I _ _ (h2 _)).trans (h.1.2 i j a b c)⟩, fun i hi => by
  have : i = 0 ∨ i = 1 ∨ i = 2 := by omega
  rcases this with rfl | rfl | rfl
  · exact (s.I _ _ h1.2.1).trans (h.2 0 hi)
  · exact (s.I _ _ h1.2.2.1).trans (h.2 1 hi)
  · exact (s.I _ _ h1.2.2.2).trans (h.2 2 hi)⟩
theorem SR.sm {N : Mem} {S : Nat → Nat → Prop} (h : SR M rr) (s : Sm S M N) (h1 : ∀ j, ¬ S 139 j) : SR N rr := fun i hi => ⟨(s.I _ _ (h1 i)).trans (h i hi).1, (h i hi).2⟩
abbrev CQ (M : Mem) (m mb ff : Nat) (old : Nat → Nat) (R : Option (Nat × (Nat → Nat)) × (Nat → Nat) × Nat × (Nat → Nat → Int)) (v : Int32) (N : Mem) : Prop := Sm (WCr m mb) M N ∧ SM N R.2.1 R.2.2.1 R.2.2.2 ∧ (R.1 = none → v = iI 0) ∧
  ∀ t' w', R.1 = some (t', w') → v = iI 1 ∧ RV N m mb 8000 (ff + t') (frW old w' ff) ∧ SR N R.2.1 ∧ ∀ i, w' i < 256
set_option maxHeartbeats 8000000 in
theorem crun_ok (hm : m = 12 ∨ m = 14 ∨ m = 16) (hmb : mb = m + 1) (hcr : (cr = 41 ∨ cr = 65 ∨ cr = 89 ∨ cr = 142) ∧ cb = cr + 1) (hcn : cs ≤ cn ∧ cn < 4000) (hff : ff ≤ 8000) (hlim : lim ≤ 131072) (hspan : span < 9223372036854775808) (hblk : blk ≤ 8000) (hcnt : cnt < 200000) (hmany : many < 100000) (hm1 : 1 ≤ many) (hts : ts + many < 900000000)
    (hold : ∀ i, old i < 256) (hw : ∀ i, w i < 256) (hct : ∀ i, ct i < 256) (hls : ∀ i, ls i < 256)
    (hr : RS M r rb rn) (hb : BV M rb rn e u) (hr2 : r < 18) (hrb : rb < 18) (hrm : rb ≠ mb ∧ rb ≠ m ∧ r ≠ m ∧ r ≠ mb) (hu : ∀ i, u i < 256) (hg : g ≤ e) (heb : e < 100000) (hp : p < 900000)
    (hC : CSt M) (hT : SKd M Ts) (hF : FR0 M m mb cr cb cn cs ff ct lim span) (hLt : RV M 126 127 8000 cnt ls) (h15 : mI M 134 15 = iI many) (hV : RV M m mb 8000 (ff + blk) (frW old w ff)) (hM : SM M rr ts nt) (hR : SR M rr) :
    Wp (fX9_run (some 134) (some r) (iI p) (iI g) M) (CQ M m mb ff old (sqS u p g Ts ls cnt blk lim span cs ct many rr blk w ts nt)) := by
  obtain ⟨k134, r134_8⟩ : mK M 134 = 9 ∧ mR M 134 8 = some 140 := ⟨hC.k 134 (by omega) (by omega), hC.r 134 8 (by omega) (by omega) (by decide)⟩
  obtain ⟨P, hP⟩ : ∃ P, sI (sI M 134 18 (iI 0)) 134 17 (iI ((ff + blk : Nat) : Int)) = P := ⟨_, rfl⟩
  have hsP : Sm (fun a j => a = 134 ∧ (j = 17 ∨ j = 18)) M P := by rw [← hP]; exact Sm.sI (Sm.sI Sm.rf ⟨rfl, by omega⟩) ⟨rfl, by omega⟩
  have hSP : Sm (WCr m mb) M P := hsP.weak fun a j h => Or.inr (Or.inl h)
  have hCP := hC.sm hSP (WCr_fx hm hmb)
  obtain ⟨pk134, pr134_8, pr134_6, pk140, pk30⟩ : mK P 134 = 9 ∧ mR P 134 8 = some 140 ∧ mR P 134 6 = some 30 ∧ mK P 140 = 0 ∧ mK P 30 = 7 := ⟨hCP.k 134 (by omega) (by omega), hCP.r 134 8 (by omega) (by omega) (by decide), hCP.r 134 6 (by omega) (by omega) (by decide), hCP.k 140 (by omega) (by omega), hCP.k 30 (by omega) (by omega)⟩
  have p17 : mI P 134 17 = iI ((ff + blk : Nat) : Int) := by rw [← hP]; simp -implicitDefEqProofs (disch := omega) only [mK_sI, mK_sJ, mK_sR, mK_cpI, mL_sI, mL_sJ, mL_sR, mL_cpI, mI_sI, mI_sJ, mI_sR, mI_cpI, mJ_sI, mJ_sJ, mJ_sR, mJ_cpI, mR_sI, mR_sJ, mR_sR, mR_cpI, eqN_T, eqN_F, if_true, if_false, and_true, true_and, and_false, false_and, or_true, true_or, or_false, false_or, not_true_eq_false, not_false_eq_true, and_self, or_self, tn_c, ne_eq, dite_true, dite_false]
  have p18 : mI P 134 18 = iI ((0 : Nat) : Int) := by rw [← hP]; simp -implicitDefEqProofs (disch := omega) only [mK_sI, mK_sJ, mK_sR, mK_cpI, mL_sI, mL_sJ, mL_sR, mL_cpI, mI_sI, mI_sJ, mI_sR, mI_cpI, mJ_sI, mJ_sJ, mJ_sR, mJ_cpI, mR_sI, mR_sJ, mR_sR, mR_cpI, eqN_T, eqN_F, if_true, if_false, and_true, true_and, and_false, false_and, or_true, true_or, or_false, false_or, not_true_eq_false, not_false_eq_true, and_self, or_self, tn_c, ne_eq, dite_true, dite_false]; rfl
  have f1 := hF.1
  have m1 := hV.1.1
  have m11 := hV.2.1
  have hrP := hr.sm hsP (by omega)
  have hbP := hb.sm hsP (by omega)
  have hTP : SKd P Ts := hT.sm hsP fun k hk => ⟨by omega, fun t j ht => ⟨by omega, by omega⟩⟩
  have p15 := (hsP.I 134 15 (by omega)).trans h15
  have e0 := none_ok pk134 p15 (by omega)
  rw [if_neg (by omega), show ((0 : Nat) : Int) = 0 from rfl] at e0
  have hMP : SM P rr ts nt := hM.sm hsP (by omega) (by omega)
  have hRP : SR P rr := hR.sm hsP (by omega)
  by_cases c1 : g ≤ p ∨ u (g - 1) = 0
  · have eq : sqS u p g Ts ls cnt blk lim span cs ct many rr blk w ts nt = (none, rr, ts, nt) := by unfold sqS; rw [if_pos c1]
    rw [eq]
    obtain ⟨v, N, e1, rfl, hS1, -⟩ := begin_no (k := 140) (f := p) (g := g) pk140 hrP hbP hu hg (by omega) c1
    have hC1 := hCP.sm (hS1.weak (T := WCr m mb) fun a j h => Or.inr (Or.inr (Or.inl h))) (WCr_fx hm hmb)
    obtain ⟨nk134, nr134_6, nk30⟩ : mK N 134 = 9 ∧ mR N 134 6 = some 30 ∧ mK N 30 = 7 := ⟨hC1.k 134 (by omega) (by omega), hC1.r 134 6 (by omega) (by omega) (by decide), hC1.k 30 (by omega) (by omega)⟩
    have e2 := fail_ok nk30 (iI 17) (iI p)
    have hs : Sm (fun a j => a = 140 ∨ (a = 30 ∧ j ≤ 1)) P (sI (sI N 30 0 (iI 17)) 30 1 (iI p)) := Sm.sI (Sm.sI (hS1.weak fun a j h => Or.inl h) (Or.inr ⟨rfl, by omega⟩)) (Or.inr ⟨rfl, by omega⟩)
    have fin : Sm (WCr m mb) M (sI (sI N 30 0 (iI 17)) 30 1 (iI p)) := hSP.tr (hs.weak fun a j h => by unfold WCr; rcases h with h | h <;> simp [h])
    have q2 := hMP.sm hs (by omega) (by omega)
    clear hC hCP hC1 hT hTP hF hLt hV hM hR hMP hRP hr hb hrP hbP hS1 hs hSP hsP
    simp -implicitDefEqProofs (disch := omega) only [fX9_run, k134, f1, m1, m11, hP, e0, pk134, pr134_8, pk140, e1, nk134, nr134_6, nk30, e2, rtZ, pr134_6, pk30, bo_s, bd_s, bn_s, gI_s, gJ_s, gR_s, pI_s, pZ_s, pJ_s, pR_s, chk_s, chN_s, chN_n, aL_s, aI_c, aJ_c, aR_c, wI_c, wB_c, wS_c, wZ_c, wJ_c, wR_c, mK_sI, mK_sJ, mK_sR, mK_cpI, mL_sI, mL_sJ, mL_sR, mL_cpI, mI_sI, mI_sJ, mI_sR, mI_cpI, mJ_sI, mJ_sJ, mJ_sR, mJ_cpI, mR_sI, mR_sJ, mR_sR, mR_cpI, i2b_i2b, i2b_sb, iI_lit, iI_add, iI_sub, iI_mul, iI_neg, iI_lt, iI_le, iI_eq, iI_J, lt_T, lt_F, le_T, le_F, eq_T, eq_F, eqN_T, eqN_F, leN_T, leN_F, ltN_T, ltN_F, if_true, if_false, and_true, true_and, and_false, false_and, or_true, true_or, or_false, false_or, not_true_eq_false, not_false_eq_true, and_self, or_self, tn_c, ne_eq, dite_true, dite_false]
    exact w_ret ⟨fin, q2, fun _ => rfl, fun t' w' h => by cases h⟩
  · have c2 : p < g ∧ u (g - 1) ≠ 0 := by omega
    obtain ⟨v, N, e1, rfl, hS1, hK⟩ := begin_ok (k := 140) (f := p) (g := g) pk140 hrP hbP hu hg c2.1 c2.2
    have hKL : BK N 140 rb p (mkL u p g) (0 : Nat) := hK
    have hlg : Nat.log2 (u (g - 1)) < 8 := lg8 (hu _)
    have heL : 8 * p + mkL u p g ≤ 8 * e := by unfold mkL; omega
    have hSN : Sm (WCr m mb) M N := hSP.tr (hS1.weak fun a j h => Or.inr (Or.inr (Or.inl h)))
    have hC1 := hC.sm hSN (WCr_fx hm hmb)
    have hT1 : SKd N Ts := hTP.sm hS1 fun k hk => ⟨by omega, fun t j ht => ⟨by omega, by omega⟩⟩
    have main : Wp (fX9_run_L50 (some 134) (iI p) (iI 0) N) (CQ M m mb ff old (sqS u p g Ts ls cnt blk lim span cs ct many rr blk w ts nt)) := by
      refine run50 hC1 hT1 hKL (hbP.sm hS1 (by omega)) hrb hu heL fun N2 hS2 hK2 h0 h1 h2 => ?_
      have hSx : Sm (fun a j => a = 140 ∨ a = 138 ∨ (a = 134 ∧ (j = 17 ∨ j = 18))) M N2 := (hsP.weak fun a j h => Or.inr (Or.inr h)).tr ((hS1.weak fun a j h => Or.inl h).tr (hS2.weak fun a j h => by omega))
      have hS2' : Sm (WCr m mb) M N2 := hSx.weak fun a j h => by unfold WCr WRo; rcases h with h | h | h <;> simp [h]
      have hC2 := hC.sm hS2' (WCr_fx hm hmb)
      have hT2 := hT1.dc hS2
      have hv0 := tkV_lt u p (mkL u p g) (Ts 0).1
      have hv1 := tkV_lt u p (iL1 Ts (mkL u p g)) (Ts 1).1
      have hv2 := tkV_lt u p (iL2 Ts (mkL u p g)) (Ts 2).1
      have hb2 := hb.sm hSx (by omega)
      have n15 := (hSx.I 134 15 (by omega)).trans h15
      have hM2 : SM N2 rr ts nt := hM.sm hSx (by omega) (by omega)
      have hR2 : SR N2 rr := hR.sm hSx (by omega)
      have n17 := (hS2.I 134 17 (by omega)).trans ((hS1.I 134 17 (by omega)).trans p17)
      have n18 := (hS2.I 134 18 (by omega)).trans ((hS1.I 134 18 (by omega)).trans p18)
      have hil := iL_le (Ts := Ts) (mkL u p g)
      by_cases cz : iZ3 Ts (mkL u p g) ≠ 0
      · have eq : sqS u p g Ts ls cnt blk lim span cs ct many rr blk w ts nt = (none, rr, ts, nt) := by unfold sqS; rw [if_neg c1, if_pos cz]
        rw [eq]
        have zle := iZ_le (Ts := Ts) (mkL u p g)
        rw [show iZ3 Ts (mkL u p g) = 1 by omega] at hK2
        obtain ⟨lst, hl1, hl2⟩ : ∃ lst : Nat, lst ≤ 1 ∧ (lst = 1 ↔ many = 1) := by
          by_cases h : many = 1
          · exact ⟨1, by omega, by omega⟩
          · exact ⟨0, by omega, by omega⟩
        obtain ⟨x, N3, e3, rfl, hS3⟩ := dec_no (lst := lst) hC2 hT2 hb2 hrb hu (by omega) hK2 ⟨h0, hv0⟩ ⟨h1, hv1⟩ ⟨h2, hv2⟩ hl1
        have hSy : Sm (fun a j => a = 140 ∨ a = 138 ∨ (a = 134 ∧ (j = 17 ∨ j = 18))) M N3 := hSx.tr (hS3.weak fun a j h => by omega)
        have hS3' : Sm (WCr m mb) M N3 := hSy.weak fun a j h => by unfold WCr WRo; rcases h with h | h | h <;> simp [h]
        have hC3 := hC.sm hS3' (WCr_fx hm hmb)
        have bk134 : mK N2 134 = 9 := hC2.k 134 (by omega) (by omega)
        obtain ⟨ck134, cr134_6, ck30⟩ : mK N3 134 = 9 ∧ mR N3 134 6 = some 30 ∧ mK N3 30 = 7 := ⟨hC3.k 134 (by omega) (by omega), hC3.r 134 6 (by omega) (by omega) (by decide), hC3.k 30 (by omega) (by omega)⟩
        have e4 := fail_ok ck30 (iI 17) (iI p)
        have hs : Sm (fun a j => a = 30 ∧ j ≤ 1) N3 (sI (sI N3 30 0 (iI 17)) 30 1 (iI p)) := Sm.sI (Sm.sI Sm.rf ⟨rfl, by omega⟩) ⟨rfl, by omega⟩
        have fin : Sm (WCr m mb) M (sI (sI N3 30 0 (iI 17)) 30 1 (iI p)) := hS3'.tr (hs.weak fun a j h => Or.inr (Or.inr (Or.inr h)))
        have q2 := (hM.sm hSy (by omega) (by omega)).sm hs (by omega) (by omega)
        unfold fX9_run_L90
        refine w_lpF (fun dd x O => O = N2 ∧ x = (some 134, iI p, iI 0)) 0 (by omega) ⟨rfl, rfl⟩ ?_
        rintro gg dd x O ⟨rfl, rfl⟩ -
        clear hC hCP hC1 hC2 hC3 hT hTP hT1 hT2 hF hLt hV hM hR hMP hRP hr hb hrP hbP hS1 hs hSP hsP hSx hSy hS2 hS2' hS3 hS3' hM2 hR2 hb2 hK hKL hK2 hSN
        by_cases h : many = 1
        · obtain rfl : lst = 1 := by omega
          rw [show ((1 : Nat) : Int) = 1 from rfl] at e3
          simp -implicitDefEqProofs (disch := omega) only [fX9_run_B90, fX9_run_L116, bk134, n15, e3, ck134, cr134_6, ck30, e4, rtZ, bo_s, bd_s, bn_s, gI_s, gJ_s, gR_s, pI_s, pZ_s, pJ_s, pR_s, chk_s, chN_s, chN_n, aL_s, aI_c, aJ_c, aR_c, wI_c, wB_c, wS_c, wZ_c, wJ_c, wR_c, mK_sI, mK_sJ, mK_sR, mK_cpI, mL_sI, mL_sJ, mL_sR, mL_cpI, mI_sI, mI_sJ, mI_sR, mI_cpI, mJ_sI, mJ_sJ, mJ_sR, mJ_cpI, mR_sI, mR_sJ, mR_sR, mR_cpI, i2b_i2b, i2b_sb, iI_lit, iI_add, iI_sub, iI_mul, iI_neg, iI_lt, iI_le, iI_eq, iI_J, lt_T, lt_F, le_T, le_F, eq_T, eq_F, eqN_T, eqN_F, leN_T, leN_F, ltN_T, ltN_F, if_true, if_false, and_true, true_and, and_false, false_and, or_true, true_or, or_false, false_or, not_true_eq_false, not_false_eq_true, and_self, or_self, tn_c, ne_eq, dite_true, dite_false]
          exact w_ret ⟨fin, q2, fun _ => rfl, fun t' w' h => by cases h⟩
        · obtain rfl : lst = 0 := by omega
          rw [show ((0 : Nat) : Int) = 0 from rfl] at e3
          simp -implicitDefEqProofs (disch := omega) only [fX9_run_B90, fX9_run_L116, bk134, n15, e3, ck134, cr134_6, ck30, e4, rtZ, bo_s, bd_s, bn_s, gI_s, gJ_s, gR_s, pI_s, pZ_s, pJ_s, pR_s, chk_s, chN_s, chN_n, aL_s, aI_c, aJ_c, aR_c, wI_c, wB_c, wS_c, wZ_c, wJ_c, wR_c, mK_sI, mK_sJ, mK_sR, mK_cpI, mL_sI, mL_sJ, mL_sR, mL_cpI, mI_sI, mI_sJ, mI_sR, mI_cpI, mJ_sI, mJ_sJ, mJ_sR, mJ_cpI, mR_sI, mR_sJ, mR_sR, mR_cpI, i2b_i2b, i2b_sb, iI_lit, iI_add, iI_sub, iI_mul, iI_neg, iI_lt, iI_le, iI_eq, iI_J, lt_T, lt_F, le_T, le_F, eq_T, eq_F, eqN_T, eqN_F, leN_T, leN_F, ltN_T, ltN_F, if_true, if_false, and_true, true_and, and_false, false_and, or_true, true_or, or_false, false_or, not_true_eq_false, not_false_eq_true, and_self, or_self, tn_c, ne_eq, dite_true, dite_false]
          exact w_ret ⟨fin, q2, fun _ => rfl, fun t' w' h => by cases h⟩
      · have cz0 : iZ3 Ts (mkL u p g) = 0 := by omega
        rw [cz0] at hK2
        obtain ⟨ok, s', hrn⟩ : ∃ ok s', rnK u p Ts ls cnt blk lim span cs ct many (iSt u p Ts (mkL u p g), rr, 0, blk, w, ts, nt) = (ok, s') := ⟨_, _, rfl⟩
        have eq : sqS u p g Ts ls cnt blk lim span cs ct many rr blk w ts nt = (if (ok = true ∧ s'.1.1 = 0) ∧ ¬ lim < s'.2.2.2.1 + (cnt - s'.2.2.1) - blk then some (s'.2.2.2.1 + (cnt - s'.2.2.1), ptL s'.2.2.2.2.1 ls s'.2.2.2.1 s'.2.2.1 (cnt - s'.2.2.1)) else none, s'.2.1, s'.2.2.2.2.2.1, s'.2.2.2.2.2.2) := by unfold sqS; rw [if_neg c1, if_neg cz, hrn]
        rw [eq]
        obtain ⟨g1, g2, g3, g4, g5, g6⟩ := hF
        have hF2 : FR N2 m mb cr cb cn cs ff ct lim span blk := ⟨(hSx.R _ _ (by omega)).trans g1, (hSx.R _ _ (by omega)).trans g2, g3.sm hSx (by omega) (by omega) (by omega), (hSx.I _ _ (by omega)).trans g4, (hSx.I _ _ (by omega)).trans g5, (hSx.J _ _ (by omega)).trans g6, n17⟩
        have hL2 := hLt.sm hSx (by omega) (by omega) (by omega)
        have hV2 := hV.sm hSx (by omega) (by omega) (by omega)
        refine w_mono (run90 (rr := rr) (ts := ts) (nt := nt) (L := iL3 Ts (mkL u p g)) (l := tkV u p (mkL u p g) (Ts 0).1) (o := tkV u p (iL1 Ts (mkL u p g)) (Ts 1).1) (c := tkV u p (iL2 Ts (mkL u p g)) (Ts 2).1) hm hmb hcr hcn hff hlim hspan hblk hcnt hmany hm1 hts hold hw hct hls hb2 hrb hrm.1 hu (by omega) heb ⟨hC2, hT2, hF2, hL2⟩ n15 ⟨hR2, hM2.1, hM2.2⟩ ⟨hK2, ⟨h0, hv0⟩, ⟨h1, hv1⟩, ⟨h2, hv2⟩, n18, hV2⟩ hrn) fun v N3 h3 => ?_
        obtain ⟨b1, b2, b3, b4, b5⟩ := h3
        refine ⟨hS2'.tr b1, ⟨b2, b3⟩, fun h => ?_, fun t' w' h => ?_⟩
        · have h : (if (ok = true ∧ s'.1.1 = 0) ∧ ¬ lim < s'.2.2.2.1 + (cnt - s'.2.2.1) - blk then some (s'.2.2.2.1 + (cnt - s'.2.2.1), ptL s'.2.2.2.2.1 ls s'.2.2.2.1 s'.2.2.1 (cnt - s'.2.2.1)) else none) = none := h
          refine b5 fun q => ?_
          rw [if_pos q] at h
          cases h
        · have h : (if (ok = true ∧ s'.1.1 = 0) ∧ ¬ lim < s'.2.2.2.1 + (cnt - s'.2.2.1) - blk then some (s'.2.2.2.1 + (cnt - s'.2.2.1), ptL s'.2.2.2.2.1 ls s'.2.2.2.1 s'.2.2.1 (cnt - s'.2.2.1)) else none) = some (t', w') := h
          by_cases q : (ok = true ∧ s'.1.1 = 0) ∧ ¬ lim < s'.2.2.2.1 + (cnt - s'.2.2.1) - blk
          · rw [if_pos q] at h
            cases h
            obtain ⟨d1, d2, d3, d4⟩ := b4 q
            exact ⟨d1, d2, d3, d4⟩
          · rw [if_neg q] at h
            cases h
    clear hC hCP hC1 hT hTP hT1 hF hLt hV hM hR hMP hRP hr hb hrP hbP hS1 hSP hsP hK hKL hSN
    simp -implicitDefEqProofs (disch := omega) only [fX9_run, k134, f1, m1, m11, hP, e0, pk134, pr134_8, pk140, e1, bo_s, bd_s, bn_s, gI_s, gJ_s, gR_s, pI_s, pZ_s, pJ_s, pR_s, chk_s, chN_s, chN_n, aL_s, aI_c, aJ_c, aR_c, wI_c, wB_c, wS_c, wZ_c, wJ_c, wR_c, mK_sI, mK_sJ, mK_sR, mK_cpI, mL_sI, mL_sJ, mL_sR, mL_cpI, mI_sI, mI_sJ, mI_sR, mI_cpI, mJ_sI, mJ_sJ, mJ_sR, mJ_cpI, mR_sI, mR_sJ, mR_sR, mR_cpI, i2b_i2b, i2b_sb, iI_lit, iI_add, iI_sub, iI_mul, iI_neg, iI_lt, iI_le, iI_eq, iI_J, lt_T, lt_F, le_T, le_F, eq_T, eq_F, eqN_T, eqN_F, leN_T, leN_F, ltN_T, ltN_F, if_true, if_false, and_true, true_and, and_false, false_and, or_true, true_or, or_false, false_or, not_true_eq_false, not_false_eq_true, and_self, or_self, tn_c, ne_eq, dite_true, dite_false]
    exact main
theorem crun0_ok (hm : m = 12 ∨ m = 14 ∨ m = 16) (hmb : mb = m + 1) (hff : ff ≤ 8000) (hlim : lim ≤ 131072) (hblk : blk ≤ 8000) (hcnt : cnt < 200000)
    (hw : ∀ i, w i < 256) (hls : ∀ i, ls i < 256) (hC : CSt M) (hF : FR0 M m mb cr cb cn cs ff ct lim span) (hLt : RV M 126 127 8000 cnt ls) (h15 : mI M 134 15 = iI (0 : Nat)) (hV : RV M m mb 8000 (ff + blk) (frW old w ff)) (hM : SM M rr ts nt) (hR : SR M rr) :
    Wp (fX9_run (some 134) (some r) (iI p) (iI g) M) (CQ M m mb ff old (if lim < cnt then none else some (blk + cnt, ptL w ls blk 0 cnt), rr, ts, nt)) := by
  have k134 : mK M 134 = 9 := hC.k 134 (by omega) (by omega)
  obtain ⟨P, hP⟩ : ∃ P, sI (sI M 134 18 (iI 0)) 134 17 (iI ((ff + blk : Nat) : Int)) = P := ⟨_, rfl⟩
  have hsP : Sm (fun a j => a = 134 ∧ (j = 17 ∨ j = 18)) M P := by rw [← hP]; exact Sm.sI (Sm.sI Sm.rf ⟨rfl, by omega⟩) ⟨rfl, by omega⟩
  have hSP : Sm (WCr m mb) M P := hsP.weak fun a j h => Or.inr (Or.inl h)
  have hCP := hC.sm hSP (WCr_fx hm hmb)
  have pk134 : mK P 134 = 9 := hCP.k 134 (by omega) (by omega)
  have p17 : mI P 134 17 = iI ((ff + blk : Nat) : Int) := by rw [← hP]; simp -implicitDefEqProofs (disch := omega) only [mK_sI, mK_sJ, mK_sR, mK_cpI, mL_sI, mL_sJ, mL_sR, mL_cpI, mI_sI, mI_sJ, mI_sR, mI_cpI, mJ_sI, mJ_sJ, mJ_sR, mJ_cpI, mR_sI, mR_sJ, mR_sR, mR_cpI, eqN_T, eqN_F, if_true, if_false, and_true, true_and, and_false, false_and, or_true, true_or, or_false, false_or, not_true_eq_false, not_false_eq_true, and_self, or_self, tn_c, ne_eq, dite_true, dite_false]
  have p18 : mI P 134 18 = iI ((0 : Nat) : Int) := by rw [← hP]; simp -implicitDefEqProofs (disch := omega) only [mK_sI, mK_sJ, mK_sR, mK_cpI, mL_sI, mL_sJ, mL_sR, mL_cpI, mI_sI, mI_sJ, mI_sR, mI_cpI, mJ_sI, mJ_sJ, mJ_sR, mJ_cpI, mR_sI, mR_sJ, mR_sR, mR_cpI, eqN_T, eqN_F, if_true, if_false, and_true, true_and, and_false, false_and, or_true, true_or, or_false, false_or, not_true_eq_false, not_false_eq_true, and_self, or_self, tn_c, ne_eq, dite_true, dite_false]; rfl
  obtain ⟨f1, f2, f3, f4, f5, f6⟩ := hF
  have m1 := hV.1.1
  have m11 := hV.2.1
  have p15 := (hsP.I 134 15 (by omega)).trans h15
  have e0 := none_ok pk134 p15 (by omega)
  rw [if_pos rfl, show ((1 : Nat) : Int) = 1 from rfl] at e0
  obtain ⟨v, N, e1, hS1, hcase⟩ := run143 (p := p) (L := 0) (us := 0) (t := blk) hm hmb hCP ((hsP.R _ _ (by omega)).trans f1) ((hsP.I _ _ (by omega)).trans f5) p17 (hLt.sm hsP (by omega) (by omega) (by omega)) hls p18 (hV.sm hsP (by omega) (by omega) (by omega)) p15 (fun h => absurd rfl h) (by omega) (by omega) (by omega) (by omega) hlim (by omega) (by omega) (by omega)
  have q2 := (hM.sm hsP (by omega) (by omega)).sm hS1 (by unfold W143 Rw; omega) (by unfold W143 Rw; omega)
  have q3 := (hR.sm hsP (by omega)).sm hS1 (by unfold W143 Rw; omega)
  have fin : CQ M m mb ff old (if lim < cnt then none else some (blk + cnt, ptL w ls blk 0 cnt), rr, ts, nt) v N := by
    refine ⟨hSP.tr (hS1.weak fun a j h => ?_), q2, fun h => ?_, fun t' w' h => ?_⟩
    · unfold WCr WRo
      rcases h with h | h | h <;> simp [h]
    · have h : (if lim < cnt then none else some (blk + cnt, ptL w ls blk 0 cnt)) = none := h
      by_cases q : lim < cnt
      · rcases hcase with ⟨a1, a2, a3, a4⟩ | ⟨a1, a2⟩
        · omega
        · exact a1
      · rw [if_neg q] at h
        cases h
    · have h : (if lim < cnt then none else some (blk + cnt, ptL w ls blk 0 cnt)) = some (t', w') := h
      by_cases q : lim < cnt
      · rw [if_pos q] at h
        cases h
      · rw [if_neg q] at h
        cases h
        rcases hcase with ⟨a1, a2, a3, a4⟩ | ⟨a1, a2⟩
        · exact ⟨a1, a4, q3, ptL_lt hw hls _⟩
        · exact absurd ⟨by omega, Or.inl rfl⟩ a2
  clear hC hCP hLt hV hM hR hS1 hSP hsP f3 q2 q3 hcase
  simp -implicitDefEqProofs (disch := omega) only [fX9_run, k134, f1, m1, m11, hP, e0, pk134, e1, bo_s, bd_s, bn_s, gI_s, gJ_s, gR_s, pI_s, pZ_s, pJ_s, pR_s, chk_s, chN_s, chN_n, aL_s, aI_c, aJ_c, aR_c, wI_c, wB_c, wS_c, wZ_c, wJ_c, wR_c, mK_sI, mK_sJ, mK_sR, mK_cpI, mL_sI, mL_sJ, mL_sR, mL_cpI, mI_sI, mI_sJ, mI_sR, mI_cpI, mJ_sI, mJ_sJ, mJ_sR, mJ_cpI, mR_sI, mR_sJ, mR_sR, mR_cpI, i2b_i2b, i2b_sb, iI_lit, iI_add, iI_sub, iI_mul, iI_neg, iI_lt, iI_le, iI_eq, iI_J, lt_T, lt_F, le_T, le_F, eq_T, eq_F, eqN_T, eqN_F, leN_T, leN_F, ltN_T, ltN_F, if_true, if_false, and_true, true_and, and_false, false_and, or_true, true_or, or_false, false_or, not_true_eq_false, not_false_eq_true, and_self, or_self, tn_c, ne_eq, dite_true, dite_false]
  exact w_ret fin
end CRUN3
