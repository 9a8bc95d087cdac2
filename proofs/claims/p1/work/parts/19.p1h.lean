/-! open() of the class, on a fresh object -/
def GX (M : Mem) : Prop := mK M 11 = 12 ∧ mK M 12 = 8 ∧ mI M 12 1 = 0 ∧ mK M 16 = 8 ∧ mR M 11 1 = some 14 ∧ mR M 11 2 = some 16 ∧ mK M 30 = 7 ∧ mR M 30 2 = some 31 ∧ mK M 31 = 15 ∧ mL M 31 = 12 ∧ mK M 122 = 5 ∧ mR M 122 0 = some 125 ∧ mR M 122 1 = some 134 ∧ mR M 122 2 = some 30 ∧ mK M 125 = 4 ∧ mK M 134 = 9 ∧ mR M 134 1 = some 136 ∧ mK M 136 = 18 ∧ mL M 136 = 3 ∧ FO M
theorem GX.sI {M : Mem} {a j : Nat} {v : Int32} (h : GX M) (h1 : a ≠ 198 ∨ j ≠ 1) (h2 : a ≠ 12 ∨ j ≠ 1) : GX (sI M a j v) := by
  obtain ⟨g1, g2, g3, g4, g5, g6, g7, g8, g9, g10, g11, g12, g13, g14, g15, g16, g17, g18, g19, g20⟩ := h
  exact ⟨g1, g2, by rw [mI_sI, if_neg (by omega)]; exact g3, g4, g5, g6, g7, g8, g9, g10, g11, g12, g13, g14, g15, g16, g17, g18, g19, g20.sI h1⟩
theorem GX.sR {M : Mem} {a j : Nat} {v : Option Nat} (h : GX M) (h1 : (a = 122 ∧ 3 ≤ j) ∨ (a = 11 ∧ 3 ≤ j)) : GX (sR M a j v) := by
  obtain ⟨g1, g2, g3, g4, g5, g6, g7, g8, g9, g10, g11, g12, g13, g14, g15, g16, g17, g18, g19, g20⟩ := h
  obtain ⟨k1, k2, k3, k4, k5, k6, k7, k8, k9, k10, k11, k12, k13, k14⟩ := g20
  refine ⟨g1, g2, g3, g4, ?_, ?_, g7, ?_, g9, g10, g11, ?_, ?_, ?_, g15, g16, ?_, g18, g19, k1, ?_, k3, k4, ?_, k6, k7, ?_, k9, k10, ?_, k12, k13, k14⟩ <;> rw [mR_sR, if_neg (by omega)] <;> assumption
theorem forgetX : ∀ (k i f : Nat) (M : Mem), i + k = 3 → k < f → GX M → ∃ N, GX N ∧ (∀ a j, a ≠ 136 → mI N a j = mI M a j) ∧ (∀ a j, mR N a j = mR M a j) ∧ lp (fun k10 (a : Option Nat × Int32) M => fX5_forget_B10 k10 a.1 a.2 M) f (some 122, nI i) M = some ((), N) := by
  intro k
  induction k with
  | zero =>
    intro i f M hi hf h
    obtain ⟨f, rfl⟩ : ∃ g, f = g + 1 := ⟨f - 1, by omega⟩
    have : i = 3 := by omega
    subst this
    exact ⟨M, h, fun _ _ _ => rfl, fun _ _ => rfl, rfl⟩
  | succ k ih =>
    intro i f M hi hf h
    obtain ⟨f, rfl⟩ : ∃ g, f = g + 1 := ⟨f - 1, by omega⟩
    obtain ⟨N, n1, n2, n3, e⟩ := ih (i + 1) f (sI M 136 i (0 &&& 1)) (by omega) (by omega) (h.sI (by omega) (by omega))
    refine ⟨N, n1, fun a j ha => by rw [n2 a j ha, mI_sI, if_neg (by omega)], fun a j => by rw [n3]; rfl, Eq.trans ?_ e⟩
    obtain ⟨g1, g2, g3, g4, g5, g6, g7, g8, g9, g10, g11, g12, g13, g14, g15, g16, g17, g18, g19, g20⟩ := h
    have q1 : ¬ (3 : Int32) ≤ nI i := nn_le (b := 3) (by omega) (by omega)
    rw [lp_S]
    show fX5_forget_B10 _ (some 122) (nI i) M = _
    generalize lp (fun k10 (a : Option Nat × Int32) M => fX5_forget_B10 k10 a.1 a.2 M) f = g
    simp only [fX5_forget_B10, q1, if_false, gR, g11, g13, g16, g17, if_true, bo, wZ_ok g18 g19 (show i < 3 by omega) (by omega), bn, nI_1]
theorem open51 {M : Mem} (h1 : mK M 122 = 5) (h2 : mI M 122 8 = 0) (h3 : mR M 122 3 = some 12) (h4 : mK M 12 = 8) (h5 : mI M 12 1 = 0) : fX5_openAll_L51 (some 122) 1 0 M = some (1, M) := by
  unfold fX5_openAll_L51
  rw [lp_F]
  generalize lp (fun k51 (a : Option Nat × Int32 × Int32) M => fX5_openAll_B51 k51 a.1 a.2.1 a.2.2 M) FU1 = g
  have g1 : ¬ (8000 : Int32) ≤ 0 := by decide
  have g2 : ¬ (1 : Int32) = 0 := by decide
  have g3 : (0 : Int32) ≤ 0 := by decide
  simp only [fX5_openAll_B51, g1, g2, g3, if_false, if_true, gI, gR, h1, h2, h3, h4, h5, bo, fX5_openAll_L191, rtZ, or_true]
theorem openX {M : Mem} {s : Int64} (h : GX M) (h30 : mR M 30 2 = some 31) : ∃ N, fX5_openAll (some 122) (some 12) (some 16) none s M = some (1, N) ∧ GX N ∧ mI N 16 1 = 0 := by
  have hA : GX (sI (sI (sJ (sR (sR (sR M 122 3 (some 12)) 122 4 (some 16)) 122 5 none) 122 7 s) 122 8 0) 16 1 0) :=
    GX.sI (GX.sI (show GX (sR (sR (sR M 122 3 (some 12)) 122 4 (some 16)) 122 5 none) from GX.sR (GX.sR (h.sR (by omega)) (by omega)) (by omega)) (by omega) (by omega)) (by omega) (by omega)
  generalize hMA : sI (sI (sJ (sR (sR (sR M 122 3 (some 12)) 122 4 (some 16)) 122 5 none) 122 7 s) 122 8 0) 16 1 0 = MA at hA
  have a1 : mI MA 122 8 = 0 := by rw [← hMA]; simp [mI_sI]
  have a2 : mR MA 122 3 = some 12 := by rw [← hMA]; simp [mR_sI, mR_sJ, mR_sR]
  have a3 : mI MA 16 1 = 0 := by rw [← hMA]; simp [mI_sI]
  have hA0 := hA
  obtain ⟨g1, g2, g3, g4, g5, g6, g7, g8, g9, g10, g11, g12, g13, g14, g15, g16, g17, g18, g19, g20⟩ := hA
  have hB : GX (sI (fiI MA 31 0 12 0) 125 2 0) := by
    refine GX.sI ⟨g1, g2, by rw [mI_fiI, if_neg (by omega)]; exact g3, g4, g5, g6, g7, g8, g9, g10, g11, g12, g13, g14, g15, g16, g17, g18, g19, ?_⟩ (by omega) (by omega)
    obtain ⟨k1, k2, k3, k4, k5, k6, k7, k8, k9, k10, k11, k12, k13, k14⟩ := g20
    exact ⟨k1, k2, k3, k4, k5, k6, k7, k8, k9, k10, k11, k12, k13, by rw [mI_fiI, if_neg (by omega)]; exact k14⟩
  obtain ⟨N, n1, n2, n3, e⟩ := forgetX 3 0 FU _ rfl (by unfold FU; omega) hB
  refine ⟨N, ?_, n1, by rw [n2 16 1 (by omega), mI_sI, if_neg (by omega), mI_fiI, if_neg (by omega)]; exact a3⟩
  have e51 := open51 (M := N) n1.2.2.2.2.2.2.2.2.2.2.1 (by rw [n2 122 8 (by omega), mI_sI, if_neg (by omega), mI_fiI, if_neg (by omega)]; exact a1) (by rw [n3]; exact a2) n1.2.1 n1.2.2.1
  have f1 : fX7_clear (some 30) MA = some ((), fiI MA 31 0 12 0) := by
    have := fill_ok (M := MA) (a := 31) 0 g9 (by rw [g10]; omega)
    rw [g10] at this
    simp only [fX7_clear, gR, g7, g8, if_true, bo, bd, this]
  have f2 : fX5_forget (some 122) (fiI MA 31 0 12 0) = some ((), N) := by
    simp only [fX5_forget, gR, pZ, mK_fiI, mR_fiI, g11, g12, g15, if_true, bo, bn, true_or, and_self]
    exact e
  obtain ⟨q1, q2, q3, q4, q5, q6, q7, q8, q9, q10, q11, q12, q13, q14, -⟩ := h
  have r1 : fX5_openAll (some 122) (some 12) (some 16) none s M = (bo (gR MA (some 122) 5 2) fun v35 => bo (chk MA v35 7) fun _ => bd (fX7_clear v35 MA) fun v38 M38 => bo (chk M38 (some 122) 5) fun _ => bd (fX5_forget (some 122) M38) fun v42 M42 => bn 1 fun v46 => bn 0 fun v49 => fX5_openAll_L51 (some 122) v46 v49 M42) := by
    rw [← hMA]
    simp only [fX5_openAll, pR, pJ, pI, gR, mK_sR, mK_sJ, mK_sI, mR_sR, mR_sI, mR_sJ, q11, q4, if_true, bo, and_self, Nat.reduceEqDiff, and_false, if_false, and_true]
  rw [r1]
  simp only [gR, chk, g11, g14, g7, if_true, bo, bd, bn, f1, f2, mK_fiI]
  exact e51
theorem ok_open {M : Mem} (h : GX M) (h1 : mR M 11 6 = some 122) (h2 : mR M 11 0 = some 12) (h8 : mR M 11 8 = none) (s : Int64) : OK2 (fX12_open (some 11) s) (fX13_open (some 198) s) M := by
  by_cases hs : 0 ≤ lg_cmp s 0
  · have hB : GX (sR M 11 9 none) := h.sR (by omega)
    obtain ⟨N, e, n1, n2⟩ := openX (s := s) hB hB.2.2.2.2.2.2.2.1
    have hn1 := n1
    obtain ⟨g1, g2, g3, g4, g5, g6, g7, g8, g9, g10, g11, g12, g13, g14, g15, g16, g17, g18, g19, g20⟩ := n1
    have hC : FO (sR (sR (sI N 11 10 (-1)) 11 1 (some 16)) 11 2 (some 14)) := by
      obtain ⟨k1, k2, k3, k4, k5, k6, k7, k8, k9, k10, k11, k12, k13, k14⟩ := g20.sI (a := 11) (j := 10) (v := -1) (by omega)
      refine ⟨k1, ?_, k3, k4, ?_, k6, k7, ?_, k9, k10, ?_, k12, k13, k14⟩ <;> rw [mR_sR, if_neg (by omega), mR_sR, if_neg (by omega)] <;> assumption
    obtain ⟨N2, e2⟩ := openM (s := s) hs hC
    refine ⟨0, _, N2, ?_, hC.1, e2⟩
    have q1 : ¬ (1 : Int32) = 0 := by decide
    simp only [fX12_open, hs, if_true, gR, pR, pI, gI, chk, mK_sR, mK_sI, mR_sR, mR_sI, mI_sR, mI_sI, h.1, h1, h2, h8, h.2.2.2.2.2.1, hB.2.2.2.2.2.2.2.2.2.2.1, h.2.2.2.2.2.2.2.2.2.2.1, bo, bd, bn, e, q1, if_false, g1, g5, g6, g4, n2, fX12_spareCameOut, Nat.reduceEqDiff, and_false, and_true, and_self, false_and]
  · exact ⟨-2, M, M, by simp only [fX12_open, hs, if_false], h.2.2.2.2.2.2.2.2.2.2.2.2.2.2.2.2.2.2.2.1, by simp only [fX13_open, hs, if_false]⟩
