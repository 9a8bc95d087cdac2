theorem ok_pack (i n : Int32) : OK2 (fX12_pack (some 11) i n) (fX13_pack (some 198) i n) mB := by
  have y1 : mK mB 198 = 13 := cFacts.1.2.2.1
  by_cases h1 : i < 0
  · exact ⟨-2, mB, mB, by simp only [fX12_pack, h1, if_true, fX12_pack_L19], y1, by simp only [fX13_pack, h1, if_true, fX13_pack_L19]⟩
  by_cases h2 : 2 < i
  · exact ⟨-2, mB, mB, by simp only [fX12_pack, h1, h2, if_true, if_false, fX12_pack_L19], y1, by simp only [fX13_pack, h1, h2, if_true, if_false, fX13_pack_L19]⟩
  by_cases h3 : n < 0
  · exact ⟨-2, mB, mB, by simp only [fX12_pack, h1, h2, h3, if_true, if_false, fX12_pack_L19], y1, by simp only [fX13_pack, h1, h2, h3, if_true, if_false, fX13_pack_L19]⟩
  by_cases h4 : n ≤ 7
  · obtain ⟨l, hl, rfl⟩ := nI_of2 (n := 2) (by decide) h1 (Int32.not_lt.mp h2)
    obtain ⟨m, hm, rfl⟩ := nI_of2 (n := 7) (by decide) h3 h4
    obtain ⟨-, -, -, -, -, -, -, -, a04, a05, a06, a07, a14, a15, a16, a17, a24, a25, a26, a27⟩ := cOps
    obtain ⟨a00, a01, a02, a03⟩ := cPack0
    obtain ⟨a10, a11, a12, a13⟩ := cPack1
    obtain ⟨a20, a21, a22, a23⟩ := cPack2
    have hl3 : l = 0 ∨ l = 1 ∨ l = 2 := by omega
    have hm8 : m = 0 ∨ m = 1 ∨ m = 2 ∨ m = 3 ∨ m = 4 ∨ m = 5 ∨ m = 6 ∨ m = 7 := by omega
    rcases hl3 with rfl | rfl | rfl <;> rcases hm8 with rfl | rfl | rfl | rfl | rfl | rfl | rfl | rfl
    · exact eqOp_ok a00
    · exact eqOp_ok a01
    · exact eqOp_ok a02
    · exact eqOp_ok a03
    · exact eqOp_ok a04
    · exact eqOp_ok a05
    · exact eqOp_ok a06
    · exact eqOp_ok a07
    · exact eqOp_ok a10
    · exact eqOp_ok a11
    · exact eqOp_ok a12
    · exact eqOp_ok a13
    · exact eqOp_ok a14
    · exact eqOp_ok a15
    · exact eqOp_ok a16
    · exact eqOp_ok a17
    · exact eqOp_ok a20
    · exact eqOp_ok a21
    · exact eqOp_ok a22
    · exact eqOp_ok a23
    · exact eqOp_ok a24
    · exact eqOp_ok a25
    · exact eqOp_ok a26
    · exact eqOp_ok a27
  · exact ⟨-2, mB, mB, by simp only [fX12_pack, h1, h2, h3, h4, if_false, fX12_pack_L19], y1, by simp only [fX13_pack, h1, h2, h3, h4, if_false, fX13_pack_L19]⟩
theorem sx1 (xs : Nat → Int32) : sx xs 4 (some 10) (0 + 1) = some (xs 1) := if_pos (by decide)
theorem sx2 (xs : Nat → Int32) : sx xs 4 (some 10) (0 + 2) = some (xs 2) := if_pos (by decide)
theorem sx3 (xs : Nat → Int32) : sx xs 4 (some 10) (0 + 3) = some (xs 3) := if_pos (by decide)
theorem sx0 (xs : Nat → Int32) : sx xs 4 (some 10) 0 = some (xs 0) := if_pos (by decide)
theorem law650 {xs : Nat → Int32} {g : Option Nat × Option Nat × Option Nat × Int32 → Mem → Option (Int32 × Mem)} (hg : ∀ M, g (some 10, some 11, some 198, 4) M = some (1, M)) (M : Mem) : fL_law_L650 xs 4 g (some 10) (some 11) (some 198) 0 M = some (1, M) := hg M
theorem lawB {xs : Nat → Int32} (g : Option Nat × Option Nat × Option Nat × Int32 → Mem → Option (Int32 × Mem)) (hg : ∀ M, g (some 10, some 11, some 198, 4) M = some (1, M)) : ∃ N, fL_law_B18 xs 4 g (some 10) (some 11) (some 198) 0 mB = some (1, N) := by
  have c1 : sxl 4 (some 10) = some 4 := rfl
  have c2 : ¬ (4 : Int32) - 4 < 0 := by decide
  obtain ⟨⟨hG, hR, hM⟩, ⟨f1, f2, f3, f4, f5, f6, f7, f8, f9⟩, e1, e2, e3, e4⟩ := cFacts
  obtain ⟨o2, o6, o7, o8, o10, o13a, o13b, o5, -⟩ := cOps
  have k11 : mK mB 11 = 12 := hG.1
  have G := hG
  obtain ⟨g1, g2, g3, g4, g5, g6, g7, g8, g9, g10, g11, g12, g13, g14, g15, g16, g17, g18, g19, q1, q2, q3, q4, q5, q6, q7, q8, q9, q10, q11, q12, q13, q14⟩ := G
  have fin : ∀ {f h : Mem → Option (Int32 × Mem)}, OK2 f h mB → ∃ v M1 M2, f mB = some (v, M1) ∧ mK M1 198 = 13 ∧ h M1 = some (v, M2) := fun h => h
  simp only [fL_law_B18, c1, bo, c2, if_false, sx0]
  unfold swi
  by_cases hu : (xs 0 &&& 31).toInt < 0 ∨ 17 < (xs 0 &&& 31).toInt
  · rw [if_pos hu]
    exact ⟨mB, law650 hg mB⟩
  rw [if_neg hu]
  have h18 : (xs 0 &&& 31).toInt.toNat < 18 := by omega
  generalize (xs 0 &&& 31).toInt.toNat = z at h18
  match z, h18 with
  | 0, _ =>
    obtain ⟨v, M1, M2, r1, r2, r3⟩ := ok_feed hR hM ((shlJ (xs 1).toInt64 32) ||| ((xs 2).toInt64 &&& 4294967295)) (xs 3)
    exact ⟨M2, by simp only [sx1, sx2, sx3, chk, bo, bd, k11, r1, r2, r3, if_true, law650 hg]⟩
  | 1, _ =>
    obtain ⟨v, M1, M2, r1, r2, r3⟩ := ok_fill hR hM (xs 1) (xs 2) (xs 3)
    exact ⟨M2, by simp only [sx1, sx2, sx3, chk, bo, bd, k11, r1, r2, r3, if_true, law650 hg]⟩
  | 2, _ =>
    obtain ⟨v, M1, M2, r1, r2, r3⟩ := eqOp_ok o2
    exact ⟨M2, by simp only [sx1, sx2, sx3, chk, bo, bd, k11, r1, r2, r3, if_true, law650 hg]⟩
  | 3, _ =>
    obtain ⟨v, M1, M2, r1, r2, r3⟩ := ok_set hR hM (xs 1) (xs 2)
    exact ⟨M2, by simp only [sx1, sx2, sx3, chk, bo, bd, k11, r1, r2, r3, if_true, law650 hg]⟩
  | 4, _ =>
    obtain ⟨v, M1, M2, r1, r2, r3⟩ := ok_cut hR hM (xs 1)
    exact ⟨M2, by simp only [sx1, sx2, sx3, chk, bo, bd, k11, r1, r2, r3, if_true, law650 hg]⟩
  | 5, _ =>
    obtain ⟨v, M1, M2, r1, r2, r3⟩ := ok_again hR hM (eqOp_ok o5) (xs 1) (xs 2)
    exact ⟨M2, by simp only [sx1, sx2, sx3, chk, bo, bd, k11, r1, r2, r3, if_true, law650 hg]⟩
  | 6, _ =>
    obtain ⟨v, M1, M2, r1, r2, r3⟩ := eqOp_ok o6
    exact ⟨M2, by simp only [sx1, sx2, sx3, chk, bo, bd, k11, r1, r2, r3, if_true, law650 hg]⟩
  | 7, _ =>
    obtain ⟨v, M1, M2, r1, r2, r3⟩ := eqOp_ok o7
    exact ⟨M2, by simp only [sx1, sx2, sx3, chk, bo, bd, k11, r1, r2, r3, if_true, law650 hg]⟩
  | 8, _ =>
    obtain ⟨v, M1, M2, r1, r2, r3⟩ := eqOp_ok o8
    exact ⟨M2, by simp only [sx1, sx2, sx3, chk, bo, bd, k11, r1, r2, r3, if_true, law650 hg]⟩
  | 9, _ =>
    obtain ⟨v, M1, M2, r1, r2, r3⟩ := ok_open hG f1 hR.2.1 f2 ((shlJ (xs 1).toInt64 32) ||| ((xs 2).toInt64 &&& 4294967295))
    exact ⟨M2, by simp only [sx1, sx2, sx3, chk, bo, bd, k11, r1, r2, r3, if_true, law650 hg]⟩
  | 10, _ =>
    obtain ⟨v, M1, M2, r1, r2, r3⟩ := eqOp_ok o10
    exact ⟨M2, by simp only [sx1, sx2, sx3, chk, bo, bd, k11, r1, r2, r3, if_true, law650 hg]⟩
  | 11, _ =>
    obtain ⟨v, M1, M2, r1, r2, r3⟩ := ok_pack (xs 1) (xs 2)
    exact ⟨M2, by simp only [sx1, sx2, sx3, chk, bo, bd, k11, r1, r2, r3, if_true, law650 hg]⟩
  | 12, _ =>
    obtain ⟨v, M1, M2, r1, r2, r3⟩ := ok_out k11 g5 f4 f5 q1 f6 (xs 1)
    exact ⟨M2, by simp only [sx1, sx2, sx3, chk, bo, bd, k11, r1, r2, r3, if_true, law650 hg]⟩
  | 13, _ =>
    by_cases hz : xs 1 = 0
    · obtain ⟨v, M1, M2, r1, r2, r3⟩ := eqOp_ok o13a
      exact ⟨M2, by simp only [sx1, chk, bo, bd, hz, k11, r1, r2, r3, if_true, law650 hg, fL_law_L503, fL_law_L520]⟩
    · obtain ⟨v, M1, M2, r1, r2, r3⟩ := eqOp_ok o13b
      exact ⟨M2, by simp only [sx1, chk, bo, bd, hz, k11, r1, r2, r3, if_true, if_false, law650 hg, fL_law_L503, fL_law_L520]⟩
  | 14, _ =>
    obtain ⟨v, M1, M2, r1, r2, r3⟩ := ok_told k11 f3 g7 g8 g9 g10 e1 q1 q2 q3 q4 e2 (xs 1)
    exact ⟨M2, by simp only [sx1, sx2, sx3, chk, bo, bd, k11, r1, r2, r3, if_true, law650 hg]⟩
  | 15, _ =>
    obtain ⟨v, M1, M2, r1, r2, r3⟩ := ok_sequence k11 f3 g7 g8 g9 g10 (e1 4 (by omega)) q1 f7 (xs 1) (xs 2)
    exact ⟨M2, by simp only [sx1, sx2, sx3, chk, bo, bd, k11, r1, r2, r3, if_true, law650 hg]⟩
  | 16, _ =>
    obtain ⟨v, M1, M2, r1, r2, r3⟩ := ok_table k11 f1 g11 g13 g16 g17 g18 g19 e3 q1 q5 q6 q7 e4 (xs 1) (xs 2) (xs 3)
    exact ⟨M2, by simp only [sx1, sx2, sx3, chk, bo, bd, k11, r1, r2, r3, if_true, law650 hg]⟩
  | 17, _ =>
    obtain ⟨v, M1, M2, r1, r2, r3⟩ := ok_bits k11 f1 g11 g12 g15 f8 q1 q11 q12 q13 f9 (xs 1)
    exact ⟨M2, by simp only [sx1, sx2, sx3, chk, bo, bd, k11, r1, r2, r3, if_true, law650 hg]⟩
  | z + 18, h => exact absurd h (by omega)
theorem law18 {xs : Nat → Int32} {L : Nat} (hL : L ≤ 4) : ∃ N, fL_law_L18 xs L (some 10) (some 11) (some 198) 0 mB = some (1, N) := by
  unfold fL_law_L18
  rw [lp_F]
  by_cases h4 : L = 4
  · subst h4
    have hg : ∀ M, lp (fun k18 (a : Option Nat × Option Nat × Option Nat × Int32) M => fL_law_B18 xs 4 k18 a.1 a.2.1 a.2.2.1 a.2.2.2 M) FU1 (some 10, some 11, some 198, 4) M = some (1, M) := by
      intro M
      rw [lp_F1]
      generalize lp (fun k18 (a : Option Nat × Option Nat × Option Nat × Int32) M => fL_law_B18 xs 4 k18 a.1 a.2.1 a.2.2.1 a.2.2.2 M) FU2 = g
      have c1 : sxl 4 (some 10) = some 4 := rfl
      have c2 : (4 : Int32) - 4 < 4 := by decide
      simp only [fL_law_B18, c1, bo, c2, if_true]
    generalize lp (fun k18 (a : Option Nat × Option Nat × Option Nat × Int32) M => fL_law_B18 xs 4 k18 a.1 a.2.1 a.2.2.1 a.2.2.2 M) FU1 = g at hg
    exact lawB g hg
  · refine ⟨mB, ?_⟩
    generalize lp (fun k18 (a : Option Nat × Option Nat × Option Nat × Int32) M => fL_law_B18 xs L k18 a.1 a.2.1 a.2.2.1 a.2.2.2 M) FU1 = g
    have h3 : L = 0 ∨ L = 1 ∨ L = 2 ∨ L = 3 := by omega
    rcases h3 with rfl | rfl | rfl | rfl <;> rfl
theorem law_fun : ∀ (L : Nat) (xs : Nat → Int32), L ≤ 4 → ∃ M, fL_law xs L (some 10) m0 = some (1, M) := by
  intro L xs hL
  obtain ⟨N, e⟩ := law18 (xs := xs) hL
  refine ⟨N, ?_⟩
  have e1 : fL_law xs L (some 10) m0 = fL_law_L18 xs L (some 10) (some 11) (some 198) 0 mB := by
    have a1 : nw m0 12 = some (some 11, nA m0 12 0) := rfl
    have a2 : nw mA 13 = some (some 198, nA mA 13 0) := by rw [nw, hAn]
    simp only [fL_law, a1, bd, chk0, bo, hA, bn, a2, hB]
  rw [e1]
  exact e
