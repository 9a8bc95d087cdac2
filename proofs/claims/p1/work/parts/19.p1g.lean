def FO (M : Mem) : Prop := mK M 198 = 13 ∧ mR M 198 45 = some 221 ∧ mK M 221 = 15 ∧ mL M 221 = 12 ∧ mR M 198 18 = some 206 ∧ mK M 206 = 18 ∧ mL M 206 = 10 ∧ mR M 198 44 = some 220 ∧ mK M 220 = 16 ∧ mL M 220 = 3 ∧ mR M 198 21 = some 209 ∧ mK M 209 = 18 ∧ mL M 209 = 3 ∧ mI M 198 1 = 0
def FO2 (M : Mem) : Prop := FO M ∧ mI M 198 4 = 0 ∧ mI M 198 33 = 0
theorem FO.sI {M : Mem} {a j : Nat} {v : Int32} (h : FO M) (ha : a ≠ 198 ∨ j ≠ 1) : FO (sI M a j v) := by
  obtain ⟨h1, h2, h3, h4, h5, h6, h7, h8, h9, h10, h11, h12, h13, h14⟩ := h
  exact ⟨h1, h2, h3, h4, h5, h6, h7, h8, h9, h10, h11, h12, h13, by rw [mI_sI, if_neg (by omega)]; exact h14⟩
theorem FO2.sI {M : Mem} {a j : Nat} {v : Int32} (h : FO2 M) (ha : a ≠ 198) : FO2 (sI M a j v) :=
  ⟨h.1.sI (Or.inl ha), by rw [mI_sI, if_neg (by omega)]; exact h.2.1, by rw [mI_sI, if_neg (by omega)]; exact h.2.2⟩
theorem FO2.sJ {M : Mem} {a j : Nat} {v : Int64} (h : FO2 M) : FO2 (sJ M a j v) := h
theorem i_in {M : Mem} {a i n : Nat} (hl : mL M a = n) (hi : i < n) (hn : n < 2 ^ 31) : ¬ (nI i < 0 ∨ mL M a ≤ (nI i).toNatClampNeg) := by rw [hl]; exact nI_in hi hn
theorem wI_ok {M : Mem} {a i n : Nat} {v : Int32} (hk : mK M a = 15) (hl : mL M a = n) (hi : i < n) (hn : n < 2 ^ 31) : wI M (some a) (nI i) v = some (sI M a i v) := by
  simp only [wI]
  rw [if_pos ⟨hk, i_in hl hi hn⟩, nI_clamp (by omega)]
theorem wZ_ok {M : Mem} {a i n : Nat} {v : Int32} (hk : mK M a = 18) (hl : mL M a = n) (hi : i < n) (hn : n < 2 ^ 31) : wZ M (some a) (nI i) v = some (sI M a i (v &&& 1)) := by
  simp only [wZ]
  rw [if_pos ⟨hk, i_in hl hi hn⟩, nI_clamp (by omega)]
theorem wJ_ok {M : Mem} {a i n : Nat} {v : Int64} (hk : mK M a = 16) (hl : mL M a = n) (hi : i < n) (hn : n < 2 ^ 31) : wJ M (some a) (nI i) v = some (sJ M a i v) := by
  simp only [wJ]
  rw [if_pos ⟨hk, i_in hl hi hn⟩, nI_clamp (by omega)]
theorem aJ_ok {M : Mem} {a i n : Nat} (hk : mK M a = 16) (hl : mL M a = n) (hi : i < n) (hn : n < 2 ^ 31) : aJ M (some a) (nI i) = some (mJ M a i) := by
  simp only [aJ]
  rw [if_pos ⟨hk, i_in hl hi hn⟩, nI_clamp (by omega)]
theorem nn_le {a b : Nat} (h : a < b) (hb : b < 2 ^ 31) : ¬ nI b ≤ nI a := nI_ge h hb
theorem openM39 {s : Int64} : ∀ (k i f : Nat) (M : Mem), i + k = 12 → k < f → FO2 M → ∃ N, FO2 N ∧ lp (fun k39 (a : Option Nat × Int64 × Int32) M => fX13_open_B39 k39 a.1 a.2.1 a.2.2 M) f (some 198, s, nI i) M = fX13_open_L60 (some 198) s 0 N := by
  intro k
  induction k with
  | zero =>
    intro i f M hi hf h
    obtain ⟨f, rfl⟩ : ∃ g, f = g + 1 := ⟨f - 1, by omega⟩
    have : i = 12 := by omega
    subst this
    exact ⟨M, h, rfl⟩
  | succ k ih =>
    intro i f M hi hf h
    obtain ⟨f, rfl⟩ : ∃ g, f = g + 1 := ⟨f - 1, by omega⟩
    obtain ⟨N, hN, e⟩ := ih (i + 1) f (sI M 221 i 0) (by omega) (by omega) (h.sI (by omega))
    refine ⟨N, hN, Eq.trans ?_ e⟩
    obtain ⟨⟨h1, h2, h3, h4, -⟩, -⟩ := h
    have g1 : ¬ (12 : Int32) ≤ nI i := nn_le (b := 12) (by omega) (by omega)
    rw [lp_S]
    show fX13_open_B39 _ (some 198) s (nI i) M = _
    generalize lp (fun k39 (a : Option Nat × Int64 × Int32) M => fX13_open_B39 k39 a.1 a.2.1 a.2.2 M) f = g
    simp only [fX13_open_B39, g1, if_false, gR, h1, h2, if_true, bo, wI_ok h3 h4 (show i < 12 by omega) (by omega), bn, nI_1]
theorem openM60 {s : Int64} : ∀ (k i f : Nat) (M : Mem), i + k = 3 → k < f → FO2 M → ∃ N, FO2 N ∧ mI N 198 51 = 0 ∧ lp (fun k60 (a : Option Nat × Int64 × Int32) M => fX13_open_B60 k60 a.1 a.2.1 a.2.2 M) f (some 198, s, nI i) M = fX13_open_L97 (some 198) s N := by
  intro k
  induction k with
  | zero =>
    intro i f M hi hf h
    obtain ⟨f, rfl⟩ : ∃ g, f = g + 1 := ⟨f - 1, by omega⟩
    have : i = 3 := by omega
    subst this
    have hh := h
    obtain ⟨⟨h1, h2, h3, h4, h5, h6, h7, h8, h9, h10, h11, h12, h13, h14⟩, h15, h16⟩ := h
    refine ⟨sI (sI M 209 0 (0 &&& 1)) 198 51 0, ⟨(hh.1.sI (Or.inl (by omega))).sI (Or.inr (by omega)), by simp [mI_sI, h15], by simp [mI_sI, h16]⟩, by simp [mI_sI], ?_⟩
    rw [lp_S]
    show fX13_open_B60 _ (some 198) s (nI 3) M = _
    generalize lp (fun k60 (a : Option Nat × Int64 × Int32) M => fX13_open_B60 k60 a.1 a.2.1 a.2.2 M) f = g
    have g1 : (3 : Int32) ≤ nI 3 := by decide
    simp only [fX13_open_B60, g1, if_true, gR, pI, mK_sI, h1, h11, bo, show wZ M (some 209) 0 0 = some (sI M 209 0 (0 &&& 1)) from wZ_ok (i := 0) h12 h13 (by omega) (by omega)]
  | succ k ih =>
    intro i f M hi hf h
    obtain ⟨f, rfl⟩ : ∃ g, f = g + 1 := ⟨f - 1, by omega⟩
    obtain ⟨N, hN, hN2, e⟩ := ih (i + 1) f (sJ (sI M 206 i (0 &&& 1)) 220 i 0) (by omega) (by omega) (h.sI (by omega)).sJ
    refine ⟨N, hN, hN2, Eq.trans ?_ e⟩
    obtain ⟨⟨h1, h2, h3, h4, h5, h6, h7, h8, h9, h10, h11, h12, h13, h14⟩, h15, h16⟩ := h
    have g1 : ¬ (3 : Int32) ≤ nI i := nn_le (b := 3) (by omega) (by omega)
    have g2 : wJ (sI M 206 i (0 &&& 1)) (some 220) (nI i) 0 = some (sJ (sI M 206 i (0 &&& 1)) 220 i 0) := wJ_ok (by exact h9) (by exact h10) (by omega) (by omega)
    rw [lp_S]
    show fX13_open_B60 _ (some 198) s (nI i) M = _
    generalize lp (fun k60 (a : Option Nat × Int64 × Int32) M => fX13_open_B60 k60 a.1 a.2.1 a.2.2 M) f = g
    simp only [fX13_open_B60, g1, if_false, gR, mK_sI, mR_sI, h1, h5, h8, if_true, bo, wZ_ok h6 h7 (show i < 10 by omega) (by omega), g2, bn, nI_1]
theorem open169 {M : Mem} (h1 : mK M 198 = 13) (h16 : mI M 198 33 = 0) : fX13_open_L169 (some 198) 0 M = some (0, sI M 198 3 0) := by
  unfold fX13_open_L169
  rw [lp_F]
  generalize lp (fun k169 (a : Option Nat × Int32) M => fX13_open_B169 k169 a.1 a.2 M) FU1 = g
  have g2 : (0 : Int32) ≤ 0 := by decide
  simp only [fX13_open_B169, g2, if_true, gI, h1, bo, h16, pI, mK_sI, mI_sI, and_self]
theorem open97 {M : Mem} {s : Int64} (h1 : mK M 198 = 13) (h2 : mI M 198 1 = 0) (h3 : mI M 198 51 = 0) : fX13_open_L97 (some 198) s M = fX13_open_L123 (some 198) M := by
  unfold fX13_open_L97
  rw [lp_F]
  generalize lp (fun k97 (a : Option Nat × Int64) M => fX13_open_B97 k97 a.1 a.2 M) FU1 = g
  have g2 : (0 : Int32) ≤ 0 := by decide
  simp only [fX13_open_B97, g2, if_true, gI, h1, h2, h3, bo]
theorem openM125 : ∀ (k i f : Nat) (M : Mem), i + k = 3 → k < f → FO2 M → ∃ N, lp (fun k125 (a : Option Nat × Int32) M => fX13_open_B125 k125 a.1 a.2 M) f (some 198, nI i) M = some (0, N) := by
  intro k
  induction k with
  | zero =>
    intro i f M hi hf h
    obtain ⟨f, rfl⟩ : ∃ g, f = g + 1 := ⟨f - 1, by omega⟩
    have : i = 3 := by omega
    subst this
    obtain ⟨⟨h1, h2, h3, h4, h5, h6, h7, h8, h9, h10, h11, h12, h13, h14⟩, h15, h16⟩ := h
    refine ⟨sI M 198 3 0, ?_⟩
    rw [lp_S]
    show fX13_open_B125 _ (some 198) (nI 3) M = _
    generalize lp (fun k125 (a : Option Nat × Int32) M => fX13_open_B125 k125 a.1 a.2 M) f = g
    have g1 : (3 : Int32) ≤ nI 3 := by decide
    have g2 : (0 : Int32) ≤ 0 := by decide
    simp only [fX13_open_B125, g1, g2, if_true, gI, h1, h15, bo, bn, open169 h1 h16]
  | succ k ih =>
    intro i f M hi hf h
    obtain ⟨f, rfl⟩ : ∃ g, f = g + 1 := ⟨f - 1, by omega⟩
    obtain ⟨N, e⟩ := ih (i + 1) f (sI M 221 (6 + i) (mJ M 220 i).toInt32) (by omega) (by omega) (h.sI (by omega))
    refine ⟨N, Eq.trans ?_ e⟩
    obtain ⟨⟨h1, h2, h3, h4, h5, h6, h7, h8, h9, h10, h11, h12, h13, h14⟩, h15, h16⟩ := h
    have g1 : ¬ (3 : Int32) ≤ nI i := nn_le (b := 3) (by omega) (by omega)
    have g2 : wI M (some 221) (6 + nI i) (mJ M 220 i).toInt32 = some (sI M 221 (6 + i) (mJ M 220 i).toInt32) := by
      rw [show (6 : Int32) = nI 6 from rfl, nI_add]
      exact wI_ok h3 h4 (by omega) (by omega)
    rw [lp_S]
    show fX13_open_B125 _ (some 198) (nI i) M = _
    generalize lp (fun k125 (a : Option Nat × Int32) M => fX13_open_B125 k125 a.1 a.2 M) f = g
    simp only [fX13_open_B125, g1, if_false, gR, h1, h2, h8, if_true, bo, aJ_ok h9 h10 (show i < 3 by omega) (by omega), g2, bn, nI_1]
theorem openM {M : Mem} {s : Int64} (hs : 0 ≤ lg_cmp s 0) (h : FO M) : ∃ N, fX13_open (some 198) s M = some (0, N) := by
  obtain ⟨w, hw⟩ : ∃ w, mR M 198 0 = w := ⟨_, rfl⟩
  have h2 : FO2 (sI (sI (sR (sI (sI M 198 4 0) 198 5 (-1)) 198 6 w) 198 33 0) 198 46 0) := by
    refine ⟨FO.sI (FO.sI ?_ (by omega)) (by omega), by simp [mI_sI, mI_sR], by simp [mI_sI, mI_sR]⟩
    obtain ⟨h1, h2, h3, h4, h5, h6, h7, h8, h9, h10, h11, h12, h13, h14⟩ := (h.sI (a := 198) (v := 0) (j := 4) (Or.inr (by omega))).sI (a := 198) (v := -1) (j := 5) (Or.inr (by omega))
    exact ⟨h1, by rw [mR_sR, if_neg (by omega)]; exact h2, h3, h4, by rw [mR_sR, if_neg (by omega)]; exact h5, h6, h7, by rw [mR_sR, if_neg (by omega)]; exact h8, h9, h10, by rw [mR_sR, if_neg (by omega)]; exact h11, h12, h13, h14⟩
  obtain ⟨N1, n1, e1⟩ := openM39 (s := s) 12 0 FU _ rfl (by unfold FU; omega) h2
  obtain ⟨N2, n2, n3, e2⟩ := openM60 (s := s) 3 0 FU N1 rfl (by unfold FU; omega) n1
  obtain ⟨N3, e3⟩ := openM125 3 0 FU N2 rfl (by unfold FU; omega) n2
  refine ⟨N3, ?_⟩
  have h1 := h.1
  have e0 : fX13_open (some 198) s M = fX13_open_L39 (some 198) s 0 (sI (sI (sR (sI (sI M 198 4 0) 198 5 (-1)) 198 6 w) 198 33 0) 198 46 0) := by
    simp only [fX13_open, hs, if_true, pI, pR, gR, mK_sI, mK_sR, mR_sI, h1, hw, bo, bn]
  have e4 : fX13_open_L97 (some 198) s N2 = fX13_open_L123 (some 198) N2 := open97 n2.1.1 n2.1.2.2.2.2.2.2.2.2.2.2.2.2.2 n3
  exact e0.trans (e1.trans (e2.trans (e4.trans e3)))
