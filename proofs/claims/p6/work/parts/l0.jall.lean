/-! open, swap, and the calls that change nothing, on both sides -/
section JALL
variable {M N O : Mem} {S : Nat → Nat → Prop} {o m q e c n c' : Nat} {u w w' : Nat → Nat} {kp op : Option Nat} {dk : Option Dc} {x x' : Tl}
theorem iJ_ex (v : Int64) : ∃ z : Int, v = iJ z ∧ (-9223372036854775808 ≤ z ∧ z < 9223372036854775808) := ⟨v.toInt, iJ_of v, ⟨Int64.le_toInt v, Int64.toInt_lt v⟩⟩
theorem WOm_h {a j : Nat} (h : WOm a j) : (a = 198 ∧ 3 ≤ j ∧ (j ≤ 13 ∨ (33 ≤ j ∧ j ≤ 52))) ∨ (200 ≤ a ∧ a ≤ 201) ∨ ((a = 205 ∨ a = 206) ∧ (j < 3 ∨ j = 6)) ∨ ((a = 202 ∨ a = 203 ∨ a = 204) ∧ (j < 1536 ∨ (3072 ≤ j ∧ j < 3584))) ∨ a = 207 ∨ a = 212 ∨ ((a = 209 ∨ a = 210) ∧ j = 0) ∨ (a = 208 ∧ j < 256) ∨ (a = 211 ∧ j < 2048) ∨ a = 216 ∨ a = 217 ∨ a = 218 ∨ (220 ≤ a ∧ a ≤ 225) := by
  rcases h with h | h | h
  · have := WFm_h h
    omega
  · omega
  · omega
theorem RX.opn (h : RX N e c u w dk x) (s : Sq WOm N O) (h3 : mI O 198 3 = iI c') (h4 : ∀ i, i < c' → mI O 200 i = sb (w' i)) (h5 : MTz O x') (h6 : ∀ i, i < 3 → mI O 221 (6 + i) = iI (x'.2.2.2.1 i : Nat)) : RX O e c' u w' dk x' := by
  obtain ⟨g1, g2, g3, -, -, g6, -, -⟩ := h
  have s := s.weak fun a j z => WOm_h z
  exact ⟨⟨fun a p p2 => (s.K a).trans (g1.k a p p2), fun a p p2 => (s.L a).trans (g1.l a p p2), fun j => (s.R _ _).trans (g1.r j)⟩, (s.I _ _ (by omega)).trans g2, fun i hi => (s.I _ _ (by omega)).trans (g3 i hi), h3, h4, MD.sq g6 s (by omega) (by omega) (by omega) (by omega) (by omega) (by omega) (by omega), h5, h6⟩
theorem J_open (h : JV M) (v : Int64) : Wp (fX12_open (some 11) v M) fun _ N => mK N 198 = 13 ∧ Wp (fX13_open (some 198) v N) fun _ O => JV O := by
  have h0 := h
  obtain ⟨o, m, q, e, c, u, w, kp, op, dk, x, hX, hI, hW, hR⟩ := h0
  obtain ⟨y, rfl, hy⟩ := iJ_ex v
  have ez : (0 : Int64) = iJ 0 := iJ_lit 0
  have kz := cmp_ge (a := y) (b := 0) (by omega) (by omega)
  by_cases c0 : 0 ≤ y
  · obtain ⟨n, rfl⟩ : ∃ n : Nat, y = n := ⟨y.toNat, by omega⟩
    obtain ⟨R, hRR⟩ : ∃ R, opB u e n dk (e + 1) 0 0 (fun _ => 0) xZ = R := ⟨_, rfl⟩
    refine w_mono (copen_ok hX hI hW (by omega) hRR) fun a N k => ?_
    obtain ⟨k1, k2, k3, k4, k5⟩ := k
    have hR2 : RX N e c u w dk x := hR.lo k3 fun a j z => z
    have d2 := hW.2.2.1.2.1
    have d3 := hW.2.2.1.2.2
    have hm := mopen_ok (most := n) hR2.1 (BV_R hR2 d2) hR2.2.1 hR2.2.2.2.2.2.1 d3 (by omega)
    rw [hRR] at hm
    refine ⟨hR2.1.k 198 (by decide) (by decide), w_mono hm fun b O j => ?_⟩
    obtain ⟨j1, j2, j3, j4, j5⟩ := j
    have hlo : ∀ a j, WOm a j → 198 ≤ a := fun a j z => by
      have := WOm_h z
      omega
    cases hr : R.1 with
    | none =>
      obtain ⟨y1, y2, y3⟩ := C_hi k1 k2 (k4 hr) j1.sm hlo
      obtain ⟨i1, i2⟩ := j4 hr
      exact ⟨o, m, q, e, c, u, w, kp, kp, dk, R.2, y1, y2, y3, hR2.opn j1 (i1.trans hR2.2.2.2.1) (fun i hi => (i2 i).trans (hR2.2.2.2.2.1 i hi)) j2 j3⟩
    | some p =>
      obtain ⟨y1, y2, y3⟩ := C_hi k1 k2 (k5 p.1 p.2 hr) j1.sm hlo
      obtain ⟨-, i1, i2, -, -⟩ := j5 p.1 p.2 hr
      exact ⟨o, q, m, e, p.1, u, p.2, kp, kp, dk, R.2, y1, y2, y3, hR2.opn j1 i1 i2 j2 j3⟩
  · have kn : ¬ (0 : Int32) ≤ lg_cmp (iJ y) 0 := by
      rw [ez]
      intro z
      exact c0 (kz.mp z)
    have e1 : fX12_open (some 11) (iJ y) M = some (-2, M) := by
      unfold fX12_open
      exact if_neg kn
    have e2 : fX13_open (some 198) (iJ y) M = some (-2, M) := by
      unfold fX13_open
      exact if_neg kn
    exact ⟨-2, M, e1, hR.1.k 198 (by decide) (by decide), -2, M, e2, h⟩
theorem J_swap (h : JV M) : JW (fX12_swap (some 11)) (fX13_swap (some 198)) M := by
  obtain ⟨o, m, q, e, c, u, w, kp, op, dk, x, hX, hI, hW, hR⟩ := h
  obtain ⟨⟨b1, b2, b3, b4, b5, b6⟩, ⟨c1, c2, c3⟩, d, f, f1⟩ := id hW
  refine w_mono (cswap_ok (hW.crow hX) hW.came) fun a N k => ?_
  obtain ⟨k1, k2⟩ := k
  have s : Sm (fun a j => a = 11 ∧ j < 2) M N := by
    rw [k2]
    exact Sm.sR (Sm.sR Sm.rf ⟨rfl, by omega⟩) ⟨rfl, by omega⟩
  have r0 : mR N 11 0 = some m := by
    rw [k2]
    simp -implicitDefEqProofs (disch := (first | decide | omega)) only [mK_sI, mK_sJ, mK_sR, mK_cpI, mL_sI, mL_sJ, mL_sR, mL_cpI, mI_sI, mI_sJ, mI_sR, mI_cpI, mJ_sI, mJ_sJ, mJ_sR, mJ_cpI, mR_sI, mR_sJ, mR_sR, mR_cpI, eqN_T, eqN_F, if_true, if_false, and_true, true_and, and_false, false_and, or_true, true_or, or_false, false_or, not_true_eq_false, not_false_eq_true, and_self, or_self, tn_c, ne_eq, dite_true, dite_false]
  have r1 : mR N 11 1 = some o := by
    rw [k2]
    simp -implicitDefEqProofs (disch := (first | decide | omega)) only [mK_sI, mK_sJ, mK_sR, mK_cpI, mL_sI, mL_sJ, mL_sR, mL_cpI, mI_sI, mI_sJ, mI_sR, mI_cpI, mJ_sI, mJ_sJ, mJ_sR, mJ_cpI, mR_sI, mR_sJ, mR_sR, mR_cpI, eqN_T, eqN_F, if_true, if_false, and_true, true_and, and_false, false_and, or_true, true_or, or_false, false_or, not_true_eq_false, not_false_eq_true, and_self, or_self, tn_c, ne_eq, dite_true, dite_false]
  have hR2 : RX N e c u w dk x := hR.lo s fun a j z => by omega
  have hX2 : CXs N kp op dk x := hX.sm s (fun a j z => by
    obtain ⟨rfl, z⟩ := z
    exact ⟨by omega, fx_11 (by omega)⟩) fun a j z => by omega
  have hI2 : CIi N := hI.sm s fun j z => by omega
  have hW2 : CWr N m o q c e w u := ⟨⟨b2, b1, b3, fun z => b4 z.symm, b6, b5⟩, ⟨r0, r1, (s.R _ _ (by omega)).trans c3⟩, ⟨f.1.sm s (by omega) (by omega) (fun j => by omega), f.2⟩, ⟨d.1.sm s (by omega) (by omega) (fun j => by omega), d.2⟩, f1.sm s (by omega)⟩
  refine ⟨hR2.1.k 198 (by decide) (by decide), w_mono (mswap_ok (hR2.row hW) (hR2.came hW)) fun b O j => ?_⟩
  obtain ⟨j1, j2, j3, j4, j5, j6⟩ := j
  have j2 := j2.weak (T := fun a j => (a = 198 ∧ (j = 1 ∨ j = 3)) ∨ a = 199 ∨ a = 200) fun a j z => by omega
  obtain ⟨y1, y2, y3⟩ := C_hi hX2 hI2 hW2 j2.sm fun a j z => by omega
  exact ⟨k1.trans j1.symm, m, o, q, c, e, w, u, kp, op, dk, x, y1, y2, y3, hR2.rw j2 (fun a j z => z) j3 j5 j4 j6⟩
theorem J_size (h : JV M) : JW (fX12_size (some 11)) (fX13_size (some 198)) M := by
  have h0 := h
  obtain ⟨o, m, q, e, c, u, w, kp, op, dk, x, hX, hI, hW, hR⟩ := h0
  exact J_same h (csize_ok (hW.crow hX)) (msize_ok (hR.row hW))
theorem J_differ (h : JV M) : JW (fX12_differ (some 11)) (fX13_differ (some 198)) M := by
  have h0 := h
  obtain ⟨o, m, q, e, c, u, w, kp, op, dk, x, hX, hI, hW, hR⟩ := h0
  exact J_same h (cdiffer_ok (hW.crow hX) hW.came) (mdiffer_ok (hR.row hW) (hR.came hW))
theorem J_out (h : JV M) (z : Int32) : JW (fX12_out (some 11) z) (fX13_out (some 198) z) M := by
  have h0 := h
  obtain ⟨o, m, q, e, c, u, w, kp, op, dk, x, hX, hI, hW, hR⟩ := h0
  obtain ⟨y, rfl, hy⟩ := iI_ex z
  exact J_same h (cout_ok (hX.1.k 11 (by decide) (by decide)) hW.came hy) (mout_ok hR.1 (hR.came hW) hy)
theorem J_sum (h : JV M) (b : Int32) : JW (fX12_sum (some 11) b) (fX13_sum (some 198) b) M := by
  have h0 := h
  obtain ⟨o, m, q, e, c, u, w, kp, op, dk, x, hX, hI, hW, hR⟩ := h0
  exact J_same h (csum_ok (hW.crow hX) b) (msum2_ok (hR.row hW) b)
theorem J_told (h : JV M) (z : Int32) : JW (fX12_told (some 11) z) (fX13_told (some 198) z) M := by
  have h0 := h
  obtain ⟨o, m, q, e, c, u, w, kp, op, dk, x, hX, hI, hW, hR⟩ := h0
  obtain ⟨y, rfl, hy⟩ := iI_ex z
  exact J_same h (ctold_ok hX.1 hX.2.2.2.2.2.2.2.1 hy) (mtold_ok hR.1 hR.2.2.2.2.2.2.1 hR.2.2.2.2.2.2.2 hy)
theorem J_sequence (h : JV M) (z b : Int32) : JW (fX12_sequence (some 11) z b) (fX13_sequence_ (some 198) z b) M := by
  have h0 := h
  obtain ⟨o, m, q, e, c, u, w, kp, op, dk, x, hX, hI, hW, hR⟩ := h0
  obtain ⟨y, rfl, hy⟩ := iI_ex z
  obtain ⟨d, rfl, hd⟩ := iI_ex b
  have ht := hX.2.2.2.2.2.2.2.2.2
  exact J_same h (csequence_ok hX.1 hX.2.2.2.2.2.2.2.1 ht hy hd) (msequence2_ok hR.1 hR.2.2.2.2.2.2.1 ht hy hd)
theorem J_bits (h : JV M) (z : Int32) : JW (fX12_bits (some 11) z) (fX13_bits (some 198) z) M := by
  have h0 := h
  obtain ⟨o, m, q, e, c, u, w, kp, op, dk, x, hX, hI, hW, hR⟩ := h0
  obtain ⟨y, rfl, hy⟩ := iI_ex z
  exact J_same h (cbits_ok hX.1 hX.2.2.2.2.2.2.2.1 hy) (mbits_ok hR.1 hR.2.2.2.2.2.2.1 hy)
theorem J_table (h : JV M) (k z b : Int32) : JW (fX12_table (some 11) k z b) (fX13_table_ (some 198) k z b) M := by
  have h0 := h
  obtain ⟨o, m, q, e, c, u, w, kp, op, dk, x, hX, hI, hW, hR⟩ := h0
  obtain ⟨t, rfl, ht⟩ := iI_ex k
  obtain ⟨y, rfl, hy⟩ := iI_ex z
  obtain ⟨d, rfl, hd⟩ := iI_ex b
  exact J_same h (ctable_ok hX.1 hX.2.2.2.2.2.2.2.1 ht hy hd) (mtable2_ok hR.1 hR.2.2.2.2.2.2.1 ht hy hd)
theorem J_place (h : JV M) : Wp (fX12_place (some 11) M) fun _ N => mK N 198 = 13 ∧ Wp (fX13_place (some 198) N) fun _ O => JV O := by
  have h0 := h
  obtain ⟨o, m, q, e, c, u, w, kp, op, dk, x, hX, hI, hW, hR⟩ := h0
  have k11 : mK M 11 = 12 := hX.1.k 11 (by decide) (by decide)
  have k198 : mK M 198 = 13 := hR.1.k 198 (by decide) (by decide)
  have e1 : fX12_place (some 11) M = some (mI M 11 10, M) := by
    unfold fX12_place
    rw [gI_s, if_pos k11, bo_s]
  have e2 : fX13_place (some 198) M = some (mI M 198 5, M) := by
    unfold fX13_place
    rw [gI_s, if_pos k198, bo_s]
  exact ⟨_, M, e1, k198, _, M, e2, h⟩
end JALL
