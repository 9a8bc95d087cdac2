/-! the calls that change the row, on both sides -/
section JROW
variable {M N O : Mem} {S : Nat → Nat → Prop} {o m q e c e' c' : Nat} {u w u' w' : Nat → Nat} {kp op : Option Nat} {dk : Option Dc} {x : Tl} {f g : Mem → Option (Int32 × Mem)} {A : Int32}
theorem Rw_no {r : Nat} (hr : r = 12 ∨ r = 14 ∨ r = 16) : ∀ a j, Rw r (r + 1) a j → 10 ≤ a ∧ ¬ fx a j := fun a j h => by
  refine WRo_fx hr rfl a j ?_
  unfold WRo
  simp [h]
theorem Rw_at {r : Nat} (hr : r = 12 ∨ r = 14 ∨ r = 16) : ∀ a j, Rw r (r + 1) a j → 11 < a ∧ a < 18 := fun a j h => by
  unfold Rw at h
  omega
theorem RX.rw (h : RX N e c u w dk x) (s : Sq S N O) (hs : ∀ a j, S a j → (a = 198 ∧ (j = 1 ∨ j = 3)) ∨ a = 199 ∨ a = 200) (h1 : mI O 198 1 = iI e') (h2 : ∀ i, i < e' → mI O 199 i = sb (u' i)) (h3 : mI O 198 3 = iI c') (h4 : ∀ i, i < c' → mI O 200 i = sb (w' i)) : RX O e' c' u' w' dk x := by
  obtain ⟨g1, -, -, -, -, g6, g7, g8⟩ := h
  have n : ∀ {a j}, 200 < a ∨ (a = 198 ∧ 3 < j) → ¬ S a j := fun {a j} p z => by have := hs a j z; omega
  refine ⟨⟨fun a p p2 => (s.K a).trans (g1.k a p p2), fun a p p2 => (s.L a).trans (g1.l a p p2), fun j => (s.R _ _).trans (g1.r j)⟩, h1, h2, h3, h4, ?_, ?_, fun i hi => (s.I _ _ (n (by omega))).trans (g8 i hi)⟩
  · exact MD.sq g6 s ⟨n (by omega), n (by omega), n (by omega), n (by omega)⟩ (fun j => ⟨n (by omega), n (by omega)⟩) ⟨n (by omega), n (by omega)⟩ (fun j _ _ => n (by omega)) (fun j _ _ => n (by omega)) (fun j _ _ => ⟨n (by omega), n (by omega)⟩) (fun j _ _ => ⟨n (by omega), n (by omega), n (by omega)⟩)
  · exact MTz.sq g7 s ⟨n (by omega), n (by omega), fun j => ⟨n (by omega), n (by omega)⟩⟩ (fun j _ => ⟨n (by omega), n (by omega)⟩) (fun j => ⟨n (by omega), n (by omega), n (by omega)⟩) (fun j => n (by omega)) (n (by omega)) (fun j => ⟨n (by omega), n (by omega), n (by omega), n (by omega)⟩) (fun j => n (by omega))
theorem CWr.row (hW : CWr M o m q e c u w) (s : Sm (Rw o (o + 1)) M N) (hV : RV N o (o + 1) 8000 e' u') (he : e' ≤ 8000) (hu : ∀ i, u' i < 256) : CWr N o m q e' c u' w := by
  obtain ⟨h1, ⟨h2, h3, h4⟩, -, ⟨h8, h9, h10⟩, h11⟩ := hW
  have n : ∀ {a j}, (a = 11 ∨ a = m ∨ a = m + 1 ∨ a = q) → ¬ Rw o (o + 1) a j := fun {a j} p z => by
    unfold Rw at z
    omega
  exact ⟨h1, ⟨(s.R _ _ (n (by omega))).trans h2, (s.R _ _ (n (by omega))).trans h3, (s.R _ _ (n (by omega))).trans h4⟩, ⟨hV, he, hu⟩, ⟨h8.sm s (n (by omega)) (n (by omega)) (fun j => n (by omega)), h9, h10⟩, h11.sm s (n (by omega))⟩
theorem CWr.crow (hX : CXs M kp op dk x) (hW : CWr M o m q e c u w) : CRow M o e u := ⟨hW.1.1, hX.1.k 11 (by decide) (by decide), hW.2.1.1, hW.2.2.1.1, hW.2.2.1.2.1, hW.2.2.1.2.2⟩
theorem CWr.came (hW : CWr M o m q e c u w) : CCame M m c w := ⟨hW.1.2.1, hW.2.1.2.1, hW.2.2.2.1.1, hW.2.2.2.1.2.1, hW.2.2.2.1.2.2⟩
theorem RX.row (hW : CWr M o m q e c u w) (hR : RX N e c u w dk x) : MRow N e u := ⟨hR.1, hR.2.1, hR.2.2.1, hW.2.2.1.2.1, hW.2.2.1.2.2⟩
theorem RX.came (hW : CWr M o m q e c u w) (hR : RX N e c u w dk x) : MCame N c w := ⟨hR.2.2.2.1, hR.2.2.2.2.1, hW.2.2.2.1.2.1, hW.2.2.2.1.2.2⟩
theorem J_row (hX : CXs M kp op dk x) (hI : CIi M) (hW : CWr M o m q e c u w) (hR : RX M e c u w dk x) (hf : Wp (f M) fun a N => a = A ∧ Sm (Rw o (o + 1)) M N ∧ RV N o (o + 1) 8000 e' u') (hg : ∀ N, MRow N e u → Wp (g N) fun b O => b = A ∧ Sq WRr N O ∧ mI O 198 1 = iI (e' : Nat) ∧ ∀ i, i < e' → mI O 199 i = sb (u' i)) (he : e' ≤ 8000) (hu : ∀ i, u' i < 256) : Wp (f M) fun a N => mK N 198 = 13 ∧ Wp (g N) fun b O => a = b ∧ JV O := by
  refine w_mono hf fun a N h => ?_
  obtain ⟨h1, h2, h3⟩ := h
  have at0 := Rw_at hW.1.1
  have hR2 : RX N e c u w dk x := hR.lo h2 fun a j z => by have := at0 a j z; omega
  have hX2 : CXs N kp op dk x := hX.sm h2 (Rw_no hW.1.1) fun a j z => by have := at0 a j z; omega
  have hI2 : CIi N := hI.sm h2 fun j z => by have := at0 _ _ z; omega
  have hW2 : CWr N o m q e' c u' w := hW.row h2 h3 he hu
  refine ⟨hR2.1.k 198 (by decide) (by decide), w_mono (hg N (hR2.row hW)) fun b O k => ?_⟩
  obtain ⟨k1, k2, k3, k4⟩ := k
  obtain ⟨y1, y2, y3⟩ := C_hi hX2 hI2 hW2 k2.sm fun a j z => by omega
  exact ⟨h1.trans k1.symm, o, m, q, e', c, u', w, kp, op, dk, x, y1, y2, y3, hR2.rw k2 (fun a j z => by omega) k3 k4 ((k2.I _ _ (by omega)).trans hR2.2.2.2.1) fun i hi => (k2.I _ _ (by omega)).trans (hR2.2.2.2.2.1 i hi)⟩
abbrev JW (f g : Mem → Option (Int32 × Mem)) (M : Mem) : Prop := Wp (f M) fun a N => mK N 198 = 13 ∧ Wp (g N) fun b O => a = b ∧ JV O
theorem iI_bm (a : Int) : (iI a).toInt = Int.bmod a 4294967296 := by rw [iI, Int32.toInt_ofInt]
theorem iI_ex (v : Int32) : ∃ z : Int, v = iI z ∧ (-2147483648 ≤ z ∧ z < 2147483648) := by
  have h1 : v.toInt = Int.bmod v.toInt 4294967296 := (congrArg Int32.toInt (iI_of v)).trans (iI_bm v.toInt)
  have h2 := Int.le_bmod (x := v.toInt) (m := 4294967296) (by omega)
  have h3 := Int.bmod_lt (x := v.toInt) (m := 4294967296) (by omega)
  exact ⟨v.toInt, iI_of v, by omega, by omega⟩
theorem J_feed (h : JV M) (v : Int64) (z : Int32) : JW (fX12_feed (some 11) v z) (fX13_feed (some 198) v z) M := by
  obtain ⟨o, m, q, e, c, u, w, kp, op, dk, x, hX, hI, hW, hR⟩ := h
  obtain ⟨y, rfl, hy⟩ := iI_ex z
  have hu := hW.2.2.1.2.2
  have he := hW.2.2.1.2.1
  refine J_row hX hI hW hR (cfeed_ok (hW.crow hX) hy v) (fun N hN => mfeed_ok hN hy v) ?_ fun i => ?_
  · unfold fdE
    split
    · split <;> omega
    · omega
  · split
    · exact fdU_lt hu
    · exact hu i
theorem J_fill (h : JV M) (z s b : Int32) : JW (fX12_fill (some 11) z s b) (fX13_fill (some 198) z s b) M := by
  obtain ⟨o, m, q, e, c, u, w, kp, op, dk, x, hX, hI, hW, hR⟩ := h
  obtain ⟨y, rfl, hy⟩ := iI_ex z
  obtain ⟨d, rfl, hd⟩ := iI_ex b
  have hu := hW.2.2.1.2.2
  have he := hW.2.2.1.2.1
  refine J_row hX hI hW hR (cfill_ok (hW.crow hX) hy hd s) (fun N hN => mfill_ok hN hy hd s) ?_ fun i => ?_
  · unfold flE
    split <;> omega
  · split
    · exact flU_lt hu
    · exact hu i
theorem J_set (h : JV M) (z b : Int32) : JW (fX12_set (some 11) z b) (fX13_set (some 198) z b) M := by
  obtain ⟨o, m, q, e, c, u, w, kp, op, dk, x, hX, hI, hW, hR⟩ := h
  obtain ⟨y, rfl, hy⟩ := iI_ex z
  obtain ⟨d, rfl, hd⟩ := iI_ex b
  have hu := hW.2.2.1.2.2
  have he := hW.2.2.1.2.1
  refine J_row hX hI hW hR (cset_ok (hW.crow hX) hy hd) (fun N hN => mset_ok hN hy hd) he fun i => ?_
  split
  · unfold stU
    split
    · omega
    · exact hu i
  · exact hu i
theorem J_cut (h : JV M) (z : Int32) : JW (fX12_cut (some 11) z) (fX13_cut (some 198) z) M := by
  obtain ⟨o, m, q, e, c, u, w, kp, op, dk, x, hX, hI, hW, hR⟩ := h
  obtain ⟨y, rfl, hy⟩ := iI_ex z
  have hu := hW.2.2.1.2.2
  have he := hW.2.2.1.2.1
  refine J_row hX hI hW hR (ccut_ok (hW.crow hX) hy) (fun N hN => mcut_ok hN hy) ?_ hu
  unfold ctE
  split <;> omega
theorem J_again (h : JV M) (z b : Int32) : JW (fX12_again (some 11) z b) (fX13_again (some 198) z b) M := by
  obtain ⟨o, m, q, e, c, u, w, kp, op, dk, x, hX, hI, hW, hR⟩ := h
  obtain ⟨y, rfl, hy⟩ := iI_ex z
  obtain ⟨d, rfl, hd⟩ := iI_ex b
  have hu := hW.2.2.1.2.2
  have he := hW.2.2.1.2.1
  refine J_row hX hI hW hR (cagain_ok (hW.crow hX) hy hd) (fun N hN => magain_ok hN hy hd) ?_ fun i => ?_
  · unfold agE
    split <;> omega
  · split
    · exact agU_lt hu
    · exact hu i
/-- a call that changes nothing on either side -/
theorem J_same (h : JV M) (hf : f M = some (A, M)) (hg : g M = some (A, M)) : JW f g M := by
  have h2 := h
  obtain ⟨o, m, q, e, c, u, w, kp, op, dk, x, hX, hI, hW, hR⟩ := h2
  unfold JW Wp
  exact ⟨A, M, hf, hR.1.k 198 (by decide) (by decide), A, M, hg, rfl, h⟩
end JROW
