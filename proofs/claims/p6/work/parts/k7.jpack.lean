/-! pack, on both sides -/
section JPACK
variable {M N O : Mem} {S : Nat → Nat → Prop} {o m q e c e' c' : Nat} {u w u' w' : Nat → Nat} {kp op : Option Nat} {dk : Option Dc} {x : Tl}
theorem sb_md (u : Nat) : sb u = sb (u % 256) := by
  unfold sb
  refine congrArg iI ?_
  rw [Int.bmod_def, Int.bmod_def]
  split <;> split <;> omega
theorem WBd_b : ∀ a j, WBd a j → (18 ≤ a ∧ a ≤ 29) ∨ (159 < a ∧ a < 198) := fun a j h => by
  unfold WBd Wco WHc WK Wsq WVs WFc Rw2 at h
  rcases h with (h | h | h | h | h) | ((h | h | h | h | h) | (h | h | h | h) | (h | h)) | ((h | h) | h | h | h | h) | (h | h) | h <;> omega
theorem WPc_at (hq : q = 12 ∨ q = 14 ∨ q = 16) : ∀ a j, WPc q a j → (a = 11 ∧ (j = 1 ∨ j = 2)) ∨ (a = q ∧ j = 1) ∨ a = q + 1 ∨ (18 ≤ a ∧ a ≤ 29) ∨ (159 ≤ a ∧ a < 198) := fun a j h => by
  rcases h with ((h | h) | h | h) | h
  · have := WBd_b a j h
    omega
  · unfold Rw at h
    omega
  · omega
  · rcases h with h | h | h | h <;> omega
  · omega
theorem WPc_no (hq : q = 12 ∨ q = 14 ∨ q = 16) : ∀ a j, WPc q a j → 10 ≤ a ∧ ¬ fx a j := fun a j h => by
  rcases h with (h | h | h) | h
  · exact WPkk_fx hq a j h
  · obtain ⟨rfl, h⟩ := h
    exact ⟨by omega, fx_of 159 0 0 11 rfl rfl rfl (by omega)⟩
  · exact Wbg_fx a j h
  · obtain ⟨rfl, h⟩ := h
    exact ⟨by omega, fx_11 (by omega)⟩
theorem WCo_b : ∀ a j, WCo a j → (a = 198 ∧ 54 ≤ j) ∨ a = 212 ∨ (a = 208 ∧ 512 ≤ j) ∨ ((a = 209 ∨ a = 210) ∧ 2 ≤ j) ∨ (a = 211 ∧ 4096 ≤ j) ∨ 226 ≤ a := fun a j h => by
  unfold WCo WLs WSc WDm WY WSy WDg at h
  rcases h with ((h | h) | (h | h)) | ((h | h) | (h | h | h | h) | h | (h | h | h | h)) <;> omega
theorem WMs_b : ∀ a j, WMs a j → (a = 198 ∧ (j = 13 ∨ 54 ≤ j)) ∨ a = 201 ∨ ((a = 202 ∨ a = 203 ∨ a = 204) ∧ 3584 ≤ j) ∨ ((a = 205 ∨ a = 206) ∧ 7 ≤ j) ∨ a = 207 ∨ 226 ≤ a := fun a j h => by
  unfold WMs W23 WSy WDg at h
  rcases h with (h | (h | h) | (h | h)) | h | h | h | h | h | h | h <;> omega
abbrev WPe (a j : Nat) : Prop := (a = 198 ∧ (j = 3 ∨ j = 13 ∨ 54 ≤ j)) ∨ a = 200 ∨ a = 201 ∨ ((a = 202 ∨ a = 203 ∨ a = 204) ∧ 3584 ≤ j) ∨ ((a = 205 ∨ a = 206) ∧ 7 ≤ j) ∨ a = 207 ∨ a = 212 ∨ (a = 208 ∧ 512 ≤ j) ∨ ((a = 209 ∨ a = 210) ∧ 2 ≤ j) ∨ (a = 211 ∧ 4096 ≤ j) ∨ 226 ≤ a
theorem WPz_b : ∀ a j, WPz a j → WPe a j := fun a j h => by
  rcases h with ((h | h | h | h | h | h) | h | h) | h | h
  · unfold WSy at h
    unfold WPe
    rcases h with h | h <;> omega
  · have := WFa_a a j h
    unfold WPe
    ((repeat' (refine Or.elim this ?_ ?_ <;> (clear this; intro this))) <;> omega)
  · have := WCo_b a j h
    unfold WPe
    ((repeat' (refine Or.elim this ?_ ?_ <;> (clear this; intro this))) <;> omega)
  · have := WMs_b a j h
    unfold WPe
    ((repeat' (refine Or.elim this ?_ ?_ <;> (clear this; intro this))) <;> omega)
  all_goals
    unfold WPe
    omega
abbrev TMo (a j : Nat) : Prop := (a = 198 ∧ j ≠ 46) ∨ (198 < a ∧ a < 202) ∨ ((a = 202 ∨ a = 203 ∨ a = 204) ∧ 1536 ≤ j) ∨ ((a = 205 ∨ a = 206) ∧ 3 ≤ j) ∨ a = 207 ∨ (a = 208 ∧ 256 ≤ j) ∨ ((a = 209 ∨ a = 210) ∧ 1 ≤ j) ∨ (a = 211 ∧ 2048 ≤ j) ∨ (212 ≤ a ∧ a < 220) ∨ 226 ≤ a
theorem MTz.fine (h : MTz M x) (s : Sq S M N) (hs : ∀ a j, S a j → TMo a j) : MTz N x := by
  have n : ∀ {a j}, (a = 198 ∧ j = 46) ∨ ((a = 202 ∨ a = 203 ∨ a = 204) ∧ j < 1536) ∨ ((a = 205 ∨ a = 206) ∧ j < 3) ∨ (a = 208 ∧ j < 256) ∨ ((a = 209 ∨ a = 210) ∧ j = 0) ∨ (a = 211 ∧ j < 2048) ∨ (220 ≤ a ∧ a < 226) → ¬ S a j := fun {a j} p z => by
    have := hs a j z
    unfold TMo at this
    omega
  obtain ⟨t1, t2, t3, t4, t5⟩ := h
  refine ⟨⟨(s.I _ _ (n (by omega))).trans t1.1, fun C hC => ⟨(t1.2 C hC).1, ?_⟩⟩, t2.sq s (fun j _ => ⟨n (by omega), n (by omega)⟩) (fun j _ => ⟨n (by omega), n (by omega), n (by omega)⟩), fun j a b d => (s.I _ _ (n (by omega))).trans (t3 j a b d), t4.sq s ⟨n (by omega), n (by omega)⟩ (fun j => ⟨n (by omega), n (by omega), n (by omega), n (by omega)⟩), fun i hi => (s.J _ _ (n (by omega))).trans (t5 i hi)⟩
  obtain ⟨v1, v2, v3, v4⟩ := (t1.2 C hC).2
  have hC9 : 2 ^ C.1 ≤ 2048 := Nat.le_trans (Nat.pow_le_pow_right (by omega) (t1.2 C hC).1.2.1) (by decide)
  exact ⟨(s.I _ _ (n (by omega))).trans v1, (s.I _ _ (n (by omega))).trans v2, fun i hi => (s.I _ _ (n (by omega))).trans (v3 i hi), fun i hi => (s.I _ _ (n (by omega))).trans (v4 i hi)⟩
theorem RX.pk (h : RX N e c u w dk x) (s : Sq WPe N O) (h3 : mI O 198 3 = iI c') (h4 : ∀ i, i < c' → mI O 200 i = sb (w' i)) : RX O e c' u w' dk x := by
  obtain ⟨g1, g2, g3, -, -, g6, g7, g8⟩ := h
  have n : ∀ {a j}, (a = 198 ∧ (j = 1 ∨ (13 < j ∧ j < 54))) ∨ a = 199 ∨ ((a = 202 ∨ a = 203 ∨ a = 204) ∧ j < 3584) ∨ ((a = 205 ∨ a = 206) ∧ j < 7) ∨ (a = 208 ∧ j < 512) ∨ ((a = 209 ∨ a = 210) ∧ j < 2) ∨ (a = 211 ∧ j < 4096) ∨ (213 ≤ a ∧ a < 226) → ¬ WPe a j := fun {a j} p z => by
    unfold WPe at z
    omega
  refine ⟨⟨fun a p p2 => (s.K a).trans (g1.k a p p2), fun a p p2 => (s.L a).trans (g1.l a p p2), fun j => (s.R _ _).trans (g1.r j)⟩, (s.I _ _ (n (by omega))).trans g2, fun i hi => (s.I _ _ (n (by omega))).trans (g3 i hi), h3, h4, ?_, ?_, fun i hi => (s.I _ _ (n (by omega))).trans (g8 i hi)⟩
  · exact MD.sq g6 s ⟨n (by omega), n (by omega), n (by omega), n (by omega)⟩ (fun j => ⟨n (by omega), n (by omega)⟩) ⟨n (by omega), n (by omega)⟩ (fun j _ _ => n (by omega)) (fun j _ _ => n (by omega)) (fun j _ _ => ⟨n (by omega), n (by omega)⟩) (fun j _ _ => ⟨n (by omega), n (by omega), n (by omega)⟩)
  · exact MTz.fine g7 s fun a j z => by
      unfold WPe at z
      unfold TMo
      ((repeat' (refine Or.elim z ?_ ?_ <;> (clear z; intro z))) <;> omega)
theorem J_pack (h : JV M) (l z : Int32) : JW (fX12_pack (some 11) l z) (fX13_pack (some 198) l z) M := by
  have h0 := h
  obtain ⟨o, m, q, e, c, u, w, kp, op, dk, x, hX, hI, hW, hR⟩ := h0
  obtain ⟨y, rfl, hy⟩ := iI_ex l
  obtain ⟨d, rfl, hd⟩ := iI_ex z
  obtain ⟨⟨b1, b2, b3, b4, b5, b6⟩, ⟨c1, c2, c3⟩, ⟨d1, d2, d3⟩, ⟨e1, e2, e3⟩, f1⟩ := id hW
  have hm := cpack_ok hX.1 hX.2.1 c1 c2 c3 hX.2.2.1 hX.2.2.2.2.1 d1 d3 f1 b3 b1 b5 d2 hI.1 hI.2 hy hd
  cases hO : pdO y d dk u e with
  | none =>
    refine w_mono hm fun a N k => ?_
    have hN : N = M := k.2.1 hO
    have ka := k.1
    clear k hm
    subst hN
    refine ⟨hR.1.k 198 (by decide) (by decide), w_mono (mpack_ok hR.1 hR.2.1 hR.2.2.1 d3 hR.2.2.2.2.2.1 d2 hy hd) fun b O j => ?_⟩
    have hO2 := j.2.1 hO
    rw [hO2]
    exact ⟨ka.trans j.1.symm, h⟩
  | some p =>
    refine w_mono hm fun a N k => ?_
    obtain ⟨k1, -, k2⟩ := k
    obtain ⟨s1, s2, s3, s4, s5, s6⟩ := k2 p hO
    have at0 := WPc_at b3
    have hR2 : RX N e c u w dk x := hR.lo s6 fun a j z => by have := at0 a j z; omega
    have hX2 : CXs N kp op dk x := hX.sm s6 (WPc_no b3) fun a j z => by have := at0 a j z; omega
    refine ⟨hR2.1.k 198 (by decide) (by decide), w_mono (mpack_ok hR2.1 hR2.2.1 hR2.2.2.1 d3 hR2.2.2.2.2.2.1 d2 hy hd) fun b O j => ?_⟩
    obtain ⟨j1, -, j2⟩ := j
    obtain ⟨r1, r2, r3, r4⟩ := j2 p hO
    have n : ∀ {a j}, ((a = 11 ∧ j = 0) ∨ (12 ≤ a ∧ a < 18 ∧ a ≠ q ∧ a ≠ q + 1)) → ¬ WPc q a j := fun {a j} g z => by
      have := at0 a j z
      omega
    have hW2 : CWr N o q m e p.2 u fun i => p.1 i % 256 := ⟨⟨b1, b3, b2, b5, b4, fun g => b6 g.symm⟩, ⟨(s6.R _ _ (n (by omega))).trans c1, s1, s2⟩, ⟨d1.sm s6 (n (by omega)) (n (by omega)) (fun j => n (by omega)), d2, d3⟩, ⟨⟨s3.1, s3.2.1, fun i hi hn => (s3.2.2 i hi hn).trans (sb_md _)⟩, r3, fun i => Nat.mod_lt _ (by omega)⟩, e1.1.sm s6 (n (by omega))⟩
    have r4 := r4.weak WPz_b
    obtain ⟨y1, y2, y3⟩ := C_hi hX2 ⟨s4, s5⟩ hW2 r4.sm fun a j z => by
      unfold WPe at z
      omega
    exact ⟨k1.trans j1.symm, o, q, m, e, p.2, u, fun i => p.1 i % 256, kp, op, dk, x, y1, y2, y3, hR2.pk r4 r1 fun i hi => (r2 i hi).trans (sb_md _)⟩
end JPACK
