/-! keep, on both sides -/
section JKEEP
variable {M N O : Mem} {S : Nat → Nat → Prop} {d o m q e c : Nat} {u w : Nat → Nat} {kp op : Option Nat} {dk : Option Dc} {D : Dc} {x : Tl}
theorem DV.off (h : DV M d D) (s : Sm S M N) (hs : ∀ a j, S a j → a < d ∨ d + 24 ≤ a) : DV N d D := by
  obtain ⟨h0, h1, h2, h3, h4, h5, h6, h7, h8⟩ := h
  have n : ∀ {a j}, d ≤ a → a < d + 24 → ¬ S a j := fun {a j} p q z => by have := hs a j z; omega
  refine ⟨h0, (s.I _ _ (n (by omega) (by omega))).trans h1, h2, (s.I _ _ (n (by omega) (by omega))).trans h3, fun q hq => ?_, fun i hi => ⟨(s.I _ _ (n (by omega) (by omega))).trans (h5 i hi).1, (h5 i hi).2⟩, h6.sm s (n (by omega) (by omega)) (n (by omega) (by omega)) (fun j => n (by omega) (by omega)), h7, h8⟩
  obtain ⟨a1, a2, a3⟩ := h4 q hq
  exact ⟨a1, a2.sm s (n (by omega) (by omega)) (fun j => n (by omega) (by omega)) (fun j => n (by omega) (by omega)), fun k hk => ⟨(a3 k hk).1, (a3 k hk).2.sm s (n (by omega) (by omega)) fun j => n (by omega) (by omega)⟩⟩
theorem TLc.off (h : TLc M x) (hN : NKo M op x) (ho : D3 op) (s : Sm S M N) (hd : d = 34 ∨ d = 58 ∨ d = 82) (hop : op ≠ some d) (hs : ∀ a j, S a j → a < 31 ∨ (d ≤ a ∧ a < d + 24)) : TLc N x ∧ NKo N op x := by
  have n : ∀ {a j}, 31 ≤ a ∧ (a < d ∨ d + 24 ≤ a) → ¬ S a j := fun {a j} p z => by have := hs a j z; omega
  have hdd : ∀ d', op = some d' → (d' = 34 ∨ d' = 58 ∨ d' = 82) ∧ d' ≠ d := fun d' e1 => ⟨ho d' e1, fun y => hop (by rw [e1, y])⟩
  obtain ⟨t1, t2, t3, t4⟩ := h
  refine ⟨⟨⟨(s.I _ _ (n (by omega))).trans t1.1, fun C hC => ?_⟩, fun k hk => ⟨(s.I _ _ (n (by omega))).trans (t2 k hk).1, fun T hT => ?_⟩, fun j a b g => (s.I _ _ (n (by omega))).trans (t3 j a b g), t4.sm s ⟨n (by omega), n (by omega), n (by omega), n (by omega)⟩ fun j => n (by omega)⟩, ?_⟩
  · obtain ⟨a1, cc, a2, a3, a4⟩ := t1.2 C hC
    rcases hN with ⟨z, -⟩ | hN
    · rw [z] at hC
      cases hC
    · have hcc : cc = 128 ∨ ∃ d', op = some d' ∧ cc = d' + 3 := by
        rcases hN.2 with z | ⟨d', e1, z⟩
        · exact Or.inl (Option.some.inj (a2.symm.trans z))
        · exact Or.inr ⟨d', e1, Option.some.inj (a2.symm.trans z)⟩
      refine ⟨a1, cc, (s.R _ _ (n (by omega))).trans a2, a3, ?_⟩
      rcases hcc with z | ⟨d', e1, z⟩
      · exact a4.sm s (n (by omega)) (fun j => n (by omega)) (fun j => n (by omega))
      · have := hdd d' e1
        exact a4.sm s (n (by omega)) (fun j => n (by omega)) (fun j => n (by omega))
  · obtain ⟨c1, t, c2, c3, c4⟩ := (t2 k hk).2 T hT
    rcases hN with ⟨-, z⟩ | hN
    · rw [z k hk] at hT
      cases hT
    · have htt : t = 107 + 5 * k ∨ t = 144 + 5 * k ∨ ∃ d', op = some d' ∧ t = d' + 9 + 5 * k := by
        rcases hN.1 k hk with z | z | ⟨d', e1, z⟩
        · exact Or.inl (Option.some.inj (c2.symm.trans z))
        · exact Or.inr (Or.inl (Option.some.inj (c2.symm.trans z)))
        · exact Or.inr (Or.inr ⟨d', e1, Option.some.inj (c2.symm.trans z)⟩)
      refine ⟨c1, t, (s.R _ _ (n (by omega))).trans c2, c3, ?_⟩
      rcases htt with z | z | ⟨d', e1, z⟩
      · exact c4.sm s (n (by omega)) fun j => n (by omega)
      · exact c4.sm s (n (by omega)) fun j => n (by omega)
      · have := hdd d' e1
        exact c4.sm s (n (by omega)) fun j => n (by omega)
  · rcases hN with hN | hN
    · exact Or.inl hN
    · exact Or.inr (hN.sm s (fun i hi => n (by omega)) (n (by omega)))
theorem PDc.off (h : PDc M dk kp) (s : Sm S M N) (hd : d = 34 ∨ d = 58 ∨ d = 82) (hk : kp ≠ some d) (hs : ∀ a j, S a j → a < 31 ∨ (d ≤ a ∧ a < d + 24)) : PDc N dk kp := by
  cases dk with
  | none => exact h
  | some D =>
    obtain ⟨d', h1, h2⟩ := h
    have hn : d' ≠ d := fun y => hk (by rw [h1, y])
    have hd' := h2.1
    exact ⟨d', h1, h2.off s fun a j z => by have := hs a j z; omega⟩
theorem PDc.in3 (h : PDc M dk kp) : D3 kp := fun k hk => by
  cases dk with
  | none =>
    have h : kp = none := h
    rw [h] at hk
    cases hk
  | some D =>
    obtain ⟨d', h1, h2⟩ := h
    rw [h1] at hk
    cases hk
    exact h2.1
theorem WKe_no {a j : Nat} (h : WKe d a j) (hd : d = 34 ∨ d = 58 ∨ d = 82) : 10 ≤ a ∧ ¬ fx a j := by
  rcases h with ⟨h, h'⟩ | ⟨rfl, h⟩
  · exact ⟨by omega, h'⟩
  · have h1 : zC 11 = 0 := rfl
    have h2 : hiC 11 = 7 := rfl
    refine ⟨by omega, ?_⟩
    rintro (⟨-, z⟩ | ⟨z1, z2⟩)
    · rw [h1] at z
      cases z
    · rw [h2] at z2
      omega
theorem RX.keep {dk' : Option Dc} (h : RX N e c u w dk x) (s : Sq WKm N O) (hM : MD O dk') : RX O e c u w dk' x := by
  obtain ⟨g1, g2, g3, g4, g5, -, g7, g8⟩ := h
  have n : ∀ {a j}, (a = 198 ∧ j < 4) ∨ a = 199 ∨ a = 200 ∨ a = 221 → ¬ WKm a j := fun {a j} p z => by
    unfold WKm at z
    omega
  exact ⟨⟨fun a p p2 => (s.K a).trans (g1.k a p p2), fun a p p2 => (s.L a).trans (g1.l a p p2), fun j => (s.R _ _).trans (g1.r j)⟩, (s.I _ _ (n (by omega))).trans g2, fun i hi => (s.I _ _ (n (by omega))).trans (g3 i hi), (s.I _ _ (n (by omega))).trans g4, fun i hi => (s.I _ _ (n (by omega))).trans (g5 i hi), hM, MTz.fine g7 s fun a j z => by
    unfold WKm at z
    unfold TMo
    omega, fun i hi => (s.I _ _ (n (by omega))).trans (g8 i hi)⟩
theorem BV_R (hR : RX N e c u w dk x) (he : e ≤ 8000) : BV N 199 8000 e u := ⟨hR.1.k 199 (by decide) (by decide), hR.1.l 199 (by decide) (by decide), he, by omega, hR.2.2.1⟩
theorem J_keep (h : JV M) : Wp (fX12_keep (some 11) M) fun _ N => mK N 198 = 13 ∧ Wp (fX13_keep (some 198) N) fun _ O => JV O := by
  obtain ⟨o, m, q, e, c, u, w, kp, op, dk, x, hX, hI, hW, hR⟩ := h
  obtain ⟨⟨b1, b2, b3, b4, b5, b6⟩, ⟨c1, c2, c3⟩, ⟨d1, d2, d3⟩, ⟨e1, e2, e3⟩, f1⟩ := id hW
  obtain ⟨x1, x2, x3, x4, x5, x6, x7, x8, x9, x10⟩ := id hX
  refine w_mono (ckeep_ok x1 c1 x3 x4 (PDc.in3 x5) x6 d1.1 ⟨d1.1.2.2.1, d1.1.2.2.2, d2, by omega, fun i hi => d1.2.2 i hi (by omega)⟩ b1 rfl d1.2.1 d3) fun a N k => ?_
  obtain ⟨d, q1, q2, q3, s, w1, w2, w3⟩ := k
  have hs : ∀ a j, WKe d a j → a < 31 ∨ (d ≤ a ∧ a < d + 24) := fun a j z => by
    rcases z with ⟨z, -⟩ | z <;> omega
  have hs2 : ∀ a j, WKe d a j → (a = 11 ∧ (j = 8 ∨ j = 10)) ∨ (18 ≤ a ∧ a < 106) := fun a j z => by
    rcases z with ⟨z, -⟩ | z <;> omega
  have hR2 : RX N e c u w dk x := hR.lo s fun a j z => by have := hs2 a j z; omega
  obtain ⟨kp', dk', p1, p2, p3⟩ : ∃ kp' dk', mR N 11 8 = kp' ∧ PDc N dk' kp' ∧ ∀ O, ((dkB u e = none ∨ 3000 < e) → MD O dk) ∧ (e = 0 → MD O none) ∧ (0 < e → e ≤ 3000 → ∀ D, dkB u e = some D → MD O (some D)) → MD O dk' := by
    by_cases g : dkB u e = none ∨ 3000 < e
    · exact ⟨kp, dk, w1 g, PDc.off x5 s q1 q2 hs, fun O z => z.1 g⟩
    · have ge : e ≤ 3000 := Nat.le_of_not_lt fun z => g (Or.inr z)
      by_cases g0 : e = 0
      · exact ⟨none, none, w2 g0, rfl, fun O z => z.2.1 g0⟩
      · cases hD : dkB u e with
        | none => exact absurd (Or.inl hD) g
        | some D =>
          have g1 := w3 (by omega) ge D hD
          exact ⟨some d, some D, g1.1, ⟨d, rfl, g1.2⟩, fun O z => z.2.2 (by omega) ge D rfl⟩
  obtain ⟨y8, y9⟩ := x8.off x9 x6 s q1 q3 hs
  have hX2 : CXs N kp' op dk' x := ⟨x1.sm s fun a j z => WKe_no z q1, x2.far s fun a j z => by have := hs2 a j z; omega, p1, (s.R _ _ fun z => by have := hs2 _ _ z; omega).trans x4, p2, x6, (s.I _ _ fun z => by have := hs2 _ _ z; omega).trans x7, y8, y9, x10⟩
  have hI2 : CIi N := hI.sm s fun j z => by have := hs2 _ _ z; omega
  have hW2 : CWr N o m q e c u w := hW.sm s fun a j z => by have := hs2 a j z; omega
  refine ⟨hR2.1.k 198 (by decide) (by decide), w_mono (mkeep_ok hR2.1 (BV_R hR2 d2) d3 hR2.2.1 hR2.2.2.2.2.2.1) fun b O k => ?_⟩
  obtain ⟨k1, k2⟩ := k
  obtain ⟨y1, y2, y3⟩ := C_hi hX2 hI2 hW2 k1.sm fun a j z => by
    unfold WKm at z
    omega
  exact ⟨o, m, q, e, c, u, w, kp', op, dk', x, y1, y2, y3, hR2.keep k1 (p3 O k2)⟩
end JKEEP
