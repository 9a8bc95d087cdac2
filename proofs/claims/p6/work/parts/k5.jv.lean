/-! what holds between two calls: the class's and the reference's cells tell one and the same -/
abbrev PTo (M : Mem) (op : Option Nat) : Prop := (∀ i, i < 3 → mR M 135 i = some (107 + 5 * i) ∨ mR M 135 i = some (144 + 5 * i) ∨ ∃ d, op = some d ∧ mR M 135 i = some (d + 9 + 5 * i)) ∧ (mR M 125 1 = some 128 ∨ ∃ d, op = some d ∧ mR M 125 1 = some (d + 3))
abbrev NKo (M : Mem) (op : Option Nat) (x : Tl) : Prop := (x.1 = none ∧ ∀ k, k < 3 → x.2.1 k = none) ∨ PTo M op
abbrev D3 (o : Option Nat) : Prop := ∀ k, o = some k → k = 34 ∨ k = 58 ∨ k = 82
/-- the class, rows aside -/
def CXs (M : Mem) (kp op : Option Nat) (dk : Option Dc) (x : Tl) : Prop := CSt M ∧ DfV M ∧ mR M 11 8 = kp ∧ mR M 11 9 = op ∧ PDc M dk kp ∧ D3 op ∧ mI M 142 1 = iI 0 ∧ TLc M x ∧ NKo M op x ∧ x.2.2.2.2.1 ≤ 300000000
/-- the class's rows -/
def CWr (M : Mem) (o m q e c : Nat) (u w : Nat → Nat) : Prop := ((o = 12 ∨ o = 14 ∨ o = 16) ∧ (m = 12 ∨ m = 14 ∨ m = 16) ∧ (q = 12 ∨ q = 14 ∨ q = 16) ∧ o ≠ m ∧ o ≠ q ∧ m ≠ q) ∧ (mR M 11 0 = some o ∧ mR M 11 1 = some m ∧ mR M 11 2 = some q) ∧ (RV M o (o + 1) 8000 e u ∧ e ≤ 8000 ∧ ∀ i, u i < 256) ∧ (RV M m (m + 1) 8000 c w ∧ c ≤ 8000 ∧ ∀ i, w i < 256) ∧ RS M q (q + 1) 8000
/-- the class's body of BLOCKS lies idle -/
def CIi (M : Mem) : Prop := mJ M 170 2 = iJ 0 ∧ mI M 170 3 = iI 0
/-- the reference -/
def RX (M : Mem) (e c : Nat) (u w : Nat → Nat) (dk : Option Dc) (x : Tl) : Prop := RSt M ∧ mI M 198 1 = iI e ∧ (∀ i, i < e → mI M 199 i = sb (u i)) ∧ mI M 198 3 = iI c ∧ (∀ i, i < c → mI M 200 i = sb (w i)) ∧ MD M dk ∧ MTz M x ∧ ∀ i, i < 3 → mI M 221 (6 + i) = iI (x.2.2.2.1 i : Nat)
def JV (M : Mem) : Prop := ∃ o m q e c u w kp op dk x, CXs M kp op dk x ∧ CIi M ∧ CWr M o m q e c u w ∧ RX M e c u w dk x
section JV1
variable {M N : Mem} {S : Nat → Nat → Prop} {o m q e c : Nat} {u w : Nat → Nat} {kp op : Option Nat} {dk : Option Dc} {x : Tl}
theorem zC_hi {a : Nat} (h : 198 ≤ a) : zC a = 0 := getD_far _ _ (a - 11) (by show 187 ≤ a - 11; omega)
theorem loC_hi {a : Nat} (h : 198 ≤ a) : loC a = 1 := getD_far _ _ (a - 11) (by show 187 ≤ a - 11; omega)
theorem hiC_hi {a : Nat} (h : 198 ≤ a) : hiC a = 0 := getD_far _ _ (a - 11) (by show 187 ≤ a - 11; omega)
theorem fx_hi {a j : Nat} (h : 198 ≤ a) : ¬ fx a j := by
  have h1 := zC_hi h
  have h2 := loC_hi h
  have h3 := hiC_hi h
  rintro (⟨-, z⟩ | ⟨z1, z2⟩)
  · rw [h1] at z
    cases z
  · rw [h2] at z1
    rw [h3] at z2
    omega
theorem fx_11 {j : Nat} (h : j < 3) : ¬ fx 11 j := by
  have h1 : zC 11 = 0 := rfl
  have h2 : loC 11 = 3 := rfl
  rintro (⟨-, z⟩ | ⟨z1, z2⟩)
  · rw [h1] at z
    cases z
  · rw [h2] at z1
    omega
theorem PDc.sm (h : PDc M dk kp) (s : Sm S M N) (hs : ∀ a j, S a j → a < 33 ∨ 106 ≤ a) : PDc N dk kp := by
  cases dk with
  | none => exact h
  | some D =>
    obtain ⟨d, h1, h2⟩ := h
    exact ⟨d, h1, h2.sm s hs⟩
theorem PTo.sm (h : PTo M op) (s : Sm S M N) (h1 : ∀ i, i < 3 → ¬ S 135 i) (h2 : ¬ S 125 1) : PTo N op := ⟨fun i hi => by
    rw [s.R _ _ (h1 i hi)]
    exact h.1 i hi, by
    rw [s.R _ _ h2]
    exact h.2⟩
theorem TLc.far (h : TLc M x) (s : Sm S M N) (hs : ∀ a j, S a j → a < 31 ∨ 159 ≤ a) : TLc N x := by
  have n : ∀ {a j}, 31 ≤ a → a < 159 → ¬ S a j := fun {a j} p p2 z => by have := hs a j z; omega
  obtain ⟨t1, t2, t3, t4⟩ := h
  refine ⟨t1.sm s ⟨n (by omega) (by omega), n (by omega) (by omega)⟩ fun cc hcc => ⟨n (by omega) (by omega), fun j => n (by omega) (by omega), fun j => n (by omega) (by omega)⟩, t2.sm s fun k hk => ⟨n (by omega) (by omega), n (by omega) (by omega), fun t j ht => ⟨n (by omega) (by omega), n (by omega) (by omega)⟩⟩, fun j a b d => (s.I _ _ (n (by omega) (by omega))).trans (t3 j a b d), t4.sm s ⟨n (by omega) (by omega), n (by omega) (by omega), n (by omega) (by omega), n (by omega) (by omega)⟩ fun j => n (by omega) (by omega)⟩
theorem DfV.far (h : DfV M) (s : Sm S M N) (hs : ∀ a j, S a j → a < 107 ∨ 122 ≤ a) : DfV N := h.sm s fun k j hk => ⟨fun z => by have := hs _ _ z; omega, fun z => by have := hs _ _ z; omega⟩
theorem CXs.sm (h : CXs M kp op dk x) (s : Sm S M N) (hf : ∀ a j, S a j → 10 ≤ a ∧ ¬ fx a j) (hs : ∀ a j, S a j → (a = 11 ∧ j < 3) ∨ (11 < a ∧ a < 31) ∨ 159 ≤ a) : CXs N kp op dk x := by
  obtain ⟨h1, h2, h3, h4, h5, h6, h7, h8, h9, h10⟩ := h
  have n : ∀ {a j}, (a = 11 ∧ 3 ≤ j) ∨ (31 ≤ a ∧ a < 159) → ¬ S a j := fun {a j} p z => by have := hs a j z; omega
  refine ⟨h1.sm s hf, h2.far s fun a j z => by have := hs a j z; omega, (s.R _ _ (n (by omega))).trans h3, (s.R _ _ (n (by omega))).trans h4, PDc.sm h5 s fun a j z => by have := hs a j z; omega, h6, (s.I _ _ (n (by omega))).trans h7, h8.far s fun a j z => by have := hs a j z; omega, ?_, h10⟩
  rcases h9 with h9 | h9
  · exact Or.inl h9
  · exact Or.inr (h9.sm s (fun i hi => n (by omega)) (n (by omega)))
theorem CIi.sm (h : CIi M) (s : Sm S M N) (hs : ∀ j, ¬ S 170 j) : CIi N := ⟨(s.J _ _ (hs 2)).trans h.1, (s.I _ _ (hs 3)).trans h.2⟩
theorem CWr.sm (h : CWr M o m q e c u w) (s : Sm S M N) (hs : ∀ a j, S a j → a < 11 ∨ 18 ≤ a ∨ (a = 11 ∧ 3 ≤ j)) : CWr N o m q e c u w := by
  obtain ⟨h1, ⟨h2, h3, h4⟩, ⟨h5, h6, h7⟩, ⟨h8, h9, h10⟩, h11⟩ := h
  have n : ∀ {a j}, 11 ≤ a ∧ a < 18 ∧ (a = 11 → j < 3) → ¬ S a j := fun {a j} p z => by have := hs a j z; omega
  exact ⟨h1, ⟨(s.R _ _ (n (by omega))).trans h2, (s.R _ _ (n (by omega))).trans h3, (s.R _ _ (n (by omega))).trans h4⟩, ⟨h5.sm s (n (by omega)) (n (by omega)) (fun j => n (by omega)), h6, h7⟩, ⟨h8.sm s (n (by omega)) (n (by omega)) (fun j => n (by omega)), h9, h10⟩, h11.sm s (n (by omega))⟩
/-- a memory of the class's references and the others' numbers -/
theorem lo_sq (s : Sm S M N) : Sq S M (mN N, N.2.1, N.2.2.1, N.2.2.2.1, N.2.2.2.2.1, M.2.2.2.2.2) := Sq.mk ⟨s.n, s.k, s.l, fun _ _ => rfl, fun a j ha => ⟨s.I a j ha, s.J a j ha⟩⟩
theorem MD.lo (h : MD M dk) (s : Sm S M N) (hs : ∀ a j, S a j → a < 198) : MD N dk := by
  have n : ∀ {a j}, 198 ≤ a → ¬ S a j := fun {a j} p z => by have := hs a j z; omega
  have := MD.sq h (lo_sq s) ⟨n (by omega), n (by omega), n (by omega), n (by omega)⟩ (fun j => ⟨n (by omega), n (by omega)⟩) ⟨n (by omega), n (by omega)⟩ (fun j _ _ => n (by omega)) (fun j _ _ => n (by omega)) (fun j _ _ => ⟨n (by omega), n (by omega)⟩) (fun j _ _ => ⟨n (by omega), n (by omega), n (by omega)⟩)
  cases dk with
  | none => exact this
  | some D => exact this
theorem MTz.lo (h : MTz M x) (s : Sm S M N) (hs : ∀ a j, S a j → a < 198) : MTz N x := by
  have n : ∀ {a j}, 198 ≤ a → ¬ S a j := fun {a j} p z => by have := hs a j z; omega
  have := MTz.sq h (lo_sq s) ⟨n (by omega), n (by omega), fun j => ⟨n (by omega), n (by omega)⟩⟩ (fun j _ => ⟨n (by omega), n (by omega)⟩) (fun j => ⟨n (by omega), n (by omega), n (by omega)⟩) (fun j => n (by omega)) (n (by omega)) (fun j => ⟨n (by omega), n (by omega), n (by omega), n (by omega)⟩) (fun j => n (by omega))
  exact this
theorem RX.lo (h : RX M e c u w dk x) (s : Sm S M N) (hs : ∀ a j, S a j → a < 198) : RX N e c u w dk x := by
  have n : ∀ {a j}, 198 ≤ a → ¬ S a j := fun {a j} p z => by have := hs a j z; omega
  obtain ⟨h1, h2, h3, h4, h5, h6, h7, h8⟩ := h
  exact ⟨⟨fun a p p2 => (s.K a).trans (h1.k a p p2), fun a p p2 => (s.L a).trans (h1.l a p p2), fun j => (s.R _ _ (n (by omega))).trans (h1.r j)⟩, (s.I _ _ (n (by omega))).trans h2, fun i hi => (s.I _ _ (n (by omega))).trans (h3 i hi), (s.I _ _ (n (by omega))).trans h4, fun i hi => (s.I _ _ (n (by omega))).trans (h5 i hi), MD.lo h6 s hs, h7.lo s hs, fun i hi => (s.I _ _ (n (by omega))).trans (h8 i hi)⟩
/-- what the reference does leaves the class alone -/
theorem C_hi (hX : CXs M kp op dk x) (hI : CIi M) (hW : CWr M o m q e c u w) (s : Sm S M N) (hs : ∀ a j, S a j → 198 ≤ a) : CXs N kp op dk x ∧ CIi N ∧ CWr N o m q e c u w := ⟨hX.sm s (fun a j z => ⟨by have := hs a j z; omega, fx_hi (hs a j z)⟩) (fun a j z => by have := hs a j z; omega), hI.sm s (fun j z => by have := hs _ _ z; omega), hW.sm s (fun a j z => by have := hs a j z; omega)⟩
end JV1
