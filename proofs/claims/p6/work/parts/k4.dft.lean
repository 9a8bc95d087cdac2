/-! the start: the DEFAULT tables -/
def okT (k : Nat) : Bool := mI mB (107 + 5 * k) 0 == iI (dft k).1 && (List.range (2 ^ (dft k).1)).all fun q => mI mB (107 + 5 * k + 1) q == iI (((dft k).2.2.2 q : Int) * 65536 + (dft k).2.2.1 q * 256 + (dft k).2.1 q)
set_option maxRecDepth 1000000 in
theorem okT1 : okT 1 = true := by decide +kernel
set_option maxRecDepth 1000000 in
theorem okT0 : okT 0 = true := by decide +kernel
set_option maxRecDepth 1000000 in
theorem okT2 : okT 2 = true := by decide +kernel
theorem DfV_B : DfV mB := by
  intro k hk
  have h : okT k = true := by
    have : k = 0 ∨ k = 1 ∨ k = 2 := by omega
    rcases this with rfl | rfl | rfl
    · exact okT0
    · exact okT1
    · exact okT2
  unfold okT at h
  rw [Bool.and_eq_true] at h
  exact ⟨eq_of_beq h.1, fun q hq => eq_of_beq (rng h.2 hq)⟩
