/-! the start, as facts -/
section START2
theorem nA_k (M : Mem) (k n a : Nat) : mK (nA M k n) a = (if a = mN M then k else mK M a) := rfl
theorem nA_i (M : Mem) (k n a j : Nat) : mI (nA M k n) a j = (if a = mN M then 0 else mI M a j) := rfl
theorem nA_r (M : Mem) (k n a j : Nat) : mR (nA M k n) a j = (if a = mN M then none else mR M a j) := rfl
theorem nA_n (M : Mem) (k n : Nat) : mN (nA M k n) = mN M + 1 := rfl
theorem getD_far {α : Type} (d : α) : ∀ (l : List α) (j : Nat), l.length ≤ j → l.getD j d = d
  | [], _, _ => rfl
  | _ :: _, 0, h => absurd h (Nat.not_succ_le_zero _)
  | _ :: l, j + 1, h => getD_far d l j (Nat.le_of_succ_le_succ h)
theorem kqA : Kq (nA m0 12 0) mA := kq_fX12_init () mA hA
theorem kqB : Kq (nA mA 13 0) mB := kq_fX13_init () mB hB
theorem st_B {a : Nat} (ha : a < 10) (j : Nat) : mI mB a j = (stLit a).getD j 0 := by
  have k0 : mK (nA m0 12 0) a = 21 := by
    show (if a = 11 then 12 else (if a < 11 then (if a = 10 then 22 else 21) else 99)) = 21
    rw [if_neg (by omega), if_pos (by omega), if_neg (by omega)]
  have i0 : mI (nA m0 12 0) a j = (stLit a).getD j 0 := by
    show (if a = 11 then 0 else (stLit a).getD j 0) = _
    rw [if_neg (by omega)]
  obtain ⟨a1, a2, -⟩ := kqA.2 a (by show a < 12; omega)
  have k1 : mK (nA mA 13 0) a = 21 := by
    rw [nA_k, hAn, if_neg (by omega), a1, k0]
  have i1 : mI (nA mA 13 0) a j = mI mA a j := by
    rw [nA_i, hAn, if_neg (by omega)]
  obtain ⟨-, b2, -⟩ := kqB.2 a (by rw [nA_n, hAn]; omega)
  rw [b2 k1 j, i1, a2 k0 j, i0]
theorem rR_B {j : Nat} (hj : 100 ≤ j) : mR mB 198 j = none := by
  have k1 : mK (nA mA 13 0) 198 = 13 := by
    rw [nA_k, hAn, if_pos rfl]
  have i1 : mR (nA mA 13 0) 198 j = none := by
    rw [nA_r, hAn, if_pos rfl]
  obtain ⟨-, -, b3⟩ := kqB.2 198 (by rw [nA_n, hAn]; omega)
  rw [b3 k1 j hj, i1]
theorem R0_far {j : Nat} (hj : 100 ≤ j) : R0 j = none := by
  unfold R0
  exact getD_far _ _ j (by show 73 ≤ j; omega)
theorem okAnd : okC mB = true ∧ okS mB = true ∧ okM mB = true ∧ okZ mB = true := by
  have h := okAll
  rw [Bool.and_eq_true, Bool.and_eq_true, Bool.and_eq_true] at h
  exact ⟨h.1, h.2.1, h.2.2.1, h.2.2.2⟩
theorem rng {n i : Nat} {f : Nat → Bool} (h : (List.range n).all f = true) (hi : i < n) : f i = true := List.all_eq_true.mp h i (List.mem_range.mpr hi)
theorem fx_r {a j : Nat} (h1 : 11 ≤ a) (h2 : a < 198) (h : fx a j) : j < 12 ∧ fxB a j = true := by
  have hh : ∀ i, i < 187 → hiC (11 + i) < 12 := by decide +kernel
  have := hh (a - 11) (by omega)
  rw [show 11 + (a - 11) = a by omega] at this
  rcases h with ⟨q1, q2⟩ | ⟨q1, q2⟩
  · refine ⟨by omega, ?_⟩
    unfold fxB
    rw [q1, q2]
    rfl
  · refine ⟨by omega, ?_⟩
    unfold fxB
    rw [Nat.ble_eq.mpr q1, Nat.ble_eq.mpr q2]
    exact Bool.or_true _
theorem CSt_B : CSt mB := by
  obtain ⟨h1, h2, -, -⟩ := okAnd
  have g : ∀ a, 11 ≤ a → a < 198 → mK mB a = KC a ∧ mL mB a = LC a ∧ ∀ j, fx a j → mR mB a j = some (RC a j) := fun a ha hb => by
    have := rng h1 (show a - 11 < 187 by omega)
    rw [show 11 + (a - 11) = a by omega, Bool.and_eq_true, Bool.and_eq_true] at this
    obtain ⟨x1, x2, x3⟩ := this
    refine ⟨Nat.eq_of_beq_eq_true x1, Nat.eq_of_beq_eq_true x2, fun j hj => ?_⟩
    obtain ⟨y1, y2⟩ := fx_r ha hb hj
    have := rng x3 y1
    rw [y2] at this
    exact eq_of_beq this
  refine ⟨fun a ha hb => (g a ha hb).1, fun a ha hb => (g a ha hb).2.1, fun a j ha hb hj => (g a ha hb).2.2 j hj, fun a ha => ?_⟩
  have := rng h2 ha
  rw [Bool.and_eq_true] at this
  exact ⟨Nat.eq_of_beq_eq_true this.1, Nat.eq_of_beq_eq_true this.2, st_B ha⟩
theorem RSt_B : RSt mB := by
  obtain ⟨-, -, h3, -⟩ := okAnd
  unfold okM at h3
  rw [Bool.and_eq_true] at h3
  obtain ⟨h3, h4⟩ := h3
  have g : ∀ a, 198 ≤ a → a < 241 → mK mB a = K0 a ∧ mL mB a = L0 a := fun a ha hb => by
    have := rng h3 (show a - 198 < 43 by omega)
    rw [show 198 + (a - 198) = a by omega, Bool.and_eq_true] at this
    exact ⟨Nat.eq_of_beq_eq_true this.1, Nat.eq_of_beq_eq_true this.2⟩
  refine ⟨fun a ha hb => (g a ha hb).1, fun a ha hb => (g a (by omega) hb).2, fun j => ?_⟩
  by_cases hj : j < 100
  · exact eq_of_beq (rng h4 hj)
  · rw [rR_B (by omega), R0_far (by omega)]
end START2
