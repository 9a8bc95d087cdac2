/-! the start, and the law -/
section LAW
variable {xs : Nat → Int32} {L : Nat} {M : Mem} {Q : Int32 → Mem → Prop} {g : Option Nat × Option Nat × Option Nat × Int32 → Mem → Option (Int32 × Mem)}
theorem JV_B : JV mB := by
  obtain ⟨-, -, -, h⟩ := okAnd
  unfold okZ at h
  simp only [Bool.and_eq_true] at h
  obtain ⟨hz, j1, j2, j3, j4, r0, r1, r2, r8, r9⟩ := h
  have z : ∀ a j, (a, j) ∈ [(12, 1), (14, 1), (142, 1), (170, 3), (125, 2), (136, 0), (136, 1), (136, 2), (209, 0), (206, 0), (206, 1), (206, 2), (198, 1), (198, 3), (198, 46), (198, 27), (198, 28), (198, 29), (31, 0), (31, 1), (31, 2), (31, 3), (31, 4), (31, 5), (31, 6), (31, 7), (31, 8), (31, 9), (31, 10), (31, 11), (221, 0), (221, 1), (221, 2), (221, 3), (221, 4), (221, 5), (221, 6), (221, 7), (221, 8), (221, 9), (221, 10), (221, 11)] → mI mB a j = iI 0 := fun a j hm => eq_of_beq (List.all_eq_true.mp hz (a, j) hm)
  have z3 : ∀ a, (a = 136 ∨ a = 206) → ∀ k, k < 3 → mI mB a k = iI 0 := fun a ha k hk => by
    have : k = 0 ∨ k = 1 ∨ k = 2 := by omega
    rcases ha with rfl | rfl <;> rcases this with rfl | rfl | rfl <;> exact z _ _ (by decide)
  have z12 : ∀ a, (a = 31 ∨ a = 221) → ∀ k, k < 12 → mI mB a k = iI 0 := fun a ha k hk => by
    have : k = 0 ∨ k = 1 ∨ k = 2 ∨ k = 3 ∨ k = 4 ∨ k = 5 ∨ k = 6 ∨ k = 7 ∨ k = 8 ∨ k = 9 ∨ k = 10 ∨ k = 11 := by omega
    rcases ha with rfl | rfl <;> rcases this with rfl | rfl | rfl | rfl | rfl | rfl | rfl | rfl | rfl | rfl | rfl | rfl <;> exact z _ _ (by decide)
  have zJ : ∀ i, i < 3 → mJ mB 220 i = iJ 0 := fun i hi => by
    have : i = 0 ∨ i = 1 ∨ i = 2 := by omega
    rcases this with rfl | rfl | rfl
    · exact eq_of_beq j2
    · exact eq_of_beq j3
    · exact eq_of_beq j4
  have hC := CSt_B
  have hr : ∀ r, (r = 12 ∨ r = 14 ∨ r = 16) → RS mB r (r + 1) 8000 := fun r h => by
    rcases h with rfl | rfl | rfl
    · exact ⟨hC.k 12 (by decide) (by decide), hC.r 12 0 (by decide) (by decide) (Or.inl ⟨rfl, rfl⟩), hC.k 13 (by decide) (by decide), hC.l 13 (by decide) (by decide)⟩
    · exact ⟨hC.k 14 (by decide) (by decide), hC.r 14 0 (by decide) (by decide) (Or.inl ⟨rfl, rfl⟩), hC.k 15 (by decide) (by decide), hC.l 15 (by decide) (by decide)⟩
    · exact ⟨hC.k 16 (by decide) (by decide), hC.r 16 0 (by decide) (by decide) (Or.inl ⟨rfl, rfl⟩), hC.k 17 (by decide) (by decide), hC.l 17 (by decide) (by decide)⟩
  have no : ∀ {P : Nat → Prop} (i : Nat), i < 0 → P i := fun i hi => absurd hi (Nat.not_lt_zero i)
  have hT : TLc mB xZ := ⟨⟨z 125 2 (by decide), fun C h => by cases h⟩, fun k hk => ⟨z3 136 (Or.inl rfl) k hk, fun T h => by cases h⟩, fun j h1 h2 h3 => z12 31 (Or.inl rfl) j h1, ⟨⟨z12 31 (Or.inl rfl) 4 (by omega), fun i j h => absurd h (Nat.not_lt_zero i)⟩, fun i hi => z12 31 (Or.inl rfl) (6 + i) (by omega)⟩⟩
  have hM : MTz mB xZ := ⟨⟨z 209 0 (by decide), fun C h => by cases h⟩, fun k hk => ⟨z3 206 (Or.inr rfl) k hk, fun T h => by cases h⟩, fun j h1 h2 h3 => z12 221 (Or.inr rfl) j h1, ⟨z12 221 (Or.inr rfl) 4 (by omega), z 198 46 (by decide), fun i h => absurd h (Nat.not_lt_zero i)⟩, fun i hi => zJ i hi⟩
  exact ⟨12, 14, 16, 0, 0, fun _ => 0, fun _ => 0, none, none, none, xZ, ⟨hC, DfV_B, eq_of_beq r8, eq_of_beq r9, rfl, fun k h => (by cases h), z 142 1 (by decide), hT, Or.inl ⟨rfl, fun k hk => rfl⟩, Nat.zero_le _⟩, ⟨eq_of_beq j1, z 170 3 (by decide)⟩, ⟨⟨by omega, by omega, by omega, by omega, by omega, by omega⟩, ⟨eq_of_beq r0, eq_of_beq r1, eq_of_beq r2⟩, ⟨⟨hr 12 (by omega), z 12 1 (by decide), fun i hi => absurd hi (Nat.not_lt_zero i)⟩, Nat.zero_le _, fun i => by show 0 < 256; omega⟩, ⟨⟨hr 14 (by omega), z 14 1 (by decide), fun i hi => absurd hi (Nat.not_lt_zero i)⟩, Nat.zero_le _, fun i => by show 0 < 256; omega⟩, hr 16 (by omega)⟩, ⟨RSt_B, z 198 1 (by decide), fun i hi => absurd hi (Nat.not_lt_zero i), z 198 3 (by decide), fun i hi => absurd hi (Nat.not_lt_zero i), ⟨z 198 27 (by decide), z 198 28 (by decide), z 198 29 (by decide)⟩, hM, fun i hi => z12 221 (Or.inr rfl) (6 + i) (by omega)⟩⟩
theorem sx_ex {a : Int} (h : 0 ≤ a ∧ a < L) (hL : L ≤ 2048) : ∃ v, sx xs L (some 10) (iI a) = some v := by
  have ez : (0 : Int32) = iI 0 := iI_lit 0
  refine ⟨xs (iI a).toNatClampNeg, if_pos ⟨rfl, ?_⟩⟩
  rintro (z | z)
  · rw [ez, iI_lt (by omega) (by omega)] at z
    omega
  · rw [iI_clamp (by omega)] at z
    omega
theorem sxl_ok : sxl L (some 10) = some (iI L) := by
  rw [sxl, if_pos rfl, iI_nat]
set_option maxHeartbeats 4000000 in
theorem lawB {p v0 v1 v2 v3 : Int32} (hJ : JV M) (c2 : ¬ (iI L - 4 < p)) (s0 : sx xs L (some 10) p = some v0) (s1 : sx xs L (some 10) (p + 1) = some v1) (s2 : sx xs L (some 10) (p + 2) = some v2) (s3 : sx xs L (some 10) (p + 3) = some v3) (h6 : ∀ N, JV N → Wp (fL_law_L650 xs L g (some 10) (some 11) (some 198) p N) Q) :
    Wp (fL_law_B18 xs L g (some 10) (some 11) (some 198) p M) Q := by
  have k11 : mK M 11 = 12 := by
    obtain ⟨o, m, q, e, c, u, w, kp, op, dk, x, hX, -⟩ := hJ
    exact hX.1.k 11 (by decide) (by decide)
  unfold fL_law_B18
  rw [sxl_ok, bo_s, if_neg c2, s0, bo_s]
  unfold swi
  by_cases hu : (v0 &&& 31).toInt < 0 ∨ 17 < (v0 &&& 31).toInt
  · rw [if_pos hu]
    exact h6 M hJ
  · rw [if_neg hu]
    have hz : (v0 &&& 31).toInt.toNat < 18 := by omega
    clear hu s0 c2
    revert hz
    generalize (v0 &&& 31).toInt.toNat = z
    intro hz
    match z, hz with
    | 0, _ =>
      obtain ⟨a, N, r1, k2, b, O, r2, rE, hO⟩ := J_feed hJ ((shlJ v1.toInt64 32) ||| (v2.toInt64 &&& 4294967295)) v3
      subst rE
      simp only [s1, s2, s3, chk, bo, bd, k11, r1, k2, r2, if_true]
      exact h6 O hO
    | 1, _ =>
      obtain ⟨a, N, r1, k2, b, O, r2, rE, hO⟩ := J_fill hJ v1 v2 v3
      subst rE
      simp only [s1, s2, s3, chk, bo, bd, k11, r1, k2, r2, if_true]
      exact h6 O hO
    | 2, _ =>
      obtain ⟨a, N, r1, k2, b, O, r2, rE, hO⟩ := J_size hJ
      subst rE
      simp only [s1, s2, s3, chk, bo, bd, k11, r1, k2, r2, if_true]
      exact h6 O hO
    | 3, _ =>
      obtain ⟨a, N, r1, k2, b, O, r2, rE, hO⟩ := J_set hJ v1 v2
      subst rE
      simp only [s1, s2, s3, chk, bo, bd, k11, r1, k2, r2, if_true]
      exact h6 O hO
    | 4, _ =>
      obtain ⟨a, N, r1, k2, b, O, r2, rE, hO⟩ := J_cut hJ v1
      subst rE
      simp only [s1, s2, s3, chk, bo, bd, k11, r1, k2, r2, if_true]
      exact h6 O hO
    | 5, _ =>
      obtain ⟨a, N, r1, k2, b, O, r2, rE, hO⟩ := J_again hJ v1 v2
      subst rE
      simp only [s1, s2, s3, chk, bo, bd, k11, r1, k2, r2, if_true]
      exact h6 O hO
    | 6, _ =>
      obtain ⟨a, N, r1, k2, b, O, r2, rE, hO⟩ := J_swap hJ
      subst rE
      simp only [s1, s2, s3, chk, bo, bd, k11, r1, k2, r2, if_true]
      exact h6 O hO
    | 7, _ =>
      obtain ⟨a, N, r1, k2, b, O, r2, rE, hO⟩ := J_differ hJ
      subst rE
      simp only [s1, s2, s3, chk, bo, bd, k11, r1, k2, r2, if_true]
      exact h6 O hO
    | 8, _ =>
      obtain ⟨a, N, r1, k2, b, O, r2, hO⟩ := J_keep hJ
      simp only [s1, s2, s3, chk, bo, bd, k11, r1, k2, r2, if_true]
      exact h6 O hO
    | 9, _ =>
      obtain ⟨a, N, r1, k2, b, O, r2, hO⟩ := J_open hJ ((shlJ v1.toInt64 32) ||| (v2.toInt64 &&& 4294967295))
      simp only [s1, s2, s3, chk, bo, bd, k11, r1, k2, r2, if_true]
      exact h6 O hO
    | 10, _ =>
      obtain ⟨a, N, r1, k2, b, O, r2, hO⟩ := J_place hJ
      simp only [s1, s2, s3, chk, bo, bd, k11, r1, k2, r2, if_true]
      exact h6 O hO
    | 11, _ =>
      obtain ⟨a, N, r1, k2, b, O, r2, rE, hO⟩ := J_pack hJ v1 v2
      subst rE
      simp only [s1, s2, s3, chk, bo, bd, k11, r1, k2, r2, if_true]
      exact h6 O hO
    | 12, _ =>
      obtain ⟨a, N, r1, k2, b, O, r2, rE, hO⟩ := J_out hJ v1
      subst rE
      simp only [s1, s2, s3, chk, bo, bd, k11, r1, k2, r2, if_true]
      exact h6 O hO
    | 13, _ =>
      by_cases hv : v1 = 0
      · obtain ⟨a, N, r1, k2, b, O, r2, rE, hO⟩ := J_sum hJ 0
        subst rE
        simp only [s1, hv, chk, bo, bd, k11, r1, k2, r2, if_true, fL_law_L521, fL_law_L503]
        exact h6 O hO
      · obtain ⟨a, N, r1, k2, b, O, r2, rE, hO⟩ := J_sum hJ 1
        subst rE
        simp only [s1, hv, chk, bo, bd, k11, r1, k2, r2, if_true, if_false, fL_law_L521, fL_law_L503]
        exact h6 O hO
    | 14, _ =>
      obtain ⟨a, N, r1, k2, b, O, r2, rE, hO⟩ := J_told hJ v1
      subst rE
      simp only [s1, s2, s3, chk, bo, bd, k11, r1, k2, r2, if_true]
      exact h6 O hO
    | 15, _ =>
      obtain ⟨a, N, r1, k2, b, O, r2, rE, hO⟩ := J_sequence hJ v1 v2
      subst rE
      simp only [s1, s2, s3, chk, bo, bd, k11, r1, k2, r2, if_true]
      exact h6 O hO
    | 16, _ =>
      obtain ⟨a, N, r1, k2, b, O, r2, rE, hO⟩ := J_table hJ v1 v2 v3
      subst rE
      simp only [s1, s2, s3, chk, bo, bd, k11, r1, k2, r2, if_true]
      exact h6 O hO
    | 17, _ =>
      obtain ⟨a, N, r1, k2, b, O, r2, rE, hO⟩ := J_bits hJ v1
      subst rE
      simp only [s1, s2, s3, chk, bo, bd, k11, r1, k2, r2, if_true]
      exact h6 O hO
    | z + 18, h => exact absurd h (by omega)
theorem law18 (hL : L ≤ 2048) : Wp (fL_law_L18 xs L (some 10) (some 11) (some 198) 0 mB) fun v _ => v = 1 := by
  unfold fL_law_L18
  have e1 : (1 : Int32) = iI 1 := iI_lit 1
  have e2 : (2 : Int32) = iI 2 := iI_lit 2
  have e3 : (3 : Int32) = iI 3 := iI_lit 3
  have e4 : (4 : Int32) = iI 4 := iI_lit 4
  refine w_lpF (fun d y M => ∃ t : Nat, t + d = 600 ∧ 4 * t ≤ 2048 ∧ y = (some 10, some 11, some 198, iI ((4 * t : Nat) : Int)) ∧ JV M) 600 (by omega) ⟨0, by omega, by omega, ?_, JV_B⟩ ?_
  · have e : (0 : Int32) = iI ((4 * 0 : Nat) : Int) := iI_lit 0
    rw [← e]
  · rintro g d y M ⟨t, h1, h2, rfl, hJ⟩ ih
    show Wp (fL_law_B18 xs L g (some 10) (some 11) (some 198) (iI ((4 * t : Nat) : Int)) M) _
    by_cases c2 : iI (L : Int) - 4 < iI ((4 * t : Nat) : Int)
    · unfold fL_law_B18
      rw [sxl_ok, bo_s, if_pos c2]
      exact w_ret rfl
    · have hlt : 4 * t + 4 ≤ L := by
        rw [e4, iI_sub, iI_lt (by omega) (by omega)] at c2
        omega
      obtain ⟨v0, s0⟩ := sx_ex (xs := xs) (L := L) (a := ((4 * t : Nat) : Int)) ⟨by omega, by omega⟩ hL
      obtain ⟨v1, s1⟩ := sx_ex (xs := xs) (L := L) (a := ((4 * t : Nat) : Int) + 1) ⟨by omega, by omega⟩ hL
      obtain ⟨v2, s2⟩ := sx_ex (xs := xs) (L := L) (a := ((4 * t : Nat) : Int) + 2) ⟨by omega, by omega⟩ hL
      obtain ⟨v3, s3⟩ := sx_ex (xs := xs) (L := L) (a := ((4 * t : Nat) : Int) + 3) ⟨by omega, by omega⟩ hL
      rw [← iI_add, ← e1] at s1
      rw [← iI_add, ← e2] at s2
      rw [← iI_add, ← e3] at s3
      refine lawB hJ c2 s0 s1 s2 s3 fun N hN => ?_
      unfold fL_law_L650
      have e : iI ((4 * t : Nat) : Int) + 4 = iI ((4 * (t + 1) : Nat) : Int) := by
        rw [e4, iI_add]
        exact congrArg iI (by omega)
      show Wp (g (some 10, some 11, some 198, iI ((4 * t : Nat) : Int) + 4) N) _
      rw [e]
      exact ih (d - 1) _ _ (by omega) ⟨t + 1, by omega, by omega, rfl, hN⟩
theorem law_fun : ∀ (L : Nat) (xs : Nat → Int32), L ≤ 2048 → ∃ M, fL_law xs L (some 10) m0 = some (1, M) := by
  intro L xs hL
  obtain ⟨v, N, e, hv⟩ := law18 (xs := xs) hL
  have hv : v = 1 := hv
  subst hv
  refine ⟨N, ?_⟩
  have e1 : fL_law xs L (some 10) m0 = fL_law_L18 xs L (some 10) (some 11) (some 198) 0 mB := by
    have a1 : nw m0 12 = some (some 11, nA m0 12 0) := rfl
    have a2 : nw mA 13 = some (some 198, nA mA 13 0) := by rw [nw, hAn]
    simp only [fL_law, a1, bd, chk0, bo, hA, bn, a2, hB]
  rw [e1]
  exact e
end LAW
