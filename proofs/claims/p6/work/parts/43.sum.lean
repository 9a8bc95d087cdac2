/-! THE SUM, over the bytes of g -/
def itr {α : Type} (st : Nat → α → α) : Nat → Nat → α → α
  | 0, _, x => x
  | k + 1, f, x => itr st k (f + 1) (st f x)
def tu (v : Int64) (n : Int32) : Int64 := (shlJ v n) ||| (ushJ v (64 - n))
def rd (a v : Int64) : Int64 := tu (a + (v * ((-4417276706812531889)))) 31 * ((-7046029288634856825))
def e4 (a b c d : Int64) : Int64 := ((((((((((tu a (iI 1) + tu b (iI 7)) + tu c (iI 12)) + tu d (iI 18)) ^^^ rd 0 a) * ((-7046029288634856825))) + ((-8796714831421723037))) ^^^ rd 0 b) * ((-7046029288634856825)) + ((-8796714831421723037))) ^^^ rd 0 c) * ((-7046029288634856825)) + ((-8796714831421723037)) ^^^ rd 0 d) * ((-7046029288634856825)) + ((-8796714831421723037))
def e1 (h : Int64) : Int64 := ((h ^^^ ushJ h (iI 33)) * (-4417276706812531889) ^^^ ushJ ((h ^^^ ushJ h (iI 33)) * (-4417276706812531889)) (iI 29)) * 1609587929392839161 ^^^ ushJ (((h ^^^ ushJ h (iI 33)) * (-4417276706812531889) ^^^ ushJ ((h ^^^ ushJ h (iI 33)) * (-4417276706812531889)) (iI 29)) * 1609587929392839161) (iI 32)
def c8 (h v : Int64) : Int64 := tu (h ^^^ rd 0 v) (iI 27) * ((-7046029288634856825)) + ((-8796714831421723037))
def c2 (h v : Int64) : Int64 := tu (h ^^^ (v * ((-7046029288634856825)))) (iI 23) * ((-4417276706812531889)) + 1609587929392839161
def c1 (h v : Int64) : Int64 := tu (h ^^^ (v * 2870177450012600261)) (iI 11) * ((-7046029288634856825))
def e0 : Int64 := 2870177450012600261
def nJ (g : Nat → Nat) (f k : Nat) : Int64 := iJ (num g f k)
def q4 (g : Nat → Nat) (F j : Nat) (q : Int64 × Int64 × Int64 × Int64) : Int64 × Int64 × Int64 × Int64 := (rd q.1 (nJ g (F + 32 * j) 8), rd q.2.1 (nJ g (F + 32 * j + 8) 8), rd q.2.2.1 (nJ g (F + 32 * j + 16) 8), rd q.2.2.2 (nJ g (F + 32 * j + 24) 8))
def f4 (q : Int64 × Int64 × Int64 × Int64) : Int64 := e4 q.1 q.2.1 q.2.2.1 q.2.2.2
def q0 : Int64 × Int64 × Int64 × Int64 := (6983438078262162902, (-4417276706812531889), 0, 7046029288634856825)
def sumA (g : Nat → Nat) (F n : Nat) : Int64 := (if n < 32 then e0 else f4 (itr (q4 g F) (n / 32) 0 q0)) + iJ n
def sumB (g : Nat → Nat) (F n : Nat) (h : Int64) : Int64 := itr (fun j h => c8 h (nJ g (F + 8 * j) 8)) (n / 8) 0 h
def sumC (g : Nat → Nat) (F n : Nat) (h : Int64) : Int64 := itr (fun j h => c2 h (nJ g (F + 4 * j) 4)) (n / 4) 0 h
def sumD (g : Nat → Nat) (F n : Nat) (h : Int64) : Int64 := itr (fun j h => c1 h (iJ (g (F + j)))) n 0 h
def sumS (g : Nat → Nat) (F n : Nat) : Int64 := e1 (sumD g (F + n / 4 * 4) (n % 4) (sumC g (F + n / 8 * 8) (n % 8) (sumB g (F + n / 32 * 32) (n % 32) (sumA g F n))))
theorem tuX (v : Int64) (n : Int32) (M : Mem) : fX12_turn v n M = some (tu v n, M) := rfl
theorem tuM (v : Int64) (n : Int32) (M : Mem) : fX13_turn v n M = some (tu v n, M) := rfl
theorem rdX (a v : Int64) (M : Mem) : fX12_round a v M = some (rd a v, M) := rfl
theorem rdM (a v : Int64) (M : Mem) : fX13_round a v M = some (rd a v, M) := rfl
theorem number_n {M : Mem} {r b n : Nat} (h : RS M r b n) (hn : n < 1000000) {f k : Nat} {e e2 : Int} (hk : k ≤ 8) (hf : f < 1000000000) (he : e = f) (he2 : e2 = k) : fX8_number (some r) (iI e) (iI e2) M = some (nJ (fun i => gB M b n i) f k, M) := by
  rw [he, he2]; exact number_ok h hn f k hk hf
theorem eight_n {M : Mem} {b n : Nat} (h1 : mK M b = 14) (h2 : mL M b = n) (hn : n < 1000000) {f k : Nat} {e e2 : Int} (hk : k ≤ 8) (hf : f + k ≤ n) (he : e = f) (he2 : e2 = k) : fX13_eight (some b) (iI e) (iI e2) M = some (nJ (fun i => gB M b n i) f k, M) := by
  rw [he, he2]; exact eight_ok h1 h2 hn f k hk hf
theorem q4_s {g : Nat → Nat} {F j : Nat} {A B C D : Int64} : q4 g F j (A, B, C, D) = (rd A (nJ g (F + 32 * j) 8), rd B (nJ g (F + 32 * j + 8) 8), rd C (nJ g (F + 32 * j + 16) 8), rd D (nJ g (F + 32 * j + 24) 8)) := rfl
theorem s4X {M : Mem} {r b n : Nat} (h : RS M r b n) (hn : n < 1000000) (k F : Nat) (Z : Int64 × Int64 × Int64 × Int64) (hk : F + 32 * k < 1000000) : fX8_sumOfLong_L20 (some r) (iI ((F + 32 * k : Nat) : Int)) Z.1 Z.2.1 Z.2.2.1 Z.2.2.2 (iI F) M = some (f4 (itr (q4 (fun i => gB M b n i) F) k 0 Z), M) := by
  apply Wp.eq
  unfold fX8_sumOfLong_L20
  refine w_lpF (fun d x M' => ∃ t A B C D, t + d = k ∧ M' = M ∧ x = (some r, iI ((F + 32 * k : Nat) : Int), A, B, C, D, iI ((F + 32 * t : Nat) : Int)) ∧ itr (q4 (fun i => gB M b n i) F) d t (A, B, C, D) = itr (q4 (fun i => gB M b n i) F) k 0 Z) k (by omega) ⟨0, _, _, _, _, by omega, rfl, rfl, rfl⟩ ?_
  rintro g d x M' ⟨t, A, B, C, D, hi, rfl, rfl, hs⟩ ih
  have h1 := h.1
  by_cases q : d = 0
  · subst q
    simp -implicitDefEqProofs (disch := (first | decide | omega)) only [fX8_sumOfLong_B20, tuX, rdX, bo_s, bd_s, bn_s, gI_s, gJ_s, gR_s, pI_s, pZ_s, pJ_s, pR_s, chk_s, chN_s, chN_n, aL_s, aI_c, aJ_c, aR_c, wI_c, wB_c, wS_c, wZ_c, wJ_c, wR_c, mK_sI, mK_sJ, mK_sR, mK_cpI, mL_sI, mL_sJ, mL_sR, mL_cpI, mI_sI, mI_sJ, mI_sR, mI_cpI, mJ_sI, mJ_sJ, mJ_sR, mJ_cpI, mR_sI, mR_sJ, mR_sR, mR_cpI, i2b_i2b, i2b_sb, iI_lit, iI_add, iI_sub, iI_mul, iI_neg, iI_lt, iI_le, iI_eq, iI_J, lt_T, lt_F, le_T, le_F, eq_T, eq_F, eqN_T, eqN_F, leN_T, leN_F, ltN_T, ltN_F, if_true, if_false, and_true, true_and, and_false, false_and, or_true, true_or, or_false, false_or, not_true_eq_false, not_false_eq_true, and_self, or_self, tn_c, ne_eq, dite_true, dite_false]
    refine w_ret ⟨?_, rfl⟩
    rw [← hs, itr, f4, e4]
  · have e0 := number_n h hn (f := F + 32 * t) (k := 8) (e := ((F + 32 * t : Nat) : Int)) (e2 := 8) (by omega) (by omega) rfl rfl
    have e1 := number_n h hn (f := F + 32 * t + 8) (k := 8) (e := ((F + 32 * t : Nat) : Int) + 8) (e2 := 8) (by omega) (by omega) (by omega) rfl
    have e2 := number_n h hn (f := F + 32 * t + 16) (k := 8) (e := ((F + 32 * t : Nat) : Int) + 16) (e2 := 8) (by omega) (by omega) (by omega) rfl
    have e3 := number_n h hn (f := F + 32 * t + 24) (k := 8) (e := ((F + 32 * t : Nat) : Int) + 24) (e2 := 8) (by omega) (by omega) (by omega) rfl
    simp -implicitDefEqProofs (disch := (first | decide | omega)) only [fX8_sumOfLong_B20, tuX, rdX, h1, e0, e1, e2, e3, bo_s, bd_s, bn_s, gI_s, gJ_s, gR_s, pI_s, pZ_s, pJ_s, pR_s, chk_s, chN_s, chN_n, aL_s, aI_c, aJ_c, aR_c, wI_c, wB_c, wS_c, wZ_c, wJ_c, wR_c, mK_sI, mK_sJ, mK_sR, mK_cpI, mL_sI, mL_sJ, mL_sR, mL_cpI, mI_sI, mI_sJ, mI_sR, mI_cpI, mJ_sI, mJ_sJ, mJ_sR, mJ_cpI, mR_sI, mR_sJ, mR_sR, mR_cpI, i2b_i2b, i2b_sb, iI_lit, iI_add, iI_sub, iI_mul, iI_neg, iI_lt, iI_le, iI_eq, iI_J, lt_T, lt_F, le_T, le_F, eq_T, eq_F, eqN_T, eqN_F, leN_T, leN_F, ltN_T, ltN_F, if_true, if_false, and_true, true_and, and_false, false_and, or_true, true_or, or_false, false_or, not_true_eq_false, not_false_eq_true, and_self, or_self, tn_c, ne_eq, dite_true, dite_false]
    refine ih (d - 1) _ _ (by omega) ⟨t + 1, _, _, _, _, by omega, rfl, rfl, ?_⟩
    obtain ⟨d, rfl⟩ : ∃ s, d = s + 1 := ⟨d - 1, by omega⟩
    rw [itr, q4_s] at hs
    exact hs
theorem s1X {M : Mem} {r b n c : Nat} (h : RS M r b n) (hc : mI M r 1 = iI c) (hn : n < 1000000) (hc2 : c < 1000000) (k F : Nat) (Z : Int64) (hk : F + k = c) : fX8_sumFrom_L127 (some r) (iI F) Z M = some (e1 (sumD (fun i => gB M b n i) F k Z), M) := by
  apply Wp.eq
  unfold fX8_sumFrom_L127 sumD
  refine w_lpF (fun d x M' => ∃ t H, t + d = k ∧ M' = M ∧ x = (some r, iI ((F + t : Nat) : Int), H) ∧ itr (fun j h => c1 h (iJ (gB M b n (F + j : Nat)))) d t H = itr (fun j h => c1 h (iJ (gB M b n (F + j : Nat)))) k 0 Z) k (by omega) ⟨0, _, by omega, rfl, rfl, rfl⟩ ?_
  rintro g d x M' ⟨t, H, hi, rfl, rfl, hs⟩ ih
  have h1 := h.1
  by_cases q : d = 0
  · subst q
    simp -implicitDefEqProofs (disch := (first | decide | omega)) only [fX8_sumFrom_B127, h1, hc, tuX, rdX, bo_s, bd_s, bn_s, gI_s, gJ_s, gR_s, pI_s, pZ_s, pJ_s, pR_s, chk_s, chN_s, chN_n, aL_s, aI_c, aJ_c, aR_c, wI_c, wB_c, wS_c, wZ_c, wJ_c, wR_c, mK_sI, mK_sJ, mK_sR, mK_cpI, mL_sI, mL_sJ, mL_sR, mL_cpI, mI_sI, mI_sJ, mI_sR, mI_cpI, mJ_sI, mJ_sJ, mJ_sR, mJ_cpI, mR_sI, mR_sJ, mR_sR, mR_cpI, i2b_i2b, i2b_sb, iI_lit, iI_add, iI_sub, iI_mul, iI_neg, iI_lt, iI_le, iI_eq, iI_J, lt_T, lt_F, le_T, le_F, eq_T, eq_F, eqN_T, eqN_F, leN_T, leN_F, ltN_T, ltN_F, if_true, if_false, and_true, true_and, and_false, false_and, or_true, true_or, or_false, false_or, not_true_eq_false, not_false_eq_true, and_self, or_self, tn_c, ne_eq, dite_true, dite_false]
    refine w_ret ⟨?_, rfl⟩
    rw [← hs, itr, e1]
  · have e := get_ok h ((F + t : Nat) : Int) (by omega) (by omega)
    have hg := gB_lt M' b n ((F + t : Nat) : Int)
    simp -implicitDefEqProofs (disch := (first | decide | omega)) only [fX8_sumFrom_B127, h1, hc, e, tuX, rdX, bo_s, bd_s, bn_s, gI_s, gJ_s, gR_s, pI_s, pZ_s, pJ_s, pR_s, chk_s, chN_s, chN_n, aL_s, aI_c, aJ_c, aR_c, wI_c, wB_c, wS_c, wZ_c, wJ_c, wR_c, mK_sI, mK_sJ, mK_sR, mK_cpI, mL_sI, mL_sJ, mL_sR, mL_cpI, mI_sI, mI_sJ, mI_sR, mI_cpI, mJ_sI, mJ_sJ, mJ_sR, mJ_cpI, mR_sI, mR_sJ, mR_sR, mR_cpI, i2b_i2b, i2b_sb, iI_lit, iI_add, iI_sub, iI_mul, iI_neg, iI_lt, iI_le, iI_eq, iI_J, lt_T, lt_F, le_T, le_F, eq_T, eq_F, eqN_T, eqN_F, leN_T, leN_F, ltN_T, ltN_F, if_true, if_false, and_true, true_and, and_false, false_and, or_true, true_or, or_false, false_or, not_true_eq_false, not_false_eq_true, and_self, or_self, tn_c, ne_eq, dite_true, dite_false]
    refine ih (d - 1) _ _ (by omega) ⟨t + 1, _, by omega, rfl, rfl, ?_⟩
    obtain ⟨d, rfl⟩ : ∃ s, d = s + 1 := ⟨d - 1, by omega⟩
    rw [itr, c1] at hs
    exact hs
theorem s2X {M : Mem} {r b n c : Nat} (h : RS M r b n) (hc : mI M r 1 = iI c) (hn : n < 1000000) (hc2 : c < 1000000) (k F : Nat) (Z : Int64) (hk : F + k = c) (hk8 : k < 8) : fX8_sumFrom_L85 (some r) (iI F) Z M = some (e1 (sumD (fun i => gB M b n i) (F + k / 4 * 4) (k % 4) (sumC (fun i => gB M b n i) F k Z)), M) := by
  have h1 := h.1
  apply Wp.eq
  unfold fX8_sumFrom_L85 sumC
  refine w_lpF (fun d x M' => ∃ t H, t + d = k / 4 ∧ M' = M ∧ x = (some r, iI ((F + 4 * t : Nat) : Int), H) ∧ itr (fun j h => c2 h (nJ (fun i => gB M b n i) (F + 4 * j) 4)) d t H = itr (fun j h => c2 h (nJ (fun i => gB M b n i) (F + 4 * j) 4)) (k / 4) 0 Z) (k / 4) (by omega) ⟨0, Z, by omega, rfl, rfl, rfl⟩ ?_
  rintro g d x M' ⟨t, H, hi, rfl, rfl, hs⟩ ih
  by_cases q : d = 0
  · subst q
    have e := s1X h hc hn hc2 (k % 4) (F + 4 * t) H (by omega)
    simp -implicitDefEqProofs (disch := (first | decide | omega)) only [fX8_sumFrom_B85, h1, hc, e, bo_s, bd_s, bn_s, gI_s, gJ_s, gR_s, pI_s, pZ_s, pJ_s, pR_s, chk_s, chN_s, chN_n, aL_s, aI_c, aJ_c, aR_c, wI_c, wB_c, wS_c, wZ_c, wJ_c, wR_c, mK_sI, mK_sJ, mK_sR, mK_cpI, mL_sI, mL_sJ, mL_sR, mL_cpI, mI_sI, mI_sJ, mI_sR, mI_cpI, mJ_sI, mJ_sJ, mJ_sR, mJ_cpI, mR_sI, mR_sJ, mR_sR, mR_cpI, i2b_i2b, i2b_sb, iI_lit, iI_add, iI_sub, iI_mul, iI_neg, iI_lt, iI_le, iI_eq, iI_J, lt_T, lt_F, le_T, le_F, eq_T, eq_F, eqN_T, eqN_F, leN_T, leN_F, ltN_T, ltN_F, if_true, if_false, and_true, true_and, and_false, false_and, or_true, true_or, or_false, false_or, not_true_eq_false, not_false_eq_true, and_self, or_self, tn_c, ne_eq, dite_true, dite_false]
    refine w_ret ⟨?_, rfl⟩
    rw [itr] at hs
    rw [hs, show F + 4 * t = F + k / 4 * 4 by omega]
  · have e := number_n h hn (f := F + 4 * t) (k := 4) (e := ((F + 4 * t : Nat) : Int)) (e2 := 4) (by omega) (by omega) (by omega) rfl
    simp -implicitDefEqProofs (disch := (first | decide | omega)) only [fX8_sumFrom_B85, h1, hc, e, tuX, rdX, bo_s, bd_s, bn_s, gI_s, gJ_s, gR_s, pI_s, pZ_s, pJ_s, pR_s, chk_s, chN_s, chN_n, aL_s, aI_c, aJ_c, aR_c, wI_c, wB_c, wS_c, wZ_c, wJ_c, wR_c, mK_sI, mK_sJ, mK_sR, mK_cpI, mL_sI, mL_sJ, mL_sR, mL_cpI, mI_sI, mI_sJ, mI_sR, mI_cpI, mJ_sI, mJ_sJ, mJ_sR, mJ_cpI, mR_sI, mR_sJ, mR_sR, mR_cpI, i2b_i2b, i2b_sb, iI_lit, iI_add, iI_sub, iI_mul, iI_neg, iI_lt, iI_le, iI_eq, iI_J, lt_T, lt_F, le_T, le_F, eq_T, eq_F, eqN_T, eqN_F, leN_T, leN_F, ltN_T, ltN_F, if_true, if_false, and_true, true_and, and_false, false_and, or_true, true_or, or_false, false_or, not_true_eq_false, not_false_eq_true, and_self, or_self, tn_c, ne_eq, dite_true, dite_false]
    refine ih (d - 1) _ _ (by omega) ⟨t + 1, _, by omega, rfl, rfl, ?_⟩
    obtain ⟨d, rfl⟩ : ∃ s, d = s + 1 := ⟨d - 1, by omega⟩
    rw [itr, c2] at hs
    exact hs
theorem s8X {M : Mem} {r b n c : Nat} (h : RS M r b n) (hc : mI M r 1 = iI c) (hn : n < 1000000) (hc2 : c < 1000000) (k F : Nat) (Z : Int64) (hk : F + k = c) : fX8_sumFrom_L41 (some r) (iI F) Z M = some (e1 (sumD (fun i => gB M b n i) (F + k / 4 * 4) (k % 4) (sumC (fun i => gB M b n i) (F + k / 8 * 8) (k % 8) (sumB (fun i => gB M b n i) F k Z))), M) := by
  have h1 := h.1
  apply Wp.eq
  unfold fX8_sumFrom_L41 sumB
  refine w_lpF (fun d x M' => ∃ t H, t + d = k / 8 ∧ M' = M ∧ x = (some r, iI ((F + 8 * t : Nat) : Int), H) ∧ itr (fun j h => c8 h (nJ (fun i => gB M b n i) (F + 8 * j) 8)) d t H = itr (fun j h => c8 h (nJ (fun i => gB M b n i) (F + 8 * j) 8)) (k / 8) 0 Z) (k / 8) (by omega) ⟨0, Z, by omega, rfl, rfl, rfl⟩ ?_
  rintro g d x M' ⟨t, H, hi, rfl, rfl, hs⟩ ih
  by_cases q : d = 0
  · subst q
    have e := s2X h hc hn hc2 (k % 8) (F + 8 * t) H (by omega) (by omega)
    simp -implicitDefEqProofs (disch := (first | decide | omega)) only [fX8_sumFrom_B41, h1, hc, e, bo_s, bd_s, bn_s, gI_s, gJ_s, gR_s, pI_s, pZ_s, pJ_s, pR_s, chk_s, chN_s, chN_n, aL_s, aI_c, aJ_c, aR_c, wI_c, wB_c, wS_c, wZ_c, wJ_c, wR_c, mK_sI, mK_sJ, mK_sR, mK_cpI, mL_sI, mL_sJ, mL_sR, mL_cpI, mI_sI, mI_sJ, mI_sR, mI_cpI, mJ_sI, mJ_sJ, mJ_sR, mJ_cpI, mR_sI, mR_sJ, mR_sR, mR_cpI, i2b_i2b, i2b_sb, iI_lit, iI_add, iI_sub, iI_mul, iI_neg, iI_lt, iI_le, iI_eq, iI_J, lt_T, lt_F, le_T, le_F, eq_T, eq_F, eqN_T, eqN_F, leN_T, leN_F, ltN_T, ltN_F, if_true, if_false, and_true, true_and, and_false, false_and, or_true, true_or, or_false, false_or, not_true_eq_false, not_false_eq_true, and_self, or_self, tn_c, ne_eq, dite_true, dite_false]
    refine w_ret ⟨?_, rfl⟩
    rw [itr] at hs
    rw [hs, show F + 8 * t + k % 8 / 4 * 4 = F + k / 4 * 4 by omega, show k % 8 % 4 = k % 4 by omega, show F + 8 * t = F + k / 8 * 8 by omega]
  · have e := number_n h hn (f := F + 8 * t) (k := 8) (e := ((F + 8 * t : Nat) : Int)) (e2 := 8) (by omega) (by omega) (by omega) rfl
    simp -implicitDefEqProofs (disch := (first | decide | omega)) only [fX8_sumFrom_B41, h1, hc, e, tuX, rdX, bo_s, bd_s, bn_s, gI_s, gJ_s, gR_s, pI_s, pZ_s, pJ_s, pR_s, chk_s, chN_s, chN_n, aL_s, aI_c, aJ_c, aR_c, wI_c, wB_c, wS_c, wZ_c, wJ_c, wR_c, mK_sI, mK_sJ, mK_sR, mK_cpI, mL_sI, mL_sJ, mL_sR, mL_cpI, mI_sI, mI_sJ, mI_sR, mI_cpI, mJ_sI, mJ_sJ, mJ_sR, mJ_cpI, mR_sI, mR_sJ, mR_sR, mR_cpI, i2b_i2b, i2b_sb, iI_lit, iI_add, iI_sub, iI_mul, iI_neg, iI_lt, iI_le, iI_eq, iI_J, lt_T, lt_F, le_T, le_F, eq_T, eq_F, eqN_T, eqN_F, leN_T, leN_F, ltN_T, ltN_F, if_true, if_false, and_true, true_and, and_false, false_and, or_true, true_or, or_false, false_or, not_true_eq_false, not_false_eq_true, and_self, or_self, tn_c, ne_eq, dite_true, dite_false]
    refine ih (d - 1) _ _ (by omega) ⟨t + 1, _, by omega, rfl, rfl, ?_⟩
    obtain ⟨d, rfl⟩ : ∃ s, d = s + 1 := ⟨d - 1, by omega⟩
    rw [itr, c8] at hs
    exact hs
theorem sfE (a0 : Option Nat) (a1 : Int32) (M : Mem) : fX8_sumFrom a0 a1 M = bo (gI M a0 8 1) fun v2 => bo (dv (v2 - a1) 32) fun v9 => bn (a1 + (v9 * 32)) fun v14 => if v14 ≤ a1 then fX8_sumFrom_L32 a0 a1 v14 e0 M else bo (chk M a0 8) fun _ => bd (fX8_sumOfLong a0 a1 v14 M) fun v23 M23 => fX8_sumFrom_L32 a0 a1 v14 v23 M23 := rfl
theorem slE (a0 : Option Nat) (a1 a2 : Int32) (M : Mem) : fX8_sumOfLong a0 a1 a2 M = fX8_sumOfLong_L20 a0 a2 q0.1 q0.2.1 q0.2.2.1 q0.2.2.2 a1 M := rfl
theorem sL32 {M : Mem} {r b n c : Nat} (h : RS M r b n) (hc : mI M r 1 = iI c) (hn : n < 1000000) (hc2 : c < 900000) (F : Nat) (hF : F ≤ c) (Z : Int64) : fX8_sumFrom_L32 (some r) (iI F) (iI ((F + (c - F) / 32 * 32 : Nat) : Int)) Z M = some (e1 (sumD (fun i => gB M b n i) (F + (c - F) / 4 * 4) ((c - F) % 4) (sumC (fun i => gB M b n i) (F + (c - F) / 8 * 8) ((c - F) % 8) (sumB (fun i => gB M b n i) (F + (c - F) / 32 * 32) ((c - F) % 32) (Z + iJ ((c - F : Nat) : Int))))), M) := by
  have h1 := h.1
  have e8 := fun Z => s8X h hc hn (by omega) ((c - F) % 32) (F + (c - F) / 32 * 32) Z (by omega)
  rw [show F + (c - F) / 32 * 32 + (c - F) % 32 / 4 * 4 = F + (c - F) / 4 * 4 by omega, show (c - F) % 32 % 4 = (c - F) % 4 by omega, show F + (c - F) / 32 * 32 + (c - F) % 32 / 8 * 8 = F + (c - F) / 8 * 8 by omega, show (c - F) % 32 % 8 = (c - F) % 8 by omega] at e8
  have ey : (c : Int) - F = ((c - F : Nat) : Int) := by omega
  simp -implicitDefEqProofs (disch := (first | decide | omega)) only [fX8_sumFrom_L32, h1, hc, bo_s, bd_s, bn_s, gI_s, gJ_s, gR_s, pI_s, pZ_s, pJ_s, pR_s, chk_s, chN_s, chN_n, aL_s, aI_c, aJ_c, aR_c, wI_c, wB_c, wS_c, wZ_c, wJ_c, wR_c, mK_sI, mK_sJ, mK_sR, mK_cpI, mL_sI, mL_sJ, mL_sR, mL_cpI, mI_sI, mI_sJ, mI_sR, mI_cpI, mJ_sI, mJ_sJ, mJ_sR, mJ_cpI, mR_sI, mR_sJ, mR_sR, mR_cpI, i2b_i2b, i2b_sb, iI_lit, iI_add, iI_sub, iI_mul, iI_neg, iI_lt, iI_le, iI_eq, iI_J, lt_T, lt_F, le_T, le_F, eq_T, eq_F, eqN_T, eqN_F, leN_T, leN_F, ltN_T, ltN_F, if_true, if_false, and_true, true_and, and_false, false_and, or_true, true_or, or_false, false_or, not_true_eq_false, not_false_eq_true, and_self, or_self, tn_c, ne_eq, dite_true, dite_false]
  rw [e8, ey]
theorem sumX {M : Mem} {r b n c : Nat} (h : RS M r b n) (hc : mI M r 1 = iI c) (hn : n < 1000000) (hc2 : c < 900000) (F : Nat) (hF : F ≤ c) : fX8_sumFrom (some r) (iI F) M = some (sumS (fun i => gB M b n i) F (c - F), M) := by
  have h1 := h.1
  have e := s4X h hn ((c - F) / 32) F q0 (by omega)
  have el := sL32 h hc hn hc2 F hF
  have ed := dv_i (a := (c : Int) - F) (b := 32) (by omega) (by omega)
  have ex : (F : Int) + ((c : Int) - F) / 32 * 32 = ((F + (c - F) / 32 * 32 : Nat) : Int) := by omega
  rw [show F + 32 * ((c - F) / 32) = F + (c - F) / 32 * 32 by omega] at e
  rw [sumS, sumA, sfE]
  by_cases q : c - F < 32
  · simp -implicitDefEqProofs (disch := (first | decide | omega)) only [h1, hc, ed, ex, el, bo_s, bd_s, bn_s, gI_s, gJ_s, gR_s, pI_s, pZ_s, pJ_s, pR_s, chk_s, chN_s, chN_n, aL_s, aI_c, aJ_c, aR_c, wI_c, wB_c, wS_c, wZ_c, wJ_c, wR_c, mK_sI, mK_sJ, mK_sR, mK_cpI, mL_sI, mL_sJ, mL_sR, mL_cpI, mI_sI, mI_sJ, mI_sR, mI_cpI, mJ_sI, mJ_sJ, mJ_sR, mJ_cpI, mR_sI, mR_sJ, mR_sR, mR_cpI, i2b_i2b, i2b_sb, iI_lit, iI_add, iI_sub, iI_mul, iI_neg, iI_lt, iI_le, iI_eq, iI_J, lt_T, lt_F, le_T, le_F, eq_T, eq_F, eqN_T, eqN_F, leN_T, leN_F, ltN_T, ltN_F, if_true, if_false, and_true, true_and, and_false, false_and, or_true, true_or, or_false, false_or, not_true_eq_false, not_false_eq_true, and_self, or_self, tn_c, ne_eq, dite_true, dite_false]
  · simp -implicitDefEqProofs (disch := (first | decide | omega)) only [h1, hc, ed, ex, slE, e, el, bo_s, bd_s, bn_s, gI_s, gJ_s, gR_s, pI_s, pZ_s, pJ_s, pR_s, chk_s, chN_s, chN_n, aL_s, aI_c, aJ_c, aR_c, wI_c, wB_c, wS_c, wZ_c, wJ_c, wR_c, mK_sI, mK_sJ, mK_sR, mK_cpI, mL_sI, mL_sJ, mL_sR, mL_cpI, mI_sI, mI_sJ, mI_sR, mI_cpI, mJ_sI, mJ_sJ, mJ_sR, mJ_cpI, mR_sI, mR_sJ, mR_sR, mR_cpI, i2b_i2b, i2b_sb, iI_lit, iI_add, iI_sub, iI_mul, iI_neg, iI_lt, iI_le, iI_eq, iI_J, lt_T, lt_F, le_T, le_F, eq_T, eq_F, eqN_T, eqN_F, leN_T, leN_F, ltN_T, ltN_F, if_true, if_false, and_true, true_and, and_false, false_and, or_true, true_or, or_false, false_or, not_true_eq_false, not_false_eq_true, and_self, or_self, tn_c, ne_eq, dite_true, dite_false]
theorem s1M {M : Mem} {b n : Nat} (h1 : mK M b = 14) (h2 : mL M b = n) (hn : n < 1000000) (k F : Nat) (Z : Int64) (hk : F + k ≤ n) : fX13_sumOf_L314 (some b) (iI F) (iI ((F + k : Nat) : Int)) Z M = some (e1 (sumD (fun i => gB M b n i) F k Z), M) := by
  apply Wp.eq
  unfold fX13_sumOf_L314 sumD
  refine w_lpF (fun d x M' => ∃ t H, t + d = k ∧ M' = M ∧ x = (some b, iI ((F + t : Nat) : Int), iI ((F + k : Nat) : Int), H) ∧ itr (fun j h => c1 h (iJ (gB M b n (F + j : Nat)))) d t H = itr (fun j h => c1 h (iJ (gB M b n (F + j : Nat)))) k 0 Z) k (by omega) ⟨0, _, by omega, rfl, rfl, rfl⟩ ?_
  rintro g d x M' ⟨t, H, hi, rfl, rfl, hs⟩ ih
  by_cases q : d = 0
  · subst q
    simp -implicitDefEqProofs (disch := (first | decide | omega)) only [fX13_sumOf_B314, tuM, rdM, bo_s, bd_s, bn_s, gI_s, gJ_s, gR_s, pI_s, pZ_s, pJ_s, pR_s, chk_s, chN_s, chN_n, aL_s, aI_c, aJ_c, aR_c, wI_c, wB_c, wS_c, wZ_c, wJ_c, wR_c, mK_sI, mK_sJ, mK_sR, mK_cpI, mL_sI, mL_sJ, mL_sR, mL_cpI, mI_sI, mI_sJ, mI_sR, mI_cpI, mJ_sI, mJ_sJ, mJ_sR, mJ_cpI, mR_sI, mR_sJ, mR_sR, mR_cpI, i2b_i2b, i2b_sb, iI_lit, iI_add, iI_sub, iI_mul, iI_neg, iI_lt, iI_le, iI_eq, iI_J, lt_T, lt_F, le_T, le_F, eq_T, eq_F, eqN_T, eqN_F, leN_T, leN_F, ltN_T, ltN_F, if_true, if_false, and_true, true_and, and_false, false_and, or_true, true_or, or_false, false_or, not_true_eq_false, not_false_eq_true, and_self, or_self, tn_c, ne_eq, dite_true, dite_false]
    refine w_ret ⟨?_, rfl⟩
    rw [← hs, itr, e1]
  · have e := gB_i (M := M') (b := b) (n := n) (i := ((F + t : Nat) : Int)) (by omega)
    have hg := gB_lt M' b n ((F + t : Nat) : Int)
    rw [tn_c] at e
    simp -implicitDefEqProofs (disch := (first | decide | omega)) only [fX13_sumOf_B314, h1, h2, e, tuM, rdM, bo_s, bd_s, bn_s, gI_s, gJ_s, gR_s, pI_s, pZ_s, pJ_s, pR_s, chk_s, chN_s, chN_n, aL_s, aI_c, aJ_c, aR_c, wI_c, wB_c, wS_c, wZ_c, wJ_c, wR_c, mK_sI, mK_sJ, mK_sR, mK_cpI, mL_sI, mL_sJ, mL_sR, mL_cpI, mI_sI, mI_sJ, mI_sR, mI_cpI, mJ_sI, mJ_sJ, mJ_sR, mJ_cpI, mR_sI, mR_sJ, mR_sR, mR_cpI, i2b_i2b, i2b_sb, iI_lit, iI_add, iI_sub, iI_mul, iI_neg, iI_lt, iI_le, iI_eq, iI_J, lt_T, lt_F, le_T, le_F, eq_T, eq_F, eqN_T, eqN_F, leN_T, leN_F, ltN_T, ltN_F, if_true, if_false, and_true, true_and, and_false, false_and, or_true, true_or, or_false, false_or, not_true_eq_false, not_false_eq_true, and_self, or_self, tn_c, ne_eq, dite_true, dite_false]
    refine ih (d - 1) _ _ (by omega) ⟨t + 1, _, by omega, rfl, rfl, ?_⟩
    obtain ⟨d, rfl⟩ : ∃ s, d = s + 1 := ⟨d - 1, by omega⟩
    rw [itr, c1] at hs
    exact hs
theorem s8M {M : Mem} {b n : Nat} (h1 : mK M b = 14) (h2 : mL M b = n) (hn : n < 1000000) (k F : Nat) (Z : Int64) (hk : F + k ≤ n) : fX13_sumOf_L231 (some b) (iI F) (iI ((F + k : Nat) : Int)) Z M = some (e1 (sumD (fun i => gB M b n i) (F + k / 4 * 4) (k % 4) (sumC (fun i => gB M b n i) (F + k / 8 * 8) (k % 8) (sumB (fun i => gB M b n i) F k Z))), M) := by
  apply Wp.eq
  unfold fX13_sumOf_L231 sumB
  refine w_lpF (fun d x M' => ∃ t H, t + d = k / 8 ∧ M' = M ∧ x = (some b, iI ((F + 8 * t : Nat) : Int), iI ((F + k : Nat) : Int), H) ∧ itr (fun j h => c8 h (nJ (fun i => gB M b n i) (F + 8 * j) 8)) d t H = itr (fun j h => c8 h (nJ (fun i => gB M b n i) (F + 8 * j) 8)) (k / 8) 0 Z) (k / 8) (by omega) ⟨0, Z, by omega, rfl, rfl, rfl⟩ ?_
  rintro g d x M' ⟨t, H, hi, rfl, rfl, hs⟩ ih
  by_cases q : d = 0
  · subst q
    rw [itr] at hs
    by_cases q4 : k % 8 < 4
    · have e := s1M h1 h2 hn (k % 4) (F + 8 * t) H (by omega)
      rw [show F + 8 * t + k % 4 = F + k by omega] at e
      simp -implicitDefEqProofs (disch := (first | decide | omega)) only [fX13_sumOf_B231, e, bo_s, bd_s, bn_s, gI_s, gJ_s, gR_s, pI_s, pZ_s, pJ_s, pR_s, chk_s, chN_s, chN_n, aL_s, aI_c, aJ_c, aR_c, wI_c, wB_c, wS_c, wZ_c, wJ_c, wR_c, mK_sI, mK_sJ, mK_sR, mK_cpI, mL_sI, mL_sJ, mL_sR, mL_cpI, mI_sI, mI_sJ, mI_sR, mI_cpI, mJ_sI, mJ_sJ, mJ_sR, mJ_cpI, mR_sI, mR_sJ, mR_sR, mR_cpI, i2b_i2b, i2b_sb, iI_lit, iI_add, iI_sub, iI_mul, iI_neg, iI_lt, iI_le, iI_eq, iI_J, lt_T, lt_F, le_T, le_F, eq_T, eq_F, eqN_T, eqN_F, leN_T, leN_F, ltN_T, ltN_F, if_true, if_false, and_true, true_and, and_false, false_and, or_true, true_or, or_false, false_or, not_true_eq_false, not_false_eq_true, and_self, or_self, tn_c, ne_eq, dite_true, dite_false]
      refine w_ret ⟨?_, rfl⟩
      rw [hs, sumC, show k % 8 / 4 = 0 by omega, itr, show F + 8 * t = F + k / 4 * 4 by omega]
    · have e := fun Z => s1M h1 h2 hn (k % 4) (F + 8 * t + 4) Z (by omega)
      rw [show F + 8 * t + 4 + k % 4 = F + k by omega, show ((F + 8 * t + 4 : Nat) : Int) = ((F + 8 * t : Nat) : Int) + 4 by omega] at e
      have e4 := eight_n h1 h2 hn (f := F + 8 * t) (k := 4) (e := ((F + 8 * t : Nat) : Int)) (e2 := 4) (by omega) (by omega) (by omega) rfl
      simp -implicitDefEqProofs (disch := (first | decide | omega)) only [fX13_sumOf_B231, e, e4, tuM, bo_s, bd_s, bn_s, gI_s, gJ_s, gR_s, pI_s, pZ_s, pJ_s, pR_s, chk_s, chN_s, chN_n, aL_s, aI_c, aJ_c, aR_c, wI_c, wB_c, wS_c, wZ_c, wJ_c, wR_c, mK_sI, mK_sJ, mK_sR, mK_cpI, mL_sI, mL_sJ, mL_sR, mL_cpI, mI_sI, mI_sJ, mI_sR, mI_cpI, mJ_sI, mJ_sJ, mJ_sR, mJ_cpI, mR_sI, mR_sJ, mR_sR, mR_cpI, i2b_i2b, i2b_sb, iI_lit, iI_add, iI_sub, iI_mul, iI_neg, iI_lt, iI_le, iI_eq, iI_J, lt_T, lt_F, le_T, le_F, eq_T, eq_F, eqN_T, eqN_F, leN_T, leN_F, ltN_T, ltN_F, if_true, if_false, and_true, true_and, and_false, false_and, or_true, true_or, or_false, false_or, not_true_eq_false, not_false_eq_true, and_self, or_self, tn_c, ne_eq, dite_true, dite_false]
      refine w_ret ⟨?_, rfl⟩
      rw [hs, sumC, show k % 8 / 4 = 0 + 1 by omega, itr, itr, c2, Nat.mul_zero, show F + 8 * t + 4 = F + k / 4 * 4 by omega, show F + 8 * t = F + k / 8 * 8 by omega, Nat.add_zero]
  · have e := eight_n h1 h2 hn (f := F + 8 * t) (k := 8) (e := ((F + 8 * t : Nat) : Int)) (e2 := 8) (by omega) (by omega) (by omega) rfl
    simp -implicitDefEqProofs (disch := (first | decide | omega)) only [fX13_sumOf_B231, e, tuM, rdM, bo_s, bd_s, bn_s, gI_s, gJ_s, gR_s, pI_s, pZ_s, pJ_s, pR_s, chk_s, chN_s, chN_n, aL_s, aI_c, aJ_c, aR_c, wI_c, wB_c, wS_c, wZ_c, wJ_c, wR_c, mK_sI, mK_sJ, mK_sR, mK_cpI, mL_sI, mL_sJ, mL_sR, mL_cpI, mI_sI, mI_sJ, mI_sR, mI_cpI, mJ_sI, mJ_sJ, mJ_sR, mJ_cpI, mR_sI, mR_sJ, mR_sR, mR_cpI, i2b_i2b, i2b_sb, iI_lit, iI_add, iI_sub, iI_mul, iI_neg, iI_lt, iI_le, iI_eq, iI_J, lt_T, lt_F, le_T, le_F, eq_T, eq_F, eqN_T, eqN_F, leN_T, leN_F, ltN_T, ltN_F, if_true, if_false, and_true, true_and, and_false, false_and, or_true, true_or, or_false, false_or, not_true_eq_false, not_false_eq_true, and_self, or_self, tn_c, ne_eq, dite_true, dite_false]
    refine ih (d - 1) _ _ (by omega) ⟨t + 1, _, by omega, rfl, rfl, ?_⟩
    obtain ⟨d, rfl⟩ : ∃ s, d = s + 1 := ⟨d - 1, by omega⟩
    rw [itr, c8] at hs
    exact hs
theorem soE (a0 : Option Nat) (a1 a2 : Int32) (M : Mem) : fX13_sumOf a0 a1 a2 M = bn (a1) fun v1 => bn (a1 + a2) fun v5 => if a2 < 32 then fX13_sumOf_L224 a0 a2 v1 v5 e0 M else fX13_sumOf_L36 a0 a2 v1 v5 q0.1 q0.2.1 q0.2.2.1 q0.2.2.2 M := rfl
theorem sL224 {M : Mem} {b n : Nat} (h1 : mK M b = 14) (h2 : mL M b = n) (hn : n < 1000000) (k F : Nat) (hk : F + k ≤ n) (Z : Int64) : fX13_sumOf_L224 (some b) (iI k) (iI ((F + k / 32 * 32 : Nat) : Int)) (iI ((F + k : Nat) : Int)) Z M = some (e1 (sumD (fun i => gB M b n i) (F + k / 4 * 4) (k % 4) (sumC (fun i => gB M b n i) (F + k / 8 * 8) (k % 8) (sumB (fun i => gB M b n i) (F + k / 32 * 32) (k % 32) (Z + iJ k)))), M) := by
  have e8 := fun Z => s8M h1 h2 hn (k % 32) (F + k / 32 * 32) Z (by omega)
  rw [show F + k / 32 * 32 + k % 32 = F + k by omega] at e8
  rw [show F + k / 32 * 32 + k % 32 / 4 * 4 = F + k / 4 * 4 by omega, show k % 32 % 4 = k % 4 by omega, show F + k / 32 * 32 + k % 32 / 8 * 8 = F + k / 8 * 8 by omega, show k % 32 % 8 = k % 8 by omega] at e8
  simp -implicitDefEqProofs (disch := (first | decide | omega)) only [fX13_sumOf_L224, bo_s, bd_s, bn_s, gI_s, gJ_s, gR_s, pI_s, pZ_s, pJ_s, pR_s, chk_s, chN_s, chN_n, aL_s, aI_c, aJ_c, aR_c, wI_c, wB_c, wS_c, wZ_c, wJ_c, wR_c, mK_sI, mK_sJ, mK_sR, mK_cpI, mL_sI, mL_sJ, mL_sR, mL_cpI, mI_sI, mI_sJ, mI_sR, mI_cpI, mJ_sI, mJ_sJ, mJ_sR, mJ_cpI, mR_sI, mR_sJ, mR_sR, mR_cpI, i2b_i2b, i2b_sb, iI_lit, iI_add, iI_sub, iI_mul, iI_neg, iI_lt, iI_le, iI_eq, iI_J, lt_T, lt_F, le_T, le_F, eq_T, eq_F, eqN_T, eqN_F, leN_T, leN_F, ltN_T, ltN_F, if_true, if_false, and_true, true_and, and_false, false_and, or_true, true_or, or_false, false_or, not_true_eq_false, not_false_eq_true, and_self, or_self, tn_c, ne_eq, dite_true, dite_false]
  rw [e8]
theorem x36 {g : Option Nat × Int32 × Int32 × Int32 × Int64 × Int64 × Int64 × Int64 → Mem → Option (Int64 × Mem)} {b : Option Nat} {k x y : Int} {A B C D : Int64} {M : Mem} (h : y - x < 32) (h2 : -1000000 < y - x) : fX13_sumOf_B36 g b (iI k) (iI x) (iI y) A B C D M = fX13_sumOf_L224 b (iI k) (iI x) (iI y) (e4 A B C D) M := by
  have e : (iI y - iI x < 32) = True := by
    rw [iI_sub, iI_lit, iI_lt (by omega) (by omega)]
    exact eq_true h
  unfold fX13_sumOf_B36
  rw [if_pos (by rw [e]; trivial)]
  rfl
theorem y36 {g : Option Nat × Int32 × Int32 × Int32 × Int64 × Int64 × Int64 × Int64 → Mem → Option (Int64 × Mem)} {b : Option Nat} {k x y : Int} {A B C D v0 v1 v2 v3 : Int64} {M : Mem} (h : 32 ≤ y - x) (h2 : y - x < 1000000) (e0 : fX13_eight b (iI x) 8 M = some (v0, M)) (e1 : fX13_eight b (iI x + 8) 8 M = some (v1, M)) (e2 : fX13_eight b (iI x + 16) 8 M = some (v2, M)) (e3 : fX13_eight b (iI x + 24) 8 M = some (v3, M)) : fX13_sumOf_B36 g b (iI k) (iI x) (iI y) A B C D M = g (b, iI k, iI x + 32, iI y, rd A v0, rd B v1, rd C v2, rd D v3) M := by
  have e : ¬ (iI y - iI x < 32) := by
    rw [iI_sub, iI_lit, iI_lt (by omega) (by omega)]
    omega
  unfold fX13_sumOf_B36
  rw [if_neg e, e0, bd_s, rdM, bd_s, bn, e1, bd_s, rdM, bd_s, bn, e2, bd_s, rdM, bd_s, bn, e3, bd_s, rdM, bd_s, bn, bn]
theorem s4M {M : Mem} {b n : Nat} (h1 : mK M b = 14) (h2 : mL M b = n) (hn : n < 1000000) (k F : Nat) (hk : F + k ≤ n) (Z : Int64 × Int64 × Int64 × Int64) : fX13_sumOf_L36 (some b) (iI k) (iI F) (iI ((F + k : Nat) : Int)) Z.1 Z.2.1 Z.2.2.1 Z.2.2.2 M = some (e1 (sumD (fun i => gB M b n i) (F + k / 4 * 4) (k % 4) (sumC (fun i => gB M b n i) (F + k / 8 * 8) (k % 8) (sumB (fun i => gB M b n i) (F + k / 32 * 32) (k % 32) (f4 (itr (q4 (fun i => gB M b n i) F) (k / 32) 0 Z) + iJ k)))), M) := by
  have el := sL224 h1 h2 hn k F hk
  apply Wp.eq
  unfold fX13_sumOf_L36
  refine w_lpF (fun d x M' => ∃ t A B C D, t + d = k / 32 ∧ M' = M ∧ x = (some b, iI k, iI ((F + 32 * t : Nat) : Int), iI ((F + k : Nat) : Int), A, B, C, D) ∧ itr (q4 (fun i => gB M b n i) F) d t (A, B, C, D) = itr (q4 (fun i => gB M b n i) F) (k / 32) 0 Z) (k / 32) (by omega) ⟨0, _, _, _, _, by omega, rfl, rfl, rfl⟩ ?_
  rintro g d x M' ⟨t, A, B, C, D, hi, rfl, rfl, hs⟩ ih
  by_cases qd : d = 0
  · subst qd
    rw [itr] at hs
    rw [show F + 32 * t = F + k / 32 * 32 by omega]
    refine Wp.of ((x36 (by omega) (by omega)).trans (el _)) ⟨?_, rfl⟩
    rw [← hs, f4]
  · have e0 := eight_n h1 h2 hn (f := F + 32 * t) (k := 8) (e := ((F + 32 * t : Nat) : Int)) (e2 := 8) (by omega) (by omega) rfl rfl
    have e1 := eight_n h1 h2 hn (f := F + 32 * t + 8) (k := 8) (e := ((F + 32 * t : Nat) : Int) + 8) (e2 := 8) (by omega) (by omega) (by omega) rfl
    have e2 := eight_n h1 h2 hn (f := F + 32 * t + 16) (k := 8) (e := ((F + 32 * t : Nat) : Int) + 16) (e2 := 8) (by omega) (by omega) (by omega) rfl
    have e3 := eight_n h1 h2 hn (f := F + 32 * t + 24) (k := 8) (e := ((F + 32 * t : Nat) : Int) + 24) (e2 := 8) (by omega) (by omega) (by omega) rfl
    rw [← iI_add] at e1 e2 e3
    have ey := y36 (g := g) (k := k) (x := ((F + 32 * t : Nat) : Int)) (y := ((F + k : Nat) : Int)) (A := A) (B := B) (C := C) (D := D) (by omega) (by omega) e0 e1 e2 e3
    show Wp (fX13_sumOf_B36 g (some b) (iI k) (iI ((F + 32 * t : Nat) : Int)) (iI ((F + k : Nat) : Int)) A B C D M') _
    rw [ey, show iI ((F + 32 * t : Nat) : Int) + 32 = iI ((F + 32 * (t + 1) : Nat) : Int) by rw [iI_lit, iI_add]; exact congrArg iI (by omega)]
    refine ih (d - 1) _ _ (by omega) ⟨t + 1, _, _, _, _, by omega, rfl, rfl, ?_⟩
    obtain ⟨d, rfl⟩ : ∃ s, d = s + 1 := ⟨d - 1, by omega⟩
    rw [itr, q4_s] at hs
    exact hs
theorem sumM {M : Mem} {b n : Nat} (h1 : mK M b = 14) (h2 : mL M b = n) (hn : n < 1000000) (k F : Nat) (hk : F + k ≤ n) : fX13_sumOf (some b) (iI F) (iI k) M = some (sumS (fun i => gB M b n i) F k, M) := by
  have el := sL224 h1 h2 hn k F hk
  have e := s4M h1 h2 hn k F hk q0
  have ex : (F : Int) + k = ((F + k : Nat) : Int) := by omega
  rw [sumS, sumA, soE]
  by_cases q : k < 32
  · rw [show F + k / 32 * 32 = F by omega] at *
    simp -implicitDefEqProofs (disch := (first | decide | omega)) only [ex, el, bo_s, bd_s, bn_s, gI_s, gJ_s, gR_s, pI_s, pZ_s, pJ_s, pR_s, chk_s, chN_s, chN_n, aL_s, aI_c, aJ_c, aR_c, wI_c, wB_c, wS_c, wZ_c, wJ_c, wR_c, mK_sI, mK_sJ, mK_sR, mK_cpI, mL_sI, mL_sJ, mL_sR, mL_cpI, mI_sI, mI_sJ, mI_sR, mI_cpI, mJ_sI, mJ_sJ, mJ_sR, mJ_cpI, mR_sI, mR_sJ, mR_sR, mR_cpI, i2b_i2b, i2b_sb, iI_lit, iI_add, iI_sub, iI_mul, iI_neg, iI_lt, iI_le, iI_eq, iI_J, lt_T, lt_F, le_T, le_F, eq_T, eq_F, eqN_T, eqN_F, leN_T, leN_F, ltN_T, ltN_F, if_true, if_false, and_true, true_and, and_false, false_and, or_true, true_or, or_false, false_or, not_true_eq_false, not_false_eq_true, and_self, or_self, tn_c, ne_eq, dite_true, dite_false]
  · simp -implicitDefEqProofs (disch := (first | decide | omega)) only [ex, e, bo_s, bd_s, bn_s, gI_s, gJ_s, gR_s, pI_s, pZ_s, pJ_s, pR_s, chk_s, chN_s, chN_n, aL_s, aI_c, aJ_c, aR_c, wI_c, wB_c, wS_c, wZ_c, wJ_c, wR_c, mK_sI, mK_sJ, mK_sR, mK_cpI, mL_sI, mL_sJ, mL_sR, mL_cpI, mI_sI, mI_sJ, mI_sR, mI_cpI, mJ_sI, mJ_sJ, mJ_sR, mJ_cpI, mR_sI, mR_sJ, mR_sR, mR_cpI, i2b_i2b, i2b_sb, iI_lit, iI_add, iI_sub, iI_mul, iI_neg, iI_lt, iI_le, iI_eq, iI_J, lt_T, lt_F, le_T, le_F, eq_T, eq_F, eqN_T, eqN_F, leN_T, leN_F, ltN_T, ltN_F, if_true, if_false, and_true, true_and, and_false, false_and, or_true, true_or, or_false, false_or, not_true_eq_false, not_false_eq_true, and_self, or_self, tn_c, ne_eq, dite_true, dite_false]
