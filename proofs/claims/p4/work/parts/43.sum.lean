/-! THE SUM, over the bytes of g -/
def itr {α : Type} (st : Nat → α → α) : Nat → Nat → α → α
  | 0, _, x => x
  | k + 1, f, x => itr st k (f + 1) (st f x)
def tu (v : Int64) (n : Int32) : Int64 := (shlJ v n) ||| (ushJ v (64 - n))
def rd (a v : Int64) : Int64 := tu (a + (v * ((-4417276706812531889)))) 31 * ((-7046029288634856825))
def e4 (a b c d : Int64) : Int64 := ((((((((((tu a (iI 1) + tu b (iI 7)) + tu c (iI 12)) + tu d (iI 18)) ^^^ rd 0 a) * ((-7046029288634856825))) + ((-8796714831421723037))) ^^^ rd 0 b) * ((-7046029288634856825)) + ((-8796714831421723037))) ^^^ rd 0 c) * ((-7046029288634856825)) + ((-8796714831421723037)) ^^^ rd 0 d) * ((-7046029288634856825)) + ((-8796714831421723037))
def e1 (h : Int64) : Int64 := ((h ^^^ ushJ h (iI 33)) * (-4417276706812531889) ^^^ ushJ ((h ^^^ ushJ h (iI 33)) * (-4417276706812531889)) (iI 29)) * 1609587929392839161 ^^^ ushJ (((h ^^^ ushJ h (iI 33)) * (-4417276706812531889) ^^^ ushJ ((h ^^^ ushJ h (iI 33)) * (-4417276706812531889)) (iI 29)) * 1609587929392839161) (iI 32)
def c8 (h v : Int64) : Int64 := tu (h ^^^ rd 0 v) (iI 27) * ((-7046029288634856825)) + ((-8796714831421723037))
def c2 (h v : Int64) : Int64 := tu (h ^^^ (v * ((-7046029288634856825)))) (iI 23) * ((-4417276706812531889)) + 1609587929392839161
def c1 (h v : Int64) : Int64 := tu (h ^^^ (v * 2870177450012600261)) (iI 11) * ((-7046029288634856825))
def e0 : Int64 := 2870177450012600261
def nJ (g : Nat → Nat) (f k : Nat) : Int64 := iJ (num g f k)
def q4 (g : Nat → Nat) (F j : Nat) (q : Int64 × Int64 × Int64 × Int64) : Int64 × Int64 × Int64 × Int64 := (rd q.1 (nJ g (F + 32 * j) 8), rd q.2.1 (nJ g (F + 32 * j + 8) 8), rd q.2.2.1 (nJ g (F + 32 * j + 16) 8), rd q.2.2.2 (nJ g (F + 32 * j + 24) 8))
def f4 (q : Int64 × Int64 × Int64 × Int64) : Int64 := e4 q.1 q.2.1 q.2.2.1 q.2.2.2
def q0 : Int64 × Int64 × Int64 × Int64 := (6983438078262162902, (-4417276706812531889), 0, 7046029288634856825)
def sumA (g : Nat → Nat) (F n : Nat) : Int64 := (if n < 32 then e0 else f4 (itr (q4 g F) (n / 32) 0 q0)) + iJ n
def sumB (g : Nat → Nat) (F n : Nat) (h : Int64) : Int64 := itr (fun j h => c8 h (nJ g (F + 8 * j) 8)) (n / 8) 0 h
def sumC (g : Nat → Nat) (F n : Nat) (h : Int64) : Int64 := if n < 4 then h else c2 h (nJ g F 4)
def sumD (g : Nat → Nat) (F n : Nat) (h : Int64) : Int64 := itr (fun j h => c1 h (iJ (g (F + j)))) n 0 h
def sumS (g : Nat → Nat) (F n : Nat) : Int64 := e1 (sumD g (F + n / 4 * 4) (n % 4) (sumC g (F + n / 8 * 8) (n % 8) (sumB g (F + n / 32 * 32) (n % 32) (sumA g F n))))
theorem tuX (v : Int64) (n : Int32) (M : Mem) : fX12_turn v n M = some (tu v n, M) := rfl
theorem tuM (v : Int64) (n : Int32) (M : Mem) : fX13_turn v n M = some (tu v n, M) := rfl
theorem rdX (a v : Int64) (M : Mem) : fX12_round a v M = some (rd a v, M) := rfl
theorem rdM (a v : Int64) (M : Mem) : fX13_round a v M = some (rd a v, M) := rfl
theorem number_n {M : Mem} {r b n : Nat} (h : RS M r b n) (hn : n < 1000000) {f k : Nat} {e e2 : Int} (hk : k ≤ 8) (hf : f < 1000000000) (he : e = f) (he2 : e2 = k) : fX8_number (some r) (iI e) (iI e2) M = some (nJ (fun i => gB M b n i) f k, M) := by
  rw [he, he2]; exact number_ok h hn f k hk hf
theorem eight_n {M : Mem} {b n : Nat} (h1 : mK M b = 14) (h2 : mL M b = n) (hn : n < 1000000) {f k : Nat} {e e2 : Int} (hk : k ≤ 8) (hf : f + k ≤ n) (he : e = f) (he2 : e2 = k) : fX13_eight (some b) (iI e) (iI e2) M = some (nJ (fun i => gB M b n i) f k, M) := by
  rw [he, he2]; exact eight_ok h1 h2 hn f k hk hf
theorem q4_s {g : Nat → Nat} {F j : Nat} {A B C D : Int64} : q4 g F j (A, B, C, D) = (rd A (nJ g (F + 32 * j) 8), rd B (nJ g (F + 32 * j + 8) 8), rd C (nJ g (F + 32 * j + 16) 8), rd D (nJ g (F + 32 * j + 24) 8)) := rfl
theorem s4X {M : Mem} {r b n : Nat} (h : RS M r b n) (hn : n < 1000000) (k F : Nat) (Z : Int64 × Int64 × Int64 × Int64) (hk : F + 32 * k < 1000000) : fX8_sumOfLong_L20 (some r) (iI ((F + 32 * k : Nat) : Int)) Z.1 Z.2.1 Z.2.2.1 Z.2.2.2 (iI F) M = some (f4 (itr (q4 (fun i => gB M b n i) F) k 0 Z), M) := by
  apply Wp.eq
  unfold fX8_sumOfLong_L20
  refine w_lpF (fun d x M' => ∃ t A B C D, t + d = k ∧ M' = M ∧ x = (some r, iI ((F + 32 * k : Nat) : Int), A, B, C, D, iI ((F + 32 * t : Nat) : Int)) ∧ itr (q4 (fun i => gB M b n i) F) d t (A, B, C, D) = itr (q4 (fun i => gB M b n i) F) k 0 Z) k (by omega) ⟨0, _, _, _, _, by omega, rfl, rfl, rfl⟩ ?_
  rintro g d x M' ⟨t, A, B, C, D, hi, rfl, rfl, hs⟩ ih
  have h1 := h.1
  by_cases q : d = 0
  · subst q
    simp (disch := omega) only [fX8_sumOfLong_B20, tuX, rdX, bo_s, bd_s, bn, gI_s, gJ_s, gR_s, pI_s, pZ_s, pJ_s, pR_s, chk_s, chN_s, chN_n, aL_s, aI_c, aJ_c, aR_c, wI_c, wB_c, wS_c, wZ_c, wJ_c, wR_c, mK_sI, mK_sJ, mK_sR, mK_cpI, mL_sI, mL_sJ, mL_sR, mL_cpI, mI_sI, mI_sJ, mI_sR, mI_cpI, mJ_sI, mJ_sJ, mJ_sR, mJ_cpI, mR_sI, mR_sJ, mR_sR, mR_cpI, i2b_i2b, i2b_sb, iI_lit, iI_add, iI_sub, iI_mul, iI_neg, iI_lt, iI_le, iI_eq, iI_J, lt_T, lt_F, le_T, le_F, eq_T, eq_F, eqN_T, eqN_F, leN_T, leN_F, ltN_T, ltN_F, if_true, if_false, and_true, true_and, and_false, false_and, or_true, true_or, or_false, false_or, not_true_eq_false, not_false_eq_true, and_self, or_self, tn_c, ne_eq, dite_true, dite_false]
    refine w_ret ⟨?_, rfl⟩
    rw [← hs, itr, f4, e4]
  · have e0 := number_n h hn (f := F + 32 * t) (k := 8) (e := ((F + 32 * t : Nat) : Int)) (e2 := 8) (by omega) (by omega) rfl rfl
    have e1 := number_n h hn (f := F + 32 * t + 8) (k := 8) (e := ((F + 32 * t : Nat) : Int) + 8) (e2 := 8) (by omega) (by omega) (by omega) rfl
    have e2 := number_n h hn (f := F + 32 * t + 16) (k := 8) (e := ((F + 32 * t : Nat) : Int) + 16) (e2 := 8) (by omega) (by omega) (by omega) rfl
    have e3 := number_n h hn (f := F + 32 * t + 24) (k := 8) (e := ((F + 32 * t : Nat) : Int) + 24) (e2 := 8) (by omega) (by omega) (by omega) rfl
    simp (disch := omega) only [fX8_sumOfLong_B20, tuX, rdX, h1, e0, e1, e2, e3, bo_s, bd_s, bn, gI_s, gJ_s, gR_s, pI_s, pZ_s, pJ_s, pR_s, chk_s, chN_s, chN_n, aL_s, aI_c, aJ_c, aR_c, wI_c, wB_c, wS_c, wZ_c, wJ_c, wR_c, mK_sI, mK_sJ, mK_sR, mK_cpI, mL_sI, mL_sJ, mL_sR, mL_cpI, mI_sI, mI_sJ, mI_sR, mI_cpI, mJ_sI, mJ_sJ, mJ_sR, mJ_cpI, mR_sI, mR_sJ, mR_sR, mR_cpI, i2b_i2b, i2b_sb, iI_lit, iI_add, iI_sub, iI_mul, iI_neg, iI_lt, iI_le, iI_eq, iI_J, lt_T, lt_F, le_T, le_F, eq_T, eq_F, eqN_T, eqN_F, leN_T, leN_F, ltN_T, ltN_F, if_true, if_false, and_true, true_and, and_false, false_and, or_true, true_or, or_false, false_or, not_true_eq_false, not_false_eq_true, and_self, or_self, tn_c, ne_eq, dite_true, dite_false]
    refine ih (d - 1) _ _ (by omega) ⟨t + 1, _, _, _, _, by omega, rfl, rfl, ?_⟩
    obtain ⟨d, rfl⟩ : ∃ s, d = s + 1 := ⟨d - 1, by omega⟩
    rw [itr, q4_s] at hs
    exact hs
