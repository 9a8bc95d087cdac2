/-! bits of bytes, the lowest first -/
abbrev BV (M : Mem) (b n e : Nat) (u : Nat → Nat) : Prop := mK M b = 14 ∧ mL M b = n ∧ e ≤ n ∧ n < 900000 ∧ ∀ i, i < e → mI M b i = sb (u i)
theorem BV.sm {M N : Mem} {b n e : Nat} {u : Nat → Nat} {S : Nat → Nat → Prop} (h : BV M b n e u) (s : Sm S M N) (hb : ∀ j, ¬ S b j) : BV N b n e u := ⟨(s.K b).trans h.1, (s.L b).trans h.2.1, h.2.2.1, h.2.2.2.1, fun i hi => (s.I b i (hb i)).trans (h.2.2.2.2 i hi)⟩
theorem BV.rd {M : Mem} {b n e : Nat} {u : Nat → Nat} (h : BV M b n e u) {i : Int} {j : Nat} (hi : i = j) (hj : j < e) : mI M b i.toNat = sb (u j) := by
  subst hi
  rw [tn_c]
  exact h.2.2.2.2 j hj
def bt (u : Nat → Nat) (p : Nat) : Nat := u (p / 8) / 2 ^ (p % 8) % 2
def bits (u : Nat → Nat) : Nat → Nat → Nat
  | _, 0 => 0
  | p, n + 1 => bt u p + 2 * bits u (p + 1) n
theorem bt_lt (u : Nat → Nat) (p : Nat) : bt u p < 2 := Nat.mod_lt _ (by omega)
theorem bits_lt (u : Nat → Nat) : ∀ n p, bits u p n < 2 ^ n := by
  intro n
  induction n with
  | zero => intro p; show 0 < 1; omega
  | succ n ih =>
    intro p
    have := ih (p + 1)
    have := bt_lt u p
    rw [bits, Nat.pow_succ]
    omega
theorem bits_snoc (u : Nat → Nat) : ∀ n p, bits u p (n + 1) = bits u p n + bt u (p + n) * 2 ^ n := by
  intro n
  induction n with
  | zero => intro p; rw [bits, bits, bits]; simp
  | succ n ih =>
    intro p
    rw [bits, ih (p + 1), bits, show p + 1 + n = p + (n + 1) by omega, Nat.pow_succ, ← Nat.mul_assoc]
    omega
theorem num_snoc (u : Nat → Nat) : ∀ t a, num u a (t + 1) = num u a t + u (a + t) * 2 ^ (8 * t) := by
  intro t
  induction t with
  | zero => intro a; rw [num, num, num]; simp
  | succ t ih =>
    intro a
    rw [num, ih (a + 1), num, show a + 1 + t = a + (t + 1) by omega, show 8 * (t + 1) = 8 * t + 8 by omega, Nat.pow_add, show 2 ^ 8 = 256 from rfl, ← Nat.mul_assoc]
    omega
theorem num_bt {u : Nat → Nat} (hu : ∀ i, u i < 256) : ∀ K a r, r < 8 * K → num u a K / 2 ^ r % 2 = bt u (8 * a + r) := by
  intro K
  induction K with
  | zero => intro a r h; omega
  | succ K ih =>
    intro a r h
    have := hu a
    rw [num]
    by_cases q : r < 8
    · rw [bt, show (8 * a + r) / 8 = a by omega, show (8 * a + r) % 8 = r by omega]
      have : r = 0 ∨ r = 1 ∨ r = 2 ∨ r = 3 ∨ r = 4 ∨ r = 5 ∨ r = 6 ∨ r = 7 := by omega
      rcases this with rfl | rfl | rfl | rfl | rfl | rfl | rfl | rfl <;> simp only [Nat.reducePow] <;> omega
    · obtain ⟨s, rfl⟩ : ∃ s, r = s + 8 := ⟨r - 8, by omega⟩
      rw [show 2 ^ (s + 8) = 256 * 2 ^ s by rw [Nat.pow_add, Nat.mul_comm], ← Nat.div_div_eq_div_mul, show (u a + 256 * num u (a + 1) K) / 256 = num u (a + 1) K by omega, ih (a + 1) s (by omega), show 8 * (a + 1) + s = 8 * a + (s + 8) by omega]
theorem num_bits {u : Nat → Nat} (hu : ∀ i, u i < 256) : ∀ n a K r, r + n ≤ 8 * K → num u a K / 2 ^ r % 2 ^ n = bits u (8 * a + r) n := by
  intro n
  induction n with
  | zero => intro a K r _; rw [bits, Nat.pow_zero, Nat.mod_one]
  | succ n ih =>
    intro a K r h
    rw [show 2 ^ (n + 1) = 2 * 2 ^ n by rw [Nat.pow_succ, Nat.mul_comm], Nat.mod_mul, num_bt hu K a r (by omega), Nat.div_div_eq_div_mul, ← Nat.pow_succ, ih a K (r + 1) (by omega), bits, show 8 * a + (r + 1) = 8 * a + r + 1 by omega]
theorem bits_congr {u w : Nat → Nat} : ∀ n p, (∀ i, p ≤ 8 * i + 7 → 8 * i < p + n → u i = w i) → bits u p n = bits w p n := by
  intro n
  induction n with
  | zero => intro p _; rfl
  | succ n ih =>
    intro p h
    rw [bits, bits, bt, bt, h (p / 8) (by omega) (by omega), ih (p + 1) fun i h1 h2 => h i (by omega) (by omega)]
theorem shr_3 {a : Int} (ha : -2147483648 ≤ a ∧ a < 2147483648) : shrI (iI a) (iI 3) = iI (a / 8) := shr_i (by omega) ha
theorem bmod_u {u : Nat} (hu : u < 256) : Int.bmod u 256 = if u < 128 then (u : Int) else u - 256 := by
  rw [Int.bmod_def]
  split <;> split <;> omega
theorem sb_bit {u : Nat} {r : Int} (hu : u < 256) (hr : 0 ≤ r ∧ r < 8) : shrI (sb u) (iI r) &&& iI 1 = iI ((u / 2 ^ r.toNat % 2 : Nat) : Int) := by
  rw [sb, shr_i (by omega) (by rw [bmod_u hu]; split <;> omega), and_1]
  refine congrArg iI ?_
  rw [bmod_u hu]
  have : r = 0 ∨ r = 1 ∨ r = 2 ∨ r = 3 ∨ r = 4 ∨ r = 5 ∨ r = 6 ∨ r = 7 := by omega
  rcases this with rfl | rfl | rfl | rfl | rfl | rfl | rfl | rfl <;> simp only [Int.toNat_zero, Int.toNat_one, Int.reduceToNat, Int.reducePow, Nat.reducePow] <;> split <;> omega
theorem bt_i {u : Nat → Nat} (hu : ∀ i, u i < 256) {p : Nat} {e : Int} (he : e = p) : shrI (sb (u (p / 8))) (iI (e % 8)) &&& iI 1 = iI (bt u p) := by
  rw [sb_bit (hu _) (by omega), bt, show (e % 8).toNat = p % 8 by omega]
theorem bits_or (u : Nat → Nat) {p t : Nat} (ht : t < 31) : iI (bits u p t) ||| shlI (iI (bt u (p + t))) (iI t) = iI (bits u p (t + 1)) := by
  have h := bits_lt u t p
  rw [shl_i (by omega), tn_c, Int32.or_comm, iI_or (k := t) _ (by omega) (by have := Int.ofNat_lt.mpr h; rw [Int.natCast_pow] at this; exact ⟨by omega, this⟩), bits_snoc]
  refine congrArg iI ?_
  rw [Int.natCast_add, Int.natCast_mul, Int.natCast_pow, Int.add_comm]
  rfl
theorem p2 (t : Nat) : (2 : Int) ^ t = ((2 ^ t : Nat) : Int) := (Int.natCast_pow 2 t).symm
theorem dv2 (a t : Nat) : (a : Int) / 2 ^ (t : Int).toNat = ((a / 2 ^ t : Nat) : Int) := by rw [tn_c, p2, ← Int.natCast_ediv]
theorem ushJ_n {a k : Nat} (hk : k < 64) (ha : a < 9223372036854775808) : ushJ (iJ a) (iI k) = iJ ((a / 2 ^ k : Nat) : Int) := by rw [ushJ_i (by omega) (by omega), dv2]
theorem shrJ_n {a k : Nat} (hk : k < 64) (ha : a < 9223372036854775808) : shrJ (iJ a) (iI k) = iJ ((a / 2 ^ k : Nat) : Int) := by rw [shrJ_i (by omega) (by omega), dv2]
theorem ush_n {a k : Nat} (hk : k < 32) (ha : a < 4294967296) : ushI (iI a) (iI k) = iI ((a / 2 ^ k : Nat) : Int) := by rw [ush_i (by omega) (by omega), dv2]
theorem shr_n {a k : Nat} (hk : k < 32) (ha : a < 2147483648) : shrI (iI a) (iI k) = iI ((a / 2 ^ k : Nat) : Int) := by rw [shr_i (by omega) (by omega), dv2]
theorem shl_n {a k : Nat} (hk : k < 32) : shlI (iI a) (iI k) = iI ((a * 2 ^ k : Nat) : Int) := by rw [shl_i (by omega), tn_c, p2, ← Int.natCast_mul]
theorem shlJ_n {a k : Nat} (hk : k < 64) : shlJ (iJ a) (iI k) = iJ ((a * 2 ^ k : Nat) : Int) := by rw [shlJ_i (by omega), tn_c, p2, ← Int.natCast_mul]
/-! LOG -/
theorem log2_of {a k : Nat} (h1 : 2 ^ k ≤ a) (h2 : a < 2 ^ (k + 1)) : Nat.log2 a = k := by
  have h0 : a ≠ 0 := by have := Nat.pow_pos (n := k) (show 0 < 2 by omega); omega
  have := (Nat.le_log2 h0).mpr h1
  have := (Nat.log2_lt h0).mpr h2
  omega
theorem log2_u (a : Nat) : a < 2 ^ (Nat.log2 a + 1) := Nat.lt_log2_self
theorem log2_l {a : Nat} (h : a ≠ 0) : 2 ^ Nat.log2 a ≤ a := Nat.log2_self_le h
theorem pow_le2 {a b : Nat} (h : a ≤ b) : 2 ^ a ≤ 2 ^ b := Nat.pow_le_pow_right (by omega) h
theorem pow_lt2 {a b : Nat} (h : 2 ^ a < 2 ^ b) : a < b := (Nat.pow_lt_pow_iff_right (by omega)).mp h
theorem pow_split {a b : Nat} (h : a ≤ b) : 2 ^ b = 2 ^ a * 2 ^ (b - a) := by rw [← Nat.pow_add]; congr 1; omega
theorem cmpZ {a : Int} (ha : -9223372036854775808 ≤ a ∧ a < 9223372036854775808) : (lg_cmp (iJ a) (iJ 0) = iI 0) = (a = 0) := by
  rw [cmp_eq ha (by omega)]
  split
  · exact propext ⟨fun h => by rw [iI_eq (by omega) (by omega)] at h; omega, fun h => by omega⟩
  · split
    · exact propext ⟨fun _ => by assumption, fun _ => rfl⟩
    · exact propext ⟨fun h => by rw [iI_eq (by omega) (by omega)] at h; omega, fun h => by omega⟩
theorem logOf_ok {M : Mem} (a : Nat) (ha : a < 4611686018427387904) : fX12_logOf (iJ a) M = some (iI (Nat.log2 a), M) := by
  apply Wp.eq
  simp -implicitDefEqProofs (disch := (first | decide | omega)) only [fX12_logOf, fX12_logOf_L4, bo_s, bd_s, bn_s, gI_s, gJ_s, gR_s, pI_s, pZ_s, pJ_s, pR_s, chk_s, chN_s, chN_n, aL_s, aI_c, aJ_c, aR_c, wI_c, wB_c, wS_c, wZ_c, wJ_c, wR_c, mK_sI, mK_sJ, mK_sR, mK_cpI, mL_sI, mL_sJ, mL_sR, mL_cpI, mI_sI, mI_sJ, mI_sR, mI_cpI, mJ_sI, mJ_sJ, mJ_sR, mJ_cpI, mR_sI, mR_sJ, mR_sR, mR_cpI, i2b_i2b, i2b_sb, iI_lit, iI_add, iI_sub, iI_mul, iI_neg, iI_lt, iI_le, iI_eq, iI_J, lt_T, lt_F, le_T, le_F, eq_T, eq_F, eqN_T, eqN_F, leN_T, leN_F, ltN_T, ltN_F, if_true, if_false, and_true, true_and, and_false, false_and, or_true, true_or, or_false, false_or, not_true_eq_false, not_false_eq_true, and_self, or_self, tn_c, ne_eq, dite_true, dite_false]
  refine w_lpF (fun d x M' => ∃ t : Nat, t + d = 63 ∧ 1 ≤ t ∧ M' = M ∧ x = (iJ a, iI ((t : Int) - 1), iI t) ∧ (t = 1 ∨ 2 ^ (t - 1) ≤ a)) 62 (by omega) ⟨1, by omega, by omega, rfl, rfl, Or.inl rfl⟩ ?_
  rintro g d x M' ⟨t, hd, ht, rfl, rfl, hp⟩ ih
  have ht62 : t ≤ 62 := by
    rcases hp with rfl | hp
    · omega
    · have : 2 ^ (t - 1) < 2 ^ 62 := Nat.lt_of_le_of_lt hp ha
      have := pow_lt2 this
      omega
  have hq : (((a / 2 ^ t : Nat) : Int) = 0) = (a < 2 ^ t) := by
    refine propext ⟨fun h => ?_, fun h => ?_⟩
    · exact (Nat.div_eq_zero_iff_lt (Nat.pow_pos (by omega))).mp (by omega)
    · rw [Nat.div_eq_of_lt h]; rfl
  have hr := Nat.div_le_self a (2 ^ t)
  have e1 := ushJ_n (a := a) (k := t) (by omega) (by omega)
  generalize a / 2 ^ t = Q at hq hr e1
  have e2 := cmpZ (a := (Q : Int)) (by omega)
  by_cases q : a < 2 ^ t
  · simp -implicitDefEqProofs (disch := (first | decide | omega)) only [fX12_logOf_B4, fX12_logOf_L29, iJ_lit, e1, e2, hq, q, bo_s, bd_s, bn_s, gI_s, gJ_s, gR_s, pI_s, pZ_s, pJ_s, pR_s, chk_s, chN_s, chN_n, aL_s, aI_c, aJ_c, aR_c, wI_c, wB_c, wS_c, wZ_c, wJ_c, wR_c, mK_sI, mK_sJ, mK_sR, mK_cpI, mL_sI, mL_sJ, mL_sR, mL_cpI, mI_sI, mI_sJ, mI_sR, mI_cpI, mJ_sI, mJ_sJ, mJ_sR, mJ_cpI, mR_sI, mR_sJ, mR_sR, mR_cpI, i2b_i2b, i2b_sb, iI_lit, iI_add, iI_sub, iI_mul, iI_neg, iI_lt, iI_le, iI_eq, iI_J, lt_T, lt_F, le_T, le_F, eq_T, eq_F, eqN_T, eqN_F, leN_T, leN_F, ltN_T, ltN_F, if_true, if_false, and_true, true_and, and_false, false_and, or_true, true_or, or_false, false_or, not_true_eq_false, not_false_eq_true, and_self, or_self, tn_c, ne_eq, dite_true, dite_false]
    refine w_ret ⟨?_, rfl⟩
    refine congrArg iI ?_
    rcases hp with rfl | hp
    · have : a = 0 ∨ a = 1 := by omega
      rcases this with rfl | rfl <;> rfl
    · rw [log2_of hp (by rw [show t - 1 + 1 = t by omega]; exact q)]; omega
  · simp -implicitDefEqProofs (disch := (first | decide | omega)) only [fX12_logOf_B4, fX12_logOf_L29, iJ_lit, e1, e2, hq, q, bo_s, bd_s, bn_s, gI_s, gJ_s, gR_s, pI_s, pZ_s, pJ_s, pR_s, chk_s, chN_s, chN_n, aL_s, aI_c, aJ_c, aR_c, wI_c, wB_c, wS_c, wZ_c, wJ_c, wR_c, mK_sI, mK_sJ, mK_sR, mK_cpI, mL_sI, mL_sJ, mL_sR, mL_cpI, mI_sI, mI_sJ, mI_sR, mI_cpI, mJ_sI, mJ_sJ, mJ_sR, mJ_cpI, mR_sI, mR_sJ, mR_sR, mR_cpI, i2b_i2b, i2b_sb, iI_lit, iI_add, iI_sub, iI_mul, iI_neg, iI_lt, iI_le, iI_eq, iI_J, lt_T, lt_F, le_T, le_F, eq_T, eq_F, eqN_T, eqN_F, leN_T, leN_F, ltN_T, ltN_F, if_true, if_false, and_true, true_and, and_false, false_and, or_true, true_or, or_false, false_or, not_true_eq_false, not_false_eq_true, and_self, or_self, tn_c, ne_eq, dite_true, dite_false]
    refine ih (d - 1) _ _ (by omega) ⟨t + 1, by omega, by omega, rfl, ?_, Or.inr (by rw [show t + 1 - 1 = t by omega]; omega)⟩
    rw [show ((t + 1 : Nat) : Int) - 1 = t by omega]
    rfl
theorem log_ok {M : Mem} (a : Nat) (ha : a < 2147483648) : fX13_log (iI a) M = some (iI (Nat.log2 a), M) := by
  apply Wp.eq
  simp -implicitDefEqProofs (disch := (first | decide | omega)) only [fX13_log, fX13_log_L2, bo_s, bd_s, bn_s, gI_s, gJ_s, gR_s, pI_s, pZ_s, pJ_s, pR_s, chk_s, chN_s, chN_n, aL_s, aI_c, aJ_c, aR_c, wI_c, wB_c, wS_c, wZ_c, wJ_c, wR_c, mK_sI, mK_sJ, mK_sR, mK_cpI, mL_sI, mL_sJ, mL_sR, mL_cpI, mI_sI, mI_sJ, mI_sR, mI_cpI, mJ_sI, mJ_sJ, mJ_sR, mJ_cpI, mR_sI, mR_sJ, mR_sR, mR_cpI, i2b_i2b, i2b_sb, iI_lit, iI_add, iI_sub, iI_mul, iI_neg, iI_lt, iI_le, iI_eq, iI_J, lt_T, lt_F, le_T, le_F, eq_T, eq_F, eqN_T, eqN_F, leN_T, leN_F, ltN_T, ltN_F, if_true, if_false, and_true, true_and, and_false, false_and, or_true, true_or, or_false, false_or, not_true_eq_false, not_false_eq_true, and_self, or_self, tn_c, ne_eq, dite_true, dite_false]
  refine w_lpF (fun d x M' => ∃ t : Nat, t + d = 31 ∧ M' = M ∧ x = (iI a, iI t) ∧ (t = 0 ∨ 2 ^ t ≤ a)) 31 (by omega) ⟨0, by omega, rfl, rfl, Or.inl rfl⟩ ?_
  rintro g d x M' ⟨t, hd, rfl, rfl, hp⟩ ih
  have ht : t ≤ 30 := by
    rcases hp with rfl | hp
    · omega
    · have : 2 ^ t < 2 ^ 31 := Nat.lt_of_le_of_lt hp ha
      have := pow_lt2 this
      omega
  have hq : (((a / 2 ^ t : Nat) : Int) ≤ 1) = (a < 2 ^ (t + 1)) := by
    refine propext ⟨fun h => ?_, fun h => ?_⟩
    · have : a / 2 ^ t < 2 := by omega
      rw [Nat.pow_succ, Nat.mul_comm]
      exact (Nat.div_lt_iff_lt_mul (Nat.pow_pos (by omega))).mp this
    · have : a / 2 ^ t < 2 := (Nat.div_lt_iff_lt_mul (Nat.pow_pos (by omega))).mpr (by rw [Nat.mul_comm, ← Nat.pow_succ]; exact h)
      omega
  have hr := Nat.div_le_self a (2 ^ t)
  have e1 := ush_n (a := a) (k := t) (by omega) (by omega)
  generalize a / 2 ^ t = Q at hq hr e1
  have e2 := iI_le (a := (Q : Int)) (b := 1) (by omega) (by omega)
  by_cases q : a < 2 ^ (t + 1)
  · simp -implicitDefEqProofs (disch := (first | decide | omega)) only [fX13_log_B2, e1, e2, hq, q, bo_s, bd_s, bn_s, gI_s, gJ_s, gR_s, pI_s, pZ_s, pJ_s, pR_s, chk_s, chN_s, chN_n, aL_s, aI_c, aJ_c, aR_c, wI_c, wB_c, wS_c, wZ_c, wJ_c, wR_c, mK_sI, mK_sJ, mK_sR, mK_cpI, mL_sI, mL_sJ, mL_sR, mL_cpI, mI_sI, mI_sJ, mI_sR, mI_cpI, mJ_sI, mJ_sJ, mJ_sR, mJ_cpI, mR_sI, mR_sJ, mR_sR, mR_cpI, i2b_i2b, i2b_sb, iI_lit, iI_add, iI_sub, iI_mul, iI_neg, iI_lt, iI_le, iI_eq, iI_J, lt_T, lt_F, le_T, le_F, eq_T, eq_F, eqN_T, eqN_F, leN_T, leN_F, ltN_T, ltN_F, if_true, if_false, and_true, true_and, and_false, false_and, or_true, true_or, or_false, false_or, not_true_eq_false, not_false_eq_true, and_self, or_self, tn_c, ne_eq, dite_true, dite_false]
    refine w_ret ⟨?_, rfl⟩
    refine congrArg iI ?_
    rcases hp with rfl | hp
    · have : a = 0 ∨ a = 1 := by omega
      rcases this with rfl | rfl <;> rfl
    · rw [log2_of hp q]
  · simp -implicitDefEqProofs (disch := (first | decide | omega)) only [fX13_log_B2, e1, e2, hq, q, bo_s, bd_s, bn_s, gI_s, gJ_s, gR_s, pI_s, pZ_s, pJ_s, pR_s, chk_s, chN_s, chN_n, aL_s, aI_c, aJ_c, aR_c, wI_c, wB_c, wS_c, wZ_c, wJ_c, wR_c, mK_sI, mK_sJ, mK_sR, mK_cpI, mL_sI, mL_sJ, mL_sR, mL_cpI, mI_sI, mI_sJ, mI_sR, mI_cpI, mJ_sI, mJ_sJ, mJ_sR, mJ_cpI, mR_sI, mR_sJ, mR_sR, mR_cpI, i2b_i2b, i2b_sb, iI_lit, iI_add, iI_sub, iI_mul, iI_neg, iI_lt, iI_le, iI_eq, iI_J, lt_T, lt_F, le_T, le_F, eq_T, eq_F, eqN_T, eqN_F, leN_T, leN_F, ltN_T, ltN_F, if_true, if_false, and_true, true_and, and_false, false_and, or_true, true_or, or_false, false_or, not_true_eq_false, not_false_eq_true, and_self, or_self, tn_c, ne_eq, dite_true, dite_false]
    exact ih (d - 1) _ _ (by omega) ⟨t + 1, by omega, rfl, rfl, Or.inr (by omega)⟩
/-! bits told forward: the class's Table, the reference -/
section TAKE
variable {M : Mem} {b n e : Nat} {u : Nat → Nat}
theorem takeBits_ok {t p q : Nat} (h0 : mK M t = 10) (h1 : mR M t 5 = some b) (h2 : mI M t 6 = iI p) (h3 : mI M t 7 = iI q) (hb : BV M b n e u) (hu : ∀ i, u i < 256) (hq : q ≤ 8 * e) (k : Nat) (hk : k ≤ 30) (hpk : p + k ≤ q) :
    fX10_takeBits (some t) (iI k) M = some (iI (bits u p k), sI M t 6 (iI ((p : Int) + k))) := by
  apply Wp.eq
  have g1 := hb.1
  have g2 := hb.2.1
  have g3 := hb.2.2.1
  have g4 := hb.2.2.2.1
  simp -implicitDefEqProofs (disch := (first | decide | omega)) only [fX10_takeBits, fX10_takeBits_L24, h0, h1, h2, h3, bo_s, bd_s, bn_s, gI_s, gJ_s, gR_s, pI_s, pZ_s, pJ_s, pR_s, chk_s, chN_s, chN_n, aL_s, aI_c, aJ_c, aR_c, wI_c, wB_c, wS_c, wZ_c, wJ_c, wR_c, mK_sI, mK_sJ, mK_sR, mK_cpI, mL_sI, mL_sJ, mL_sR, mL_cpI, mI_sI, mI_sJ, mI_sR, mI_cpI, mJ_sI, mJ_sJ, mJ_sR, mJ_cpI, mR_sI, mR_sJ, mR_sR, mR_cpI, i2b_i2b, i2b_sb, iI_lit, iI_add, iI_sub, iI_mul, iI_neg, iI_lt, iI_le, iI_eq, iI_J, lt_T, lt_F, le_T, le_F, eq_T, eq_F, eqN_T, eqN_F, leN_T, leN_F, ltN_T, ltN_F, if_true, if_false, and_true, true_and, and_false, false_and, or_true, true_or, or_false, false_or, not_true_eq_false, not_false_eq_true, and_self, or_self, tn_c, ne_eq, dite_true, dite_false]
  refine w_lpF (fun d x M' => ∃ i : Nat, i + d = k ∧ M' = M ∧ x = (some t, iI k, iI (bits u p i), iI i)) k (by omega) ⟨0, by omega, rfl, rfl⟩ ?_
  rintro g d x M' ⟨i, hd, rfl, rfl⟩ ih
  by_cases c : d = 0
  · obtain rfl : i = k := by omega
    simp -implicitDefEqProofs (disch := (first | decide | omega)) only [fX10_takeBits_B24, h0, h2, bo_s, bd_s, bn_s, gI_s, gJ_s, gR_s, pI_s, pZ_s, pJ_s, pR_s, chk_s, chN_s, chN_n, aL_s, aI_c, aJ_c, aR_c, wI_c, wB_c, wS_c, wZ_c, wJ_c, wR_c, mK_sI, mK_sJ, mK_sR, mK_cpI, mL_sI, mL_sJ, mL_sR, mL_cpI, mI_sI, mI_sJ, mI_sR, mI_cpI, mJ_sI, mJ_sJ, mJ_sR, mJ_cpI, mR_sI, mR_sJ, mR_sR, mR_cpI, i2b_i2b, i2b_sb, iI_lit, iI_add, iI_sub, iI_mul, iI_neg, iI_lt, iI_le, iI_eq, iI_J, lt_T, lt_F, le_T, le_F, eq_T, eq_F, eqN_T, eqN_F, leN_T, leN_F, ltN_T, ltN_F, if_true, if_false, and_true, true_and, and_false, false_and, or_true, true_or, or_false, false_or, not_true_eq_false, not_false_eq_true, and_self, or_self, tn_c, ne_eq, dite_true, dite_false]
    exact w_ret ⟨rfl, rfl⟩
  · have e1 := hb.rd (i := ((p : Int) + i) / 8) (j := (p + i) / 8) (by omega) (by omega)
    have e2 := bt_i hu (p := p + i) (e := (p : Int) + i) (by omega)
    have e3 := bits_or u (p := p) (t := i) (by omega)
    simp -implicitDefEqProofs (disch := (first | decide | omega)) only [fX10_takeBits_B24, fX10_takeBits_L78, h0, h1, h2, g1, g2, shr_3, and_7, e1, e2, e3, bo_s, bd_s, bn_s, gI_s, gJ_s, gR_s, pI_s, pZ_s, pJ_s, pR_s, chk_s, chN_s, chN_n, aL_s, aI_c, aJ_c, aR_c, wI_c, wB_c, wS_c, wZ_c, wJ_c, wR_c, mK_sI, mK_sJ, mK_sR, mK_cpI, mL_sI, mL_sJ, mL_sR, mL_cpI, mI_sI, mI_sJ, mI_sR, mI_cpI, mJ_sI, mJ_sJ, mJ_sR, mJ_cpI, mR_sI, mR_sJ, mR_sR, mR_cpI, i2b_i2b, i2b_sb, iI_lit, iI_add, iI_sub, iI_mul, iI_neg, iI_lt, iI_le, iI_eq, iI_J, lt_T, lt_F, le_T, le_F, eq_T, eq_F, eqN_T, eqN_F, leN_T, leN_F, ltN_T, ltN_F, if_true, if_false, and_true, true_and, and_false, false_and, or_true, true_or, or_false, false_or, not_true_eq_false, not_false_eq_true, and_self, or_self, tn_c, ne_eq, dite_true, dite_false]
    exact ih (d - 1) _ _ (by omega) ⟨i + 1, by omega, rfl, rfl⟩
theorem takeBits_no {t p q : Nat} (h0 : mK M t = 10) (h2 : mI M t 6 = iI p) (h3 : mI M t 7 = iI q) (k : Nat) (hk : k ≤ 30) (hp : p < 1000000000) (hq : q < 1000000000) (hpk : q < p + k) :
    fX10_takeBits (some t) (iI k) M = some (iI 0, sI M t 8 (iI 1)) := by
  simp -implicitDefEqProofs (disch := (first | decide | omega)) only [fX10_takeBits, h0, h2, h3, bo_s, bd_s, bn_s, gI_s, gJ_s, gR_s, pI_s, pZ_s, pJ_s, pR_s, chk_s, chN_s, chN_n, aL_s, aI_c, aJ_c, aR_c, wI_c, wB_c, wS_c, wZ_c, wJ_c, wR_c, mK_sI, mK_sJ, mK_sR, mK_cpI, mL_sI, mL_sJ, mL_sR, mL_cpI, mI_sI, mI_sJ, mI_sR, mI_cpI, mJ_sI, mJ_sJ, mJ_sR, mJ_cpI, mR_sI, mR_sJ, mR_sR, mR_cpI, i2b_i2b, i2b_sb, iI_lit, iI_add, iI_sub, iI_mul, iI_neg, iI_lt, iI_le, iI_eq, iI_J, lt_T, lt_F, le_T, le_F, eq_T, eq_F, eqN_T, eqN_F, leN_T, leN_F, ltN_T, ltN_F, if_true, if_false, and_true, true_and, and_false, false_and, or_true, true_or, or_false, false_or, not_true_eq_false, not_false_eq_true, and_self, or_self, tn_c, ne_eq, dite_true, dite_false]
theorem forward_ok {o p q : Nat} (h0 : mK M o = 13) (h1 : mR M o 6 = some b) (h2 : mI M o 7 = iI p) (h3 : mI M o 8 = iI q) (hb : BV M b n e u) (hu : ∀ i, u i < 256) (hq : q ≤ 8 * e) (k : Nat) (hk : k ≤ 30) (hpk : p + k ≤ q) :
    Wp (fX13_forward (some o) (iI k) M) fun v N => v = iI (bits u p k) ∧ mI N o 7 = iI ((p : Int) + k) ∧ Sq (fun a j => a = o ∧ j = 7) M N := by
  have g1 := hb.1
  have g2 := hb.2.1
  have g3 := hb.2.2.1
  have g4 := hb.2.2.2.1
  have hob : o ≠ b := fun e => by rw [e] at h0; omega
  simp -implicitDefEqProofs (disch := (first | decide | omega)) only [fX13_forward, fX13_forward_L24, h0, h2, h3, bo_s, bd_s, bn_s, gI_s, gJ_s, gR_s, pI_s, pZ_s, pJ_s, pR_s, chk_s, chN_s, chN_n, aL_s, aI_c, aJ_c, aR_c, wI_c, wB_c, wS_c, wZ_c, wJ_c, wR_c, mK_sI, mK_sJ, mK_sR, mK_cpI, mL_sI, mL_sJ, mL_sR, mL_cpI, mI_sI, mI_sJ, mI_sR, mI_cpI, mJ_sI, mJ_sJ, mJ_sR, mJ_cpI, mR_sI, mR_sJ, mR_sR, mR_cpI, i2b_i2b, i2b_sb, iI_lit, iI_add, iI_sub, iI_mul, iI_neg, iI_lt, iI_le, iI_eq, iI_J, lt_T, lt_F, le_T, le_F, eq_T, eq_F, eqN_T, eqN_F, leN_T, leN_F, ltN_T, ltN_F, if_true, if_false, and_true, true_and, and_false, false_and, or_true, true_or, or_false, false_or, not_true_eq_false, not_false_eq_true, and_self, or_self, tn_c, ne_eq, dite_true, dite_false]
  refine w_lpF (fun d x M' => ∃ i : Nat, i + d = k ∧ Sq (fun a j => a = o ∧ j = 7) M M' ∧ mI M' o 7 = iI ((p : Int) + i) ∧ x = (some o, iI k, iI (bits u p i), iI i)) k (by omega) ⟨0, by omega, Sq.rf, by rw [h2]; refine congrArg iI ?_; omega, rfl⟩ ?_
  rintro g d x M' ⟨i, hd, hS, hi, rfl⟩ ih
  have f0 := (hS.K o).trans h0
  have f1 := (hS.R o 6).trans h1
  have f2 := hb.sm hS.sm (by omega)
  by_cases c : d = 0
  · obtain rfl : i = k := by omega
    simp -implicitDefEqProofs (disch := (first | decide | omega)) only [fX13_forward_B24, bo_s, bd_s, bn_s, gI_s, gJ_s, gR_s, pI_s, pZ_s, pJ_s, pR_s, chk_s, chN_s, chN_n, aL_s, aI_c, aJ_c, aR_c, wI_c, wB_c, wS_c, wZ_c, wJ_c, wR_c, mK_sI, mK_sJ, mK_sR, mK_cpI, mL_sI, mL_sJ, mL_sR, mL_cpI, mI_sI, mI_sJ, mI_sR, mI_cpI, mJ_sI, mJ_sJ, mJ_sR, mJ_cpI, mR_sI, mR_sJ, mR_sR, mR_cpI, i2b_i2b, i2b_sb, iI_lit, iI_add, iI_sub, iI_mul, iI_neg, iI_lt, iI_le, iI_eq, iI_J, lt_T, lt_F, le_T, le_F, eq_T, eq_F, eqN_T, eqN_F, leN_T, leN_F, ltN_T, ltN_F, if_true, if_false, and_true, true_and, and_false, false_and, or_true, true_or, or_false, false_or, not_true_eq_false, not_false_eq_true, and_self, or_self, tn_c, ne_eq, dite_true, dite_false]
    exact w_ret ⟨rfl, hi, hS⟩
  · have e1 := f2.rd (i := ((p : Int) + i) / 8) (j := (p + i) / 8) (by omega) (by omega)
    have e2 := bt_i hu (p := p + i) (e := (p : Int) + i) (by omega)
    have e3 := bits_or u (p := p) (t := i) (by omega)
    have f3 := f2.1
    have f4 := f2.2.1
    simp -implicitDefEqProofs (disch := (first | decide | omega)) only [fX13_forward_B24, f0, f1, hi, f3, f4, shr_3, and_7, e1, e2, e3, bo_s, bd_s, bn_s, gI_s, gJ_s, gR_s, pI_s, pZ_s, pJ_s, pR_s, chk_s, chN_s, chN_n, aL_s, aI_c, aJ_c, aR_c, wI_c, wB_c, wS_c, wZ_c, wJ_c, wR_c, mK_sI, mK_sJ, mK_sR, mK_cpI, mL_sI, mL_sJ, mL_sR, mL_cpI, mI_sI, mI_sJ, mI_sR, mI_cpI, mJ_sI, mJ_sJ, mJ_sR, mJ_cpI, mR_sI, mR_sJ, mR_sR, mR_cpI, i2b_i2b, i2b_sb, iI_lit, iI_add, iI_sub, iI_mul, iI_neg, iI_lt, iI_le, iI_eq, iI_J, lt_T, lt_F, le_T, le_F, eq_T, eq_F, eqN_T, eqN_F, leN_T, leN_F, ltN_T, ltN_F, if_true, if_false, and_true, true_and, and_false, false_and, or_true, true_or, or_false, false_or, not_true_eq_false, not_false_eq_true, and_self, or_self, tn_c, ne_eq, dite_true, dite_false]
    refine ih (d - 1) _ _ (by omega) ⟨i + 1, by omega, hS.sI ⟨rfl, rfl⟩, ?_, rfl⟩
    simp -implicitDefEqProofs (disch := (first | decide | omega)) only [mK_sI, mK_sJ, mK_sR, mK_cpI, mL_sI, mL_sJ, mL_sR, mL_cpI, mI_sI, mI_sJ, mI_sR, mI_cpI, mJ_sI, mJ_sJ, mJ_sR, mJ_cpI, mR_sI, mR_sJ, mR_sR, mR_cpI, eqN_T, eqN_F, if_true, if_false, and_true, true_and, and_false, false_and, or_true, true_or, or_false, false_or, not_true_eq_false, not_false_eq_true, and_self, or_self, tn_c, ne_eq, dite_true, dite_false]
    refine congrArg iI ?_
    omega
theorem forward_no {o p q : Nat} (h0 : mK M o = 13) (h2 : mI M o 7 = iI p) (h3 : mI M o 8 = iI q) (k : Nat) (hk : k ≤ 30) (hp : p < 1000000000) (hq : q < 1000000000) (hpk : q < p + k) :
    fX13_forward (some o) (iI k) M = some (iI 0, sI M o 9 (iI 1)) := by
  simp -implicitDefEqProofs (disch := (first | decide | omega)) only [fX13_forward, h0, h2, h3, bo_s, bd_s, bn_s, gI_s, gJ_s, gR_s, pI_s, pZ_s, pJ_s, pR_s, chk_s, chN_s, chN_n, aL_s, aI_c, aJ_c, aR_c, wI_c, wB_c, wS_c, wZ_c, wJ_c, wR_c, mK_sI, mK_sJ, mK_sR, mK_cpI, mL_sI, mL_sJ, mL_sR, mL_cpI, mI_sI, mI_sJ, mI_sR, mI_cpI, mJ_sI, mJ_sJ, mJ_sR, mJ_cpI, mR_sI, mR_sJ, mR_sR, mR_cpI, i2b_i2b, i2b_sb, iI_lit, iI_add, iI_sub, iI_mul, iI_neg, iI_lt, iI_le, iI_eq, iI_J, lt_T, lt_F, le_T, le_F, eq_T, eq_F, eqN_T, eqN_F, leN_T, leN_F, ltN_T, ltN_F, if_true, if_false, and_true, true_and, and_false, false_and, or_true, true_or, or_false, false_or, not_true_eq_false, not_false_eq_true, and_self, or_self, tn_c, ne_eq, dite_true, dite_false]
end TAKE
