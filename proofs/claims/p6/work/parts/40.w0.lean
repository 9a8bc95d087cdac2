/-! arithmetic of the machine's numbers over Int: iI, iJ turn a number into a word, and the words' steps go back into steps of Int -/
def iI (a : Int) : Int32 := Int32.ofInt a
def iJ (a : Int) : Int64 := Int64.ofInt a
def rI (a : Int) : Prop := -2147483648 ≤ a ∧ a < 2147483648
theorem iI_nat (n : Nat) : Int32.ofNat n = iI (n : Int) := (Int32.toBitVec_inj.mp (show (Int32.ofInt (n : Int)).toBitVec = (Int32.ofNat n).toBitVec from BitVec.ofInt_natCast 32 n)).symm
theorem iI_lit (n : Nat) : (no_index (OfNat.ofNat n) : Int32) = iI (OfNat.ofNat n : Int) := iI_nat n
theorem iI_0 : (0 : Int32) = iI 0 := iI_nat 0
theorem iI_1 : (1 : Int32) = iI 1 := iI_nat 1
theorem iI_add (a b : Int) : iI a + iI b = iI (a + b) := (Int32.ofInt_add a b).symm
theorem iI_sub (a b : Int) : iI a - iI b = iI (a - b) := (Int32.ofInt_sub a b).symm
theorem iI_mul (a b : Int) : iI a * iI b = iI (a * b) := (Int32.ofInt_mul a b).symm
theorem iI_neg (a : Int) : - iI a = iI (-a) := (Int32.ofInt_neg a).symm
theorem iI_toInt {a : Int} (h : -2147483648 ≤ a ∧ a < 2147483648) : (iI a).toInt = a := Int32.toInt_ofInt_of_le (by omega) (by omega)
theorem iI_of (x : Int32) : x = iI x.toInt := (Int32.ofInt_toInt x).symm
theorem iI_lt {a b : Int} (ha : -2147483648 ≤ a ∧ a < 2147483648) (hb : -2147483648 ≤ b ∧ b < 2147483648) : (iI a < iI b) = (a < b) := by
  rw [Int32.lt_iff_toInt_lt, iI_toInt ha, iI_toInt hb]
theorem iI_le {a b : Int} (ha : -2147483648 ≤ a ∧ a < 2147483648) (hb : -2147483648 ≤ b ∧ b < 2147483648) : (iI a ≤ iI b) = (a ≤ b) := by
  rw [Int32.le_iff_toInt_le, iI_toInt ha, iI_toInt hb]
theorem iI_eq {a b : Int} (ha : -2147483648 ≤ a ∧ a < 2147483648) (hb : -2147483648 ≤ b ∧ b < 2147483648) : (iI a = iI b) = (a = b) := by
  rw [← Int32.toInt_inj, iI_toInt ha, iI_toInt hb]
theorem iI_clamp {a : Int} (h : -2147483648 ≤ a ∧ a < 2147483648) : (iI a).toNatClampNeg = a.toNat := by
  show (iI a).toInt.toNat = _
  rw [iI_toInt h]
theorem iI_bv (a : Int) : (iI a).toBitVec = BitVec.ofInt 32 a := rfl
theorem iI_tn (a : Int) : (iI a).toBitVec.toNat = (a % 4294967296).toNat := by
  rw [iI_bv, BitVec.toNat_ofInt]; rfl
theorem iI_ext {a b : Int} (h : (a % 4294967296).toNat = (b % 4294967296).toNat) : iI a = iI b := Int32.toBitVec_inj.mp (BitVec.eq_of_toNat_eq (by rw [iI_tn, iI_tn, h]))
theorem iI_inj_mod {a b : Int} (h : a % 4294967296 = b % 4294967296) : iI a = iI b := iI_ext (by rw [h])
theorem int_mod_mod (a : Int) {k n : Nat} (h : k ≤ n) : a % 2 ^ n % 2 ^ k = a % 2 ^ k := Int.emod_emod_of_dvd a ⟨2 ^ (n - k), by rw [← Int.pow_add]; congr 1; omega⟩
theorem iI_and (a : Int) (k : Nat) (hk : k ≤ 31) : iI a &&& iI (2 ^ k - 1) = iI (a % 2 ^ k) := by
  apply Int32.toBitVec_inj.mp
  apply BitVec.eq_of_toNat_eq
  have hp : (2 : Int) ^ k ≤ 2 ^ 31 := by exact_mod_cast Nat.pow_le_pow_right (by decide) hk
  have hq : (0 : Int) < 2 ^ k := by exact_mod_cast Nat.two_pow_pos k
  have e1 : ((2 : Int) ^ k - 1) % 4294967296 = 2 ^ k - 1 := Int.emod_eq_of_lt (by omega) (by omega)
  have e2 : (2 : Int) ^ k = ((2 ^ k : Nat) : Int) := by norm_cast
  have e3 : a % 2 ^ k % 4294967296 = a % 2 ^ k := Int.emod_eq_of_lt (Int.emod_nonneg _ (by omega)) (by have := Int.emod_lt_of_pos a hq; omega)
  rw [Int32.toBitVec_and, BitVec.toNat_and, iI_tn, iI_tn, iI_tn, e1, e3, show ((2 : Int) ^ k - 1).toNat = 2 ^ k - 1 by omega, Nat.and_two_pow_sub_one_eq_mod]
  apply Int.ofNat_inj.mp
  rw [Int.natCast_emod, Int.toNat_of_nonneg (Int.emod_nonneg _ (by decide)), Int.toNat_of_nonneg (Int.emod_nonneg _ (by omega)), ← e2]
  exact int_mod_mod a (n := 32) (by omega)
theorem iJ_nat (n : Nat) : Int64.ofNat n = iJ (n : Int) := (Int64.toBitVec_inj.mp (show (Int64.ofInt (n : Int)).toBitVec = (Int64.ofNat n).toBitVec from BitVec.ofInt_natCast 64 n)).symm
theorem iJ_lit (n : Nat) : (no_index (OfNat.ofNat n) : Int64) = iJ (OfNat.ofNat n : Int) := iJ_nat n
theorem iJ_add (a b : Int) : iJ a + iJ b = iJ (a + b) := (Int64.ofInt_add a b).symm
theorem iJ_sub (a b : Int) : iJ a - iJ b = iJ (a - b) := (Int64.ofInt_sub a b).symm
theorem iJ_mul (a b : Int) : iJ a * iJ b = iJ (a * b) := (Int64.ofInt_mul a b).symm
theorem iJ_neg (a : Int) : - iJ a = iJ (-a) := (Int64.ofInt_neg a).symm
theorem iJ_toInt {a : Int} (h : -9223372036854775808 ≤ a ∧ a < 9223372036854775808) : (iJ a).toInt = a := Int64.toInt_ofInt_of_le (by omega) (by omega)
theorem iJ_of (x : Int64) : x = iJ x.toInt := (Int64.ofInt_toInt x).symm
theorem iJ_lt {a b : Int} (ha : -9223372036854775808 ≤ a ∧ a < 9223372036854775808) (hb : -9223372036854775808 ≤ b ∧ b < 9223372036854775808) : (iJ a < iJ b) = (a < b) := by
  rw [Int64.lt_iff_toInt_lt, iJ_toInt ha, iJ_toInt hb]
theorem iJ_le {a b : Int} (ha : -9223372036854775808 ≤ a ∧ a < 9223372036854775808) (hb : -9223372036854775808 ≤ b ∧ b < 9223372036854775808) : (iJ a ≤ iJ b) = (a ≤ b) := by
  rw [Int64.le_iff_toInt_le, iJ_toInt ha, iJ_toInt hb]
theorem iJ_eq {a b : Int} (ha : -9223372036854775808 ≤ a ∧ a < 9223372036854775808) (hb : -9223372036854775808 ≤ b ∧ b < 9223372036854775808) : (iJ a = iJ b) = (a = b) := by
  rw [← Int64.toInt_inj, iJ_toInt ha, iJ_toInt hb]
theorem iI_J {a : Int} (h : -2147483648 ≤ a ∧ a < 2147483648) : (iI a).toInt64 = iJ a := by
  apply Int64.toInt_inj.mp
  rw [Int32.toInt_toInt64, iI_toInt h, iJ_toInt (by omega)]
theorem iJ_I (a : Int) : (iJ a).toInt32 = iI a := by
  apply Int32.toInt_inj.mp
  simp [iJ, iI]
theorem Int.emod_mul_emod_self2 (a b n : Int) : a % n * b % n = a * b % n := by
  rw [Int.mul_emod (a % n) b n, Int.emod_emod_of_dvd a (Int.dvd_refl n), ← Int.mul_emod]
theorem sm_I : ∀ k : Nat, k < 32 → ((iI (k : Int) &&& 31).toBitVec.smod 32).toNat = k := by decide +kernel
theorem su_I : ∀ k : Nat, k < 32 → (((iI (k : Int)).toUInt32 &&& Int32.toUInt32 31).toBitVec % 32).toNat = k := by decide +kernel
theorem sm_J : ∀ k : Nat, k < 64 → (((iI (k : Int)).toInt64 &&& 63).toBitVec.smod 64).toNat = k := by decide +kernel
theorem iI_shl (a : Int) {k : Nat} (hk : k < 32) : shlI (iI a) (iI (k : Int)) = iI (a * 2 ^ k) := by
  apply Int32.toBitVec_inj.mp
  apply BitVec.eq_of_toNat_eq
  rw [shlI, pk_shl _ _ k (sm_I k hk), iI_tn, iI_tn]
  apply Int.ofNat_inj.mp
  rw [Int.natCast_emod, Int.natCast_mul, Int.toNat_of_nonneg (Int.emod_nonneg _ (by decide)), Int.toNat_of_nonneg (Int.emod_nonneg _ (by decide))]
  rw [show ((2 ^ 32 : Nat) : Int) = 4294967296 by decide, show ((2 ^ k : Nat) : Int) = 2 ^ k by norm_cast]
  exact Int.emod_mul_emod_self2 a (2 ^ k) 4294967296
theorem iI_shr {a : Int} (ha : -2147483648 ≤ a ∧ a < 2147483648) {k : Nat} (hk : k < 32) : shrI (iI a) (iI (k : Int)) = iI (a / 2 ^ k) := by
  apply Int32.toInt_inj.mp
  have hq : (0 : Int) < 2 ^ k := by exact_mod_cast Nat.two_pow_pos k
  have h1 : a / 2 ^ k ≤ a ∨ a / 2 ^ k ≤ 0 := by
    by_cases h : 0 ≤ a
    · exact Or.inl (Int.ediv_le_self _ h)
    · exact Or.inr (by have := Int.ediv_neg_of_neg_of_pos (a := a) (by omega) hq; omega)
  have h2 : a ≤ a / 2 ^ k ∨ 0 ≤ a / 2 ^ k := by
    by_cases h : 0 ≤ a
    · exact Or.inr (Int.ediv_nonneg h (by omega))
    · refine Or.inl ?_
      rw [Int.le_ediv_iff_mul_le hq]
      have := Int.mul_le_mul_of_nonpos_left (a := a) (b := 2 ^ k) (c := 1) (by omega) (by omega)
      omega
  rw [shrI, pk_shr _ _ k (sm_I k hk), iI_toInt ha, iI_toInt (by omega), Int.shiftRight_eq_div_pow]
  norm_cast
theorem iI_ushr {a : Int} (ha : 0 ≤ a ∧ a < 4294967296) {k : Nat} (hk : k < 32) : ushI (iI a) (iI (k : Int)) = iI (a / 2 ^ k) := by
  apply Int32.toBitVec_inj.mp
  apply BitVec.eq_of_toNat_eq
  have hq : (0 : Int) < 2 ^ k := by exact_mod_cast Nat.two_pow_pos k
  have h1 : a / 2 ^ k ≤ a := Int.ediv_le_self _ ha.1
  have h2 : 0 ≤ a / 2 ^ k := Int.ediv_nonneg ha.1 (by omega)
  rw [ushI, pk_ushr _ _ k (su_I k hk), iI_tn, iI_tn, Int.emod_eq_of_lt ha.1 ha.2, Int.emod_eq_of_lt h2 (by omega)]
  apply Int.ofNat_inj.mp
  rw [Int.natCast_ediv, Int.toNat_of_nonneg ha.1, Int.toNat_of_nonneg h2]
  norm_cast
theorem nat_or_add {a b k : Nat} (h : b < 2 ^ k) : a * 2 ^ k ||| b = a * 2 ^ k + b := by
  rw [Nat.mul_comm]; exact (Nat.two_pow_add_eq_or_of_lt h a).symm
theorem int_mod_mul (a : Int) {k n : Nat} (h : k ≤ n) : (a * 2 ^ k % 2 ^ n) = (a % 2 ^ (n - k)) * 2 ^ k := by
  have e : (2 : Int) ^ n = 2 ^ (n - k) * 2 ^ k := by rw [← Int.pow_add]; congr 1; omega
  rw [e, Int.mul_comm a, Int.mul_comm (2 ^ (n - k)), Int.mul_emod_mul_of_pos a _ (by exact_mod_cast Nat.two_pow_pos k), Int.mul_comm]
theorem iI_or (a : Int) {b : Int} {k : Nat} (hk : k ≤ 31) (hb : 0 ≤ b ∧ b < 2 ^ k) : iI (a * 2 ^ k) ||| iI b = iI (a * 2 ^ k + b) := by
  apply Int32.toBitVec_inj.mp
  apply BitVec.eq_of_toNat_eq
  have hp : (2 : Int) ^ k ≤ 2 ^ 31 := by exact_mod_cast Nat.pow_le_pow_right (by decide) hk
  obtain ⟨m, hm⟩ : ∃ m : Nat, (m : Int) = a % 2 ^ (32 - k) := ⟨(a % 2 ^ (32 - k)).toNat, Int.toNat_of_nonneg (Int.emod_nonneg _ (by have : 0 < 2 ^ (32 - k) := Nat.two_pow_pos _; exact_mod_cast (by omega)))⟩
  obtain ⟨c, rfl⟩ : ∃ c : Nat, b = (c : Int) := ⟨b.toNat, by omega⟩
  have hc : c < 2 ^ k := by have := hb.2; exact_mod_cast this
  have hm2 : m < 2 ^ (32 - k) := by
    have : (m : Int) < 2 ^ (32 - k) := by rw [hm]; exact Int.emod_lt_of_pos _ (by exact_mod_cast Nat.two_pow_pos _)
    exact_mod_cast this
  have e1 : a * 2 ^ k % 4294967296 = ((m * 2 ^ k : Nat) : Int) := by
    rw [show (4294967296 : Int) = 2 ^ 32 by decide, int_mod_mul a (by omega), ← hm]; norm_cast
  have e3 : m * 2 ^ k + c < 2 ^ 32 := by
    have : (m + 1) * 2 ^ k ≤ 2 ^ (32 - k) * 2 ^ k := Nat.mul_le_mul_right _ hm2
    rw [← Nat.pow_add, Nat.add_mul, show 32 - k + k = 32 by omega] at this
    omega
  have e2 : (a * 2 ^ k + (c : Int)) % 4294967296 = ((m * 2 ^ k + c : Nat) : Int) := by
    omega
  rw [Int32.toBitVec_or, BitVec.toNat_or, iI_tn, iI_tn, iI_tn, e1, e2, Int.emod_eq_of_lt (by omega) (by omega), Int.toNat_natCast, Int.toNat_natCast, Int.toNat_natCast, nat_or_add hc]
theorem iJ_tn (a : Int) : (iJ a).toBitVec.toNat = (a % 18446744073709551616).toNat := by
  show (BitVec.ofInt 64 a).toNat = _
  rw [BitVec.toNat_ofInt]; rfl
theorem iJ_ext {a b : Int} (h : (a % 18446744073709551616).toNat = (b % 18446744073709551616).toNat) : iJ a = iJ b := Int64.toBitVec_inj.mp (BitVec.eq_of_toNat_eq (by rw [iJ_tn, iJ_tn, h]))
theorem iJ_and (a : Int) (k : Nat) (hk : k ≤ 63) : iJ a &&& iJ (2 ^ k - 1) = iJ (a % 2 ^ k) := by
  apply Int64.toBitVec_inj.mp
  apply BitVec.eq_of_toNat_eq
  have hp : (2 : Int) ^ k ≤ 2 ^ 63 := by exact_mod_cast Nat.pow_le_pow_right (by decide) hk
  have hq : (0 : Int) < 2 ^ k := by exact_mod_cast Nat.two_pow_pos k
  have e1 : ((2 : Int) ^ k - 1) % 18446744073709551616 = 2 ^ k - 1 := Int.emod_eq_of_lt (by omega) (by omega)
  have e2 : (2 : Int) ^ k = ((2 ^ k : Nat) : Int) := by norm_cast
  have e3 : a % 2 ^ k % 18446744073709551616 = a % 2 ^ k := Int.emod_eq_of_lt (Int.emod_nonneg _ (by omega)) (by have := Int.emod_lt_of_pos a hq; omega)
  rw [Int64.toBitVec_and, BitVec.toNat_and, iJ_tn, iJ_tn, iJ_tn, e1, e3, show ((2 : Int) ^ k - 1).toNat = 2 ^ k - 1 by omega, Nat.and_two_pow_sub_one_eq_mod]
  apply Int.ofNat_inj.mp
  rw [Int.natCast_emod, Int.toNat_of_nonneg (Int.emod_nonneg _ (by decide)), Int.toNat_of_nonneg (Int.emod_nonneg _ (by omega)), ← e2]
  exact int_mod_mod a (n := 64) (by omega)
theorem iJ_shl (a : Int) {k : Nat} (hk : k < 64) : shlJ (iJ a) (iI (k : Int)) = iJ (a * 2 ^ k) := by
  apply Int64.toBitVec_inj.mp
  apply BitVec.eq_of_toNat_eq
  have e : (shlJ (iJ a) (iI (k : Int))).toBitVec.toNat = ((iJ a).toBitVec <<< (((iI (k : Int)).toInt64 &&& 63).toBitVec.smod 64).toNat).toNat := rfl
  rw [e, sm_J k hk, BitVec.toNat_shiftLeft, Nat.shiftLeft_eq, iJ_tn, iJ_tn]
  apply Int.ofNat_inj.mp
  rw [Int.natCast_emod, Int.natCast_mul, Int.toNat_of_nonneg (Int.emod_nonneg _ (by decide)), Int.toNat_of_nonneg (Int.emod_nonneg _ (by decide))]
  rw [show ((2 ^ 64 : Nat) : Int) = 18446744073709551616 by decide, show ((2 ^ k : Nat) : Int) = 2 ^ k by norm_cast]
  exact Int.emod_mul_emod_self2 a (2 ^ k) 18446744073709551616
theorem iJ_shr {a : Int} (ha : -9223372036854775808 ≤ a ∧ a < 9223372036854775808) {k : Nat} (hk : k < 64) : shrJ (iJ a) (iI (k : Int)) = iJ (a / 2 ^ k) := by
  apply Int64.toInt_inj.mp
  have hq : (0 : Int) < 2 ^ k := by exact_mod_cast Nat.two_pow_pos k
  have h1 : a / 2 ^ k ≤ a ∨ a / 2 ^ k ≤ 0 := by
    by_cases h : 0 ≤ a
    · exact Or.inl (Int.ediv_le_self _ h)
    · exact Or.inr (by have := Int.ediv_neg_of_neg_of_pos (a := a) (by omega) hq; omega)
  have h2 : a ≤ a / 2 ^ k ∨ 0 ≤ a / 2 ^ k := by
    by_cases h : 0 ≤ a
    · exact Or.inr (Int.ediv_nonneg h (by omega))
    · refine Or.inl ?_
      rw [Int.le_ediv_iff_mul_le hq]
      have := Int.mul_le_mul_of_nonpos_left (a := a) (b := 2 ^ k) (c := 1) (by omega) (by omega)
      omega
  have e : (shrJ (iJ a) (iI (k : Int))).toInt = ((iJ a).toBitVec.sshiftRight (((iI (k : Int)).toInt64 &&& 63).toBitVec.smod 64).toNat).toInt := rfl
  rw [e, sm_J k hk, BitVec.toInt_sshiftRight, iJ_toInt (by omega), Int.shiftRight_eq_div_pow]
  rw [show (iJ a).toBitVec.toInt = a from iJ_toInt ha]
  norm_cast
theorem su_J : ∀ k : Nat, k < 64 → (((iI (k : Int)).toInt64.toUInt64 &&& Int64.toUInt64 63).toBitVec % 64).toNat = k := by decide +kernel
theorem iJ_ushr (a : Int) {k : Nat} (hk : k < 64) : ushJ (iJ a) (iI (k : Int)) = iJ (a % 18446744073709551616 / 2 ^ k) := by
  apply Int64.toBitVec_inj.mp
  apply BitVec.eq_of_toNat_eq
  have hq : (0 : Int) < 2 ^ k := by exact_mod_cast Nat.two_pow_pos k
  have h0 : 0 ≤ a % 18446744073709551616 := Int.emod_nonneg _ (by decide)
  have h3 : a % 18446744073709551616 < 18446744073709551616 := Int.emod_lt_of_pos _ (by decide)
  have h1 : a % 18446744073709551616 / 2 ^ k ≤ a % 18446744073709551616 := Int.ediv_le_self _ h0
  have h2 : 0 ≤ a % 18446744073709551616 / 2 ^ k := Int.ediv_nonneg h0 (by omega)
  have e : (ushJ (iJ a) (iI (k : Int))).toBitVec.toNat = ((iJ a).toBitVec >>> (((iI (k : Int)).toInt64.toUInt64 &&& Int64.toUInt64 63).toBitVec % 64).toNat).toNat := rfl
  rw [e, su_J k hk, BitVec.toNat_ushiftRight, Nat.shiftRight_eq_div_pow, iJ_tn, iJ_tn, Int.emod_eq_of_lt h2 (by omega)]
  apply Int.ofNat_inj.mp
  rw [Int.natCast_ediv, Int.toNat_of_nonneg h0, Int.toNat_of_nonneg h2, show ((2 ^ k : Nat) : Int) = 2 ^ k by norm_cast]
theorem iJ_or (a : Int) {b : Int} {k : Nat} (hk : k ≤ 63) (hb : 0 ≤ b ∧ b < 2 ^ k) : iJ (a * 2 ^ k) ||| iJ b = iJ (a * 2 ^ k + b) := by
  apply Int64.toBitVec_inj.mp
  apply BitVec.eq_of_toNat_eq
  have hp : (2 : Int) ^ k ≤ 2 ^ 63 := by exact_mod_cast Nat.pow_le_pow_right (by decide) hk
  obtain ⟨m, hm⟩ : ∃ m : Nat, (m : Int) = a % 2 ^ (64 - k) := ⟨(a % 2 ^ (64 - k)).toNat, Int.toNat_of_nonneg (Int.emod_nonneg _ (by have : 0 < 2 ^ (64 - k) := Nat.two_pow_pos _; exact_mod_cast (by omega)))⟩
  obtain ⟨c, rfl⟩ : ∃ c : Nat, b = (c : Int) := ⟨b.toNat, by omega⟩
  have hc : c < 2 ^ k := by have := hb.2; exact_mod_cast this
  have hm2 : m < 2 ^ (64 - k) := by
    have : (m : Int) < 2 ^ (64 - k) := by rw [hm]; exact Int.emod_lt_of_pos _ (by exact_mod_cast Nat.two_pow_pos _)
    exact_mod_cast this
  have e1 : a * 2 ^ k % 18446744073709551616 = ((m * 2 ^ k : Nat) : Int) := by
    rw [show (18446744073709551616 : Int) = 2 ^ 64 by decide, int_mod_mul a (by omega), ← hm]; norm_cast
  have e3 : m * 2 ^ k + c < 2 ^ 64 := by
    have : (m + 1) * 2 ^ k ≤ 2 ^ (64 - k) * 2 ^ k := Nat.mul_le_mul_right _ hm2
    rw [← Nat.pow_add, Nat.add_mul, show 64 - k + k = 64 by omega] at this
    omega
  have e2 : (a * 2 ^ k + (c : Int)) % 18446744073709551616 = ((m * 2 ^ k + c : Nat) : Int) := by
    omega
  rw [Int64.toBitVec_or, BitVec.toNat_or, iJ_tn, iJ_tn, iJ_tn, e1, e2, Int.emod_eq_of_lt (by omega) (by omega), Int.toNat_natCast, Int.toNat_natCast, Int.toNat_natCast, nat_or_add hc]
theorem i2b_iI (a : Int) : i2b (iI a) = iI (Int.bmod a 256) := by
  apply Int32.toInt_inj.mp
  have h1 := @Int.bmod_lt a 256 (by decide)
  have h2 := @Int.le_bmod a 256 (by decide)
  rw [iI_toInt (by omega), i2b, Int8.toInt_toInt32, iI, Int32.toInt8_ofInt, Int8.toInt_ofInt]
/-! what a function answers, and what holds then -/
def Wp {ρ : Type} (r : Option (ρ × Mem)) (Q : ρ → Mem → Prop) : Prop := ∃ v N, r = some (v, N) ∧ Q v N
section WP
variable {ρ α : Type} {Q : ρ → Mem → Prop} {M : Mem} {a b j k : Nat}
theorem w_ret {v : ρ} (h : Q v M) : Wp (some (v, M)) Q := ⟨v, M, rfl, h⟩
theorem w_mono {r : Option (ρ × Mem)} {P : ρ → Mem → Prop} (h : Wp r P) (f : ∀ v N, P v N → Q v N) : Wp r Q := by
  obtain ⟨v, N, e, p⟩ := h
  exact ⟨v, N, e, f v N p⟩
theorem w_bd {r : Option (α × Mem)} {P : α → Mem → Prop} {K : α → Mem → Option (ρ × Mem)} (h : Wp r P) (f : ∀ v N, P v N → Wp (K v N) Q) : Wp (bd r K) Q := by
  obtain ⟨v, N, e, p⟩ := h
  rw [e]
  exact f v N p
theorem w_bn {x : α} {K : α → Option (ρ × Mem)} (h : Wp (K x) Q) : Wp (bn x K) Q := h
theorem w_if {c : Prop} [Decidable c] {A B : Option (ρ × Mem)} (h1 : c → Wp A Q) (h2 : ¬ c → Wp B Q) : Wp (if c then A else B) Q := by
  by_cases h : c
  · rw [if_pos h]; exact h1 h
  · rw [if_neg h]; exact h2 h
theorem w_lp {β : Type} {body : (β → Mem → Option (ρ × Mem)) → β → Mem → Option (ρ × Mem)} (I : β → Mem → Prop) (μ : β → Mem → Nat)
    (hs : ∀ (g : β → Mem → Option (ρ × Mem)) x M, I x M → (∀ x' M', I x' M' → μ x' M' < μ x M → Wp (g x' M') Q) → Wp (body g x M) Q) :
    ∀ (f : Nat) (x : β) (M : Mem), I x M → μ x M < f → Wp (lp body f x M) Q := by
  intro f
  induction f with
  | zero => intro x M _ h; omega
  | succ f ih =>
    intro x M hI hf
    exact hs (lp body f) x M hI fun x' M' hI' hl => ih x' M' hI' (by omega)
end WP
