/-! steps of the memory for the simplifier -/
theorem bo_s {α β : Type} (a : α) (K : α → Option β) : bo (some a) K = K a := rfl
theorem bo_n {α β : Type} (K : α → Option β) : bo none K = none := rfl
theorem bd_s {α β : Type} (a : α) (M : Mem) (K : α → Mem → Option β) : bd (some (a, M)) K = K a M := rfl
theorem bn_s {α β : Type} (a : α) (K : α → β) : bn a K = K a := rfl
theorem gI_s (M : Mem) (a k j : Nat) : gI M (some a) k j = if mK M a = k then some (mI M a j) else none := rfl
theorem gJ_s (M : Mem) (a k j : Nat) : gJ M (some a) k j = if mK M a = k then some (mJ M a j) else none := rfl
theorem gR_s (M : Mem) (a k j : Nat) : gR M (some a) k j = if mK M a = k then some (mR M a j) else none := rfl
theorem pI_s (M : Mem) (a k j : Nat) (v : Int32) : pI M (some a) k j v = if mK M a = k then some (sI M a j v) else none := rfl
theorem pZ_s (M : Mem) (a k j : Nat) (v : Int32) : pZ M (some a) k j v = if mK M a = k ∧ (v = 0 ∨ v = 1) then some (sI M a j v) else none := rfl
theorem pJ_s (M : Mem) (a k j : Nat) (v : Int64) : pJ M (some a) k j v = if mK M a = k then some (sJ M a j v) else none := rfl
theorem pR_s (M : Mem) (a k j : Nat) (v : Option Nat) : pR M (some a) k j v = if mK M a = k then some (sR M a j v) else none := rfl
theorem chk_s (M : Mem) (a k : Nat) : chk M (some a) k = if mK M a = k then some () else none := rfl
theorem chN_s (M : Mem) (a k : Nat) : chN M (some a) k = if mK M a = k then some () else none := rfl
theorem chN_n (M : Mem) (k : Nat) : chN M none k = some () := rfl
theorem aL_s (M : Mem) (a : Nat) : aL M (some a) = if 14 ≤ mK M a ∧ mK M a ≤ 21 then some (iI (mL M a)) else none := by
  rw [← iI_nat]; rfl
theorem ix_c {M : Mem} {a : Nat} {e : Int} (h : -2147483648 ≤ e ∧ e < 2147483648) : (¬ (iI e < 0 ∨ mL M a ≤ (iI e).toNatClampNeg)) = (0 ≤ e ∧ e < mL M a) := by
  rw [iI_clamp h, iI_0, iI_lt h (by omega)]
  exact propext (by omega)
theorem aI_c {M : Mem} {a k : Nat} {e : Int} (h : -2147483648 ≤ e ∧ e < 2147483648) : aI M (some a) k (iI e) = if (mK M a = k ∨ (k = 15 ∧ mK M a = 21)) ∧ 0 ≤ e ∧ e < mL M a then some (mI M a e.toNat) else none := by
  show (if _ ∧ ¬ (iI e < 0 ∨ mL M a ≤ (iI e).toNatClampNeg) then some (mI M a (iI e).toNatClampNeg) else none) = _
  simp only [ix_c h]
  simp only [iI_clamp h]
theorem aJ_c {M : Mem} {a : Nat} {e : Int} (h : -2147483648 ≤ e ∧ e < 2147483648) : aJ M (some a) (iI e) = if mK M a = 16 ∧ 0 ≤ e ∧ e < mL M a then some (mJ M a e.toNat) else none := by
  show (if _ ∧ ¬ (iI e < 0 ∨ mL M a ≤ (iI e).toNatClampNeg) then some (mJ M a (iI e).toNatClampNeg) else none) = _
  simp only [ix_c h]
  simp only [iI_clamp h]
theorem aR_c {M : Mem} {a k : Nat} {e : Int} (h : -2147483648 ≤ e ∧ e < 2147483648) : aR M (some a) k (iI e) = if mK M a = k ∧ 0 ≤ e ∧ e < mL M a then some (mR M a e.toNat) else none := by
  show (if _ ∧ ¬ (iI e < 0 ∨ mL M a ≤ (iI e).toNatClampNeg) then some (mR M a (iI e).toNatClampNeg) else none) = _
  simp only [ix_c h]
  simp only [iI_clamp h]
theorem wI_c {M : Mem} {a : Nat} {e : Int} {v : Int32} (h : -2147483648 ≤ e ∧ e < 2147483648) : wI M (some a) (iI e) v = if mK M a = 15 ∧ 0 ≤ e ∧ e < mL M a then some (sI M a e.toNat v) else none := by
  show (if _ ∧ ¬ (iI e < 0 ∨ mL M a ≤ (iI e).toNatClampNeg) then some (sI M a (iI e).toNatClampNeg v) else none) = _
  simp only [ix_c h]
  simp only [iI_clamp h]
theorem wB_c {M : Mem} {a : Nat} {e : Int} {v : Int32} (h : -2147483648 ≤ e ∧ e < 2147483648) : wB M (some a) (iI e) v = if mK M a = 14 ∧ 0 ≤ e ∧ e < mL M a then some (sI M a e.toNat (i2b v)) else none := by
  show (if _ ∧ ¬ (iI e < 0 ∨ mL M a ≤ (iI e).toNatClampNeg) then some (sI M a (iI e).toNatClampNeg (i2b v)) else none) = _
  simp only [ix_c h]
  simp only [iI_clamp h]
theorem wS_c {M : Mem} {a : Nat} {e : Int} {v : Int32} (h : -2147483648 ≤ e ∧ e < 2147483648) : wS M (some a) (iI e) v = if mK M a = 17 ∧ 0 ≤ e ∧ e < mL M a then some (sI M a e.toNat (i2s v)) else none := by
  show (if _ ∧ ¬ (iI e < 0 ∨ mL M a ≤ (iI e).toNatClampNeg) then some (sI M a (iI e).toNatClampNeg (i2s v)) else none) = _
  simp only [ix_c h]
  simp only [iI_clamp h]
theorem wZ_c {M : Mem} {a : Nat} {e : Int} {v : Int32} (h : -2147483648 ≤ e ∧ e < 2147483648) : wZ M (some a) (iI e) v = if mK M a = 18 ∧ 0 ≤ e ∧ e < mL M a then some (sI M a e.toNat (v &&& 1)) else none := by
  show (if _ ∧ ¬ (iI e < 0 ∨ mL M a ≤ (iI e).toNatClampNeg) then some (sI M a (iI e).toNatClampNeg (v &&& 1)) else none) = _
  simp only [ix_c h]
  simp only [iI_clamp h]
theorem wJ_c {M : Mem} {a : Nat} {e : Int} {v : Int64} (h : -2147483648 ≤ e ∧ e < 2147483648) : wJ M (some a) (iI e) v = if mK M a = 16 ∧ 0 ≤ e ∧ e < mL M a then some (sJ M a e.toNat v) else none := by
  show (if _ ∧ ¬ (iI e < 0 ∨ mL M a ≤ (iI e).toNatClampNeg) then some (sJ M a (iI e).toNatClampNeg v) else none) = _
  simp only [ix_c h]
  simp only [iI_clamp h]
theorem wR_c {M : Mem} {a b k ek : Nat} {e : Int} (h : -2147483648 ≤ e ∧ e < 2147483648) : wR M (some a) k ek (iI e) (some b) = if mK M a = k ∧ mK M b = ek ∧ 0 ≤ e ∧ e < mL M a then some (sR M a e.toNat (some b)) else none := by
  show (if _ ∧ _ ∧ ¬ (iI e < 0 ∨ mL M a ≤ (iI e).toNatClampNeg) then some (sR M a (iI e).toNatClampNeg (some b)) else none) = _
  simp only [ix_c h]
  simp only [iI_clamp h]
theorem lt_T {a b : Int} (h : a < b) : (a < b) = True := eq_true h
theorem lt_F {a b : Int} (h : b ≤ a) : (a < b) = False := eq_false (by omega)
theorem le_T {a b : Int} (h : a ≤ b) : (a ≤ b) = True := eq_true h
theorem le_F {a b : Int} (h : b < a) : (a ≤ b) = False := eq_false (by omega)
theorem eq_T {a b : Int} (h : a = b) : (a = b) = True := eq_true h
theorem eq_F {a b : Int} (h : a ≠ b) : (a = b) = False := eq_false h
theorem eqN_T {a b : Nat} (h : a = b) : (a = b) = True := eq_true h
theorem eqN_F {a b : Nat} (h : a ≠ b) : (a = b) = False := eq_false h
theorem ltN_T {a b : Nat} (h : a < b) : (a < b) = True := eq_true h
theorem ltN_F {a b : Nat} (h : b ≤ a) : (a < b) = False := eq_false (by omega)
theorem leN_T {a b : Nat} (h : a ≤ b) : (a ≤ b) = True := eq_true h
theorem leN_F {a b : Nat} (h : b < a) : (a ≤ b) = False := eq_false (by omega)
theorem tn_c (n : Nat) : (n : Int).toNat = n := Int.toNat_natCast n
/-! bytes: u below 256 stands in the memory with its sign -/
def sb (u : Nat) : Int32 := iI (Int.bmod u 256)
theorem sb_and {u : Nat} (h : u < 256) : sb u &&& iI 255 = iI u := by
  rw [sb, show (255 : Int) = 2 ^ 8 - 1 by decide, iI_and _ 8 (by omega)]
  refine congrArg iI ?_
  rw [show (2 : Int) ^ 8 = ((256 : Nat) : Int) by decide, Int.bmod_emod]
  exact Int.emod_eq_of_lt (by omega) (by omega)
theorem i2b_nat (a : Nat) : i2b (iI a) = sb (a % 256) := by
  rw [i2b_iI, sb]
  refine congrArg iI ?_
  rw [show ((a % 256 : Nat) : Int) = (a : Int) % (256 : Nat) by omega, Int.emod_bmod]
theorem i2b_int (a : Int) : i2b (iI a) = sb (a % 256).toNat := by
  rw [i2b_iI, sb]
  refine congrArg iI ?_
  rw [show (((a % 256).toNat : Nat) : Int) = a % (256 : Nat) by omega, Int.emod_bmod]
theorem i2b_sb {u : Nat} : i2b (sb u) = sb u := by
  rw [sb, i2b_iI, Int.bmod_bmod]
theorem i2b_i2b (v : Int32) : i2b (i2b v) = i2b v := by
  conv => lhs; rw [iI_of v, i2b_iI, i2b_iI, Int.bmod_bmod, ← i2b_iI, ← iI_of v]
theorem and_lt (x : Int32) : ∃ w : Nat, w < 256 ∧ x &&& iI 255 = iI w := by
  rw [iI_of x, show (255 : Int) = 2 ^ 8 - 1 by decide, iI_and _ 8 (by omega)]
  refine ⟨(x.toInt % 256).toNat, by omega, ?_⟩
  refine congrArg iI ?_
  show x.toInt % 256 = _
  omega
theorem and_255 (a : Int) : iI a &&& iI 255 = iI (a % 256) := iI_and a 8 (by omega)
theorem and_7 (a : Int) : iI a &&& iI 7 = iI (a % 8) := iI_and a 3 (by omega)
theorem and_3 (a : Int) : iI a &&& iI 3 = iI (a % 4) := iI_and a 2 (by omega)
theorem and_15 (a : Int) : iI a &&& iI 15 = iI (a % 16) := iI_and a 4 (by omega)
theorem and_1 (a : Int) : iI a &&& iI 1 = iI (a % 2) := iI_and a 1 (by omega)
theorem andJ_255 (a : Int) : iJ a &&& iJ 255 = iJ (a % 256) := iJ_and a 8 (by omega)
theorem andJ_1 (a : Int) : iJ a &&& iJ 1 = iJ (a % 2) := iJ_and a 1 (by omega)
theorem shl_i {a k : Int} (h : 0 ≤ k ∧ k < 32) : shlI (iI a) (iI k) = iI (a * 2 ^ k.toNat) := by
  have := iI_shl a (k := k.toNat) (by omega)
  rwa [Int.toNat_of_nonneg h.1] at this
theorem shr_i {a k : Int} (h : 0 ≤ k ∧ k < 32) (ha : -2147483648 ≤ a ∧ a < 2147483648) : shrI (iI a) (iI k) = iI (a / 2 ^ k.toNat) := by
  have := iI_shr ha (k := k.toNat) (by omega)
  rwa [Int.toNat_of_nonneg h.1] at this
theorem ush_i {a k : Int} (h : 0 ≤ k ∧ k < 32) (ha : 0 ≤ a ∧ a < 4294967296) : ushI (iI a) (iI k) = iI (a / 2 ^ k.toNat) := by
  have := iI_ushr ha (k := k.toNat) (by omega)
  rwa [Int.toNat_of_nonneg h.1] at this
theorem shlJ_i {a k : Int} (h : 0 ≤ k ∧ k < 64) : shlJ (iJ a) (iI k) = iJ (a * 2 ^ k.toNat) := by
  have := iJ_shl a (k := k.toNat) (by omega)
  rwa [Int.toNat_of_nonneg h.1] at this
theorem shrJ_i {a k : Int} (h : 0 ≤ k ∧ k < 64) (ha : -9223372036854775808 ≤ a ∧ a < 9223372036854775808) : shrJ (iJ a) (iI k) = iJ (a / 2 ^ k.toNat) := by
  have := iJ_shr ha (k := k.toNat) (by omega)
  rwa [Int.toNat_of_nonneg h.1] at this
theorem ushJ_i {a k : Int} (h : 0 ≤ k ∧ k < 64) (ha : 0 ≤ a ∧ a < 18446744073709551616) : ushJ (iJ a) (iI k) = iJ (a / 2 ^ k.toNat) := by
  have := iJ_ushr a (k := k.toNat) (by omega)
  rw [Int.toNat_of_nonneg h.1] at this
  rw [this, Int.emod_eq_of_lt ha.1 ha.2]
theorem cmp_eq {a b : Int} (ha : -9223372036854775808 ≤ a ∧ a < 9223372036854775808) (hb : -9223372036854775808 ≤ b ∧ b < 9223372036854775808) : lg_cmp (iJ a) (iJ b) = iI (if b < a then 1 else if a = b then 0 else -1) := by
  unfold lg_cmp
  have e1 : (iJ a > iJ b) = (b < a) := iJ_lt hb ha
  have e2 : (iJ a = iJ b) = (a = b) := iJ_eq ha hb
  simp only [e1, e2]
  by_cases h1 : b < a
  · simp only [h1, if_true]; rfl
  · by_cases h2 : a = b
    · subst h2; simp only [h1, if_false, if_true]; rfl
    · simp only [h1, h2, if_false]; rfl
theorem dv_i {a b : Int} (ha : 0 ≤ a ∧ a < 2147483648) (hb : 0 < b ∧ b < 2147483648) : dv (iI a) (iI b) = some (iI (a / b)) := by
  have h1 : a / b ≤ a := Int.ediv_le_self _ ha.1
  have h2 : 0 ≤ a / b := Int.ediv_nonneg ha.1 (by omega)
  rw [dv, if_neg (by rw [iI_0, iI_eq (by omega) (by omega)]; omega)]
  refine congrArg some ?_
  apply Int32.toInt_inj.mp
  rw [Int32.toInt_div_of_ne_right _ _ (by
    intro h
    have := congrArg Int32.toInt h
    rw [iI_toInt (by omega)] at this
    simp at this
    omega), iI_toInt (by omega), iI_toInt (by omega), iI_toInt (by omega), Int.tdiv_eq_ediv_of_nonneg ha.1]
/-! what stays: N differs from M in the cells of S alone -/
def Sm (S : Nat → Nat → Prop) (M N : Mem) : Prop := mN N = mN M ∧ N.2.1 = M.2.1 ∧ N.2.2.1 = M.2.2.1 ∧ ∀ a j, ¬ S a j → mI N a j = mI M a j ∧ mJ N a j = mJ M a j ∧ mR N a j = mR M a j
section SM
variable {S T : Nat → Nat → Prop} {M N O : Mem} {a j : Nat}
theorem Sm.mk (h : mN N = mN M ∧ N.2.1 = M.2.1 ∧ N.2.2.1 = M.2.2.1 ∧ ∀ a j, ¬ S a j → mI N a j = mI M a j ∧ mJ N a j = mJ M a j ∧ mR N a j = mR M a j) : Sm S M N := h
theorem Sm.n (h : Sm S M N) : mN N = mN M := h.1
theorem Sm.k (h : Sm S M N) : N.2.1 = M.2.1 := h.2.1
theorem Sm.l (h : Sm S M N) : N.2.2.1 = M.2.2.1 := h.2.2.1
theorem Sm.K (h : Sm S M N) (a : Nat) : mK N a = mK M a := congrFun h.k a
theorem Sm.L (h : Sm S M N) (a : Nat) : mL N a = mL M a := congrFun h.l a
theorem Sm.I (h : Sm S M N) (a j : Nat) (ha : ¬ S a j) : mI N a j = mI M a j := (h.2.2.2 a j ha).1
theorem Sm.J (h : Sm S M N) (a j : Nat) (ha : ¬ S a j) : mJ N a j = mJ M a j := (h.2.2.2 a j ha).2.1
theorem Sm.R (h : Sm S M N) (a j : Nat) (ha : ¬ S a j) : mR N a j = mR M a j := (h.2.2.2 a j ha).2.2
theorem Sm.rf : Sm S M M := Sm.mk ⟨rfl, rfl, rfl, fun _ _ _ => ⟨rfl, rfl, rfl⟩⟩
theorem Sm.weak (h : Sm S M N) (hs : ∀ a j, S a j → T a j) : Sm T M N := Sm.mk ⟨h.n, h.k, h.l, fun a j ha => h.2.2.2 a j fun q => ha (hs a j q)⟩
theorem Sm.tr (h1 : Sm S M N) (h2 : Sm S N O) : Sm S M O := Sm.mk ⟨h2.n.trans h1.n, h2.k.trans h1.k, h2.l.trans h1.l, fun a j ha => ⟨(h2.I a j ha).trans (h1.I a j ha), (h2.J a j ha).trans (h1.J a j ha), (h2.R a j ha).trans (h1.R a j ha)⟩⟩
theorem Sm.tr2 {U : Nat → Nat → Prop} (h1 : Sm S M N) (h2 : Sm T N O) (hs : ∀ a j, S a j → U a j) (ht : ∀ a j, T a j → U a j) : Sm U M O := (h1.weak hs).tr (h2.weak ht)
theorem Sm.sI {v : Int32} (h : Sm S M N) (ha : S a j) : Sm S M (sI N a j v) := Sm.mk ⟨h.n, h.k, h.l, fun b i hb => ⟨by rw [mI_sI, if_neg (show ¬ (b = a ∧ i = j) from fun q => hb (by rw [q.1, q.2]; exact ha))]; exact h.I b i hb, h.J b i hb, h.R b i hb⟩⟩
theorem Sm.sJ {v : Int64} (h : Sm S M N) (ha : S a j) : Sm S M (sJ N a j v) := Sm.mk ⟨h.n, h.k, h.l, fun b i hb => ⟨h.I b i hb, by rw [mJ_sJ, if_neg (show ¬ (b = a ∧ i = j) from fun q => hb (by rw [q.1, q.2]; exact ha))]; exact h.J b i hb, h.R b i hb⟩⟩
theorem Sm.sR {v : Option Nat} (h : Sm S M N) (ha : S a j) : Sm S M (sR N a j v) := Sm.mk ⟨h.n, h.k, h.l, fun b i hb => ⟨h.I b i hb, h.J b i hb, by rw [mR_sR, if_neg (show ¬ (b = a ∧ i = j) from fun q => hb (by rw [q.1, q.2]; exact ha))]; exact h.R b i hb⟩⟩
end SM
theorem minI_iI {a b : Int} (ha : -2147483648 ≤ a ∧ a < 2147483648) (hb : -2147483648 ≤ b ∧ b < 2147483648) : minI (iI a) (iI b) = iI (min a b) := by
  unfold minI
  by_cases h : b < a
  · rw [if_pos (by rw [iI_lt hb ha]; exact h), show min a b = b by omega]
  · rw [if_neg (by rw [iI_lt hb ha]; exact h), show min a b = a by omega]
theorem maxI_iI {a b : Int} (ha : -2147483648 ≤ a ∧ a < 2147483648) (hb : -2147483648 ≤ b ∧ b < 2147483648) : maxI (iI a) (iI b) = iI (max a b) := by
  unfold maxI
  by_cases h : a < b
  · rw [if_pos (by rw [iI_lt ha hb]; exact h), show max a b = b by omega]
  · rw [if_neg (by rw [iI_lt ha hb]; exact h), show max a b = a by omega]
theorem absI_iI {a : Int} (ha : -2147483648 ≤ a ∧ a < 2147483648) : absI (iI a) = iI (if 0 ≤ a then a else -a) := by
  unfold absI
  by_cases h : 0 ≤ a
  · rw [if_pos (by rw [iI_0, iI_le (by omega) ha]; exact h), if_pos h]
  · rw [if_neg (by rw [iI_0, iI_le (by omega) ha]; exact h), if_neg h, iI_0, iI_sub, Int.zero_sub]
theorem w_lpn {ρ β : Type} {Q : ρ → Mem → Prop} {body : (β → Mem → Option (ρ × Mem)) → β → Mem → Option (ρ × Mem)} (I : Nat → β → Mem → Prop)
    (hs : ∀ (g : β → Mem → Option (ρ × Mem)) d x M, I d x M → (∀ d' x' M', d' < d → I d' x' M' → Wp (g x' M') Q) → Wp (body g x M) Q) :
    ∀ (f d : Nat) (x : β) (M : Mem), I d x M → d < f → Wp (lp body f x M) Q := by
  intro f
  induction f with
  | zero => intro d x M _ h; omega
  | succ f ih =>
    intro d x M hI hf
    exact hs (lp body f) d x M hI fun d' x' M' hl hI' => ih d' x' M' hI' (by omega)
theorem w_lpF {ρ β : Type} {Q : ρ → Mem → Prop} {body : (β → Mem → Option (ρ × Mem)) → β → Mem → Option (ρ × Mem)} (I : Nat → β → Mem → Prop) (d : Nat) {x : β} {M : Mem} (hd : d < 1000000) (h0 : I d x M)
    (hs : ∀ (g : β → Mem → Option (ρ × Mem)) d x M, I d x M → (∀ d' x' M', d' < d → I d' x' M' → Wp (g x' M') Q) → Wp (body g x M) Q) : Wp (lp body FU x M) Q := w_lpn I hs FU d x M h0 hd
theorem Wp.eq {ρ : Type} {r : Option (ρ × Mem)} {a : ρ} {M : Mem} (h : Wp r fun v N => v = a ∧ N = M) : r = some (a, M) := by
  obtain ⟨v, N, e, rfl, rfl⟩ := h
  exact e
theorem Wp.of {ρ : Type} {r : Option (ρ × Mem)} {a : ρ} {M : Mem} {Q : ρ → Mem → Prop} (h : r = some (a, M)) (q : Q a M) : Wp r Q := ⟨a, M, h, q⟩
