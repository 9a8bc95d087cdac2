/-! LETTERS by a code, as numbers -/
def lqN (c : Nat) : Nat := if 256 ≤ c then (c + 3) / 4 else c
def lfN (c : Nat) : Nat := if 256 ≤ c then 4 else 1
def lzN (c : Nat) : Nat := if 256 ≤ c then 6 else 0
def leN (c i : Nat) : Nat := min ((i + 1) * lqN c) c
def lwH (lu : Nat → Nat) (c : Nat) : Nat → Nat := hfH 32 (cnH lu c)
def lkH (lu : Nat → Nat) (c : Nat) : Nat := ltH (lwH lu c) 128
def llH (lu : Nat → Nat) (c : Nat) : Nat → Nat := lnW (mmH (lwH lu c)) (lkH lu c) (whH (lwH lu c))
def ldH (lu : Nat → Nat) (c : Nat) : Nat → Nat := wdW (lkH lu c) (whH (lwH lu c))
def lDN (lu : Nat → Nat) (c i : Nat) : Nat := stD (llH lu c) lu (leN c i) (leN c i - i * lqN c)
def lXN (lu : Nat → Nat) (c i : Nat) : Nat := stX (ldH lu c) (llH lu c) lu (leN c i) (leN c i - i * lqN c) + 2 ^ lDN lu c i
def lLN (lu : Nat → Nat) (c i : Nat) : Nat := lDN lu c i / 8 + 1
def lsS (L : Nat → Nat) : Nat → Nat
  | 0 => 0
  | k + 1 => lsS L k + L k
def lbS (L Z : Nat → Nat) : Nat → Nat → Nat
  | 0, _ => 0
  | k + 1, j => if lsS L k ≤ j then Z k / 256 ^ (j - lsS L k) % 256 else lbS L Z k j
def lnB (lu : Nat → Nat) (c : Nat) : Nat := 1 + lkH lu c / 2
def lTN (lu : Nat → Nat) (c : Nat) : Nat := lnB lu c + lzN c + lsS (lLN lu c) (lfN c)
def lcB (lu : Nat → Nat) (c i : Nat) : Nat :=
  if i = 0 then 126 + lkH lu c else if i < lnB lu c then wbH (whH (lwH lu c)) (lkH lu c - 1) (i - 1) else if i < lnB lu c + lzN c then lLN lu c ((i - lnB lu c) / 2) / 256 ^ ((i - lnB lu c) % 2) % 256 else lbS (lLN lu c) (lXN lu c) (lfN c) (i - (lnB lu c + lzN c))
def lfm (c : Nat) : Nat := if 256 ≤ c then (if 1024 ≤ c then 2 else 1) else 0
def lhb (c : Nat) : Nat := if 1024 ≤ c then 4 else 3
def lhv (lu : Nat → Nat) (c : Nat) : Nat := 2 + 4 * lfm c + 16 * c + lTN lu c * 2 ^ (if 1024 ≤ c then 18 else 14)
def lcoB (lu : Nat → Nat) (c i : Nat) : Nat := if i < lhb c then lhv lu c / 256 ^ i % 256 else lcB lu c (i - lhb c)
section LNUM
variable {c n p : Nat} {lu : Nat → Nat}
theorem lsS_m (L : Nat → Nat) {a b : Nat} (h : a ≤ b) : lsS L a ≤ lsS L b := by
  induction b with
  | zero => rw [show a = 0 by omega]; exact Nat.le_refl _
  | succ b ih =>
    by_cases e : a = b + 1
    · rw [e]; exact Nat.le_refl _
    · have := ih (by omega)
      rw [lsS]
      omega
theorem lsS_b {L : Nat → Nat} {B : Nat} (h : ∀ i, L i ≤ B) : ∀ k, lsS L k ≤ k * B
  | 0 => by rw [lsS]; omega
  | k + 1 => by
    have h1 := lsS_b h k
    have h2 := h k
    rw [lsS, Nat.succ_mul]
    omega
theorem lbS_at {L Z : Nat → Nat} {k j : Nat} : ∀ n, k < n → lsS L k ≤ j → j < lsS L (k + 1) → lbS L Z n j = Z k / 256 ^ (j - lsS L k) % 256
  | 0, h, _, _ => by omega
  | n + 1, h, h1, h2 => by
    rw [lbS]
    by_cases e : k = n
    · rw [← e, if_pos h1]
    · have := lsS_m L (show k + 1 ≤ n by omega)
      rw [if_neg (by omega)]
      exact lbS_at n (by omega) h1 h2
theorem lq_f (hc : 1 ≤ c ∧ c ≤ 2048) : c ≤ lfN c * lqN c ∧ (∀ i, i < lfN c → i * lqN c < c) ∧ (∀ i, i ≤ lfN c → i * lqN c ≤ 2100) ∧ 1 ≤ lqN c ∧ lqN c ≤ 512 ∧ lfN c ≤ 4 := by
  unfold lfN lqN
  by_cases h : 256 ≤ c
  · rw [if_pos h, if_pos h]
    refine ⟨by omega, fun i hi => ?_, fun i hi => ?_, by omega, by omega, by omega⟩
    · have : i = 0 ∨ i = 1 ∨ i = 2 ∨ i = 3 := by omega
      rcases this with e | e | e | e <;> subst e <;> omega
    · have : i = 0 ∨ i = 1 ∨ i = 2 ∨ i = 3 ∨ i = 4 := by omega
      rcases this with e | e | e | e | e <;> subst e <;> omega
  · rw [if_neg h, if_neg h]
    refine ⟨by omega, fun i hi => ?_, fun i hi => ?_, by omega, by omega, by omega⟩
    · have : i = 0 := by omega
      subst this
      omega
    · have : i = 0 ∨ i = 1 := by omega
      rcases this with e | e <;> subst e <;> omega
theorem le_r {i : Nat} : leN c i ≤ c ∧ (i * lqN c ≤ c → i * lqN c ≤ leN c i) := by
  unfold leN
  have := Nat.succ_mul i (lqN c)
  rw [Nat.succ_eq_add_one] at this
  omega
/-- the code of the letters -/
theorem lw_fact (hl : ∀ i, i < c → lu i < 128) (hc : c ≤ 2048) (hK : 2 ≤ KH (cnH lu c)) : ∃ n, lkH lu c = n + 1 ∧ n ≤ 127 ∧ WO (mmH (lwH lu c)) (n + 1) (whH (lwH lu c)) ∧ whH (lwH lu c) n ≠ 0 ∧ (∀ i, i < n → whH (lwH lu c) i ≤ 11) ∧ ∀ i, i < c → lu i < n + 1 ∧ whH (lwH lu c) (lu i) ≠ 0 := by
  have h32 : (2 : Nat) ^ 32 = 4294967296 := by decide
  obtain ⟨f1, f2, f3, f4⟩ := hf_fin 32 (cnH lu c) (fun i hi => by have := cn_le c hl i hi; omega) hK
  have hw : hfH 32 (cnH lu c) = lwH lu c := rfl
  rw [hw] at f1 f2 f3 f4
  unfold lkH
  generalize lwH lu c = w at *
  obtain ⟨hO, hpos⟩ := wh_WO (w := w) (by omega) f1
  obtain ⟨l1, l2, l3⟩ := lt_le w 128
  obtain ⟨n, hn⟩ : ∃ n, ltH w 128 = n + 1 := ⟨ltH w 128 - 1, by have := hO.2.2.1; omega⟩
  rw [hn] at hO l1 l2 l3
  have hwn : w n ≠ 0 := by
    rcases l3 with h | h
    · omega
    · rw [Nat.add_sub_cancel] at h
      exact h
  refine ⟨n, hn, by omega, hO, ?_, fun i hi => ?_, fun i hi => ?_⟩
  · have := hpos n (by omega) hwn
    omega
  · have := hO.2.2.2.2.1 i (by omega)
    omega
  · have hp := cn_pos (lu := lu) c i hi
    have hi2 := hl i hi
    have hw1 : w (lu i) ≠ 0 := fun z => by have := (f3 (lu i) hi2).1 z; omega
    have h3 := hpos (lu i) hi2 hw1
    exact ⟨Classical.byContradiction fun z => hw1 (l2 (lu i) (by omega) hi2), by omega⟩
theorem lL_le (hl : ∀ i, i < c → lu i < 128) (hc : c ≤ 2048) (hK : 2 ≤ KH (cnH lu c)) (i : Nat) : lLN lu c i ≤ 710 := by
  obtain ⟨n, h1, h2, h3, -⟩ := lw_fact hl hc hK
  have hln : ∀ s, llH lu c s ≤ 11 := fun s => by unfold llH; rw [h1]; exact ln_le h3 s
  have := stD_le (lu := lu) (e := leN c i) hln (leN c i - i * lqN c)
  have h4 : leN c i ≤ (i + 1) * lqN c := Nat.min_le_left _ _
  rw [Nat.add_mul, Nat.one_mul] at h4
  have h5 : lqN c ≤ 512 := by
    unfold lqN
    split <;> omega
  unfold lLN lDN
  omega
/-- where the bytes lie -/
theorem lc_0 : lcB lu c 0 = 126 + lkH lu c := by unfold lcB; rw [if_pos rfl]
theorem lc_w {i : Nat} (h : 1 + i < lnB lu c) : lcB lu c (1 + i) = wbH (whH (lwH lu c)) (lkH lu c - 1) i := by
  unfold lcB
  rw [if_neg (by omega), if_pos h, Nat.add_sub_cancel_left]
theorem lc_z {i b : Nat} (h : 2 * i + b < lzN c) (hb : b < 2) : lcB lu c (lnB lu c + (2 * i + b)) = lLN lu c i / 256 ^ b % 256 := by
  unfold lcB
  have : 1 ≤ lnB lu c := by unfold lnB; omega
  rw [if_neg (by omega), if_neg (by omega), if_pos (by omega), Nat.add_sub_cancel_left, show (2 * i + b) / 2 = i by omega, show (2 * i + b) % 2 = b by omega]
theorem lc_s {k q : Nat} (hk : k < lfN c) (hq : q < lLN lu c k) : lcB lu c (lnB lu c + lzN c + lsS (lLN lu c) k + q) = lXN lu c k / 256 ^ q % 256 := by
  unfold lcB
  have : 1 ≤ lnB lu c := by unfold lnB; omega
  rw [if_neg (by omega), if_neg (by omega), if_neg (by omega), show lnB lu c + lzN c + lsS (lLN lu c) k + q - (lnB lu c + lzN c) = lsS (lLN lu c) k + q by omega, lbS_at (lfN c) hk (by omega) (by rw [lsS]; omega), Nat.add_sub_cancel_left]
end LNUM
