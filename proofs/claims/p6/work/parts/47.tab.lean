/-! the table of states, as numbers: l its log, c the counts of S symbols -/
def cnt (P : Nat → Bool) : Nat → Nat
  | 0 => 0
  | n + 1 => cnt P n + if P n then 1 else 0
theorem cnt_le (P : Nat → Bool) : ∀ n, cnt P n ≤ n := by
  intro n
  induction n with
  | zero => exact Nat.le_refl 0
  | succ n ih => rw [cnt]; split <;> omega
theorem cnt_full {P : Nat → Bool} : ∀ {n}, cnt P n = n → ∀ q, q < n → P q = true := by
  intro n
  induction n with
  | zero => intro _ q h; omega
  | succ n ih =>
    intro h q hq
    have := cnt_le P n
    rw [cnt] at h
    by_cases c : P n = true
    · rw [if_pos c] at h
      by_cases e : q = n
      · rw [e]; exact c
      · exact ih (by omega) q (by omega)
    · rw [if_neg c] at h; omega
theorem cnt_all {P : Nat → Bool} : ∀ {n}, (∀ q, q < n → P q = true) → cnt P n = n := by
  intro n
  induction n with
  | zero => intro _; rfl
  | succ n ih => intro h; rw [cnt, if_pos (h n (by omega)), ih fun q hq => h q (by omega)]
theorem cnt_none {P : Nat → Bool} : ∀ {n}, (∀ q, q < n → P q = false) → cnt P n = 0 := by
  intro n
  induction n with
  | zero => intro _; rfl
  | succ n ih => intro h; rw [cnt, h n (by omega), ih fun q hq => h q (by omega)]; rfl
theorem cnt_congr {P Q : Nat → Bool} : ∀ {n}, (∀ q, q < n → P q = Q q) → cnt P n = cnt Q n := by
  intro n
  induction n with
  | zero => intro _; rfl
  | succ n ih => intro h; rw [cnt, cnt, h n (by omega), ih fun q hq => h q (by omega)]
theorem cnt_mono (P : Nat → Bool) {m n : Nat} (h : m ≤ n) : cnt P m ≤ cnt P n := by
  induction n with
  | zero => rw [show m = 0 by omega]; exact Nat.le_refl _
  | succ n ih =>
    by_cases e : m = n + 1
    · rw [e]; exact Nat.le_refl _
    · have := ih (by omega)
      rw [cnt]; omega
theorem cnt_lt (P : Nat → Bool) {m n : Nat} (h : m < n) (hm : P m = true) : cnt P m < cnt P n := by
  have := cnt_mono P (show m + 1 ≤ n from h)
  rw [cnt, if_pos hm] at this
  omega
/-- the greatest s below S with f s at most x -/
def sOf (f : Nat → Nat) (x : Nat) : Nat → Nat
  | 0 => 0
  | s + 1 => if f s ≤ x then s else sOf f x s
theorem sOf_eq {f : Nat → Nat} (hf : ∀ s, f s ≤ f (s + 1)) {x s : Nat} (h1 : f s ≤ x) (h2 : x < f (s + 1)) : ∀ {S}, s < S → sOf f x S = s := by
  have hm : ∀ d s, f s ≤ f (s + d) := by
    intro d
    induction d with
    | zero => intro s; exact Nat.le_refl _
    | succ d ih => intro s; exact Nat.le_trans (ih s) (hf (s + d))
  intro S
  induction S with
  | zero => intro h; omega
  | succ S ih =>
    intro h
    rw [sOf]
    by_cases e : s = S
    · rw [← e, if_pos h1]
    · have := hm (S - (s + 1)) (s + 1)
      rw [show s + 1 + (S - (s + 1)) = S by omega] at this
      rw [if_neg (by omega)]
      exact ih (by omega)
theorem sOf_lt {f : Nat → Nat} {x : Nat} : ∀ {S}, 0 < S → sOf f x S < S := by
  intro S
  induction S with
  | zero => intro h; omega
  | succ S ih =>
    intro _
    rw [sOf]
    split
    · omega
    · by_cases e : S = 0
      · subst e; exact Nat.lt_succ_self _
      · have := ih (by omega); omega
theorem sOf_sp {f : Nat → Nat} {x : Nat} (h0 : f 0 ≤ x) : ∀ {S}, x < f S → f (sOf f x S) ≤ x ∧ x < f (sOf f x S + 1) := by
  intro S
  induction S with
  | zero => intro h; omega
  | succ S ih =>
    intro h
    rw [sOf]
    split
    · constructor
      · assumption
      · exact h
    · exact ih (by omega)
/-- the sum of the counts above 0, the number of those that are -1 -/
def cum (c : Nat → Int) : Nat → Nat
  | 0 => 0
  | s + 1 => cum c s + (c s).toNat
def neg (c : Nat → Int) : Nat → Nat
  | 0 => 0
  | s + 1 => neg c s + if c s = -1 then 1 else 0
theorem cum_s (c : Nat → Int) (s : Nat) : cum c s ≤ cum c (s + 1) := by rw [cum]; omega
theorem neg_s (c : Nat → Int) (s : Nat) : neg c s ≤ neg c (s + 1) := by rw [neg]; omega
theorem cum_m (c : Nat → Int) {a b : Nat} (h : a ≤ b) : cum c a ≤ cum c b := by
  induction b with
  | zero => rw [show a = 0 by omega]; exact Nat.le_refl _
  | succ b ih =>
    by_cases e : a = b + 1
    · rw [e]; exact Nat.le_refl _
    · exact Nat.le_trans (ih (by omega)) (cum_s c b)
theorem neg_m (c : Nat → Int) {a b : Nat} (h : a ≤ b) : neg c a ≤ neg c b := by
  induction b with
  | zero => rw [show a = 0 by omega]; exact Nat.le_refl _
  | succ b ih =>
    by_cases e : a = b + 1
    · rw [e]; exact Nat.le_refl _
    · exact Nat.le_trans (ih (by omega)) (neg_s c b)
/-- the counts of a table of log l -/
abbrev CO (l S : Nat) (c : Nat → Int) : Prop := 5 ≤ l ∧ l ≤ 9 ∧ 0 < S ∧ S ≤ 256 ∧ cum c S + neg c S = 2 ^ l ∧ (∀ i, -1 ≤ c i) ∧ ∀ i, S ≤ i → c i = 0
def st (l : Nat) : Nat := 2 ^ l / 2 + 2 ^ l / 8 + 3
def iv (l : Nat) : Nat := if l = 5 then 7 else if l = 6 then 3 else if l = 7 then 91 else if l = 8 then 11 else 363
theorem st_iv {l : Nat} (h1 : 5 ≤ l) (h2 : l ≤ 9) : st l * iv l % 2 ^ l = 1 := by
  have : l = 5 ∨ l = 6 ∨ l = 7 ∨ l = 8 ∨ l = 9 := by omega
  rcases this with rfl | rfl | rfl | rfl | rfl <;> decide
def orb (l j : Nat) : Nat := j * st l % 2 ^ l
def kk (l q : Nat) : Nat := q * iv l % 2 ^ l
theorem two_pos (l : Nat) : 0 < 2 ^ l := Nat.pow_pos (by omega)
theorem orb_lt (l j : Nat) : orb l j < 2 ^ l := Nat.mod_lt _ (two_pos l)
theorem kk_lt (l j : Nat) : kk l j < 2 ^ l := Nat.mod_lt _ (two_pos l)
theorem kk_orb {l j : Nat} (h1 : 5 ≤ l) (h2 : l ≤ 9) (hj : j < 2 ^ l) : kk l (orb l j) = j := by
  rw [kk, orb, Nat.mod_mul_mod, Nat.mul_assoc, Nat.mul_mod, st_iv h1 h2, Nat.mul_one, Nat.mod_mod, Nat.mod_eq_of_lt hj]
theorem orb_kk {l q : Nat} (h1 : 5 ≤ l) (h2 : l ≤ 9) (hq : q < 2 ^ l) : orb l (kk l q) = q := by
  rw [kk, orb, Nat.mod_mul_mod, Nat.mul_assoc, Nat.mul_mod, Nat.mul_comm (iv l), st_iv h1 h2, Nat.mul_one, Nat.mod_mod, Nat.mod_eq_of_lt hq]
theorem orb_s (l j : Nat) : (orb l j + st l) % 2 ^ l = orb l (j + 1) := by
  rw [orb, orb, Nat.mod_add_mod, Nat.add_mul, Nat.one_mul]
theorem orb_0 (l : Nat) : orb l 0 = 0 := by rw [orb, Nat.zero_mul, Nat.zero_mod]
theorem orb_n (l : Nat) : orb l (2 ^ l) = 0 := by rw [orb, Nat.mul_mod_right]
/-- of the places below E those that stand before turn j -/
def rk (l E j : Nat) : Nat := cnt (fun q => decide (kk l q < j)) E
theorem cnt_st {l j : Nat} (h1 : 5 ≤ l) (h2 : l ≤ 9) (hj : j < 2 ^ l) (P : Nat → Bool) : ∀ m, m ≤ 2 ^ l → cnt (fun q => decide (kk l q < j + 1) && P q) m = cnt (fun q => decide (kk l q < j) && P q) m + if orb l j < m ∧ P (orb l j) = true then 1 else 0 := by
  intro m
  induction m with
  | zero => intro _; rw [cnt, cnt, if_neg (by omega)]
  | succ m ih =>
    intro hm
    rw [cnt, cnt, ih (by omega)]
    by_cases e : orb l j = m
    · have hk : kk l m = j := by rw [← e]; exact kk_orb h1 h2 hj
      rw [e, hk]
      by_cases p : P m = true
      · simp [p]
      · simp [p]
    · have hk : kk l m ≠ j := fun q => e (by rw [← q]; exact orb_kk h1 h2 (by omega))
      have e1 : decide (kk l m < j + 1) = decide (kk l m < j) := by
        by_cases q : kk l m < j
        · rw [decide_eq_true q, decide_eq_true (by omega)]
        · rw [decide_eq_false q, decide_eq_false (by omega)]
      have e2 : (orb l j < m + 1 ∧ P (orb l j) = true) = (orb l j < m ∧ P (orb l j) = true) := by
        refine propext ⟨fun h => ⟨by omega, h.2⟩, fun h => ⟨by omega, h.2⟩⟩
      simp only [e1, e2]
      omega
theorem rk_s {l j E : Nat} (h1 : 5 ≤ l) (h2 : l ≤ 9) (hj : j < 2 ^ l) (hE : E ≤ 2 ^ l) : rk l E (j + 1) = rk l E j + if orb l j < E then 1 else 0 := by
  have := cnt_st h1 h2 hj (fun _ => true) E hE
  simp only [Bool.and_true, and_true] at this
  exact this
theorem rk_0 (l E : Nat) : rk l E 0 = 0 := cnt_none fun q _ => decide_eq_false (by omega)
theorem rk_n {l E j : Nat} (hj : 2 ^ l ≤ j) : rk l E j = E := cnt_all fun q _ => decide_eq_true (by have := kk_lt l q; omega)
theorem rk_all {l E j : Nat} (h : rk l E j = E) {q : Nat} (hq : q < E) : kk l q < j := of_decide_eq_true (cnt_full h q hq)
/-- the symbol of each place -/
def sy (l S : Nat) (c : Nat → Int) (q : Nat) : Nat := if q < cum c S then sOf (cum c) (rk l (cum c S) (kk l q)) S else sOf (neg c) (2 ^ l - 1 - q) S
theorem sy_lt {l S : Nat} {c : Nat → Int} {q : Nat} (h : 0 < S) : sy l S c q < S := by
  rw [sy]
  split
  · exact sOf_lt h
  · exact sOf_lt h
theorem sy_o {l S : Nat} {c : Nat → Int} (h : CO l S c) {j s : Nat} (hj : j < 2 ^ l) (ho : orb l j < cum c S) (hs : s < S) (h1 : cum c s ≤ rk l (cum c S) j) (h2 : rk l (cum c S) j < cum c (s + 1)) : sy l S c (orb l j) = s := by
  rw [sy, if_pos ho, kk_orb h.1 h.2.1 hj]
  exact sOf_eq (cum_s c) h1 h2 hs
theorem sy_t {l S : Nat} {c : Nat → Int} (h : CO l S c) {s : Nat} (hs : s < S) (hc : c s = -1) : sy l S c (2 ^ l - 1 - neg c s) = s := by
  have e1 : neg c (s + 1) = neg c s + 1 := by rw [neg, if_pos hc]
  have e2 := neg_m c (show s + 1 ≤ S from hs)
  have e3 := h.2.2.2.2.1
  rw [sy, if_neg (by omega), show 2 ^ l - 1 - (2 ^ l - 1 - neg c s) = neg c s by omega]
  exact sOf_eq (neg_s c) (Nat.le_refl _) (by omega) hs
/-- how many places below k have the symbol s -/
def oc (l S : Nat) (c : Nat → Int) (s k : Nat) : Nat := cnt (fun q => decide (sy l S c q = s)) k
theorem oc_lo {l S : Nat} {c : Nat → Int} (h : CO l S c) {s : Nat} (hs : s < S) : ∀ j, j ≤ 2 ^ l → cnt (fun q => decide (kk l q < j) && decide (sy l S c q = s)) (cum c S) = min (rk l (cum c S) j) (cum c (s + 1)) - min (rk l (cum c S) j) (cum c s) := by
  obtain ⟨h1, h2, h3, h4, h5, h6, h7⟩ := h
  intro j
  induction j with
  | zero =>
    intro _
    rw [rk_0, cnt_none fun q _ => by rw [decide_eq_false (by omega), Bool.false_and]]
    omega
  | succ j ih =>
    intro hj
    have hE : cum c S ≤ 2 ^ l := by omega
    have m1 := cum_m c (show s + 1 ≤ S from hs)
    have m2 := cum_s c s
    rw [cnt_st h1 h2 (by omega) (fun q => decide (sy l S c q = s)) (cum c S) hE, ih (by omega), rk_s h1 h2 (by omega) hE]
    by_cases o : orb l j < cum c S
    · have r1 := rk_s (l := l) (j := j) (E := cum c S) h1 h2 (by omega) hE
      rw [if_pos o] at r1
      have r2 : rk l (cum c S) (j + 1) ≤ cum c S := cnt_le _ _
      have hsp := sOf_sp (f := cum c) (x := rk l (cum c S) j) (Nat.zero_le _) (S := S) (by omega)
      have e1 : sy l S c (orb l j) = sOf (cum c) (rk l (cum c S) j) S := by rw [sy, if_pos o, kk_orb h1 h2 (by omega)]
      rw [if_pos o]
      by_cases q : sy l S c (orb l j) = s
      · rw [if_pos ⟨o, decide_eq_true q⟩]
        rw [← e1, q] at hsp
        omega
      · rw [if_neg (fun w => q (of_decide_eq_true w.2))]
        have : ¬ (cum c s ≤ rk l (cum c S) j ∧ rk l (cum c S) j < cum c (s + 1)) := fun w => q (by rw [e1]; exact sOf_eq (cum_s c) w.1 w.2 hs)
        omega
    · rw [if_neg o, if_neg (fun w => o w.1)]
      omega
theorem oc_hi {l S : Nat} {c : Nat → Int} (h : CO l S c) {s : Nat} (hs : s < S) : ∀ m, cum c S ≤ m → m ≤ 2 ^ l → cnt (fun q => decide (sy l S c q = s)) m = cnt (fun q => decide (sy l S c q = s)) (cum c S) + (max (neg c (s + 1)) (2 ^ l - m) - max (neg c s) (2 ^ l - m)) := by
  obtain ⟨h1, h2, h3, h4, h5, h6, h7⟩ := h
  have m1 := neg_m c (show s + 1 ≤ S from hs)
  have m2 := neg_s c s
  intro m
  induction m with
  | zero =>
    intro e _
    rw [show cum c S = 0 by omega]
    omega
  | succ m ih =>
    intro hm1 hm2
    by_cases e : cum c S = m + 1
    · rw [e]; omega
    · rw [cnt, ih (by omega) (by omega)]
      have hsp := sOf_sp (f := neg c) (x := 2 ^ l - 1 - m) (Nat.zero_le _) (S := S) (by omega)
      have e1 : sy l S c m = sOf (neg c) (2 ^ l - 1 - m) S := by rw [sy, if_neg (by omega)]
      by_cases q : sy l S c m = s
      · rw [if_pos (decide_eq_true q)]
        rw [← e1, q] at hsp
        omega
      · rw [if_neg (fun w => q (of_decide_eq_true w))]
        have : ¬ (neg c s ≤ 2 ^ l - 1 - m ∧ 2 ^ l - 1 - m < neg c (s + 1)) := fun w => q (by rw [e1]; exact sOf_eq (neg_s c) w.1 w.2 hs)
        omega
theorem oc_n {l S : Nat} {c : Nat → Int} (h : CO l S c) {s : Nat} (hs : s < S) : oc l S c s (2 ^ l) = (c s).natAbs := by
  have h5 := h.2.2.2.2.1
  have h6 := h.2.2.2.2.2.1 s
  rw [oc, oc_hi h hs (2 ^ l) (by omega) (Nat.le_refl _)]
  have := oc_lo h hs (2 ^ l) (Nat.le_refl _)
  rw [cnt_congr (Q := fun q => decide (sy l S c q = s)) fun q _ => by rw [decide_eq_true (kk_lt l q), Bool.true_and], rk_n (Nat.le_refl _)] at this
  rw [this]
  have m1 := cum_m c (show s + 1 ≤ S from hs)
  have m2 := cum_s c s
  have m3 : cum c (s + 1) = cum c s + (c s).toNat := rfl
  have m4 : neg c (s + 1) = neg c s + if c s = -1 then 1 else 0 := rfl
  split at m4 <;> omega
/-- what is told of each place: x, bits, base -/
def xx (l S : Nat) (c : Nat → Int) (k : Nat) : Nat := (c (sy l S c k)).natAbs + oc l S c (sy l S c k) k
def bb (l S : Nat) (c : Nat → Int) (k : Nat) : Nat := l - Nat.log2 (xx l S c k)
def ba (l S : Nat) (c : Nat → Int) (k : Nat) : Nat := xx l S c k * 2 ^ bb l S c k - 2 ^ l
theorem xx_lt {l S : Nat} {c : Nat → Int} (h : CO l S c) {k : Nat} (hk : k < 2 ^ l) : 0 < (c (sy l S c k)).natAbs ∧ oc l S c (sy l S c k) k < (c (sy l S c k)).natAbs ∧ (c (sy l S c k)).natAbs ≤ 2 ^ l := by
  have e := oc_n h (sy_lt (l := l) (c := c) (q := k) h.2.2.1)
  have f := cnt_lt (fun q => decide (sy l S c q = sy l S c k)) hk (decide_eq_true rfl)
  have g := cnt_le (fun q => decide (sy l S c q = sy l S c k)) (2 ^ l)
  unfold oc at *
  omega
theorem bb_sp {l S : Nat} {c : Nat → Int} (h : CO l S c) {k : Nat} (hk : k < 2 ^ l) : 2 ^ l ≤ xx l S c k * 2 ^ bb l S c k ∧ (xx l S c k + 1) * 2 ^ bb l S c k ≤ 2 * 2 ^ l ∧ Nat.log2 (xx l S c k) ≤ l ∧ 0 < xx l S c k ∧ xx l S c k < 2 * 2 ^ l := by
  obtain ⟨x1, x2, x3⟩ := xx_lt h hk
  have x4 : 0 < xx l S c k := by unfold xx; omega
  have x5 : xx l S c k < 2 * 2 ^ l := by unfold xx; omega
  have l1 := log2_l (a := xx l S c k) (by omega)
  have l2 := log2_u (xx l S c k)
  have l3 : Nat.log2 (xx l S c k) ≤ l := by
    have : 2 ^ Nat.log2 (xx l S c k) < 2 ^ (l + 1) := Nat.lt_of_le_of_lt l1 (by rw [Nat.pow_succ]; omega)
    have := pow_lt2 this
    omega
  have l4 : 2 ^ l = 2 ^ Nat.log2 (xx l S c k) * 2 ^ bb l S c k := by rw [bb]; exact pow_split l3
  refine ⟨?_, ?_, l3, x4, x5⟩
  · rw [l4]; exact Nat.mul_le_mul_right _ l1
  · rw [l4, ← Nat.mul_assoc]
    refine Nat.mul_le_mul_right _ ?_
    rw [Nat.pow_succ] at l2
    omega
