/-! counts for packing, as numbers -/
def pkl (n : Nat) : Nat := if n < 32 then 5 else if n < 128 then 6 else 7
def pk0 (o : Nat → Nat) (n s : Nat) : Nat := if o s = 0 then 0 else max 1 (o s * 2 ^ pkl n / n)
def mxI (c : Nat → Nat) : Nat → Nat
  | 0 => 0
  | k + 1 => if c (mxI c k) < c (k + 1) then k + 1 else mxI c k
def pkD (g : Nat) (c : Nat → Nat) : Nat → Nat → Nat
  | 0 => c
  | k + 1 => upH (pkD g c k) (mxI (pkD g c k) g) (pkD g c k (mxI (pkD g c k) g) - 1)
def pkS (o : Nat → Nat) (g n : Nat) : Nat := suH (g + 1) (pk0 o n)
def pkE (o : Nat → Nat) (g n : Nat) : Nat → Nat := pkD g (pk0 o n) (pkS o g n - 2 ^ pkl n)
def pkC (o : Nat → Nat) (g n : Nat) : Nat → Nat := upH (pkE o g n) (mxI (pkE o g n) g) (pkE o g n (mxI (pkE o g n) g) + (2 ^ pkl n - pkS o g n))
def pkI (o : Nat → Nat) (g n s : Nat) : Int := (pkC o g n s : Int)
def pkT (o : Nat → Nat) (g n : Nat) : Tb := tbOf (pkl n) (g + 1) (pkI o g n)
abbrev PH (o : Nat → Nat) (g n : Nat) : Prop := suH (g + 1) o = n ∧ (∀ s, g < s → o s = 0) ∧ g ≤ 52 ∧ 8 ≤ n ∧ n ≤ 600
abbrev PKI (o : Nat → Nat) (g : Nat) (c : Nat → Nat) (S : Nat) : Prop := suH (g + 1) c = S ∧ (∀ s, o s = 0 → c s = 0) ∧ ∀ s, o s ≠ 0 → 1 ≤ c s
section PKC
variable {o c : Nat → Nat} {g n S : Nat}
theorem pkl_r (n : Nat) : 5 ≤ pkl n ∧ pkl n ≤ 7 ∧ 32 ≤ 2 ^ pkl n ∧ 2 ^ pkl n ≤ 128 ∧ (32 ≤ n → 64 ≤ 2 ^ pkl n) := by
  have h5 : (2 : Nat) ^ 5 = 32 := by decide
  have h6 : (2 : Nat) ^ 6 = 64 := by decide
  have h7 : (2 : Nat) ^ 7 = 128 := by decide
  unfold pkl
  by_cases c1 : n < 32
  · rw [if_pos c1, h5]
    omega
  · rw [if_neg c1]
    by_cases c2 : n < 128
    · rw [if_pos c2, h6]
      omega
    · rw [if_neg c2, h7]
      omega
theorem mxI_le (c : Nat → Nat) : ∀ g, mxI c g ≤ g ∧ ∀ i, i ≤ g → c i ≤ c (mxI c g)
  | 0 => ⟨Nat.le_refl _, fun i hi => by rw [show i = 0 by omega]; exact Nat.le_refl _⟩
  | g + 1 => by
    obtain ⟨h1, h2⟩ := mxI_le c g
    rw [mxI]
    by_cases q : c (mxI c g) < c (g + 1)
    · rw [if_pos q]
      refine ⟨Nat.le_refl _, fun i hi => ?_⟩
      by_cases e : i = g + 1
      · rw [e]; exact Nat.le_refl _
      · have := h2 i (by omega)
        omega
    · rw [if_neg q]
      refine ⟨by omega, fun i hi => ?_⟩
      by_cases e : i = g + 1
      · rw [e]; omega
      · exact h2 i (by omega)
theorem pk_K (h : PH o g n) : suH (g + 1) (fun s => if o s = 0 then 0 else 1) ≤ 2 ^ pkl n := by
  obtain ⟨h1, h2, h3, h4, h5⟩ := h
  have r := pkl_r n
  have a1 : suH (g + 1) (fun s => if o s = 0 then 0 else 1) ≤ suH (g + 1) o := suH_mono (g + 1) fun i hi => by
    show (if o i = 0 then 0 else 1) ≤ o i
    split <;> omega
  have a2 := suH_b (f := fun s => if o s = 0 then 0 else 1) (c := 1) (g + 1) (fun i hi => by
    show (if o i = 0 then 0 else 1) ≤ 1
    split <;> omega)
  by_cases c1 : n < 32
  · omega
  · have := r.2.2.2.2 (by omega)
    omega
theorem pk0_I (h : PH o g n) : PKI o g (pk0 o n) (pkS o g n) := by
  refine ⟨rfl, fun s hs => ?_, fun s hs => ?_⟩
  · unfold pk0
    rw [if_pos hs]
  · unfold pk0
    rw [if_neg hs]
    omega
theorem o_le (h : PH o g n) (s : Nat) : o s ≤ n := by
  by_cases q : s ≤ g
  · have := suH_le (f := o) (g + 1) (show s < g + 1 by omega)
    have := h.1
    omega
  · have := h.2.1 s (by omega)
    omega
theorem pk0_le (h : PH o g n) (s : Nat) : pk0 o n s ≤ 128 := by
  have r := pkl_r n
  unfold pk0
  split
  · omega
  · have h1 : o s * 2 ^ pkl n ≤ n * 2 ^ pkl n := Nat.mul_le_mul_right _ (o_le h s)
    have h2 : o s * 2 ^ pkl n / n ≤ 2 ^ pkl n := Nat.div_le_of_le_mul h1
    omega
theorem pkS_le (h : PH o g n) : pkS o g n ≤ 6784 := by
  have := suH_b (f := pk0 o n) (c := 128) (g + 1) (fun i _ => pk0_le h i)
  have h3 := h.2.2.1
  unfold pkS
  omega
theorem pk_step (h : PH o g n) (hI : PKI o g c S) (hS : 2 ^ pkl n < S) : PKI o g (upH c (mxI c g) (c (mxI c g) - 1)) (S - 1) ∧ 2 ≤ c (mxI c g) := by
  obtain ⟨i1, i2, i3⟩ := hI
  obtain ⟨m1, m2⟩ := mxI_le c g
  have hK := pk_K h
  have h2 : 2 ≤ c (mxI c g) := Classical.byContradiction fun z => by
    have : suH (g + 1) c ≤ suH (g + 1) (fun s => if o s = 0 then 0 else 1) := suH_mono (g + 1) fun i hi => by
      show c i ≤ (if o i = 0 then 0 else 1)
      by_cases q : o i = 0
      · rw [if_pos q, i2 i q]
        omega
      · rw [if_neg q]
        have := m2 i (by omega)
        omega
    omega
  have hu := suH_up (f := c) (a := mxI c g) (x := c (mxI c g) - 1) (g + 1) (by omega)
  refine ⟨⟨by omega, fun s hs => ?_, fun s hs => ?_⟩, h2⟩
  · unfold upH
    by_cases e : s = mxI c g
    · have := i2 s hs
      rw [e] at this
      omega
    · rw [if_neg e]
      exact i2 s hs
  · unfold upH
    by_cases e : s = mxI c g
    · rw [if_pos e]
      omega
    · rw [if_neg e]
      exact i3 s hs
theorem pkD_I (h : PH o g n) : ∀ k, k ≤ pkS o g n - 2 ^ pkl n → PKI o g (pkD g (pk0 o n) k) (pkS o g n - k)
  | 0, _ => pk0_I h
  | k + 1, hk => by
    have := (pk_step h (pkD_I h k (by omega)) (by omega)).1
    rw [show pkS o g n - k - 1 = pkS o g n - (k + 1) by omega] at this
    exact this
theorem pkC_I (h : PH o g n) : PKI o g (pkC o g n) (2 ^ pkl n) := by
  obtain ⟨i1, i2, i3⟩ := pkD_I h _ (Nat.le_refl _)
  have i1 : suH (g + 1) (pkE o g n) = pkS o g n - (pkS o g n - 2 ^ pkl n) := i1
  have i2 : ∀ s, o s = 0 → pkE o g n s = 0 := i2
  have i3 : ∀ s, o s ≠ 0 → 1 ≤ pkE o g n s := i3
  have hp := Nat.two_pow_pos (pkl n)
  have hE : 0 < suH (g + 1) (pkE o g n) := by
    obtain ⟨h1, h2, h3, h4, h5⟩ := h
    have hex : ∃ s, s ≤ g ∧ o s ≠ 0 := Classical.byContradiction fun z => by
      have : suH (g + 1) o = 0 := suH_0 (g + 1) fun i hi => Classical.byContradiction fun y => z ⟨i, by omega, y⟩
      omega
    obtain ⟨s, s1, s2⟩ := hex
    have := suH_le (f := pkE o g n) (g + 1) (show s < g + 1 by omega)
    have := i3 s s2
    omega
  obtain ⟨m1, m2⟩ := mxI_le (pkE o g n) g
  have hm : 1 ≤ pkE o g n (mxI (pkE o g n) g) := Classical.byContradiction fun z => by
    have : suH (g + 1) (pkE o g n) = 0 := suH_0 (g + 1) fun i hi => by
      have := m2 i (by omega)
      omega
    omega
  have hu := suH_up (f := pkE o g n) (a := mxI (pkE o g n) g) (x := pkE o g n (mxI (pkE o g n) g) + (2 ^ pkl n - pkS o g n)) (g + 1) (by omega)
  unfold pkC
  refine ⟨by omega, fun s hs => ?_, fun s hs => ?_⟩
  · unfold upH
    by_cases e : s = mxI (pkE o g n) g
    · have := i2 s hs
      rw [e] at this
      omega
    · rw [if_neg e]
      exact i2 s hs
  · unfold upH
    by_cases e : s = mxI (pkE o g n) g
    · rw [if_pos e]
      omega
    · rw [if_neg e]
      exact i3 s hs
theorem cum_su (f : Nat → Nat) : ∀ k, cum (fun s => (f s : Int)) k = suH k f
  | 0 => rfl
  | k + 1 => by
    show cum (fun s => (f s : Int)) k + ((f k : Nat) : Int).toNat = suH k f + f k
    rw [cum_su f k, Int.toNat_natCast]
theorem neg_su (f : Nat → Nat) : ∀ k, neg (fun s => (f s : Int)) k = 0
  | 0 => rfl
  | k + 1 => by
    show neg (fun s => (f s : Int)) k + (if ((f k : Nat) : Int) = -1 then 1 else 0) = 0
    rw [neg_su f k, if_neg (by omega)]
theorem pk_CO (h : PH o g n) : CO (pkl n) (g + 1) (pkI o g n) := by
  obtain ⟨i1, i2, i3⟩ := pkC_I h
  have r := pkl_r n
  have h3 := h.2.2.1
  have e1 : cum (pkI o g n) (g + 1) = suH (g + 1) (pkC o g n) := cum_su _ _
  have e2 : neg (pkI o g n) (g + 1) = 0 := neg_su _ _
  refine ⟨r.1, by omega, by omega, by omega, by omega, fun i => ?_, fun i hi => ?_⟩
  · unfold pkI
    omega
  · unfold pkI
    rw [i2 i (h.2.1 i (by omega))]
    rfl
theorem pkC_le (h : PH o g n) (s : Nat) : pkC o g n s ≤ 128 := by
  obtain ⟨i1, i2, i3⟩ := pkC_I h
  have r := pkl_r n
  by_cases q : s ≤ g
  · have := suH_le (f := pkC o g n) (g + 1) (show s < g + 1 by omega)
    omega
  · have := i2 s (h.2.1 s (by omega))
    omega
theorem pkD_le (h : PH o g n) (k : Nat) (s : Nat) : pkD g (pk0 o n) k s ≤ 128 := by
  induction k with
  | zero => exact pk0_le h s
  | succ k ih =>
    have hm := (mxI_le (pkD g (pk0 o n) k) g)
    rw [pkD]
    unfold upH
    by_cases e : s = mxI (pkD g (pk0 o n) k) g
    · rw [if_pos e]
      rw [e] at ih
      omega
    · rw [if_neg e]
      exact ih
end PKC
