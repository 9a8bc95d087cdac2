/-! copies are found: as numbers -/
def smF (v : Nat → Nat) : Nat → Nat → Nat → Nat
  | _, _, 0 => 0
  | p, a, n + 1 => if v p = v a then smF v (p + 1) (a + 1) n + 1 else 0
/-- positions below k are looked at, the latest first -/
def scn (v : Nat → Nat) (a n : Nat) : Nat → Nat → Nat × Nat → Nat × Nat
  | 0, _, b => b
  | k + 1, l, b => if l = 8 then b else if 4 ≤ smF v k a n then scn v a n k (l + 1) (if b.2 < smF v k a n then (k, smF v k a n) else b) else scn v a n k l b
def bst (v : Nat → Nat) (a last : Nat) : Nat × Nat := if last < a + 4 then (0, 0) else scn v a (last - a) a 0 (0, 0)
/-- at, letters since the last copy, copies, of each: letters, bytes, offset; letters -/
abbrev Fs : Type := Nat × Nat × Nat × (Nat → Nat) × (Nat → Nat) × (Nat → Nat) × Nat × (Nat → Nat)
def fns (v : Nat → Nat) (last : Nat) (s : Fs) : Fs :=
  if (bst v s.1 last).2 = 0 then (s.1 + 1, s.2.1 + 1, s.2.2.1, s.2.2.2.1, s.2.2.2.2.1, s.2.2.2.2.2.1, s.2.2.2.2.2.2.1 + 1, uN s.2.2.2.2.2.2.2 s.2.2.2.2.2.2.1 (v s.1))
  else (s.1 + (bst v s.1 last).2, 0, s.2.2.1 + 1, uN s.2.2.2.1 s.2.2.1 s.2.1, uN s.2.2.2.2.1 s.2.2.1 (bst v s.1 last).2, uN s.2.2.2.2.2.1 s.2.2.1 (s.1 - (bst v s.1 last).1), s.2.2.2.2.2.2)
def fnd (v : Nat → Nat) (last : Nat) : Nat → Fs → Fs
  | 0, s => s
  | k + 1, s => if last ≤ s.1 then s else fnd v last k (fns v last s)
def fn0 (a : Nat) : Fs := (a, 0, 0, fun _ => 0, fun _ => 0, fun _ => 0, 0, fun _ => 0)
/-- what was found from a to last -/
def fnR (v : Nat → Nat) (a last : Nat) : Fs := fnd v last (last - a) (fn0 a)
section FIND
variable {v : Nat → Nat} {a n p k l last : Nat} {b : Nat × Nat}
theorem smF_le : ∀ {n p a : Nat}, smF v p a n ≤ n := by
  intro n
  induction n with
  | zero => intro p a; exact Nat.le_refl 0
  | succ n ih =>
    intro p a
    rw [smF]
    split
    · have := @ih (p + 1) (a + 1); omega
    · omega
theorem smF_eq : ∀ {n p a : Nat} (i : Nat), i < smF v p a n → v (p + i) = v (a + i) := by
  intro n
  induction n with
  | zero => intro p a i h; exact absurd h (Nat.not_lt_zero i)
  | succ n ih =>
    intro p a i h
    rw [smF] at h
    by_cases c : v p = v a
    · rw [if_pos c] at h
      cases i with
      | zero => exact c
      | succ i =>
        have := ih (p := p + 1) (a := a + 1) i (by omega)
        rw [show p + (i + 1) = p + 1 + i by omega, show a + (i + 1) = a + 1 + i by omega]
        exact this
    · rw [if_neg c] at h
      exact absurd h (Nat.not_lt_zero i)
theorem smF_step : ∀ {i n p a : Nat}, i ≤ n → (∀ j, j < i → v (p + j) = v (a + j)) → smF v p a n = i + smF v (p + i) (a + i) (n - i) := by
  intro i
  induction i with
  | zero => intro n p a _ _; rw [Nat.zero_add, Nat.add_zero, Nat.add_zero, Nat.sub_zero]
  | succ i ih =>
    intro n p a hn h
    obtain ⟨m, rfl⟩ : ∃ m, n = m + 1 := ⟨n - 1, by omega⟩
    rw [smF, if_pos (by have := h 0 (by omega); exact this), ih (n := m) (p := p + 1) (a := a + 1) (by omega) fun j hj => by
      have := h (j + 1) (by omega)
      rw [show p + 1 + j = p + (j + 1) by omega, show a + 1 + j = a + (j + 1) by omega]
      exact this]
    rw [show p + 1 + i = p + (i + 1) by omega, show a + 1 + i = a + (i + 1) by omega, show m + 1 - (i + 1) = m - i by omega]
    omega
theorem scn_r : ∀ {k l : Nat} {b : Nat × Nat}, (b.2 = 0 ∨ (4 ≤ b.2 ∧ b.2 ≤ n ∧ b.1 < a)) → k ≤ a → ((scn v a n k l b).2 = 0 ∨ (4 ≤ (scn v a n k l b).2 ∧ (scn v a n k l b).2 ≤ n ∧ (scn v a n k l b).1 < a)) := by
  intro k
  induction k with
  | zero => intro l b h _; exact h
  | succ k ih =>
    intro l b h hk
    rw [scn]
    split
    · exact h
    · split
      · rename_i h4
        refine ih ?_ (by omega)
        split
        · exact Or.inr ⟨h4, smF_le, by show k < a; omega⟩
        · exact h
      · exact ih h (by omega)
theorem bst_r : (bst v a last).2 = 0 ∨ (4 ≤ (bst v a last).2 ∧ a + (bst v a last).2 ≤ last ∧ (bst v a last).1 < a) := by
  unfold bst
  split
  · exact Or.inl rfl
  · have := scn_r (v := v) (a := a) (n := last - a) (k := a) (l := 0) (b := (0, 0)) (Or.inl rfl) (Nat.le_refl a)
    omega
/-- positions that are no match may be left out -/
theorem scn_skip : ∀ {k j : Nat}, j ≤ k → (∀ p, j ≤ p → p < k → smF v p a n < 4) → scn v a n k l b = scn v a n j l b := by
  intro k
  induction k with
  | zero => intro j h _; rw [show j = 0 by omega]
  | succ k ih =>
    intro j hj h
    by_cases c : j = k + 1
    · rw [c]
    · rw [scn]
      by_cases c8 : l = 8
      · rw [if_pos c8]
        have : ∀ {j : Nat}, scn v a n j l b = b := fun {j} => by
          cases j with
          | zero => rfl
          | succ j => rw [scn, if_pos c8]
        exact this.symm
      · rw [if_neg c8, if_neg (by have := h k (by omega) (by omega); omega)]
        exact ih (by omega) fun p h1 h2 => h p h1 (by omega)
theorem scn_8 : scn v a n k 8 b = b := by
  cases k with
  | zero => rfl
  | succ k => rw [scn, if_pos rfl]
/-! the chains -/
def lst (P : Nat → Nat) (h : Nat) : Nat → Int
  | 0 => -1
  | q + 1 => if P q = h then q else lst P h q
theorem lst_r {P : Nat → Nat} {h : Nat} : ∀ {q : Nat}, -1 ≤ lst P h q ∧ lst P h q < q ∧ (0 ≤ lst P h q → P (lst P h q).toNat = h) ∧ ∀ p : Nat, lst P h q < p → p < q → P p ≠ h := by
  intro q
  induction q with
  | zero => exact ⟨by show (-1 : Int) ≤ -1; omega, by show (-1 : Int) < (0 : Nat); omega, fun h0 => absurd h0 (by show ¬ (0 : Int) ≤ -1; omega), fun p _ hp => absurd hp (Nat.not_lt_zero p)⟩
  | succ q ih =>
    obtain ⟨i1, i2, i3, i4⟩ := ih
    rw [lst]
    by_cases c : P q = h
    · rw [if_pos c]
      exact ⟨by omega, by omega, fun _ => by rw [Int.toNat_natCast]; exact c, fun p h1 h2 => by omega⟩
    · rw [if_neg c]
      refine ⟨i1, by omega, i3, fun p h1 h2 => ?_⟩
      by_cases e : p = q
      · rw [e]; exact c
      · exact i4 p h1 (by omega)
/-- the number of a chain: of four bytes -/
def hsI (v : Nat → Nat) (p : Nat) : Int32 := ushI ((((iI (v p) ||| shlI (iI (v (p + 1))) (iI 8)) ||| shlI (iI (v (p + 2))) (iI 16)) ||| shlI (iI (v (p + 3))) (iI 24)) * iI (-1640531535)) (iI 20)
def hs (v : Nat → Nat) (p : Nat) : Nat := (hsI v p).toInt.toNat
theorem ush20 (x : Int32) : ∃ w : Nat, w < 4096 ∧ ushI x (iI 20) = iI w := by
  have e : x = iI (x.toInt % 4294967296) := by
    conv => lhs; rw [iI_of x]
    exact iI_inj_mod (by omega)
  have h := ush_i (a := x.toInt % 4294967296) (k := 20) (by omega) (by omega)
  rw [← e] at h
  refine ⟨(x.toInt % 4294967296 / 2 ^ (20 : Int).toNat).toNat, ?_, ?_⟩
  · rw [show (20 : Int).toNat = 20 from rfl, show (2 : Int) ^ 20 = 1048576 by decide]
    omega
  · rw [h]
    refine congrArg iI ?_
    rw [show (20 : Int).toNat = 20 from rfl, show (2 : Int) ^ 20 = 1048576 by decide]
    omega
theorem hs_lt (v : Nat → Nat) (p : Nat) : hs v p < 4096 ∧ hsI v p = iI (hs v p) := by
  obtain ⟨w, h1, h2⟩ := ush20 ((((iI (v p) ||| shlI (iI (v (p + 1))) (iI 8)) ||| shlI (iI (v (p + 2))) (iI 16)) ||| shlI (iI (v (p + 3))) (iI 24)) * iI (-1640531535))
  have h2 : hsI v p = iI w := h2
  have h3 : hs v p = w := by
    unfold hs
    rw [h2, iI_toInt (by omega)]
    omega
  rw [h3]
  exact ⟨h1, h2⟩
theorem hs_eq {p q : Nat} (h : ∀ i, i < 4 → v (p + i) = v (q + i)) : hs v p = hs v q := by
  unfold hs hsI
  rw [show v p = v q from h 0 (by omega), h 1 (by omega), h 2 (by omega), h 3 (by omega)]
/-- a walk along the chain is a walk over all positions -/
theorem scn_lst {h : Nat} (hh : h = hs v a) : scn v a n k l b = if lst (hs v) h k < 0 then b else scn v a n ((lst (hs v) h k).toNat + 1) l b := by
  obtain ⟨i1, i2, i3, i4⟩ := @lst_r (hs v) h k
  have nom : ∀ p : Nat, lst (hs v) h k < p → p < k → smF v p a n < 4 := fun p h1 h2 => by
    by_cases c : smF v p a n < 4
    · exact c
    · exact absurd (by rw [hh]; exact hs_eq fun i hi => smF_eq (n := n) i (by omega)) (i4 p h1 h2)
  split
  · rename_i c
    rw [scn_skip (j := 0) (by omega) fun p h1 h2 => nom p (by omega) h2]
    rfl
  · rename_i c
    exact scn_skip (by omega) fun p h1 h2 => nom p (by omega) h2
/-! what was found, bounded -/
abbrev FsR (a0 last : Nat) (s : Fs) : Prop := a0 ≤ s.1 ∧ s.1 ≤ last ∧ 4 * s.2.2.1 + s.2.2.2.2.2.2.1 ≤ s.1 - a0 ∧ s.2.1 ≤ s.2.2.2.2.2.2.1 ∧ (∀ i, i < s.2.2.1 → s.2.2.2.1 i ≤ s.2.2.2.2.2.2.1 ∧ 4 ≤ s.2.2.2.2.1 i ∧ s.2.2.2.2.1 i ≤ last - a0 ∧ 1 ≤ s.2.2.2.2.2.1 i ∧ s.2.2.2.2.2.1 i ≤ last)
theorem fns_r {a0 : Nat} {s : Fs} (h : FsR a0 last s) (hl : s.1 < last) : FsR a0 last (fns v last s) ∧ s.1 < (fns v last s).1 := by
  obtain ⟨h1, h2, h3, h4, h5⟩ := h
  have hb := bst_r (v := v) (a := s.1) (last := last)
  unfold fns
  by_cases c : (bst v s.1 last).2 = 0
  · rw [if_pos c]
    refine ⟨⟨by show a0 ≤ s.1 + 1; omega, by show s.1 + 1 ≤ last; omega, by show 4 * s.2.2.1 + (s.2.2.2.2.2.2.1 + 1) ≤ s.1 + 1 - a0; omega, by show s.2.1 + 1 ≤ s.2.2.2.2.2.2.1 + 1; omega, fun i hi => ?_⟩, by show s.1 < s.1 + 1; omega⟩
    have := h5 i hi
    refine ⟨?_, this.2⟩
    show s.2.2.2.1 i ≤ s.2.2.2.2.2.2.1 + 1
    omega
  · rw [if_neg c]
    refine ⟨⟨by show a0 ≤ s.1 + (bst v s.1 last).2; omega, by show s.1 + (bst v s.1 last).2 ≤ last; omega, by show 4 * (s.2.2.1 + 1) + s.2.2.2.2.2.2.1 ≤ s.1 + (bst v s.1 last).2 - a0; omega, by show 0 ≤ s.2.2.2.2.2.2.1; omega, fun i hi => ?_⟩, by show s.1 < s.1 + (bst v s.1 last).2; omega⟩
    have hi : i < s.2.2.1 + 1 := hi
    show uN s.2.2.2.1 s.2.2.1 s.2.1 i ≤ s.2.2.2.2.2.2.1 ∧ 4 ≤ uN s.2.2.2.2.1 s.2.2.1 (bst v s.1 last).2 i ∧ uN s.2.2.2.2.1 s.2.2.1 (bst v s.1 last).2 i ≤ last - a0 ∧ 1 ≤ uN s.2.2.2.2.2.1 s.2.2.1 (s.1 - (bst v s.1 last).1) i ∧ uN s.2.2.2.2.2.1 s.2.2.1 (s.1 - (bst v s.1 last).1) i ≤ last
    unfold uN
    by_cases ei : i = s.2.2.1
    · rw [if_pos ei, if_pos ei, if_pos ei]
      omega
    · rw [if_neg ei, if_neg ei, if_neg ei]
      exact h5 i (by omega)
theorem fn0_r {a0 : Nat} (h : a0 ≤ last) : FsR a0 last (fn0 a0) := ⟨Nat.le_refl _, h, by show 4 * 0 + 0 ≤ a0 - a0; omega, Nat.le_refl 0, fun i hi => absurd hi (Nat.not_lt_zero i)⟩
theorem fnd_r {a0 : Nat} : ∀ {k : Nat} {s : Fs}, FsR a0 last s → FsR a0 last (fnd v last k s) := by
  intro k
  induction k with
  | zero => intro s h; exact h
  | succ k ih =>
    intro s h
    rw [fnd]
    by_cases c : last ≤ s.1
    · rw [if_pos c]; exact h
    · rw [if_neg c]
      exact ih (fns_r h (by omega)).1
end FIND
