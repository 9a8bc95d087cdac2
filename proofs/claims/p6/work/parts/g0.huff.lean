/-! Huffman's joins, as numbers: leaves below 128, node t at 128 + t, no parent: 0 -/
def suH : Nat → (Nat → Nat) → Nat
  | 0, _ => 0
  | n + 1, f => suH n f + f n
def upH (f : Nat → Nat) (a x : Nat) (i : Nat) : Nat := if i = a then x else f i
def frH (v p g : Nat → Nat) (i : Nat) : Nat := if v i = 0 ∨ p i ≠ 0 then 0 else g i
def lsH (v p : Nat → Nat) : Nat → Option Nat
  | 0 => none
  | n + 1 => if v n = 0 ∨ p n ≠ 0 then lsH v p n else match lsH v p n with
    | none => some n
    | some b => if v b ≤ v n then some b else some n
def jnH (w : Nat → Nat) : Nat → (Nat → Nat) × (Nat → Nat)
  | 0 => (fun i => if i < 128 then w i else 0, fun _ => 0)
  | t + 1 => match lsH (jnH w t).1 (jnH w t).2 (128 + t) with
    | none => jnH w t
    | some a => match lsH (jnH w t).1 (upH (jnH w t).2 a (128 + t)) (128 + t) with
      | none => jnH w t
      | some b => (upH (jnH w t).1 (128 + t) ((jnH w t).1 a + (jnH w t).1 b), upH (upH (jnH w t).2 a (128 + t)) b (128 + t))
def dH (p : Nat → Nat) : Nat → Nat → Nat
  | 0, _ => 0
  | f + 1, i => if p i = 0 then 0 else dH p f (p i) + 1
def dpH (p : Nat → Nat) (i : Nat) : Nat := dH p (256 - i) i
def mxH : Nat → (Nat → Nat) → Nat
  | 0, _ => 0
  | n + 1, f => max (mxH n f) (f n)
def fbH : Nat → Nat
  | 0 => 1
  | 1 => 2
  | k + 2 => fbH (k + 1) + fbH k
abbrev KH (w : Nat → Nat) : Nat := suH 128 (frH w (fun _ => 0) fun _ => 1)
/-- the depths of the leaves, and the greatest -/
def ddH (w : Nat → Nat) (i : Nat) : Nat := dpH (jnH w (KH w - 1)).2 i
def mmH (w : Nat → Nat) : Nat := mxH 128 (ddH w)
def hvH (w : Nat → Nat) (i : Nat) : Nat := (w i + 1) / 2
def hfH : Nat → (Nat → Nat) → (Nat → Nat)
  | 0, w => w
  | f + 1, w => if mmH w ≤ 11 then w else hfH f (hvH w)
abbrev HI (w : Nat → Nat) (t : Nat) (v p : Nat → Nat) : Prop :=
  (∀ i, 128 + t ≤ i → v i = 0 ∧ p i = 0) ∧ (∀ i, p i ≠ 0 → v i ≠ 0 ∧ 128 ≤ p i ∧ i < p i ∧ p i < 128 + t) ∧ (∀ i, i < 128 → v i = w i) ∧ (∀ x i, p x ≠ 0 → v i ≠ 0 → p i = 0 → v x ≤ v i) ∧ (∀ x, p x ≠ 0 → p (p x) ≠ 0 → v (p x) + v x ≤ v (p (p x))) ∧ (∀ x, p x ≠ 0 → v x < v (p x)) ∧ suH (128 + t) (frH v p fun _ => 1) + t = KH w ∧ suH (128 + t) (frH v p v) = suH 128 w ∧ (∀ y, 128 ≤ y → y < 128 + t → v y ≠ 0 ∧ ∃ x, p x = y) ∧ (∀ g : Nat → Nat, (∀ x, p x ≠ 0 → 2 * g x = g (p x)) → suH (128 + t) (frH v p g) = suH 128 (frH w (fun _ => 0) g))
section HUFF
variable {v p g w : Nat → Nat} {a b e n t : Nat}
theorem suH_ext {f f' : Nat → Nat} : ∀ n, (∀ i, i < n → f i = f' i) → suH n f = suH n f'
  | 0, _ => rfl
  | n + 1, h => by rw [suH, suH, suH_ext n (fun i hi => h i (by omega)), h n (by omega)]
theorem suH_up {f : Nat → Nat} {x : Nat} : ∀ n, a < n → suH n (upH f a x) + f a = suH n f + x
  | 0, h => by omega
  | n + 1, h => by
    rw [suH, suH]
    by_cases c : a = n
    · have h1 : suH n (upH f a x) = suH n f := suH_ext n fun i hi => by unfold upH; rw [if_neg (by omega)]
      have h2 : upH f a x n = x := by unfold upH; rw [if_pos c.symm]
      rw [h1, h2, c]
      omega
    · have h1 := suH_up (f := f) (x := x) n (by omega)
      have h2 : upH f a x n = f n := by unfold upH; rw [if_neg (by omega)]
      rw [h2]
      omega
theorem suH_le {f : Nat → Nat} : ∀ n, a < n → f a ≤ suH n f
  | 0, h => by omega
  | n + 1, h => by
    rw [suH]
    by_cases c : a = n
    · rw [c]; omega
    · have := suH_le (f := f) n (by omega : a < n)
      omega
theorem suH_two {f : Nat → Nat} (ha : a < n) (hb : b < n) (hab : a ≠ b) : f a + f b ≤ suH n f := by
  have h1 := suH_up (f := f) (x := 0) n ha
  have h2 := suH_le (f := upH f a 0) n hb
  have h3 : upH f a 0 b = f b := by unfold upH; rw [if_neg (fun h => hab h.symm)]
  omega
theorem suH_0 {f : Nat → Nat} : ∀ n, (∀ i, i < n → f i = 0) → suH n f = 0
  | 0, _ => rfl
  | n + 1, h => by rw [suH, suH_0 n (fun i hi => h i (by omega)), h n (by omega)]
theorem suH_1 {f : Nat → Nat} (ha : a < n) (h : ∀ i, i < n → i ≠ a → f i = 0) : suH n f = f a := by
  have h1 := suH_up (f := f) (x := 0) n ha
  have h2 : suH n (upH f a 0) = 0 := suH_0 n fun i hi => by
    unfold upH
    by_cases c : i = a
    · rw [if_pos c]
    · rw [if_neg c, h i hi c]
  omega
theorem suH_b {f : Nat → Nat} {c : Nat} : ∀ n, (∀ i, i < n → f i ≤ c) → suH n f ≤ n * c
  | 0, _ => by rw [suH]; omega
  | n + 1, h => by
    have h1 := suH_b n (fun i hi => h i (by omega))
    have h2 := h n (by omega)
    rw [suH, Nat.add_mul, Nat.one_mul]
    omega
theorem suH_mono {f f' : Nat → Nat} : ∀ n, (∀ i, i < n → f i ≤ f' i) → suH n f ≤ suH n f'
  | 0, _ => by rw [suH, suH]; omega
  | n + 1, h => by
    have h1 := suH_mono n (fun i hi => h i (by omega))
    have h2 := h n (by omega)
    rw [suH, suH]
    omega
theorem suH_00 {f : Nat → Nat} {k : Nat} : ∀ m, k ≤ m → (∀ i, k ≤ i → i < m → f i = 0) → suH m f = suH k f
  | 0, hk, _ => by rw [show k = 0 by omega]
  | m + 1, hk, h => by
    by_cases c : k = m + 1
    · rw [c]
    · rw [suH, suH_00 m (by omega) (fun i h1 h2 => h i h1 (by omega)), h m (by omega) (by omega), Nat.add_zero]
theorem lsH_n : ∀ n, lsH v p n = none → ∀ i, i < n → v i = 0 ∨ p i ≠ 0
  | 0, _, i, hi => by omega
  | n + 1, h, i, hi => by
    rw [lsH] at h
    by_cases c : v n = 0 ∨ p n ≠ 0
    · rw [if_pos c] at h
      by_cases ci : i = n
      · rw [ci]; exact c
      · exact lsH_n n h i (by omega)
    · rw [if_neg c] at h
      cases hl : lsH v p n with
      | none => rw [hl] at h; cases h
      | some b =>
        rw [hl] at h
        have h : (if v b ≤ v n then some b else some n) = none := h
        split at h <;> cases h
theorem lsH_s : ∀ n a, lsH v p n = some a → a < n ∧ v a ≠ 0 ∧ p a = 0 ∧ ∀ i, i < n → v i ≠ 0 → p i = 0 → v a ≤ v i
  | 0, a, h => by simp only [lsH] at h; cases h
  | n + 1, a, h => by
    rw [lsH] at h
    by_cases c : v n = 0 ∨ p n ≠ 0
    · rw [if_pos c] at h
      obtain ⟨h1, h2, h3, h4⟩ := lsH_s n a h
      refine ⟨by omega, h2, h3, fun i hi hv hp => ?_⟩
      by_cases ci : i = n
      · subst ci
        rcases c with c | c
        · exact absurd c hv
        · exact absurd hp c
      · exact h4 i (by omega) hv hp
    · rw [if_neg c] at h
      have cv : v n ≠ 0 := fun h => c (Or.inl h)
      have cp : p n = 0 := Classical.byContradiction fun h => c (Or.inr h)
      cases hl : lsH v p n with
      | none =>
        rw [hl] at h
        have := lsH_n n hl
        cases h
        refine ⟨by omega, cv, cp, fun i hi hv hp => ?_⟩
        by_cases ci : i = n
        · rw [ci]; exact Nat.le_refl _
        · rcases this i (by omega) with k | k
          · exact absurd k hv
          · exact absurd hp k
      | some b =>
        rw [hl] at h
        obtain ⟨h1, h2, h3, h4⟩ := lsH_s n b hl
        have h : (if v b ≤ v n then some b else some n) = some a := h
        by_cases cb : v b ≤ v n
        · rw [if_pos cb] at h
          cases h
          refine ⟨by omega, h2, h3, fun i hi hv hp => ?_⟩
          by_cases ci : i = n
          · rw [ci]; exact cb
          · exact h4 i (by omega) hv hp
        · rw [if_neg cb] at h
          cases h
          refine ⟨by omega, cv, cp, fun i hi hv hp => ?_⟩
          by_cases ci : i = n
          · rw [ci]; exact Nat.le_refl _
          · have := h4 i (by omega) hv hp
            omega
theorem lsH_n0 (h : lsH v p n = none) : suH n (frH v p fun _ => 1) = 0 :=
  suH_0 n fun i hi => by
    unfold frH
    rw [if_pos (lsH_n n h i hi)]
/-- one join: what the free ones bear -/
theorem fr_step (ha : a < e) (hb : b < e) (hab : b ≠ a) (va : v a ≠ 0) (vb : v b ≠ 0) (pa : p a = 0) (pb : p b = 0) (he : e ≠ 0) (pe : p e = 0) (g : Nat → Nat) :
    suH (e + 1) (frH (upH v e (v a + v b)) (upH (upH p a e) b e) g) + g a + g b = suH e (frH v p g) + g e := by
  have h1 : frH (upH v e (v a + v b)) (upH (upH p a e) b e) g e = g e := by
    unfold frH upH
    rw [if_neg]
    rw [if_pos rfl, if_neg (by omega), if_neg (by omega), pe]
    omega
  have h2 : suH e (frH (upH v e (v a + v b)) (upH (upH p a e) b e) g) = suH e (upH (upH (frH v p g) a 0) b 0) := suH_ext e fun i hi => by
    unfold frH upH
    rw [if_neg (by omega : ¬ i = e)]
    by_cases c1 : i = b
    · rw [if_pos c1, if_pos c1, if_pos (Or.inr he)]
    · rw [if_neg c1, if_neg c1]
      by_cases c2 : i = a
      · rw [if_pos c2, if_pos c2, if_pos (Or.inr he)]
      · rw [if_neg c2, if_neg c2]
  have h3 := suH_up (f := frH v p g) (x := 0) e ha
  have h4 := suH_up (f := upH (frH v p g) a 0) (x := 0) e hb
  have h5 : upH (frH v p g) a 0 b = g b := by
    unfold upH frH
    rw [if_neg hab, if_neg]
    omega
  have h6 : frH v p g a = g a := by
    unfold frH
    rw [if_neg]
    omega
  rw [suH, h1, h2]
  omega
theorem HI_0 : HI w 0 (jnH w 0).1 (jnH w 0).2 := by
  have v0 : ∀ i, i < 128 → (jnH w 0).1 i = w i := fun i hi => if_pos hi
  have p0 : ∀ i, (jnH w 0).2 i = 0 := fun i => rfl
  have h0 : ∀ g, suH (128 + 0) (frH (jnH w 0).1 (jnH w 0).2 g) = suH 128 (frH w (fun _ => 0) g) := fun g => suH_ext 128 fun i hi => by
    unfold frH
    rw [v0 i hi, p0 i]
  refine ⟨fun i hi => ⟨if_neg (by omega), rfl⟩, fun i h => absurd (p0 i) h, v0, fun x i h => absurd (p0 x) h, fun x h => absurd (p0 x) h, fun x h => absurd (p0 x) h, ?_, ?_, fun y h1 h2 => by omega, fun g _ => h0 g⟩
  · rw [h0, Nat.add_zero]
  · refine suH_ext 128 fun i hi => ?_
    unfold frH
    rw [v0 i hi, p0 i]
    by_cases c : w i = 0
    · rw [if_pos (Or.inl c), c]
    · rw [if_neg (fun q => q.elim c (fun z => z rfl))]
theorem HI_s (h : HI w t v p) (la : lsH v p (128 + t) = some a) (lb : lsH v (upH p a (128 + t)) (128 + t) = some b) :
    HI w (t + 1) (upH v (128 + t) (v a + v b)) (upH (upH p a (128 + t)) b (128 + t)) := by
  obtain ⟨i1, i2, i3, i4, i5, i6, i7, i8, i9, i10⟩ := h
  obtain ⟨a1, a2, a3, a4⟩ := lsH_s _ _ la
  obtain ⟨b1, b2, b3, b4⟩ := lsH_s _ _ lb
  unfold HI
  rw [show 128 + (t + 1) = 128 + t + 1 from rfl]
  have hba : b ≠ a := fun h => by
    unfold upH at b3
    rw [if_pos h] at b3
    omega
  have b3 : p b = 0 := by
    unfold upH at b3
    rw [if_neg hba] at b3
    exact b3
  have pe : p (128 + t) = 0 := (i1 (128 + t) (by omega)).2
  have ea : (128 + t) ≠ a := by omega
  have eb : (128 + t) ≠ b := by omega
  have p1 : ∀ x, upH (upH p a (128 + t)) b (128 + t) x = if x = b then (128 + t) else if x = a then (128 + t) else p x := fun _ => rfl
  have v1 : ∀ x, x ≠ (128 + t) → upH v (128 + t) (v a + v b) x = v x := fun x hx => by unfold upH; rw [if_neg hx]
  have ve : upH v (128 + t) (v a + v b) (128 + t) = v a + v b := by unfold upH; rw [if_pos rfl]
  have pa : upH (upH p a (128 + t)) b (128 + t) a = (128 + t) := by rw [p1, if_neg (fun h => hba h.symm), if_pos rfl]
  have pb : upH (upH p a (128 + t)) b (128 + t) b = (128 + t) := by rw [p1, if_pos rfl]
  have po : ∀ x, x ≠ a → x ≠ b → upH (upH p a (128 + t)) b (128 + t) x = p x := fun x h1 h2 => by rw [p1, if_neg h2, if_neg h1]
  have pp : ∀ x, p x ≠ 0 → upH (upH p a (128 + t)) b (128 + t) x = p x := fun x hx => po x (fun h => hx (by rw [h]; exact a3)) (fun h => hx (by rw [h]; exact b3))
  have st := fr_step a1 b1 hba a2 b2 a3 b3 (by omega) pe
  refine ⟨fun i hi => ?_, fun i hi => ?_, fun i hi => ?_, fun x i hx hi hp => ?_, fun x hx hy => ?_, fun x hx => ?_, ?_, ?_, fun y hy1 hy2 => ?_, fun g hg => ?_⟩
  · rw [v1 i (by omega), po i (by omega) (by omega)]
    exact i1 i (by omega)
  · by_cases c1 : i = a
    · subst c1
      rw [pa, v1 i (by omega)]
      exact ⟨a2, by omega, by omega, by omega⟩
    · by_cases c2 : i = b
      · subst c2
        rw [pb, v1 i (by omega)]
        exact ⟨b2, by omega, by omega, by omega⟩
      · rw [po i c1 c2] at hi ⊢
        have := i2 i hi
        rw [v1 i (by omega)]
        exact ⟨this.1, this.2.1, this.2.2.1, by omega⟩
  · rw [v1 i (by omega)]
    exact i3 i hi
  · have ia : i ≠ a := fun h => by rw [h, pa] at hp; omega
    have ib : i ≠ b := fun h => by rw [h, pb] at hp; omega
    rw [po i ia ib] at hp
    have hxe : x ≠ (128 + t) := fun h => by rw [h, po (128 + t) ea eb, pe] at hx; exact hx rfl
    rw [v1 x hxe]
    by_cases ci : i = (128 + t)
    · rw [ci, ve]
      by_cases c1 : x = a
      · rw [c1]; omega
      · by_cases c2 : x = b
        · rw [c2]; omega
        · rw [po x c1 c2] at hx
          have := i4 x a hx a2 a3
          omega
    · rw [v1 i ci] at hi ⊢
      have hie : i < (128 + t) := Classical.byContradiction fun h => hi (i1 i (by omega)).1
      by_cases c1 : x = a
      · rw [c1]; exact a4 i hie hi hp
      · by_cases c2 : x = b
        · rw [c2]; exact b4 i hie hi (by unfold upH; rw [if_neg ia]; exact hp)
        · rw [po x c1 c2] at hx
          exact i4 x i hx hi hp
  · by_cases c1 : x = a
    · rw [c1, pa, po (128 + t) ea eb] at hy
      exact absurd pe hy
    · by_cases c2 : x = b
      · rw [c2, pb, po (128 + t) ea eb] at hy
        exact absurd pe hy
      · rw [po x c1 c2] at hx hy ⊢
        have hx2 := i2 x hx
        rw [v1 x (by omega), v1 (p x) (by omega)]
        by_cases c3 : p x = a
        · rw [c3, pa, ve]
          have := i4 x b hx b2 b3
          omega
        · by_cases c4 : p x = b
          · rw [c4, pb, ve]
            have := i4 x a hx a2 a3
            omega
          · rw [po _ c3 c4] at hy ⊢
            have hx3 := i2 (p x) hy
            rw [v1 (p (p x)) (by omega)]
            exact i5 x hx hy
  · by_cases c1 : x = a
    · rw [c1, pa, ve, v1 a (by omega)]; omega
    · by_cases c2 : x = b
      · rw [c2, pb, ve, v1 b (by omega)]; omega
      · rw [po x c1 c2] at hx ⊢
        have hx2 := i2 x hx
        rw [v1 x (by omega), v1 (p x) (by omega)]
        exact i6 x hx
  · have := st fun _ => 1
    omega
  · have h1 := st (upH v (128 + t) (v a + v b))
    have h2 : suH (128 + t) (frH v p (upH v (128 + t) (v a + v b))) = suH (128 + t) (frH v p v) := suH_ext (128 + t) fun i hi => by
      unfold frH
      rw [v1 i (by omega)]
    rw [h2, ve, v1 a (by omega), v1 b (by omega)] at h1
    omega
  · by_cases c : y = (128 + t)
    · subst c
      exact ⟨by rw [ve]; omega, a, pa⟩
    · obtain ⟨h1, x, hx⟩ := i9 y hy1 (by omega)
      exact ⟨by rw [v1 y c]; exact h1, x, by rw [pp x (by omega)]; exact hx⟩
  · have h1 := hg a (by rw [pa]; omega)
    have h2 := hg b (by rw [pb]; omega)
    rw [pa] at h1
    rw [pb] at h2
    have h3 := st g
    have h4 := i10 g fun x hx => by
      have := hg x (by rw [pp x hx]; exact hx)
      rw [pp x hx] at this
      exact this
    omega
theorem KH_le : KH w ≤ 128 := by
  have := suH_b (f := frH w (fun _ => 0) fun _ => 1) (c := 1) 128 fun i _ => by
    unfold frH
    dsimp only
    split <;> omega
  show suH 128 _ ≤ 128
  omega
/-- while more than one is free, two are joined -/
theorem HI_go (h : HI w t v p) (hk : t + 2 ≤ KH w) : ∃ a b, lsH v p (128 + t) = some a ∧ lsH v (upH p a (128 + t)) (128 + t) = some b := by
  have h7 := h.2.2.2.2.2.2.1
  cases la : lsH v p (128 + t) with
  | none =>
    have := lsH_n0 la
    omega
  | some a =>
    obtain ⟨a1, a2, a3, a4⟩ := lsH_s _ _ la
    cases lb : lsH v (upH p a (128 + t)) (128 + t) with
    | none =>
      have h1 := lsH_n0 lb
      have h2 : suH (128 + t) (frH v (upH p a (128 + t)) fun _ => 1) = suH (128 + t) (upH (frH v p fun _ => 1) a 0) := suH_ext _ fun i hi => by
        unfold frH upH
        by_cases c : i = a
        · rw [if_pos c, if_pos c, if_pos (Or.inr (by omega))]
        · rw [if_neg c, if_neg c]
      have h3 := suH_up (f := frH v p fun _ => 1) (x := 0) (128 + t) a1
      have h4 : frH v p (fun _ => 1) a ≤ 1 := by unfold frH; dsimp only; split <;> omega
      omega
    | some b => exact ⟨a, b, rfl, lb⟩
theorem jn_s (la : lsH (jnH w t).1 (jnH w t).2 (128 + t) = some a) (lb : lsH (jnH w t).1 (upH (jnH w t).2 a (128 + t)) (128 + t) = some b) :
    jnH w (t + 1) = (upH (jnH w t).1 (128 + t) ((jnH w t).1 a + (jnH w t).1 b), upH (upH (jnH w t).2 a (128 + t)) b (128 + t)) := by
  rw [jnH, la]
  show (match lsH (jnH w t).1 (upH (jnH w t).2 a (128 + t)) (128 + t) with | none => jnH w t | some b => _) = _
  rw [lb]
theorem jn_HI : ∀ t, t + 1 ≤ KH w → HI w t (jnH w t).1 (jnH w t).2
  | 0, _ => HI_0
  | t + 1, h => by
    have ih := jn_HI t (by omega)
    obtain ⟨a, b, la, lb⟩ := HI_go ih (by omega)
    rw [jn_s la lb]
    exact HI_s ih la lb
theorem dH_fuel (hp : ∀ i, p i ≠ 0 → i < p i ∧ p i < 256) : ∀ f i, i ≤ 256 → 256 - i ≤ f → dH p f i = dH p (256 - i) i
  | 0, i, hi, h => by rw [show 256 - i = 0 by omega]
  | f + 1, i, hi, h => by
    by_cases c : p i = 0
    · cases h2 : 256 - i with
      | zero => rw [dH, dH, if_pos c]
      | succ k => rw [dH, dH, if_pos c, if_pos c]
    · have := hp i c
      rw [show 256 - i = (255 - i) + 1 by omega, dH, dH, if_neg c, if_neg c, dH_fuel hp f (p i) (by omega) (by omega), dH_fuel hp (255 - i) (p i) (by omega) (by omega)]
theorem dp_0 (h : p a = 0) : dpH p a = 0 := by
  unfold dpH
  cases 256 - a with
  | zero => rfl
  | succ k => rw [dH, if_pos h]
theorem dp_s (hp : ∀ i, p i ≠ 0 → i < p i ∧ p i < 256) (h : p a ≠ 0) : dpH p a = dpH p (p a) + 1 := by
  have := hp a h
  unfold dpH
  rw [show 256 - a = (255 - a) + 1 by omega, dH, if_neg h, dH_fuel hp (255 - a) (p a) (by omega) (by omega)]
theorem dH_le : ∀ f i, dH p f i ≤ f
  | 0, _ => by rw [dH]; omega
  | f + 1, i => by
    rw [dH]
    have := dH_le f (p i)
    split <;> omega
theorem mx_ge {f : Nat → Nat} : ∀ n, a < n → f a ≤ mxH n f
  | 0, h => by omega
  | n + 1, h => by
    rw [mxH]
    by_cases c : a = n
    · rw [c]; omega
    · have := mx_ge (f := f) n (by omega : a < n)
      omega
theorem mx_ex {f : Nat → Nat} : ∀ n, mxH n f = 0 ∨ ∃ i, i < n ∧ f i = mxH n f
  | 0 => Or.inl rfl
  | n + 1 => by
    rw [mxH]
    by_cases c : mxH n f ≤ f n
    · exact Or.inr ⟨n, by omega, by omega⟩
    · rcases mx_ex (f := f) n with h | ⟨i, hi, h⟩
      · omega
      · exact Or.inr ⟨i, by omega, by omega⟩
theorem fb_mono : ∀ k, fbH k ≤ fbH (k + 1)
  | 0 => by decide
  | k + 1 => by rw [fbH]; omega
theorem fb_12 : ∀ k, 377 ≤ fbH (12 + k)
  | 0 => by decide
  | k + 1 => Nat.le_trans (fb_12 k) (fb_mono (12 + k))
/-- the path up from x: Fibonacci's numbers below the weights -/
theorem fb_path (h : HI w t v p) (ht : t ≤ 128) (hx : v a ≠ 0) : ∀ k, k ≤ dpH p a → ∃ y, dpH p y + k = dpH p a ∧ v y ≠ 0 ∧ fbH k ≤ v y ∧ (1 ≤ k → ∃ z, p z = y ∧ p z ≠ 0 ∧ fbH (k - 1) ≤ v z)
  | 0, _ => ⟨a, rfl, hx, by rw [fbH]; omega, fun h => by omega⟩
  | k + 1, hk => by
    have i2 := h.2.1
    have i5 := h.2.2.2.2.1
    have i6 := h.2.2.2.2.2.1
    have hp : ∀ i, p i ≠ 0 → i < p i ∧ p i < 256 := fun i hi => by have := i2 i hi; omega
    obtain ⟨y, h1, h2, h3, h4⟩ := fb_path h ht hx k (by omega)
    have py : p y ≠ 0 := fun hc => by
      have := dp_0 hc
      omega
    have ds := dp_s hp py
    have hv := i6 y py
    refine ⟨p y, by omega, by omega, ?_, fun _ => ⟨y, rfl, py, h3⟩⟩
    cases k with
    | zero =>
      rw [fbH] at h3
      rw [fbH]
      omega
    | succ k =>
      obtain ⟨z, hz, hz0, hz2⟩ := h4 (by omega)
      have h5 := i5 z hz0 (by rw [hz]; exact py)
      rw [hz] at h5
      rw [show k + 1 - 1 = k by omega] at hz2
      rw [fbH]
      omega
theorem v_le (h : HI w t v p) (hk : t + 1 ≤ KH w) (i : Nat) : v i ≤ suH 128 w := by
  obtain ⟨i1, i2, i3, i4, i5, i6, i7, i8, i9, i10⟩ := id h
  have hf : ∀ j, v j ≠ 0 → p j = 0 → v j ≤ suH 128 w := fun j hv hp => by
    have hj : j < 128 + t := Classical.byContradiction fun hc => hv (i1 j (by omega)).1
    have h1 := suH_le (f := frH v p v) (128 + t) hj
    have h2 : frH v p v j = v j := by unfold frH; rw [if_neg]; omega
    omega
  by_cases c : v i = 0
  · omega
  · by_cases cp : p i = 0
    · exact hf i c cp
    · have : ∃ j, v j ≠ 0 ∧ p j = 0 := Classical.byContradiction fun hc => by
        have : suH (128 + t) (frH v p fun _ => 1) = 0 := suH_0 _ fun j _ => by
          unfold frH
          by_cases q1 : v j = 0
          · rw [if_pos (Or.inl q1)]
          · rw [if_pos (Or.inr fun q2 => hc ⟨j, q1, q2⟩)]
        omega
      obtain ⟨j, j1, j2⟩ := this
      have h1 := i4 i j cp j1 j2
      have h2 := hf j j1 j2
      omega
theorem v_two (h : HI w t v p) (ha : v a ≠ 0) (pa : p a = 0) (hb : v b ≠ 0) (pb : p b = 0) (hab : a ≠ b) : v a + v b ≤ suH 128 w := by
  obtain ⟨i1, i2, i3, i4, i5, i6, i7, i8, i9, i10⟩ := id h
  have hja : a < 128 + t := Classical.byContradiction fun hc => ha (i1 a (by omega)).1
  have hjb : b < 128 + t := Classical.byContradiction fun hc => hb (i1 b (by omega)).1
  have h1 := suH_two (f := frH v p v) hja hjb hab
  have h2 : frH v p v a = v a := by unfold frH; rw [if_neg]; omega
  have h3 : frH v p v b = v b := by unfold frH; rw [if_neg]; omega
  omega
/-- at the end: one is free, the last node -/
theorem HI_fin (h : HI w t v p) (hk : t + 1 = KH w) (ht : 1 ≤ t) : v (127 + t) ≠ 0 ∧ p (127 + t) = 0 ∧ ∀ i, v i ≠ 0 → p i = 0 → i = 127 + t := by
  obtain ⟨i1, i2, i3, i4, i5, i6, i7, i8, i9, i10⟩ := id h
  have h1 := (i9 (127 + t) (by omega) (by omega)).1
  have h2 : p (127 + t) = 0 := Classical.byContradiction fun hc => by
    have := i2 _ hc
    omega
  refine ⟨h1, h2, fun i hv hp => Classical.byContradiction fun hc => ?_⟩
  have hi : i < 128 + t := Classical.byContradiction fun hc => hv (i1 i (by omega)).1
  have h3 := suH_two (f := frH v p fun _ => 1) hi (show 127 + t < 128 + t by omega) hc
  have h4 : frH v p (fun _ => 1) i = 1 := by unfold frH; rw [if_neg]; omega
  have h5 : frH v p (fun _ => 1) (127 + t) = 1 := by unfold frH; rw [if_neg]; omega
  omega
theorem HI_256 (h : HI w t v p) (ht : t ≤ 128) : ∀ i, p i ≠ 0 → i < p i ∧ p i < 256 := fun i hi => by have := h.2.1 i hi; omega
theorem HI_T (hK : 2 ≤ KH w) : HI w (KH w - 1) (jnH w (KH w - 1)).1 (jnH w (KH w - 1)).2 := jn_HI _ (by omega)
theorem dd_leaf (hK : 2 ≤ KH w) (ha : a < 128) (hw : w a ≠ 0) : (jnH w (KH w - 1)).2 a ≠ 0 ∧ 1 ≤ ddH w a := by
  have h := HI_T hK
  have hle := KH_le (w := w)
  have h1 := HI_fin h (by omega) (by omega)
  have h3 := h.2.2.1 a ha
  have hp : (jnH w (KH w - 1)).2 a ≠ 0 := fun hc => by
    have := h1.2.2 a (by rw [h3]; exact hw) hc
    omega
  have := dp_s (HI_256 h (by omega)) hp
  refine ⟨hp, ?_⟩
  unfold ddH
  omega
/-- no node lies deeper than a leaf -/
theorem dd_all (hK : 2 ≤ KH w) : ∀ n y, y ≤ n → (jnH w (KH w - 1)).1 y ≠ 0 → dpH (jnH w (KH w - 1)).2 y ≤ mmH w := by
  have h := HI_T hK
  have hle := KH_le (w := w)
  have hp := HI_256 h (by omega)
  intro n
  induction n with
  | zero => exact fun y hy _ => by rw [show y = 0 by omega]; exact mx_ge (f := ddH w) 128 (by omega)
  | succ n ih =>
    intro y hy hv
    by_cases c : y < 128
    · exact mx_ge (f := ddH w) 128 c
    · have hy2 : y < 128 + (KH w - 1) := Classical.byContradiction fun hc => hv (h.1 y (by omega)).1
      obtain ⟨_, x, hx⟩ := h.2.2.2.2.2.2.2.2.1 y (by omega) hy2
      have hx0 : (jnH w (KH w - 1)).2 x ≠ 0 := by rw [hx]; omega
      have h1 := hp x hx0
      have h2 := ih x (by omega) (h.2.1 x hx0).1
      have h3 := dp_s hp hx0
      rw [hx] at h3
      omega
theorem mm_lt (hK : 2 ≤ KH w) (hW : suH 128 w < 377) : mmH w ≤ 11 := by
  have h := HI_T hK
  have hle := KH_le (w := w)
  have hp := HI_256 h (by omega)
  refine Classical.byContradiction fun hc => ?_
  rcases mx_ex (f := ddH w) 128 with h0 | ⟨i, hi, h0⟩
  · exact hc (by unfold mmH; omega)
  · have hd : ¬ dpH (jnH w (KH w - 1)).2 i ≤ 11 := by
      unfold mmH at hc
      unfold ddH at h0
      unfold ddH at hc
      omega
    have hp0 : (jnH w (KH w - 1)).2 i ≠ 0 := fun q => by
      have := dp_0 q
      omega
    obtain ⟨y, h1, h2, h3, h4⟩ := fb_path h (by omega) (h.2.1 i hp0).1 (dpH (jnH w (KH w - 1)).2 i) (Nat.le_refl _)
    have h5 := v_le h (by omega) y
    have h6 := fb_12 (dpH (jnH w (KH w - 1)).2 i - 12)
    rw [show 12 + (dpH (jnH w (KH w - 1)).2 i - 12) = dpH (jnH w (KH w - 1)).2 i by omega] at h6
    omega
theorem dd_kraft (hK : 2 ≤ KH w) : suH 128 (fun i => if w i = 0 then 0 else 2 ^ (mmH w - ddH w i)) = 2 ^ mmH w := by
  have h := HI_T hK
  have hle := KH_le (w := w)
  have hp := HI_256 h (by omega)
  obtain ⟨f1, f2, f3⟩ := HI_fin h (by omega) (by omega)
  have hd := dd_all hK
  have h10 := h.2.2.2.2.2.2.2.2.2 (fun x => 2 ^ (mmH w - dpH (jnH w (KH w - 1)).2 x)) fun x hx => by
    have h1 := dp_s hp hx
    have h2 := hd x x (Nat.le_refl _) (h.2.1 x hx).1
    show 2 * 2 ^ (mmH w - dpH (jnH w (KH w - 1)).2 x) = 2 ^ (mmH w - dpH (jnH w (KH w - 1)).2 ((jnH w (KH w - 1)).2 x))
    rw [show mmH w - dpH (jnH w (KH w - 1)).2 ((jnH w (KH w - 1)).2 x) = (mmH w - dpH (jnH w (KH w - 1)).2 x) + 1 by omega, Nat.pow_succ, Nat.mul_comm]
  have h1 := suH_1 (f := frH (jnH w (KH w - 1)).1 (jnH w (KH w - 1)).2 fun x => 2 ^ (mmH w - dpH (jnH w (KH w - 1)).2 x)) (a := 127 + (KH w - 1)) (n := 128 + (KH w - 1)) (by omega) fun i hi hn => by
    unfold frH
    by_cases q1 : (jnH w (KH w - 1)).1 i = 0
    · rw [if_pos (Or.inl q1)]
    · rw [if_pos (Or.inr fun q2 => hn (f3 i q1 q2))]
  have h2 : frH (jnH w (KH w - 1)).1 (jnH w (KH w - 1)).2 (fun x => 2 ^ (mmH w - dpH (jnH w (KH w - 1)).2 x)) (127 + (KH w - 1)) = 2 ^ mmH w := by
    unfold frH
    rw [if_neg (by omega)]
    show 2 ^ (mmH w - dpH (jnH w (KH w - 1)).2 (127 + (KH w - 1))) = 2 ^ mmH w
    rw [dp_0 f2, Nat.sub_zero]
  rw [h1, h2] at h10
  rw [h10]
  refine suH_ext 128 fun i hi => ?_
  unfold frH ddH
  by_cases q : w i = 0
  · rw [if_pos q, if_pos (Or.inl q)]
  · rw [if_neg q, if_neg (fun z => z.elim q (fun y => y rfl))]
theorem KH_ext {w' : Nat → Nat} (h : ∀ i, i < 128 → (w i = 0 ↔ w' i = 0)) : KH w = KH w' := by
  show suH 128 (frH w (fun _ => 0) fun _ => 1) = suH 128 (frH w' (fun _ => 0) fun _ => 1)
  refine suH_ext 128 fun i hi => ?_
  have h1 := h i hi
  unfold frH
  by_cases c : w i = 0
  · rw [if_pos (Or.inl c), if_pos (Or.inl (h1.1 c))]
  · rw [if_neg (fun z => z.elim c (fun y => y rfl)), if_neg (fun z => z.elim (fun y => c (h1.2 y)) (fun y => y rfl))]
theorem hf_fin (f : Nat) : ∀ w : Nat → Nat, (∀ i, i < 128 → w i ≤ 2 ^ f) → 2 ≤ KH w → mmH (hfH f w) ≤ 11 ∧ KH (hfH f w) = KH w ∧ (∀ i, i < 128 → (hfH f w i = 0 ↔ w i = 0)) ∧ suH 128 (hfH f w) ≤ suH 128 w := by
  induction f with
  | zero =>
    intro w hw hK
    have e0 : hfH 0 w = w := rfl
    have hw1 : ∀ i, i < 128 → w i ≤ 1 := fun i hi => hw i hi
    have h1 := suH_b (f := w) (c := 1) 128 hw1
    have h2 : suH 128 w < 377 := by omega
    have h3 := mm_lt hK h2
    rw [e0]
    exact ⟨h3, rfl, fun i _ => Iff.rfl, Nat.le_refl _⟩
  | succ f ih =>
    intro w hw hK
    rw [hfH]
    by_cases c : mmH w ≤ 11
    · rw [if_pos c]
      exact ⟨c, rfl, fun i _ => Iff.rfl, Nat.le_refl _⟩
    · rw [if_neg c]
      have hz : ∀ i, i < 128 → (w i = 0 ↔ hvH w i = 0) := fun i _ => by unfold hvH; omega
      have hk := KH_ext hz
      obtain ⟨h1, h2, h3, h4⟩ := ih (hvH w) (fun i hi => by
        have := hw i hi
        rw [Nat.pow_succ] at this
        unfold hvH
        omega) (by omega)
      have h5 := suH_mono (f := hvH w) (f' := w) 128 fun i _ => by unfold hvH; omega
      exact ⟨h1, by omega, fun i hi => (h3 i hi).trans (hz i hi).symm, by omega⟩
end HUFF
