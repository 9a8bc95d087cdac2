def FU1 : Nat := 999999
theorem lp_F {α ρ : Type} (body : (α → Mem → Option ρ) → α → Mem → Option ρ) (a : α) (M : Mem) : lp body FU a M = body (lp body FU1) a M := rfl
def FU2 : Nat := 999998
def FU3 : Nat := 999997
def FU4 : Nat := 999996
def FU5 : Nat := 999995
def FU6 : Nat := 999994
def FU7 : Nat := 999993
def FU8 : Nat := 999992
def FU9 : Nat := 999991
def FU10 : Nat := 999990
def FU11 : Nat := 999989
def FU12 : Nat := 999988
def FU13 : Nat := 999987
def FU14 : Nat := 999986
theorem lp_F1 {α ρ : Type} (body : (α → Mem → Option ρ) → α → Mem → Option ρ) (a : α) (M : Mem) : lp body FU1 a M = body (lp body FU2) a M := rfl
theorem lp_F2 {α ρ : Type} (body : (α → Mem → Option ρ) → α → Mem → Option ρ) (a : α) (M : Mem) : lp body FU2 a M = body (lp body FU3) a M := rfl
theorem lp_F3 {α ρ : Type} (body : (α → Mem → Option ρ) → α → Mem → Option ρ) (a : α) (M : Mem) : lp body FU3 a M = body (lp body FU4) a M := rfl
theorem lp_F4 {α ρ : Type} (body : (α → Mem → Option ρ) → α → Mem → Option ρ) (a : α) (M : Mem) : lp body FU4 a M = body (lp body FU5) a M := rfl
theorem lp_F5 {α ρ : Type} (body : (α → Mem → Option ρ) → α → Mem → Option ρ) (a : α) (M : Mem) : lp body FU5 a M = body (lp body FU6) a M := rfl
theorem lp_F6 {α ρ : Type} (body : (α → Mem → Option ρ) → α → Mem → Option ρ) (a : α) (M : Mem) : lp body FU6 a M = body (lp body FU7) a M := rfl
theorem lp_F7 {α ρ : Type} (body : (α → Mem → Option ρ) → α → Mem → Option ρ) (a : α) (M : Mem) : lp body FU7 a M = body (lp body FU8) a M := rfl
theorem lp_F8 {α ρ : Type} (body : (α → Mem → Option ρ) → α → Mem → Option ρ) (a : α) (M : Mem) : lp body FU8 a M = body (lp body FU9) a M := rfl
theorem lp_F9 {α ρ : Type} (body : (α → Mem → Option ρ) → α → Mem → Option ρ) (a : α) (M : Mem) : lp body FU9 a M = body (lp body FU10) a M := rfl
theorem lp_F10 {α ρ : Type} (body : (α → Mem → Option ρ) → α → Mem → Option ρ) (a : α) (M : Mem) : lp body FU10 a M = body (lp body FU11) a M := rfl
theorem lp_F11 {α ρ : Type} (body : (α → Mem → Option ρ) → α → Mem → Option ρ) (a : α) (M : Mem) : lp body FU11 a M = body (lp body FU12) a M := rfl
theorem lp_F12 {α ρ : Type} (body : (α → Mem → Option ρ) → α → Mem → Option ρ) (a : α) (M : Mem) : lp body FU12 a M = body (lp body FU13) a M := rfl
theorem lp_F13 {α ρ : Type} (body : (α → Mem → Option ρ) → α → Mem → Option ρ) (a : α) (M : Mem) : lp body FU13 a M = body (lp body FU14) a M := rfl
theorem lp_S {α ρ : Type} (body : (α → Mem → Option ρ) → α → Mem → Option ρ) (n : Nat) (a : α) (M : Mem) : lp body (n + 1) a M = body (lp body n) a M := rfl
def fiI (M : Mem) (a lo n : Nat) (v : Int32) : Mem := (M.1, M.2.1, M.2.2.1, fun b i => if b = a ∧ lo ≤ i ∧ i < n then v else M.2.2.2.1 b i, M.2.2.2.2.1, M.2.2.2.2.2)
theorem mN_fiI (M : Mem) (a lo n : Nat) (v : Int32) : mN (fiI M a lo n v) = mN M := rfl
theorem mK_fiI (M : Mem) (a lo n : Nat) (v : Int32) (b : Nat) : mK (fiI M a lo n v) b = mK M b := rfl
theorem mL_fiI (M : Mem) (a lo n : Nat) (v : Int32) (b : Nat) : mL (fiI M a lo n v) b = mL M b := rfl
theorem mI_fiI (M : Mem) (a lo n : Nat) (v : Int32) (b i : Nat) : mI (fiI M a lo n v) b i = if b = a ∧ lo ≤ i ∧ i < n then v else mI M b i := rfl
theorem mJ_fiI (M : Mem) (a lo n : Nat) (v : Int32) (b i : Nat) : mJ (fiI M a lo n v) b i = mJ M b i := rfl
theorem mR_fiI (M : Mem) (a lo n : Nat) (v : Int32) (b i : Nat) : mR (fiI M a lo n v) b i = mR M b i := rfl
theorem mem_ext {M N : Mem} (h1 : mN M = mN N) (h2 : ∀ a, mK M a = mK N a) (h3 : ∀ a, mL M a = mL N a) (h4 : ∀ a j, mI M a j = mI N a j) (h5 : ∀ a j, mJ M a j = mJ N a j) (h6 : ∀ a j, mR M a j = mR N a j) : M = N := by
  obtain ⟨n, k, l, i, j, r⟩ := M
  obtain ⟨n', k', l', i', j', r'⟩ := N
  have e1 : n = n' := h1
  have e2 : k = k' := funext h2
  have e3 : l = l' := funext h3
  have e4 : i = i' := funext fun a => funext (h4 a)
  have e5 : j = j' := funext fun a => funext (h5 a)
  have e6 : r = r' := funext fun a => funext (h6 a)
  subst e1; subst e2; subst e3; subst e4; subst e5; subst e6
  rfl
theorem fill_step {a n i : Nat} {v : Int32} {M : Mem} (g : Option Nat × Int32 × Int32 × Int32 → Mem → Option (Unit × Mem)) (hn : n < 2 ^ 31) (hi : i < n) (hk : mK M a = 15) (hl : mL M a = n) : fJ7_fill_53178_B5 g (some a) v (nI i) (nI n) M = g (some a, v, nI (i + 1), nI n) (sI M a i v) := by
  have h1 : ¬ nI n ≤ nI i := fun q => by rw [nI_leI hn (by omega)] at q; omega
  have h2 : ¬ (nI i < 0 ∨ mL M a ≤ (nI i).toNatClampNeg) := by rw [hl]; exact nI_in (by omega) hn
  have h3 : wI M (some a) (nI i) v = some (sI M a i v) := by
    simp only [wI]
    rw [if_pos ⟨hk, h2⟩, nI_clamp (by omega)]
  simp only [fJ7_fill_53178_B5, if_neg h1, h3, bo, bn, nI_1]
theorem fill_exit {a n : Nat} {v : Int32} {M : Mem} (g : Option Nat × Int32 × Int32 × Int32 → Mem → Option (Unit × Mem)) (hn : n < 2 ^ 31) : fJ7_fill_53178_B5 g (some a) v (nI n) (nI n) M = some ((), M) := by
  simp only [fJ7_fill_53178_B5, nI_leI hn hn, Nat.le_refl, if_true]
theorem fill_loop {a n : Nat} {v : Int32} (hn : n < 2 ^ 31) : ∀ (k i f : Nat) (M : Mem), i + k = n → k < f → mK M a = 15 → mL M a = n → lp (fun k5 (a : Option Nat × Int32 × Int32 × Int32) M => fJ7_fill_53178_B5 k5 a.1 a.2.1 a.2.2.1 a.2.2.2 M) f (some a, v, nI i, nI n) M = some ((), fiI M a i n v) := by
  intro k
  induction k with
  | zero =>
    intro i f M hik hf hk hl
    obtain ⟨f, rfl⟩ : ∃ g, f = g + 1 := ⟨f - 1, by omega⟩
    have : i = n := by omega
    subst this
    refine (fill_exit _ hn).trans ?_
    congr 2
    apply mem_ext <;> intros <;> first | rfl | (rw [mI_fiI, if_neg (by omega)])
  | succ k ih =>
    intro i f M hik hf hk hl
    obtain ⟨f, rfl⟩ : ∃ g, f = g + 1 := ⟨f - 1, by omega⟩
    refine (fill_step _ hn (by omega) hk hl).trans ?_
    refine (ih (i + 1) f (sI M a i v) (by omega) (by omega) hk hl).trans ?_
    congr 2
    apply mem_ext <;> intros <;> first | rfl | skip
    rename_i b j
    simp only [mI_fiI, mI_sI]
    by_cases hb : b = a
    · subst hb
      (repeat' split) <;> first | rfl | (exfalso; omega)
    · simp [hb]
theorem fill_ok {M : Mem} {a : Nat} (v : Int32) (hk : mK M a = 15) (hl : mL M a < 999999) : fJ7_fill_53178 (some a) v M = some ((), fiI M a 0 (mL M a) v) := by
  have h1 : aL M (some a) = some (Int32.ofNat (mL M a)) := by simp [aL, hk]
  simp only [fJ7_fill_53178, h1, bo, bn, fJ7_fill_53178_L5]
  exact fill_loop (by omega) (mL M a) 0 FU M (by omega) (by unfold FU; omega) hk rfl
