/-! what the constructors leave alone -/
/-- cells that stood keep their kind; of those of kind 21 the ints, of those of kind 13 the references behind the hundredth -/
def Kq (M N : Mem) : Prop := mN M ≤ mN N ∧ ∀ a, a < mN M → mK N a = mK M a ∧ (mK M a = 21 → ∀ j, mI N a j = mI M a j) ∧ (mK M a = 13 → ∀ j, 100 ≤ j → mR N a j = mR M a j)
def Kw {ρ : Type} (r : Option (ρ × Mem)) (M : Mem) : Prop := ∀ v N, r = some (v, N) → Kq M N
section KQ
theorem Kq.rf {M : Mem} : Kq M M := ⟨Nat.le_refl _, fun a _ => ⟨rfl, fun _ _ => rfl, fun _ _ _ => rfl⟩⟩
theorem Kq.tr {M N R : Mem} (h : Kq M N) (g : Kq N R) : Kq M R := by
  refine ⟨Nat.le_trans h.1 g.1, fun a ha => ?_⟩
  obtain ⟨h1, h2, h3⟩ := h.2 a ha
  obtain ⟨g1, g2, g3⟩ := g.2 a (Nat.lt_of_lt_of_le ha h.1)
  exact ⟨g1.trans h1, fun k j => (g2 (h1.trans k) j).trans (h2 k j), fun k j hj => (g3 (h1.trans k) j hj).trans (h3 k j hj)⟩
theorem kq_sI {M : Mem} {a j : Nat} {v : Int32} (h : mK M a ≠ 21) : Kq M (sI M a j v) := ⟨Nat.le_refl _, fun b _ => ⟨rfl, fun k i => by
  rw [mI_sI]
  exact if_neg fun z => h (by rw [← z.1]; exact k), fun _ _ _ => rfl⟩⟩
theorem kq_sJ {M : Mem} {a j : Nat} {v : Int64} : Kq M (sJ M a j v) := ⟨Nat.le_refl _, fun b _ => ⟨rfl, fun _ _ => rfl, fun _ _ _ => rfl⟩⟩
theorem kq_sR {M : Mem} {a j : Nat} {v : Option Nat} (h : mK M a ≠ 13 ∨ j < 100) : Kq M (sR M a j v) := ⟨Nat.le_refl _, fun b _ => ⟨rfl, fun _ _ => rfl, fun k i hi => by
  rw [mR_sR]
  exact if_neg fun z => by
    rcases h with h | h
    · exact h (by rw [← z.1]; exact k)
    · omega⟩⟩
theorem kq_nA {M : Mem} {k n : Nat} : Kq M (nA M k n) := ⟨Nat.le_succ _, fun a ha => ⟨if_neg (Nat.ne_of_lt ha), fun _ j => if_neg (Nat.ne_of_lt ha), fun _ j _ => if_neg (Nat.ne_of_lt ha)⟩⟩
theorem kq_cp {M : Mem} {a sp b dp n : Nat} (h : mK M b ≠ 21) : Kq M (cpI M a sp b dp n) := ⟨Nat.le_refl _, fun c _ => ⟨rfl, fun k i => by
  rw [mI_cpI]
  exact if_neg fun z => h (by rw [← z.1]; exact k), fun _ _ _ => rfl⟩⟩
variable {ρ α β : Type} {M N : Mem}
theorem kw_none : Kw (none : Option (ρ × Mem)) M := fun _ _ h => by cases h
theorem kw_some {v : ρ} : Kw (some (v, M)) M := fun _ _ h => by cases h; exact Kq.rf
theorem kw_bo {x : Option α} {K : α → Option (ρ × Mem)} (h : ∀ a, Kw (K a) M) : Kw (bo x K) M := fun v N e => by
  cases x with
  | none => cases e
  | some a => exact h a v N e
theorem kw_bm {x : Option Mem} {K : Mem → Option (ρ × Mem)} (h : ∀ N, x = some N → Kq M N) (g : ∀ N, Kw (K N) N) : Kw (bo x K) M := fun v N e => by
  cases x with
  | none => cases e
  | some a => exact (h a rfl).tr (g a v N e)
theorem kw_bd {x : Option (α × Mem)} {K : α → Mem → Option (ρ × Mem)} (h : Kw x M) (g : ∀ a N, Kw (K a N) N) : Kw (bd x K) M := fun v N e => by
  cases x with
  | none => cases e
  | some q => exact (h q.1 q.2 rfl).tr (g q.1 q.2 v N e)
theorem kw_bn {a : α} {K : α → Option (ρ × Mem)} (h : Kw (K a) M) : Kw (bn a K) M := h
theorem kw_ite {c : Prop} [Decidable c] {A B : Option (ρ × Mem)} (h : Kw A M) (g : Kw B M) : Kw (if c then A else B) M := by
  by_cases e : c
  · rw [if_pos e]; exact h
  · rw [if_neg e]; exact g
theorem kw_rtZ {v : Int32} : Kw (rtZ v M) M := by
  unfold rtZ
  exact kw_ite kw_some kw_none
theorem kw_lp {body : (β → Mem → Option (ρ × Mem)) → β → Mem → Option (ρ × Mem)} (h : ∀ g, (∀ x M, Kw (g x M) M) → ∀ x M, Kw (body g x M) M) : ∀ f (x : β) (M : Mem), Kw (lp body f x M) M := by
  intro f
  induction f with
  | zero => exact fun _ _ => kw_none
  | succ f ih => exact fun x M => h _ ih x M
theorem kw_nw {k : Nat} : Kw (nw M k) M := fun _ _ h => by cases h; exact kq_nA
theorem kw_nwA {k b : Nat} {n : Int32} : Kw (nwA M k n b) M := by
  unfold nwA
  refine kw_ite (fun _ _ h => ?_) kw_none
  cases h
  exact kq_nA
theorem kq_pI {r : Option Nat} {k j : Nat} {v : Int32} (hk : k ≠ 21) : ∀ N, pI M r k j v = some N → Kq M N := fun N h => by
  cases r with
  | none => cases h
  | some a =>
    unfold pI at h
    by_cases c : mK M a = k
    · simp only [if_pos c] at h
      cases h
      exact kq_sI (by rw [c]; exact hk)
    · simp only [if_neg c] at h
      cases h
theorem kq_pZ {r : Option Nat} {k j : Nat} {v : Int32} (hk : k ≠ 21) : ∀ N, pZ M r k j v = some N → Kq M N := fun N h => by
  cases r with
  | none => cases h
  | some a =>
    unfold pZ at h
    by_cases c : mK M a = k ∧ (v = 0 ∨ v = 1)
    · simp only [if_pos c] at h
      cases h
      exact kq_sI (by rw [c.1]; exact hk)
    · simp only [if_neg c] at h
      cases h
theorem kq_pJ {r : Option Nat} {k j : Nat} {v : Int64} : ∀ N, pJ M r k j v = some N → Kq M N := fun N h => by
  cases r with
  | none => cases h
  | some a =>
    unfold pJ at h
    by_cases c : mK M a = k
    · simp only [if_pos c] at h
      cases h
      exact kq_sJ
    · simp only [if_neg c] at h
      cases h
theorem kq_pR {r : Option Nat} {k j : Nat} {v : Option Nat} (hj : j < 100) : ∀ N, pR M r k j v = some N → Kq M N := fun N h => by
  cases r with
  | none => cases h
  | some a =>
    unfold pR at h
    by_cases c : mK M a = k
    · simp only [if_pos c] at h
      cases h
      exact kq_sR (Or.inr hj)
    · simp only [if_neg c] at h
      cases h
theorem kq_wI {r : Option Nat} {i v : Int32} : ∀ N, wI M r i v = some N → Kq M N := fun N h => by
  cases r with
  | none => cases h
  | some a =>
    unfold wI at h
    by_cases c : mK M a = 15 ∧ ¬ (i < 0 ∨ mL M a ≤ i.toNatClampNeg)
    · simp only [if_pos c] at h
      cases h
      exact kq_sI (by rw [c.1]; decide)
    · simp only [if_neg c] at h
      cases h
theorem kq_wB {r : Option Nat} {i v : Int32} : ∀ N, wB M r i v = some N → Kq M N := fun N h => by
  cases r with
  | none => cases h
  | some a =>
    unfold wB at h
    by_cases c : mK M a = 14 ∧ ¬ (i < 0 ∨ mL M a ≤ i.toNatClampNeg)
    · simp only [if_pos c] at h
      cases h
      exact kq_sI (by rw [c.1]; decide)
    · simp only [if_neg c] at h
      cases h
theorem kq_wS {r : Option Nat} {i v : Int32} : ∀ N, wS M r i v = some N → Kq M N := fun N h => by
  cases r with
  | none => cases h
  | some a =>
    unfold wS at h
    by_cases c : mK M a = 17 ∧ ¬ (i < 0 ∨ mL M a ≤ i.toNatClampNeg)
    · simp only [if_pos c] at h
      cases h
      exact kq_sI (by rw [c.1]; decide)
    · simp only [if_neg c] at h
      cases h
theorem kq_wZ {r : Option Nat} {i v : Int32} : ∀ N, wZ M r i v = some N → Kq M N := fun N h => by
  cases r with
  | none => cases h
  | some a =>
    unfold wZ at h
    by_cases c : mK M a = 18 ∧ ¬ (i < 0 ∨ mL M a ≤ i.toNatClampNeg)
    · simp only [if_pos c] at h
      cases h
      exact kq_sI (by rw [c.1]; decide)
    · simp only [if_neg c] at h
      cases h
theorem kq_wJ {r : Option Nat} {i : Int32} {v : Int64} : ∀ N, wJ M r i v = some N → Kq M N := fun N h => by
  cases r with
  | none => cases h
  | some a =>
    unfold wJ at h
    by_cases c : mK M a = 16 ∧ ¬ (i < 0 ∨ mL M a ≤ i.toNatClampNeg)
    · simp only [if_pos c] at h
      cases h
      exact kq_sJ
    · simp only [if_neg c] at h
      cases h
theorem kq_wR {r : Option Nat} {k ek : Nat} {i : Int32} {v : Option Nat} (hk : k ≠ 13) : ∀ N, wR M r k ek i v = some N → Kq M N := fun N h => by
  cases r with
  | none => cases h
  | some a =>
    cases v with
    | none => cases h
    | some b =>
      unfold wR at h
      by_cases c : mK M a = k ∧ mK M b = ek ∧ ¬ (i < 0 ∨ mL M a ≤ i.toNatClampNeg)
      · simp only [if_pos c] at h
        cases h
        exact kq_sR (Or.inl (by rw [c.1]; exact hk))
      · simp only [if_neg c] at h
        cases h
theorem kq_cI {a b : Option Nat} {sp dp n : Int32} : ∀ N, cI M a sp b dp n = some N → Kq M N := fun N h => by
  cases a with
  | none => cases h
  | some a =>
    cases b with
    | none => cases h
    | some b =>
      unfold cI at h
      by_cases c : (mK M a = 15 ∨ mK M a = 21) ∧ mK M b = 15 ∧ ¬ sp < 0 ∧ ¬ dp < 0 ∧ ¬ n < 0 ∧ sp.toNatClampNeg + n.toNatClampNeg ≤ mL M a ∧ dp.toNatClampNeg + n.toNatClampNeg ≤ mL M b
      · simp only [if_pos c] at h
        cases h
        exact kq_cp (by rw [c.2.1]; decide)
      · simp only [if_neg c] at h
        cases h
end KQ
section KQF
theorem kq_fX8_init {a0 : Option Nat} {a1 : Int32} {M : Mem}  : Kw (fX8_init a0 a1 M) M := by
  unfold fX8_init
  repeat' (first | with_reducible exact kw_none | with_reducible exact kw_some | with_reducible exact kw_rtZ | with_reducible exact kw_nw | with_reducible exact kw_nwA | (with_reducible refine kw_bm ?_ (fun _ => ?_); · (first | (with_reducible refine kq_pI ?_; decide) | (with_reducible refine kq_pR ?_; decide) | (with_reducible exact kq_wI) | (with_reducible exact kq_wB) | (with_reducible exact kq_wS) | (with_reducible exact kq_wZ) | (with_reducible exact kq_wJ) | (with_reducible exact kq_pJ) | (with_reducible exact kq_cI) | (with_reducible refine kq_wR ?_; decide) | (with_reducible refine kq_pZ ?_; decide))) | (with_reducible refine kw_bd ?_ (fun _ _ => ?_)) | (with_reducible refine kw_bo (fun _ => ?_)) | (with_reducible refine kw_bn ?_) | (with_reducible refine kw_ite ?_ ?_))
theorem kq_fX10_init {a0 : Option Nat} {M : Mem}  : Kw (fX10_init a0 M) M := by
  unfold fX10_init
  repeat' (first | with_reducible exact kw_none | with_reducible exact kw_some | with_reducible exact kw_rtZ | with_reducible exact kw_nw | with_reducible exact kw_nwA | (with_reducible refine kw_bm ?_ (fun _ => ?_); · (first | (with_reducible refine kq_pI ?_; decide) | (with_reducible refine kq_pR ?_; decide) | (with_reducible exact kq_wI) | (with_reducible exact kq_wB) | (with_reducible exact kq_wS) | (with_reducible exact kq_wZ) | (with_reducible exact kq_wJ) | (with_reducible exact kq_pJ) | (with_reducible exact kq_cI) | (with_reducible refine kq_wR ?_; decide) | (with_reducible refine kq_pZ ?_; decide))) | (with_reducible refine kw_bd ?_ (fun _ _ => ?_)) | (with_reducible refine kw_bo (fun _ => ?_)) | (with_reducible refine kw_bn ?_) | (with_reducible refine kw_ite ?_ ?_))
theorem kq_fX0_init {a0 : Option Nat} {M : Mem}  : Kw (fX0_init a0 M) M := by
  unfold fX0_init
  repeat' (first | with_reducible exact kw_none | with_reducible exact kw_some | with_reducible exact kw_rtZ | with_reducible exact kw_nw | with_reducible exact kw_nwA | (with_reducible refine kw_bm ?_ (fun _ => ?_); · (first | (with_reducible refine kq_pI ?_; decide) | (with_reducible refine kq_pR ?_; decide) | (with_reducible exact kq_wI) | (with_reducible exact kq_wB) | (with_reducible exact kq_wS) | (with_reducible exact kq_wZ) | (with_reducible exact kq_wJ) | (with_reducible exact kq_pJ) | (with_reducible exact kq_cI) | (with_reducible refine kq_wR ?_; decide) | (with_reducible refine kq_pZ ?_; decide))) | (with_reducible refine kw_bd ?_ (fun _ _ => ?_)) | (with_reducible refine kw_bo (fun _ => ?_)) | (with_reducible refine kw_bn ?_) | (with_reducible refine kw_ite ?_ ?_))
theorem kq_fX11_init {a0 : Option Nat} {M : Mem}  : Kw (fX11_init a0 M) M := by
  unfold fX11_init
  repeat' (first | with_reducible exact kw_none | with_reducible exact kw_some | with_reducible exact kw_rtZ | with_reducible exact kw_nw | with_reducible exact kw_nwA | with_reducible exact kq_fX10_init | with_reducible exact kq_fX0_init | (with_reducible refine kw_bm ?_ (fun _ => ?_); · (first | (with_reducible refine kq_pI ?_; decide) | (with_reducible refine kq_pR ?_; decide) | (with_reducible exact kq_wI) | (with_reducible exact kq_wB) | (with_reducible exact kq_wS) | (with_reducible exact kq_wZ) | (with_reducible exact kq_wJ) | (with_reducible exact kq_pJ) | (with_reducible exact kq_cI) | (with_reducible refine kq_wR ?_; decide) | (with_reducible refine kq_pZ ?_; decide))) | (with_reducible refine kw_bd ?_ (fun _ _ => ?_)) | (with_reducible refine kw_bo (fun _ => ?_)) | (with_reducible refine kw_bn ?_) | (with_reducible refine kw_ite ?_ ?_))
theorem kq_fX7_init {a0 : Option Nat} {M : Mem}  : Kw (fX7_init a0 M) M := by
  unfold fX7_init
  repeat' (first | with_reducible exact kw_none | with_reducible exact kw_some | with_reducible exact kw_rtZ | with_reducible exact kw_nw | with_reducible exact kw_nwA | (with_reducible refine kw_bm ?_ (fun _ => ?_); · (first | (with_reducible refine kq_pI ?_; decide) | (with_reducible refine kq_pR ?_; decide) | (with_reducible exact kq_wI) | (with_reducible exact kq_wB) | (with_reducible exact kq_wS) | (with_reducible exact kq_wZ) | (with_reducible exact kq_wJ) | (with_reducible exact kq_pJ) | (with_reducible exact kq_cI) | (with_reducible refine kq_wR ?_; decide) | (with_reducible refine kq_pZ ?_; decide))) | (with_reducible refine kw_bd ?_ (fun _ _ => ?_)) | (with_reducible refine kw_bo (fun _ => ?_)) | (with_reducible refine kw_bn ?_) | (with_reducible refine kw_ite ?_ ?_))
theorem kq_fX1_init {a0 : Option Nat} {M : Mem}  : Kw (fX1_init a0 M) M := by
  unfold fX1_init
  repeat' (first | with_reducible exact kw_none | with_reducible exact kw_some | with_reducible exact kw_rtZ | with_reducible exact kw_nw | with_reducible exact kw_nwA | (with_reducible refine kw_bm ?_ (fun _ => ?_); · (first | (with_reducible refine kq_pI ?_; decide) | (with_reducible refine kq_pR ?_; decide) | (with_reducible exact kq_wI) | (with_reducible exact kq_wB) | (with_reducible exact kq_wS) | (with_reducible exact kq_wZ) | (with_reducible exact kq_wJ) | (with_reducible exact kq_pJ) | (with_reducible exact kq_cI) | (with_reducible refine kq_wR ?_; decide) | (with_reducible refine kq_pZ ?_; decide))) | (with_reducible refine kw_bd ?_ (fun _ _ => ?_)) | (with_reducible refine kw_bo (fun _ => ?_)) | (with_reducible refine kw_bn ?_) | (with_reducible refine kw_ite ?_ ?_))
theorem kq_fX2_init {a0 : Option Nat} {M : Mem}  : Kw (fX2_init a0 M) M := by
  unfold fX2_init
  repeat' (first | with_reducible exact kw_none | with_reducible exact kw_some | with_reducible exact kw_rtZ | with_reducible exact kw_nw | with_reducible exact kw_nwA | with_reducible exact kq_fX1_init | with_reducible exact kq_fX8_init | with_reducible exact kq_fX10_init | (with_reducible refine kw_bm ?_ (fun _ => ?_); · (first | (with_reducible refine kq_pI ?_; decide) | (with_reducible refine kq_pR ?_; decide) | (with_reducible exact kq_wI) | (with_reducible exact kq_wB) | (with_reducible exact kq_wS) | (with_reducible exact kq_wZ) | (with_reducible exact kq_wJ) | (with_reducible exact kq_pJ) | (with_reducible exact kq_cI) | (with_reducible refine kq_wR ?_; decide) | (with_reducible refine kq_pZ ?_; decide))) | (with_reducible refine kw_bd ?_ (fun _ _ => ?_)) | (with_reducible refine kw_bo (fun _ => ?_)) | (with_reducible refine kw_bn ?_) | (with_reducible refine kw_ite ?_ ?_))
theorem kq_fX10_spread_L91 {k17 : Option Nat × Int32 × Int32 × Int32 × Int32 × Int32 → Mem → Option (Unit × Mem)} {k29 : Option Nat × Int32 × Int32 × Int32 × Int32 × Int32 × Int32 → Mem → Option (Unit × Mem)} {p0 : Option Nat} {p1 : Int32} {p2 : Int32} {p3 : Int32} {p4 : Int32} {p5 : Int32} {p6 : Int32} {M : Mem} (hk17 : ∀ x M, Kw (k17 x M) M) (hk29 : ∀ x M, Kw (k29 x M) M) : Kw (fX10_spread_L91 k17 k29 p0 p1 p2 p3 p4 p5 p6 M) M := by
  unfold fX10_spread_L91
  repeat' (first | with_reducible exact kw_none | with_reducible exact kw_some | with_reducible exact kw_rtZ | with_reducible exact kw_nw | with_reducible exact kw_nwA | with_reducible exact hk17 _ _ | with_reducible exact hk29 _ _ | (with_reducible refine kw_bm ?_ (fun _ => ?_); · (first | (with_reducible refine kq_pI ?_; decide) | (with_reducible refine kq_pR ?_; decide) | (with_reducible exact kq_wI) | (with_reducible exact kq_wB) | (with_reducible exact kq_wS) | (with_reducible exact kq_wZ) | (with_reducible exact kq_wJ) | (with_reducible exact kq_pJ) | (with_reducible exact kq_cI) | (with_reducible refine kq_wR ?_; decide) | (with_reducible refine kq_pZ ?_; decide))) | (with_reducible refine kw_bd ?_ (fun _ _ => ?_)) | (with_reducible refine kw_bo (fun _ => ?_)) | (with_reducible refine kw_bn ?_) | (with_reducible refine kw_ite ?_ ?_))
theorem kq_fX10_spread_B63 {k17 : Option Nat × Int32 × Int32 × Int32 × Int32 × Int32 → Mem → Option (Unit × Mem)} {k29 : Option Nat × Int32 × Int32 × Int32 × Int32 × Int32 × Int32 → Mem → Option (Unit × Mem)} {k63 : Option Nat × Int32 × Int32 × Int32 × Int32 × Int32 × Int32 × Int32 → Mem → Option (Unit × Mem)} {p0 : Option Nat} {p1 : Int32} {p2 : Int32} {p3 : Int32} {p4 : Int32} {p5 : Int32} {p6 : Int32} {p7 : Int32} {M : Mem} (hk17 : ∀ x M, Kw (k17 x M) M) (hk29 : ∀ x M, Kw (k29 x M) M) (hk63 : ∀ x M, Kw (k63 x M) M) : Kw (fX10_spread_B63 k17 k29 k63 p0 p1 p2 p3 p4 p5 p6 p7 M) M := by
  unfold fX10_spread_B63
  repeat' (first | with_reducible exact kw_none | with_reducible exact kw_some | with_reducible exact kw_rtZ | with_reducible exact kw_nw | with_reducible exact kw_nwA | with_reducible exact kq_fX10_spread_L91 (by assumption) (by assumption) | with_reducible exact hk17 _ _ | with_reducible exact hk29 _ _ | with_reducible exact hk63 _ _ | (with_reducible refine kw_bm ?_ (fun _ => ?_); · (first | (with_reducible refine kq_pI ?_; decide) | (with_reducible refine kq_pR ?_; decide) | (with_reducible exact kq_wI) | (with_reducible exact kq_wB) | (with_reducible exact kq_wS) | (with_reducible exact kq_wZ) | (with_reducible exact kq_wJ) | (with_reducible exact kq_pJ) | (with_reducible exact kq_cI) | (with_reducible refine kq_wR ?_; decide) | (with_reducible refine kq_pZ ?_; decide))) | (with_reducible refine kw_bd ?_ (fun _ _ => ?_)) | (with_reducible refine kw_bo (fun _ => ?_)) | (with_reducible refine kw_bn ?_) | (with_reducible refine kw_ite ?_ ?_))
theorem kq_fX10_spread_L63 {k17 : Option Nat × Int32 × Int32 × Int32 × Int32 × Int32 → Mem → Option (Unit × Mem)} {k29 : Option Nat × Int32 × Int32 × Int32 × Int32 × Int32 × Int32 → Mem → Option (Unit × Mem)} {p0 : Option Nat} {p1 : Int32} {p2 : Int32} {p3 : Int32} {p4 : Int32} {p5 : Int32} {p6 : Int32} {p7 : Int32} {M : Mem} (hk17 : ∀ x M, Kw (k17 x M) M) (hk29 : ∀ x M, Kw (k29 x M) M) : Kw (fX10_spread_L63 k17 k29 p0 p1 p2 p3 p4 p5 p6 p7 M) M := by
  unfold fX10_spread_L63
  exact kw_lp (fun g hg x M => kq_fX10_spread_B63 hk17 hk29 hg) _ _ _
theorem kq_fX10_spread_B29 {k17 : Option Nat × Int32 × Int32 × Int32 × Int32 × Int32 → Mem → Option (Unit × Mem)} {k29 : Option Nat × Int32 × Int32 × Int32 × Int32 × Int32 × Int32 → Mem → Option (Unit × Mem)} {p0 : Option Nat} {p1 : Int32} {p2 : Int32} {p3 : Int32} {p4 : Int32} {p5 : Int32} {p6 : Int32} {M : Mem} (hk17 : ∀ x M, Kw (k17 x M) M) (hk29 : ∀ x M, Kw (k29 x M) M) : Kw (fX10_spread_B29 k17 k29 p0 p1 p2 p3 p4 p5 p6 M) M := by
  unfold fX10_spread_B29
  repeat' (first | with_reducible exact kw_none | with_reducible exact kw_some | with_reducible exact kw_rtZ | with_reducible exact kw_nw | with_reducible exact kw_nwA | with_reducible exact kq_fX10_spread_L63 (by assumption) (by assumption) | with_reducible exact hk17 _ _ | with_reducible exact hk29 _ _ | (with_reducible refine kw_bm ?_ (fun _ => ?_); · (first | (with_reducible refine kq_pI ?_; decide) | (with_reducible refine kq_pR ?_; decide) | (with_reducible exact kq_wI) | (with_reducible exact kq_wB) | (with_reducible exact kq_wS) | (with_reducible exact kq_wZ) | (with_reducible exact kq_wJ) | (with_reducible exact kq_pJ) | (with_reducible exact kq_cI) | (with_reducible refine kq_wR ?_; decide) | (with_reducible refine kq_pZ ?_; decide))) | (with_reducible refine kw_bd ?_ (fun _ _ => ?_)) | (with_reducible refine kw_bo (fun _ => ?_)) | (with_reducible refine kw_bn ?_) | (with_reducible refine kw_ite ?_ ?_))
theorem kq_fX10_spread_L29 {k17 : Option Nat × Int32 × Int32 × Int32 × Int32 × Int32 → Mem → Option (Unit × Mem)} {p0 : Option Nat} {p1 : Int32} {p2 : Int32} {p3 : Int32} {p4 : Int32} {p5 : Int32} {p6 : Int32} {M : Mem} (hk17 : ∀ x M, Kw (k17 x M) M) : Kw (fX10_spread_L29 k17 p0 p1 p2 p3 p4 p5 p6 M) M := by
  unfold fX10_spread_L29
  exact kw_lp (fun g hg x M => kq_fX10_spread_B29 hk17 hg) _ _ _
theorem kq_fX10_spread_B17 {k17 : Option Nat × Int32 × Int32 × Int32 × Int32 × Int32 → Mem → Option (Unit × Mem)} {p0 : Option Nat} {p1 : Int32} {p2 : Int32} {p3 : Int32} {p4 : Int32} {p5 : Int32} {M : Mem} (hk17 : ∀ x M, Kw (k17 x M) M) : Kw (fX10_spread_B17 k17 p0 p1 p2 p3 p4 p5 M) M := by
  unfold fX10_spread_B17
  repeat' (first | with_reducible exact kw_none | with_reducible exact kw_some | with_reducible exact kw_rtZ | with_reducible exact kw_nw | with_reducible exact kw_nwA | with_reducible exact kq_fX10_spread_L29 (by assumption) | with_reducible exact hk17 _ _ | (with_reducible refine kw_bm ?_ (fun _ => ?_); · (first | (with_reducible refine kq_pI ?_; decide) | (with_reducible refine kq_pR ?_; decide) | (with_reducible exact kq_wI) | (with_reducible exact kq_wB) | (with_reducible exact kq_wS) | (with_reducible exact kq_wZ) | (with_reducible exact kq_wJ) | (with_reducible exact kq_pJ) | (with_reducible exact kq_cI) | (with_reducible refine kq_wR ?_; decide) | (with_reducible refine kq_pZ ?_; decide))) | (with_reducible refine kw_bd ?_ (fun _ _ => ?_)) | (with_reducible refine kw_bo (fun _ => ?_)) | (with_reducible refine kw_bn ?_) | (with_reducible refine kw_ite ?_ ?_))
theorem kq_fX10_spread_L17 {p0 : Option Nat} {p1 : Int32} {p2 : Int32} {p3 : Int32} {p4 : Int32} {p5 : Int32} {M : Mem}  : Kw (fX10_spread_L17 p0 p1 p2 p3 p4 p5 M) M := by
  unfold fX10_spread_L17
  exact kw_lp (fun g hg x M => kq_fX10_spread_B17 hg) _ _ _
theorem kq_fX10_spread {a0 : Option Nat} {a1 : Int32} {a2 : Int32} {M : Mem}  : Kw (fX10_spread a0 a1 a2 M) M := by
  unfold fX10_spread
  repeat' (first | with_reducible exact kw_none | with_reducible exact kw_some | with_reducible exact kw_rtZ | with_reducible exact kw_nw | with_reducible exact kw_nwA | with_reducible exact kq_fX10_spread_L17 | (with_reducible refine kw_bm ?_ (fun _ => ?_); · (first | (with_reducible refine kq_pI ?_; decide) | (with_reducible refine kq_pR ?_; decide) | (with_reducible exact kq_wI) | (with_reducible exact kq_wB) | (with_reducible exact kq_wS) | (with_reducible exact kq_wZ) | (with_reducible exact kq_wJ) | (with_reducible exact kq_pJ) | (with_reducible exact kq_cI) | (with_reducible refine kq_wR ?_; decide) | (with_reducible refine kq_pZ ?_; decide))) | (with_reducible refine kw_bd ?_ (fun _ _ => ?_)) | (with_reducible refine kw_bo (fun _ => ?_)) | (with_reducible refine kw_bn ?_) | (with_reducible refine kw_ite ?_ ?_))
theorem kq_fX10_symbolAt_L25 {q0 : Int32} {M : Mem}  : Kw (fX10_symbolAt_L25 q0 M) M := by
  unfold fX10_symbolAt_L25
  repeat' (first | with_reducible exact kw_none | with_reducible exact kw_some | with_reducible exact kw_rtZ | with_reducible exact kw_nw | with_reducible exact kw_nwA | (with_reducible refine kw_bm ?_ (fun _ => ?_); · (first | (with_reducible refine kq_pI ?_; decide) | (with_reducible refine kq_pR ?_; decide) | (with_reducible exact kq_wI) | (with_reducible exact kq_wB) | (with_reducible exact kq_wS) | (with_reducible exact kq_wZ) | (with_reducible exact kq_wJ) | (with_reducible exact kq_pJ) | (with_reducible exact kq_cI) | (with_reducible refine kq_wR ?_; decide) | (with_reducible refine kq_pZ ?_; decide))) | (with_reducible refine kw_bd ?_ (fun _ _ => ?_)) | (with_reducible refine kw_bo (fun _ => ?_)) | (with_reducible refine kw_bn ?_) | (with_reducible refine kw_ite ?_ ?_))
theorem kq_fX10_symbolAt_L24 {M : Mem}  : Kw (fX10_symbolAt_L24 M) M := by
  unfold fX10_symbolAt_L24
  repeat' (first | with_reducible exact kw_none | with_reducible exact kw_some | with_reducible exact kw_rtZ | with_reducible exact kw_nw | with_reducible exact kw_nwA | with_reducible exact kq_fX10_symbolAt_L25 | (with_reducible refine kw_bm ?_ (fun _ => ?_); · (first | (with_reducible refine kq_pI ?_; decide) | (with_reducible refine kq_pR ?_; decide) | (with_reducible exact kq_wI) | (with_reducible exact kq_wB) | (with_reducible exact kq_wS) | (with_reducible exact kq_wZ) | (with_reducible exact kq_wJ) | (with_reducible exact kq_pJ) | (with_reducible exact kq_cI) | (with_reducible refine kq_wR ?_; decide) | (with_reducible refine kq_pZ ?_; decide))) | (with_reducible refine kw_bd ?_ (fun _ _ => ?_)) | (with_reducible refine kw_bo (fun _ => ?_)) | (with_reducible refine kw_bn ?_) | (with_reducible refine kw_ite ?_ ?_))
theorem kq_fX10_symbolAt {a0 : Option Nat} {a1 : Int32} {M : Mem}  : Kw (fX10_symbolAt a0 a1 M) M := by
  unfold fX10_symbolAt
  repeat' (first | with_reducible exact kw_none | with_reducible exact kw_some | with_reducible exact kw_rtZ | with_reducible exact kw_nw | with_reducible exact kw_nwA | with_reducible exact kq_fX10_symbolAt_L24 | with_reducible exact kq_fX10_symbolAt_L25 | (with_reducible refine kw_bm ?_ (fun _ => ?_); · (first | (with_reducible refine kq_pI ?_; decide) | (with_reducible refine kq_pR ?_; decide) | (with_reducible exact kq_wI) | (with_reducible exact kq_wB) | (with_reducible exact kq_wS) | (with_reducible exact kq_wZ) | (with_reducible exact kq_wJ) | (with_reducible exact kq_pJ) | (with_reducible exact kq_cI) | (with_reducible refine kq_wR ?_; decide) | (with_reducible refine kq_pZ ?_; decide))) | (with_reducible refine kw_bd ?_ (fun _ _ => ?_)) | (with_reducible refine kw_bo (fun _ => ?_)) | (with_reducible refine kw_bn ?_) | (with_reducible refine kw_ite ?_ ?_))
theorem kq_fX12_logOf_L29 {p2 : Int32} {M : Mem}  : Kw (fX12_logOf_L29 p2 M) M := by
  unfold fX12_logOf_L29
  repeat' (first | with_reducible exact kw_none | with_reducible exact kw_some | with_reducible exact kw_rtZ | with_reducible exact kw_nw | with_reducible exact kw_nwA | (with_reducible refine kw_bm ?_ (fun _ => ?_); · (first | (with_reducible refine kq_pI ?_; decide) | (with_reducible refine kq_pR ?_; decide) | (with_reducible exact kq_wI) | (with_reducible exact kq_wB) | (with_reducible exact kq_wS) | (with_reducible exact kq_wZ) | (with_reducible exact kq_wJ) | (with_reducible exact kq_pJ) | (with_reducible exact kq_cI) | (with_reducible refine kq_wR ?_; decide) | (with_reducible refine kq_pZ ?_; decide))) | (with_reducible refine kw_bd ?_ (fun _ _ => ?_)) | (with_reducible refine kw_bo (fun _ => ?_)) | (with_reducible refine kw_bn ?_) | (with_reducible refine kw_ite ?_ ?_))
theorem kq_fX12_logOf_B4 {k4 : Int64 × Int32 × Int32 → Mem → Option (Int32 × Mem)} {p0 : Int64} {p2 : Int32} {p3 : Int32} {M : Mem} (hk4 : ∀ x M, Kw (k4 x M) M) : Kw (fX12_logOf_B4 k4 p0 p2 p3 M) M := by
  unfold fX12_logOf_B4
  repeat' (first | with_reducible exact kw_none | with_reducible exact kw_some | with_reducible exact kw_rtZ | with_reducible exact kw_nw | with_reducible exact kw_nwA | with_reducible exact kq_fX12_logOf_L29 | with_reducible exact hk4 _ _ | (with_reducible refine kw_bm ?_ (fun _ => ?_); · (first | (with_reducible refine kq_pI ?_; decide) | (with_reducible refine kq_pR ?_; decide) | (with_reducible exact kq_wI) | (with_reducible exact kq_wB) | (with_reducible exact kq_wS) | (with_reducible exact kq_wZ) | (with_reducible exact kq_wJ) | (with_reducible exact kq_pJ) | (with_reducible exact kq_cI) | (with_reducible refine kq_wR ?_; decide) | (with_reducible refine kq_pZ ?_; decide))) | (with_reducible refine kw_bd ?_ (fun _ _ => ?_)) | (with_reducible refine kw_bo (fun _ => ?_)) | (with_reducible refine kw_bn ?_) | (with_reducible refine kw_ite ?_ ?_))
theorem kq_fX12_logOf_L4 {p0 : Int64} {p2 : Int32} {p3 : Int32} {M : Mem}  : Kw (fX12_logOf_L4 p0 p2 p3 M) M := by
  unfold fX12_logOf_L4
  exact kw_lp (fun g hg x M => kq_fX12_logOf_B4 hg) _ _ _
theorem kq_fX12_logOf {a0 : Int64} {M : Mem}  : Kw (fX12_logOf a0 M) M := by
  unfold fX12_logOf
  repeat' (first | with_reducible exact kw_none | with_reducible exact kw_some | with_reducible exact kw_rtZ | with_reducible exact kw_nw | with_reducible exact kw_nwA | with_reducible exact kq_fX12_logOf_L4 | (with_reducible refine kw_bm ?_ (fun _ => ?_); · (first | (with_reducible refine kq_pI ?_; decide) | (with_reducible refine kq_pR ?_; decide) | (with_reducible exact kq_wI) | (with_reducible exact kq_wB) | (with_reducible exact kq_wS) | (with_reducible exact kq_wZ) | (with_reducible exact kq_wJ) | (with_reducible exact kq_pJ) | (with_reducible exact kq_cI) | (with_reducible refine kq_wR ?_; decide) | (with_reducible refine kq_pZ ?_; decide))) | (with_reducible refine kw_bd ?_ (fun _ _ => ?_)) | (with_reducible refine kw_bo (fun _ => ?_)) | (with_reducible refine kw_bn ?_) | (with_reducible refine kw_ite ?_ ?_))
theorem kq_fX10_build_B91 {k91 : Option Nat × Int32 × Int32 → Mem → Option (Unit × Mem)} {p0 : Option Nat} {p2 : Int32} {p4 : Int32} {M : Mem} (hk91 : ∀ x M, Kw (k91 x M) M) : Kw (fX10_build_B91 k91 p0 p2 p4 M) M := by
  unfold fX10_build_B91
  repeat' (first | with_reducible exact kw_none | with_reducible exact kw_some | with_reducible exact kw_rtZ | with_reducible exact kw_nw | with_reducible exact kw_nwA | with_reducible exact kq_fX10_symbolAt | with_reducible exact kq_fX12_logOf | with_reducible exact hk91 _ _ | (with_reducible refine kw_bm ?_ (fun _ => ?_); · (first | (with_reducible refine kq_pI ?_; decide) | (with_reducible refine kq_pR ?_; decide) | (with_reducible exact kq_wI) | (with_reducible exact kq_wB) | (with_reducible exact kq_wS) | (with_reducible exact kq_wZ) | (with_reducible exact kq_wJ) | (with_reducible exact kq_pJ) | (with_reducible exact kq_cI) | (with_reducible refine kq_wR ?_; decide) | (with_reducible refine kq_pZ ?_; decide))) | (with_reducible refine kw_bd ?_ (fun _ _ => ?_)) | (with_reducible refine kw_bo (fun _ => ?_)) | (with_reducible refine kw_bn ?_) | (with_reducible refine kw_ite ?_ ?_))
theorem kq_fX10_build_L91 {p0 : Option Nat} {p2 : Int32} {p4 : Int32} {M : Mem}  : Kw (fX10_build_L91 p0 p2 p4 M) M := by
  unfold fX10_build_L91
  exact kw_lp (fun g hg x M => kq_fX10_build_B91 hg) _ _ _
theorem kq_fX10_build_L76 {k25 : Option Nat × Int32 × Int32 × Int32 → Mem → Option (Unit × Mem)} {p0 : Option Nat} {p2 : Int32} {p3 : Int32} {p4 : Int32} {M : Mem} (hk25 : ∀ x M, Kw (k25 x M) M) : Kw (fX10_build_L76 k25 p0 p2 p3 p4 M) M := by
  unfold fX10_build_L76
  repeat' (first | with_reducible exact kw_none | with_reducible exact kw_some | with_reducible exact kw_rtZ | with_reducible exact kw_nw | with_reducible exact kw_nwA | with_reducible exact hk25 _ _ | (with_reducible refine kw_bm ?_ (fun _ => ?_); · (first | (with_reducible refine kq_pI ?_; decide) | (with_reducible refine kq_pR ?_; decide) | (with_reducible exact kq_wI) | (with_reducible exact kq_wB) | (with_reducible exact kq_wS) | (with_reducible exact kq_wZ) | (with_reducible exact kq_wJ) | (with_reducible exact kq_pJ) | (with_reducible exact kq_cI) | (with_reducible refine kq_wR ?_; decide) | (with_reducible refine kq_pZ ?_; decide))) | (with_reducible refine kw_bd ?_ (fun _ _ => ?_)) | (with_reducible refine kw_bo (fun _ => ?_)) | (with_reducible refine kw_bn ?_) | (with_reducible refine kw_ite ?_ ?_))
theorem kq_fX10_build_B25 {k25 : Option Nat × Int32 × Int32 × Int32 → Mem → Option (Unit × Mem)} {p0 : Option Nat} {p2 : Int32} {p3 : Int32} {p4 : Int32} {M : Mem} (hk25 : ∀ x M, Kw (k25 x M) M) : Kw (fX10_build_B25 k25 p0 p2 p3 p4 M) M := by
  unfold fX10_build_B25
  repeat' (first | with_reducible exact kw_none | with_reducible exact kw_some | with_reducible exact kw_rtZ | with_reducible exact kw_nw | with_reducible exact kw_nwA | with_reducible exact kq_fX10_spread | with_reducible exact kq_fX10_build_L91 | with_reducible exact kq_fX10_build_L76 (by assumption) | with_reducible exact hk25 _ _ | (with_reducible refine kw_bm ?_ (fun _ => ?_); · (first | (with_reducible refine kq_pI ?_; decide) | (with_reducible refine kq_pR ?_; decide) | (with_reducible exact kq_wI) | (with_reducible exact kq_wB) | (with_reducible exact kq_wS) | (with_reducible exact kq_wZ) | (with_reducible exact kq_wJ) | (with_reducible exact kq_pJ) | (with_reducible exact kq_cI) | (with_reducible refine kq_wR ?_; decide) | (with_reducible refine kq_pZ ?_; decide))) | (with_reducible refine kw_bd ?_ (fun _ _ => ?_)) | (with_reducible refine kw_bo (fun _ => ?_)) | (with_reducible refine kw_bn ?_) | (with_reducible refine kw_ite ?_ ?_))
theorem kq_fX10_build_L25 {p0 : Option Nat} {p2 : Int32} {p3 : Int32} {p4 : Int32} {M : Mem}  : Kw (fX10_build_L25 p0 p2 p3 p4 M) M := by
  unfold fX10_build_L25
  exact kw_lp (fun g hg x M => kq_fX10_build_B25 hg) _ _ _
theorem kq_fX10_build {a0 : Option Nat} {a1 : Int32} {M : Mem}  : Kw (fX10_build a0 a1 M) M := by
  unfold fX10_build
  repeat' (first | with_reducible exact kw_none | with_reducible exact kw_some | with_reducible exact kw_rtZ | with_reducible exact kw_nw | with_reducible exact kw_nwA | with_reducible exact kq_fX10_build_L25 | (with_reducible refine kw_bm ?_ (fun _ => ?_); · (first | (with_reducible refine kq_pI ?_; decide) | (with_reducible refine kq_pR ?_; decide) | (with_reducible exact kq_wI) | (with_reducible exact kq_wB) | (with_reducible exact kq_wS) | (with_reducible exact kq_wZ) | (with_reducible exact kq_wJ) | (with_reducible exact kq_pJ) | (with_reducible exact kq_cI) | (with_reducible refine kq_wR ?_; decide) | (with_reducible refine kq_pZ ?_; decide))) | (with_reducible refine kw_bd ?_ (fun _ _ => ?_)) | (with_reducible refine kw_bo (fun _ => ?_)) | (with_reducible refine kw_bn ?_) | (with_reducible refine kw_ite ?_ ?_))
theorem kq_fX10_buildDefault_L70 {q0 : Option Nat} {q1 : Int32} {M : Mem}  : Kw (fX10_buildDefault_L70 q0 q1 M) M := by
  unfold fX10_buildDefault_L70
  repeat' (first | with_reducible exact kw_none | with_reducible exact kw_some | with_reducible exact kw_rtZ | with_reducible exact kw_nw | with_reducible exact kw_nwA | with_reducible exact kq_fX10_build | (with_reducible refine kw_bm ?_ (fun _ => ?_); · (first | (with_reducible refine kq_pI ?_; decide) | (with_reducible refine kq_pR ?_; decide) | (with_reducible exact kq_wI) | (with_reducible exact kq_wB) | (with_reducible exact kq_wS) | (with_reducible exact kq_wZ) | (with_reducible exact kq_wJ) | (with_reducible exact kq_pJ) | (with_reducible exact kq_cI) | (with_reducible refine kq_wR ?_; decide) | (with_reducible refine kq_pZ ?_; decide))) | (with_reducible refine kw_bd ?_ (fun _ _ => ?_)) | (with_reducible refine kw_bo (fun _ => ?_)) | (with_reducible refine kw_bn ?_) | (with_reducible refine kw_ite ?_ ?_))
theorem kq_fX10_buildDefault_L69 {q0 : Option Nat} {M : Mem}  : Kw (fX10_buildDefault_L69 q0 M) M := by
  unfold fX10_buildDefault_L69
  repeat' (first | with_reducible exact kw_none | with_reducible exact kw_some | with_reducible exact kw_rtZ | with_reducible exact kw_nw | with_reducible exact kw_nwA | with_reducible exact kq_fX10_buildDefault_L70 | (with_reducible refine kw_bm ?_ (fun _ => ?_); · (first | (with_reducible refine kq_pI ?_; decide) | (with_reducible refine kq_pR ?_; decide) | (with_reducible exact kq_wI) | (with_reducible exact kq_wB) | (with_reducible exact kq_wS) | (with_reducible exact kq_wZ) | (with_reducible exact kq_wJ) | (with_reducible exact kq_pJ) | (with_reducible exact kq_cI) | (with_reducible refine kq_wR ?_; decide) | (with_reducible refine kq_pZ ?_; decide))) | (with_reducible refine kw_bd ?_ (fun _ _ => ?_)) | (with_reducible refine kw_bo (fun _ => ?_)) | (with_reducible refine kw_bn ?_) | (with_reducible refine kw_ite ?_ ?_))
theorem kq_fX10_buildDefault_L24 {p0 : Option Nat} {p1 : Int32} {q0 : Option Nat} {M : Mem}  : Kw (fX10_buildDefault_L24 p0 p1 q0 M) M := by
  unfold fX10_buildDefault_L24
  repeat' (first | with_reducible exact kw_none | with_reducible exact kw_some | with_reducible exact kw_rtZ | with_reducible exact kw_nw | with_reducible exact kw_nwA | with_reducible exact kq_fX10_buildDefault_L69 | with_reducible exact kq_fX10_buildDefault_L70 | (with_reducible refine kw_bm ?_ (fun _ => ?_); · (first | (with_reducible refine kq_pI ?_; decide) | (with_reducible refine kq_pR ?_; decide) | (with_reducible exact kq_wI) | (with_reducible exact kq_wB) | (with_reducible exact kq_wS) | (with_reducible exact kq_wZ) | (with_reducible exact kq_wJ) | (with_reducible exact kq_pJ) | (with_reducible exact kq_cI) | (with_reducible refine kq_wR ?_; decide) | (with_reducible refine kq_pZ ?_; decide))) | (with_reducible refine kw_bd ?_ (fun _ _ => ?_)) | (with_reducible refine kw_bo (fun _ => ?_)) | (with_reducible refine kw_bn ?_) | (with_reducible refine kw_ite ?_ ?_))
theorem kq_fX10_buildDefault {a0 : Option Nat} {a1 : Int32} {M : Mem}  : Kw (fX10_buildDefault a0 a1 M) M := by
  unfold fX10_buildDefault
  repeat' (first | with_reducible exact kw_none | with_reducible exact kw_some | with_reducible exact kw_rtZ | with_reducible exact kw_nw | with_reducible exact kw_nwA | with_reducible exact kq_fX10_buildDefault_L24 | (with_reducible refine kw_bm ?_ (fun _ => ?_); · (first | (with_reducible refine kq_pI ?_; decide) | (with_reducible refine kq_pR ?_; decide) | (with_reducible exact kq_wI) | (with_reducible exact kq_wB) | (with_reducible exact kq_wS) | (with_reducible exact kq_wZ) | (with_reducible exact kq_wJ) | (with_reducible exact kq_pJ) | (with_reducible exact kq_cI) | (with_reducible refine kq_wR ?_; decide) | (with_reducible refine kq_pZ ?_; decide))) | (with_reducible refine kw_bd ?_ (fun _ _ => ?_)) | (with_reducible refine kw_bo (fun _ => ?_)) | (with_reducible refine kw_bn ?_) | (with_reducible refine kw_ite ?_ ?_))
theorem kq_fX4_init {a0 : Option Nat} {a1 : Option Nat} {a2 : Option Nat} {M : Mem}  : Kw (fX4_init a0 a1 a2 M) M := by
  unfold fX4_init
  repeat' (first | with_reducible exact kw_none | with_reducible exact kw_some | with_reducible exact kw_rtZ | with_reducible exact kw_nw | with_reducible exact kw_nwA | with_reducible exact kq_fX8_init | with_reducible exact kq_fX1_init | with_reducible exact kq_fX0_init | (with_reducible refine kw_bm ?_ (fun _ => ?_); · (first | (with_reducible refine kq_pI ?_; decide) | (with_reducible refine kq_pR ?_; decide) | (with_reducible exact kq_wI) | (with_reducible exact kq_wB) | (with_reducible exact kq_wS) | (with_reducible exact kq_wZ) | (with_reducible exact kq_wJ) | (with_reducible exact kq_pJ) | (with_reducible exact kq_cI) | (with_reducible refine kq_wR ?_; decide) | (with_reducible refine kq_pZ ?_; decide))) | (with_reducible refine kw_bd ?_ (fun _ _ => ?_)) | (with_reducible refine kw_bo (fun _ => ?_)) | (with_reducible refine kw_bn ?_) | (with_reducible refine kw_ite ?_ ?_))
theorem kq_fX9_init {a0 : Option Nat} {a1 : Option Nat} {a2 : Option Nat} {a3 : Option Nat} {M : Mem}  : Kw (fX9_init a0 a1 a2 a3 M) M := by
  unfold fX9_init
  repeat' (first | with_reducible exact kw_none | with_reducible exact kw_some | with_reducible exact kw_rtZ | with_reducible exact kw_nw | with_reducible exact kw_nwA | with_reducible exact kq_fX0_init | with_reducible exact kq_fX8_init | with_reducible exact kq_fX10_init | (with_reducible refine kw_bm ?_ (fun _ => ?_); · (first | (with_reducible refine kq_pI ?_; decide) | (with_reducible refine kq_pR ?_; decide) | (with_reducible exact kq_wI) | (with_reducible exact kq_wB) | (with_reducible exact kq_wS) | (with_reducible exact kq_wZ) | (with_reducible exact kq_wJ) | (with_reducible exact kq_pJ) | (with_reducible exact kq_cI) | (with_reducible refine kq_wR ?_; decide) | (with_reducible refine kq_pZ ?_; decide))) | (with_reducible refine kw_bd ?_ (fun _ _ => ?_)) | (with_reducible refine kw_bo (fun _ => ?_)) | (with_reducible refine kw_bn ?_) | (with_reducible refine kw_ite ?_ ?_))
theorem kq_fX5_init {a0 : Option Nat} {a1 : Option Nat} {a2 : Option Nat} {a3 : Option Nat} {M : Mem}  : Kw (fX5_init a0 a1 a2 a3 M) M := by
  unfold fX5_init
  repeat' (first | with_reducible exact kw_none | with_reducible exact kw_some | with_reducible exact kw_rtZ | with_reducible exact kw_nw | with_reducible exact kw_nwA | with_reducible exact kq_fX8_init | with_reducible exact kq_fX4_init | with_reducible exact kq_fX9_init | (with_reducible refine kw_bm ?_ (fun _ => ?_); · (first | (with_reducible refine kq_pI ?_; decide) | (with_reducible refine kq_pR ?_; decide) | (with_reducible exact kq_wI) | (with_reducible exact kq_wB) | (with_reducible exact kq_wS) | (with_reducible exact kq_wZ) | (with_reducible exact kq_wJ) | (with_reducible exact kq_pJ) | (with_reducible exact kq_cI) | (with_reducible refine kq_wR ?_; decide) | (with_reducible refine kq_pZ ?_; decide))) | (with_reducible refine kw_bd ?_ (fun _ _ => ?_)) | (with_reducible refine kw_bo (fun _ => ?_)) | (with_reducible refine kw_bn ?_) | (with_reducible refine kw_ite ?_ ?_))
theorem kq_fX3_init {a0 : Option Nat} {M : Mem}  : Kw (fX3_init a0 M) M := by
  unfold fX3_init
  repeat' (first | with_reducible exact kw_none | with_reducible exact kw_some | with_reducible exact kw_rtZ | with_reducible exact kw_nw | with_reducible exact kw_nwA | with_reducible exact kq_fX8_init | (with_reducible refine kw_bm ?_ (fun _ => ?_); · (first | (with_reducible refine kq_pI ?_; decide) | (with_reducible refine kq_pR ?_; decide) | (with_reducible exact kq_wI) | (with_reducible exact kq_wB) | (with_reducible exact kq_wS) | (with_reducible exact kq_wZ) | (with_reducible exact kq_wJ) | (with_reducible exact kq_pJ) | (with_reducible exact kq_cI) | (with_reducible refine kq_wR ?_; decide) | (with_reducible refine kq_pZ ?_; decide))) | (with_reducible refine kw_bd ?_ (fun _ _ => ?_)) | (with_reducible refine kw_bo (fun _ => ?_)) | (with_reducible refine kw_bn ?_) | (with_reducible refine kw_ite ?_ ?_))
theorem kq_fX6_init {a0 : Option Nat} {a1 : Option Nat} {a2 : Option Nat} {M : Mem}  : Kw (fX6_init a0 a1 a2 M) M := by
  unfold fX6_init
  repeat' (first | with_reducible exact kw_none | with_reducible exact kw_some | with_reducible exact kw_rtZ | with_reducible exact kw_nw | with_reducible exact kw_nwA | with_reducible exact kq_fX3_init | with_reducible exact kq_fX8_init | with_reducible exact kq_fX1_init | with_reducible exact kq_fX10_init | (with_reducible refine kw_bm ?_ (fun _ => ?_); · (first | (with_reducible refine kq_pI ?_; decide) | (with_reducible refine kq_pR ?_; decide) | (with_reducible exact kq_wI) | (with_reducible exact kq_wB) | (with_reducible exact kq_wS) | (with_reducible exact kq_wZ) | (with_reducible exact kq_wJ) | (with_reducible exact kq_pJ) | (with_reducible exact kq_cI) | (with_reducible refine kq_wR ?_; decide) | (with_reducible refine kq_pZ ?_; decide))) | (with_reducible refine kw_bd ?_ (fun _ _ => ?_)) | (with_reducible refine kw_bo (fun _ => ?_)) | (with_reducible refine kw_bn ?_) | (with_reducible refine kw_ite ?_ ?_))
theorem kq_fX12_init {a0 : Option Nat} {M : Mem}  : Kw (fX12_init a0 M) M := by
  unfold fX12_init
  repeat' (first | with_reducible exact kw_none | with_reducible exact kw_some | with_reducible exact kw_rtZ | with_reducible exact kw_nw | with_reducible exact kw_nwA | with_reducible exact kq_fX8_init | with_reducible exact kq_fX11_init | with_reducible exact kq_fX7_init | with_reducible exact kq_fX2_init | with_reducible exact kq_fX10_init | with_reducible exact kq_fX10_buildDefault | with_reducible exact kq_fX5_init | with_reducible exact kq_fX6_init | (with_reducible refine kw_bm ?_ (fun _ => ?_); · (first | (with_reducible refine kq_pI ?_; decide) | (with_reducible refine kq_pR ?_; decide) | (with_reducible exact kq_wI) | (with_reducible exact kq_wB) | (with_reducible exact kq_wS) | (with_reducible exact kq_wZ) | (with_reducible exact kq_wJ) | (with_reducible exact kq_pJ) | (with_reducible exact kq_cI) | (with_reducible refine kq_wR ?_; decide) | (with_reducible refine kq_pZ ?_; decide))) | (with_reducible refine kw_bd ?_ (fun _ _ => ?_)) | (with_reducible refine kw_bo (fun _ => ?_)) | (with_reducible refine kw_bn ?_) | (with_reducible refine kw_ite ?_ ?_))
theorem kq_fX13_init {a0 : Option Nat} {M : Mem}  : Kw (fX13_init a0 M) M := by
  unfold fX13_init
  repeat' (first | with_reducible exact kw_none | with_reducible exact kw_some | with_reducible exact kw_rtZ | with_reducible exact kw_nw | with_reducible exact kw_nwA | (with_reducible refine kw_bm ?_ (fun _ => ?_); · (first | (with_reducible refine kq_pI ?_; decide) | (with_reducible refine kq_pR ?_; decide) | (with_reducible exact kq_wI) | (with_reducible exact kq_wB) | (with_reducible exact kq_wS) | (with_reducible exact kq_wZ) | (with_reducible exact kq_wJ) | (with_reducible exact kq_pJ) | (with_reducible exact kq_cI) | (with_reducible refine kq_wR ?_; decide) | (with_reducible refine kq_pZ ?_; decide))) | (with_reducible refine kw_bd ?_ (fun _ _ => ?_)) | (with_reducible refine kw_bo (fun _ => ?_)) | (with_reducible refine kw_bn ?_) | (with_reducible refine kw_ite ?_ ?_))
end KQF
