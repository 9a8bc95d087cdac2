/-! which cells a function may change: those of a set G that is closed under the references held in it, and of these the fields and kinds whose codes stand in a list -/
def cd (k j : Nat) : Nat := if k < 14 then k * 100 + j else k * 100
def BF : List Nat := [3, 201, 402, 511, 513, 517, 518, 1008, 1309, 1327, 1328, 1340]
def i8n (v : Int32) : Prop := v.toInt8.toInt32 = v
def i16n (v : Int32) : Prop := v.toInt16.toInt32 = v
def z01 (v : Int32) : Prop := v = 0 ∨ v = 1
def Ty (M : Mem) : Prop := ∀ a j, (mK M a = 14 → i8n (mI M a j)) ∧ (mK M a = 17 → i16n (mI M a j)) ∧ (mK M a = 18 → z01 (mI M a j)) ∧ (cd (mK M a) j ∈ BF → z01 (mI M a j))
def inG (G : Nat → Prop) (r : Option Nat) : Prop := ∀ a, r = some a → G a
def Cl (G : Nat → Prop) (M : Mem) : Prop := (∀ a j, G a → inG G (mR M a j)) ∧ Ty M
def FrG (G : Nat → Prop) (WK : List Nat) (M N : Mem) : Prop := mN N = mN M ∧ (∀ a, mK N a = mK M a) ∧ (∀ a, mL N a = mL M a) ∧ (∀ a j, (¬ G a ∨ cd (mK M a) j ∉ WK) → mI N a j = mI M a j ∧ mJ N a j = mJ M a j ∧ mR N a j = mR M a j) ∧ Cl G N
def okv {ρ : Type} (P : ρ → Prop) (M : Mem) (G : Nat → Prop) (WK : List Nat) (r : Option (ρ × Mem)) : Prop := ∀ v N, r = some (v, N) → FrG G WK M N ∧ P v
theorem i8n_i8 (v : Int32) : i8n v.toInt8.toInt32 := pk_vb v
theorem i16n_i16 (v : Int32) : i16n v.toInt16.toInt32 := pk_vs v
theorem z01_and (v : Int32) : z01 (v &&& 1) := by
  obtain ⟨j, hj, e⟩ := pk_andE v (m := 1) 1 (by decide)
  have h : j = 0 ∨ j = 1 := by omega
  rcases h with rfl | rfl
  · exact Or.inl e
  · exact Or.inr e
theorem cd_lt {k j : Nat} (h : k < 14) : cd k j = k * 100 + j := if_pos h
theorem cd_ge {k j : Nat} (h : 14 ≤ k) : cd k j = k * 100 := if_neg (Nat.not_lt.mpr h)
theorem BF_lt {k j : Nat} (h : cd k j ∈ BF) : k < 14 := by
  refine Nat.not_le.mp fun q => ?_
  rw [cd_ge q] at h
  have h2 : ∀ c ∈ BF, c < 1400 := by decide
  have := h2 _ h
  omega
section FRM
variable {G : Nat → Prop} {WK : List Nat} {M0 M : Mem} {ρ : Type} {P : ρ → Prop}
theorem FrG.rf (h : Cl G M) : FrG G WK M M := ⟨rfl, fun _ => rfl, fun _ => rfl, fun _ _ _ => ⟨rfl, rfl, rfl⟩, h⟩
theorem FrG.tr {N : Mem} (h1 : FrG G WK M0 M) (h2 : FrG G WK M N) : FrG G WK M0 N := ⟨h2.1.trans h1.1, fun a => (h2.2.1 a).trans (h1.2.1 a), fun a => (h2.2.2.1 a).trans (h1.2.2.1 a), fun a j ha => have hb : ¬ G a ∨ cd (mK M a) j ∉ WK := by rw [h1.2.1 a]; exact ha
  ⟨((h2.2.2.2.1 a j hb).1).trans (h1.2.2.2.1 a j ha).1, ((h2.2.2.2.1 a j hb).2.1).trans (h1.2.2.2.1 a j ha).2.1, ((h2.2.2.2.1 a j hb).2.2).trans (h1.2.2.2.1 a j ha).2.2⟩, h2.2.2.2.2⟩
theorem FrG.weak {N : Mem} {W2 : List Nat} (h : FrG G W2 M N) (hs : ∀ c ∈ W2, c ∈ WK) : FrG G WK M N := ⟨h.1, h.2.1, h.2.2.1, fun a j ha => h.2.2.2.1 a j (ha.imp id (fun q z => q (hs _ z))), h.2.2.2.2⟩
theorem fr_off {a j b i : Nat} (h : FrG G WK M0 M) (hb : ¬ G b ∨ cd (mK M0 b) i ∉ WK) (ha : G a) (hk : cd (mK M a) j ∈ WK) (e : b = a ∧ i = j) : False := by
  obtain ⟨rfl, rfl⟩ := e
  rcases hb with hb | hb
  · exact hb ha
  · rw [h.2.1 b] at hk
    exact hb hk
theorem FrG.sI {a j : Nat} {v : Int32} (h : FrG G WK M0 M) (ha : G a) (hk : cd (mK M a) j ∈ WK) (hv : (mK M a = 14 → i8n v) ∧ (mK M a = 17 → i16n v) ∧ (mK M a = 18 → z01 v) ∧ (cd (mK M a) j ∈ BF → z01 v)) : FrG G WK M0 (sI M a j v) := ⟨h.1, h.2.1, h.2.2.1, fun b i hb => ⟨by rw [mI_sI, if_neg (fun q => fr_off h hb ha hk q)]; exact (h.2.2.2.1 b i hb).1, (h.2.2.2.1 b i hb).2.1, (h.2.2.2.1 b i hb).2.2⟩, h.2.2.2.2.1, fun b i => by
  rw [mI_sI, mK_sI]
  by_cases q : b = a ∧ i = j
  · obtain ⟨rfl, rfl⟩ := q
    rw [if_pos ⟨rfl, rfl⟩]
    exact hv
  · rw [if_neg q]
    exact h.2.2.2.2.2 b i⟩
theorem FrG.sJ {a j : Nat} {v : Int64} (h : FrG G WK M0 M) (ha : G a) (hk : cd (mK M a) j ∈ WK) : FrG G WK M0 (sJ M a j v) := ⟨h.1, h.2.1, h.2.2.1, fun b i hb => ⟨(h.2.2.2.1 b i hb).1, by rw [mJ_sJ, if_neg (fun q => fr_off h hb ha hk q)]; exact (h.2.2.2.1 b i hb).2.1, (h.2.2.2.1 b i hb).2.2⟩, h.2.2.2.2⟩
theorem FrG.sR {a j : Nat} {v : Option Nat} (h : FrG G WK M0 M) (ha : G a) (hk : cd (mK M a) j ∈ WK) (hv : inG G v) : FrG G WK M0 (sR M a j v) := ⟨h.1, h.2.1, h.2.2.1, fun b i hb => ⟨(h.2.2.2.1 b i hb).1, (h.2.2.2.1 b i hb).2.1, by rw [mR_sR, if_neg (fun q => fr_off h hb ha hk q)]; exact (h.2.2.2.1 b i hb).2.2⟩, fun b i hb => by
  rw [mR_sR]
  split
  · exact hv
  · exact h.2.2.2.2.1 b i hb, h.2.2.2.2.2⟩
theorem FrG.cpI {a sp b dp n : Nat} (h : FrG G WK M0 M) (hb : G b) (hk : mK M b = 15) (hw : 1500 ∈ WK) : FrG G WK M0 (cpI M a sp b dp n) := ⟨h.1, h.2.1, h.2.2.1, fun c i hc => ⟨by
  rw [mI_cpI, if_neg (fun q => fr_off (j := i) h hc hb (by rw [hk]; exact hw) ⟨q.1, rfl⟩)]; exact (h.2.2.2.1 c i hc).1, (h.2.2.2.1 c i hc).2.1, (h.2.2.2.1 c i hc).2.2⟩, h.2.2.2.2.1, fun c i => by
  rw [mI_cpI, mK_cpI]
  by_cases q : c = b ∧ dp ≤ i ∧ i < dp + n
  · rw [q.1, hk]
    exact ⟨fun z => by omega, fun z => by omega, fun z => by omega, fun z => absurd (BF_lt z) (by omega)⟩
  · rw [if_neg q]
    exact h.2.2.2.2.2 c i⟩
theorem inG_none : inG G none := fun _ h => by cases h
theorem inG_some {a : Nat} (h : G a) : inG G (some a) := fun _ q => by cases q; exact h
theorem k_none : okv P M0 G WK (none : Option (ρ × Mem)) := fun _ _ h => by cases h
theorem k_ret {v : ρ} (h : FrG G WK M0 M) (hv : P v) : okv P M0 G WK (some (v, M)) := fun _ _ q => by cases q; exact ⟨h, hv⟩
theorem k_retZ {v : Int32} (h : FrG G WK M0 M) : okv z01 M0 G WK (rtZ v M) := fun _ _ q => by
  unfold rtZ at q
  split at q
  · rename_i hz
    cases q; exact ⟨h, hz⟩
  · cases q
theorem k_if {c : Prop} [Decidable c] {A B : Option (ρ × Mem)} (h1 : okv P M0 G WK A) (h2 : okv P M0 G WK B) : okv P M0 G WK (if c then A else B) := by
  split
  · exact h1
  · exact h2
theorem k_bo {α : Type} {o : Option α} {K : α → Option (ρ × Mem)} (h : ∀ a, okv P M0 G WK (K a)) : okv P M0 G WK (bo o K) := by
  cases o with
  | none => exact k_none
  | some a => exact h a
theorem k_bn {α : Type} {a : α} {K : α → Option (ρ × Mem)} (h : ∀ a, okv P M0 G WK (K a)) : okv P M0 G WK (bn a K) := h a
theorem k_bnR {a : Option Nat} {K : Option Nat → Option (ρ × Mem)} (ha : inG G a) (h : ∀ a, inG G a → okv P M0 G WK (K a)) : okv P M0 G WK (bn a K) := h a ha
theorem k_gR {r : Option Nat} {k j : Nat} {K : Option Nat → Option (ρ × Mem)} (hM : FrG G WK M0 M) (hr : inG G r) (h : ∀ v, inG G v → okv P M0 G WK (K v)) : okv P M0 G WK (bo (gR M r k j) K) := by
  cases r with
  | none => exact k_none
  | some a =>
    simp only [gR]
    split
    · rename_i hq
      exact h _ (hM.2.2.2.2.1 a j (hr a rfl))
    · exact k_none
theorem k_aR {r : Option Nat} {k : Nat} {i : Int32} {K : Option Nat → Option (ρ × Mem)} (hM : FrG G WK M0 M) (hr : inG G r) (h : ∀ v, inG G v → okv P M0 G WK (K v)) : okv P M0 G WK (bo (aR M r k i) K) := by
  cases r with
  | none => exact k_none
  | some a =>
    simp only [aR]
    split
    · rename_i hq
      exact h _ (hM.2.2.2.2.1 a _ (hr a rfl))
    · exact k_none
theorem k_pI {r : Option Nat} {k j : Nat} {v : Int32} {K : Mem → Option (ρ × Mem)} (hk : k < 14) (hw : k * 100 + j ∈ WK) (hn : k * 100 + j ∉ BF) (hM : FrG G WK M0 M) (hr : inG G r) (h : ∀ N, FrG G WK M0 N → okv P M0 G WK (K N)) : okv P M0 G WK (bo (pI M r k j v) K) := by
  cases r with
  | none => exact k_none
  | some a =>
    simp only [pI]
    split
    · rename_i hq
      exact h _ (hM.sI (hr a rfl) (by rw [hq, cd_lt hk]; exact hw) (by rw [hq]; exact ⟨fun z => by omega, fun z => by omega, fun z => by omega, fun z => absurd (by rw [cd_lt hk] at z; exact z) hn⟩))
    · exact k_none
theorem k_pZ {r : Option Nat} {k j : Nat} {v : Int32} {K : Mem → Option (ρ × Mem)} (hk : k < 14) (hw : k * 100 + j ∈ WK) (hM : FrG G WK M0 M) (hr : inG G r) (h : ∀ N, FrG G WK M0 N → okv P M0 G WK (K N)) : okv P M0 G WK (bo (pZ M r k j v) K) := by
  cases r with
  | none => exact k_none
  | some a =>
    simp only [pZ]
    split
    · rename_i hq
      exact h _ (hM.sI (hr a rfl) (by rw [hq.1, cd_lt hk]; exact hw) (by rw [hq.1]; exact ⟨fun z => by omega, fun z => by omega, fun z => by omega, fun _ => hq.2⟩))
    · exact k_none
theorem k_pJ {r : Option Nat} {k j : Nat} {v : Int64} {K : Mem → Option (ρ × Mem)} (hk : k < 14) (hw : k * 100 + j ∈ WK) (hM : FrG G WK M0 M) (hr : inG G r) (h : ∀ N, FrG G WK M0 N → okv P M0 G WK (K N)) : okv P M0 G WK (bo (pJ M r k j v) K) := by
  cases r with
  | none => exact k_none
  | some a =>
    simp only [pJ]
    split
    · rename_i hq
      exact h _ (hM.sJ (hr a rfl) (by rw [hq, cd_lt hk]; exact hw))
    · exact k_none
theorem k_pR {r v : Option Nat} {k j : Nat} {K : Mem → Option (ρ × Mem)} (hk : k < 14) (hw : k * 100 + j ∈ WK) (hM : FrG G WK M0 M) (hr : inG G r) (hv : inG G v) (h : ∀ N, FrG G WK M0 N → okv P M0 G WK (K N)) : okv P M0 G WK (bo (pR M r k j v) K) := by
  cases r with
  | none => exact k_none
  | some a =>
    simp only [pR]
    split
    · rename_i hq
      exact h _ (hM.sR (hr a rfl) (by rw [hq, cd_lt hk]; exact hw) hv)
    · exact k_none
theorem k_wI {r : Option Nat} {i v : Int32} {K : Mem → Option (ρ × Mem)} (hw : 1500 ∈ WK) (hM : FrG G WK M0 M) (hr : inG G r) (h : ∀ N, FrG G WK M0 N → okv P M0 G WK (K N)) : okv P M0 G WK (bo (wI M r i v) K) := by
  cases r with
  | none => exact k_none
  | some a =>
    simp only [wI]
    split
    · rename_i hq
      exact h _ (hM.sI (hr a rfl) (by rw [hq.1]; exact hw) (by rw [hq.1]; exact ⟨fun z => by omega, fun z => by omega, fun z => by omega, fun z => absurd (BF_lt z) (by omega)⟩))
    · exact k_none
theorem k_wB {r : Option Nat} {i v : Int32} {K : Mem → Option (ρ × Mem)} (hw : 1400 ∈ WK) (hM : FrG G WK M0 M) (hr : inG G r) (h : ∀ N, FrG G WK M0 N → okv P M0 G WK (K N)) : okv P M0 G WK (bo (wB M r i v) K) := by
  cases r with
  | none => exact k_none
  | some a =>
    simp only [wB]
    split
    · rename_i hq
      exact h _ (hM.sI (hr a rfl) (by rw [hq.1]; exact hw) (by rw [hq.1]; exact ⟨fun _ => i8n_i8 _, fun z => by omega, fun z => by omega, fun z => absurd (BF_lt z) (by omega)⟩))
    · exact k_none
theorem k_wS {r : Option Nat} {i v : Int32} {K : Mem → Option (ρ × Mem)} (hw : 1700 ∈ WK) (hM : FrG G WK M0 M) (hr : inG G r) (h : ∀ N, FrG G WK M0 N → okv P M0 G WK (K N)) : okv P M0 G WK (bo (wS M r i v) K) := by
  cases r with
  | none => exact k_none
  | some a =>
    simp only [wS]
    split
    · rename_i hq
      exact h _ (hM.sI (hr a rfl) (by rw [hq.1]; exact hw) (by rw [hq.1]; exact ⟨fun z => by omega, fun _ => i16n_i16 _, fun z => by omega, fun z => absurd (BF_lt z) (by omega)⟩))
    · exact k_none
theorem k_wZ {r : Option Nat} {i v : Int32} {K : Mem → Option (ρ × Mem)} (hw : 1800 ∈ WK) (hM : FrG G WK M0 M) (hr : inG G r) (h : ∀ N, FrG G WK M0 N → okv P M0 G WK (K N)) : okv P M0 G WK (bo (wZ M r i v) K) := by
  cases r with
  | none => exact k_none
  | some a =>
    simp only [wZ]
    split
    · rename_i hq
      exact h _ (hM.sI (hr a rfl) (by rw [hq.1]; exact hw) (by rw [hq.1]; exact ⟨fun z => by omega, fun z => by omega, fun _ => z01_and _, fun z => absurd (BF_lt z) (by omega)⟩))
    · exact k_none
theorem k_wJ {r : Option Nat} {i : Int32} {v : Int64} {K : Mem → Option (ρ × Mem)} (hw : 1600 ∈ WK) (hM : FrG G WK M0 M) (hr : inG G r) (h : ∀ N, FrG G WK M0 N → okv P M0 G WK (K N)) : okv P M0 G WK (bo (wJ M r i v) K) := by
  cases r with
  | none => exact k_none
  | some a =>
    simp only [wJ]
    split
    · rename_i hq
      exact h _ (hM.sJ (hr a rfl) (by rw [hq.1]; exact hw))
    · exact k_none
theorem k_wR {r v : Option Nat} {k ek : Nat} {i : Int32} {K : Mem → Option (ρ × Mem)} (hk : 14 ≤ k) (hw : k * 100 ∈ WK) (hM : FrG G WK M0 M) (hr : inG G r) (hv : inG G v) (h : ∀ N, FrG G WK M0 N → okv P M0 G WK (K N)) : okv P M0 G WK (bo (wR M r k ek i v) K) := by
  cases r with
  | none => exact k_none
  | some a =>
    cases v with
    | none => exact k_none
    | some b =>
      simp only [wR]
      split
      · rename_i hq
        exact h _ (hM.sR (hr a rfl) (by rw [hq.1, cd_ge hk]; exact hw) hv)
      · exact k_none
theorem k_cI {rs rd : Option Nat} {sp dp n : Int32} {K : Mem → Option (ρ × Mem)} (hw : 1500 ∈ WK) (hM : FrG G WK M0 M) (hr : inG G rd) (h : ∀ N, FrG G WK M0 N → okv P M0 G WK (K N)) : okv P M0 G WK (bo (cI M rs sp rd dp n) K) := by
  cases rs with
  | none => exact k_none
  | some a =>
    cases rd with
    | none => exact k_none
    | some b =>
      simp only [cI]
      split
      · rename_i hq
        exact h _ (hM.cpI (hr b rfl) hq.2.1 hw)
      · exact k_none
theorem k_call {α : Type} {P' : α → Prop} {f : Option (α × Mem)} {W2 : List Nat} {K : α → Mem → Option (ρ × Mem)} (hs : ∀ c ∈ W2, c ∈ WK) (hM : FrG G WK M0 M) (hf : Cl G M → okv P' M G W2 f) (h : ∀ v N, P' v → FrG G WK M0 N → okv P M0 G WK (K v N)) : okv P M0 G WK (bd f K) := by
  cases f with
  | none => exact k_none
  | some q =>
    obtain ⟨v, N⟩ := q
    obtain ⟨h1, h2⟩ := hf hM.2.2.2.2 v N rfl
    exact h v N h2 (hM.tr (h1.weak hs))
theorem k_lp {α : Type} {body : (α → Mem → Option (ρ × Mem)) → α → Mem → Option (ρ × Mem)} {T : α → Prop} (hb : ∀ k : α → Mem → Option (ρ × Mem), (∀ a M, T a → FrG G WK M0 M → okv P M0 G WK (k a M)) → ∀ a M, T a → FrG G WK M0 M → okv P M0 G WK (body k a M)) : ∀ n a M, T a → FrG G WK M0 M → okv P M0 G WK (lp body n a M) := by
  intro n
  induction n with
  | zero => exact fun _ _ _ _ => k_none
  | succ n ih => exact hb (lp body n) ih
end FRM
