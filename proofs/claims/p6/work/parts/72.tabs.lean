/-! the tables of SEQUENCES: as numbers, and the class's -/
def grK (k : Nat) : Nat := if k = 0 then 35 else if k = 1 then 31 else 52
def mlK (k : Nat) : Nat := if k = 1 then 8 else 9
def dcK (k s : Nat) : Int := if k = 0 then (if s = 0 then 4 else if s = 1 ∨ s = 25 then 3 else if 35 < s then 0 else if 31 < s then -1 else if (13 ≤ s ∧ s ≤ 15) ∨ 27 ≤ s then 1 else 2) else if k = 1 then (if 28 < s then 0 else if 23 < s then -1 else if 6 ≤ s ∧ s ≤ 8 then 2 else 1) else (if 52 < s then 0 else if s = 1 then 4 else if s = 2 then 3 else if 3 ≤ s ∧ s ≤ 8 then 2 else if 45 < s then -1 else 1)
def dlK (k : Nat) : Nat := if k = 1 then 5 else 6
def dSK (k : Nat) : Nat := if k = 0 then 36 else if k = 1 then 29 else 53
def dft (k : Nat) : Tb := tbOf (dlK k) (dSK k) (dcK k)
theorem dcK_r (k s : Nat) : -1 ≤ dcK k s := by
  unfold dcK
  repeat' split
  all_goals omega
theorem dcK_0 {k s : Nat} (hk : k < 3) (h : dSK k ≤ s) : dcK k s = 0 := by
  have : k = 0 ∨ k = 1 ∨ k = 2 := by omega
  rcases this with rfl | rfl | rfl
  · have h : 36 ≤ s := h
    unfold dcK
    rw [if_pos rfl, if_neg (by omega), if_neg (by omega), if_pos (by omega)]
  · have h : 29 ≤ s := h
    unfold dcK
    rw [if_neg (by omega), if_pos rfl, if_pos (by omega)]
  · have h : 53 ≤ s := h
    unfold dcK
    rw [if_neg (by omega), if_neg (by omega), if_pos (by omega)]
theorem dft_CO {k : Nat} (hk : k < 3) : CO (dlK k) (dSK k) (dcK k) := by
  refine ⟨?_, ?_, ?_, ?_, ?_, dcK_r k, fun i hi => dcK_0 hk hi⟩
  all_goals
    have : k = 0 ∨ k = 1 ∨ k = 2 := by omega
    rcases this with rfl | rfl | rfl <;> decide +kernel
theorem dft_R {k : Nat} (hk : k < 3) : TbR (dft k) := TR_of (dft_CO hk)
theorem dft_g {k : Nat} (hk : k < 3) (q : Nat) : (dft k).2.1 q ≤ grK k := by
  have h := sy_lt (l := dlK k) (c := dcK k) (q := q) (dft_CO hk).2.2.1
  show sy (dlK k) (dSK k) (dcK k) q ≤ grK k
  have : dSK k ≤ grK k + 1 := by
    have : k = 0 ∨ k = 1 ∨ k = 2 := by omega
    rcases this with rfl | rfl | rfl <;> decide
  omega
def aln (s : Nat) : Tb := (0, fun _ => s, fun _ => 0, fun _ => 0)
theorem aln_R {s : Nat} (h : s < 256) : TbR (aln s) := ⟨by show 0 ≤ 9; omega, fun q _ => ⟨h, by show 0 ≤ 9; omega, by show 0 + 2 ^ 0 ≤ 2 ^ 0; omega⟩⟩
def upT (tb : Nat → Option Tb) (k : Nat) (x : Option Tb) (i : Nat) : Option Tb := if i = k then x else tb i
def mdK (md k : Nat) : Nat := md / 2 ^ (6 - 2 * k) % 4
def rdKa (u : Nat → Nat) (md g k a : Nat) (tb : Nat → Option Tb) : Option Nat :=
  if mdK md k = 3 then (if (tb k).isSome then some a else none) else if mdK md k = 1 then (if g ≤ a ∨ grK k < u a then none else some (a + 1)) else
  if mdK md k = 2 then (match rdT u a g (grK k) (mlK k) with
    | none => none
    | some x => some x.1) else some a
def rdKt (u : Nat → Nat) (md g k a : Nat) (tb : Nat → Option Tb) : Nat → Option Tb :=
  if mdK md k = 3 then tb else if mdK md k = 1 then (if g ≤ a ∨ grK k < u a then tb else upT tb k (some (aln (u a)))) else
  if mdK md k = 2 then (match rdT u a g (grK k) (mlK k) with
    | none => tb
    | some x => upT tb k (some x.2)) else upT tb k (some (dft k))
theorem grK_r (k : Nat) : grK k < 256 := by unfold grK; split <;> (try split) <;> omega
theorem mlK_r (k : Nat) : mlK k ≤ 9 := by unfold mlK; split <;> omega
abbrev tOk (k t : Nat) : Prop := t = 107 + 5 * k ∨ t = 144 + 5 * k ∨ t = 43 + 5 * k ∨ t = 67 + 5 * k ∨ t = 91 + 5 * k
/-- a table that is good for its kind -/
abbrev TG (k : Nat) (T : Tb) : Prop := TbR T ∧ ∀ q, q < 2 ^ T.1 → T.2.1 q ≤ grK k
def TKd (M : Mem) (tb : Nat → Option Tb) : Prop := ∀ k, k < 3 → mI M 136 k = iI (if (tb k).isSome then 1 else 0) ∧ ∀ T, tb k = some T → TG k T ∧ ∃ t, mR M 135 k = some t ∧ tOk k t ∧ TbV M t T
def DfV (M : Mem) : Prop := ∀ k, k < 3 → TbV M (107 + 5 * k) (dft k)
section TABS
variable {M N : Mem} {S : Nat → Nat → Prop}
theorem CSt.ts (h : CSt M) {k t : Nat} (hk : k < 3) (ht : tOk k t) : TS M t := by
  have : k = 0 ∨ k = 1 ∨ k = 2 := by omega
  rcases this with rfl | rfl | rfl <;> rcases ht with rfl | rfl | rfl | rfl | rfl
  · exact h.t107
  · exact h.t144
  · exact h.t43
  · exact h.t67
  · exact h.t91
  · exact h.t112
  · exact h.t149
  · exact h.t48
  · exact h.t72
  · exact h.t96
  · exact h.t117
  · exact h.t154
  · exact h.t53
  · exact h.t77
  · exact h.t101
theorem CSt.kf (h : CSt M) {k : Nat} (hk : k < 3) : mR M 137 k = some (144 + 5 * k) ∧ mR M 106 k = some (107 + 5 * k) ∧ mI M 0 k = iI (grK k : Nat) ∧ mI M 1 k = iI (mlK k : Nat) := by
  obtain ⟨r137_0, r137_1, r137_2, r106_0, r106_1, r106_2⟩ : mR M 137 0 = some 144 ∧ mR M 137 1 = some 149 ∧ mR M 137 2 = some 154 ∧ mR M 106 0 = some 107 ∧ mR M 106 1 = some 112 ∧ mR M 106 2 = some 117 := ⟨h.r 137 0 (by decide) (by decide) (by decide), h.r 137 1 (by decide) (by decide) (by decide), h.r 137 2 (by decide) (by decide) (by decide), h.r 106 0 (by decide) (by decide) (by decide), h.r 106 1 (by decide) (by decide) (by decide), h.r 106 2 (by decide) (by decide) (by decide)⟩
  have s0 := (h.st 0 (by omega)).2.2 k
  have s1 := (h.st 1 (by omega)).2.2 k
  have : k = 0 ∨ k = 1 ∨ k = 2 := by omega
  rcases this with rfl | rfl | rfl
  · exact ⟨r137_0, r106_0, s0, s1⟩
  · exact ⟨r137_1, r106_1, s0, s1⟩
  · exact ⟨r137_2, r106_2, s0, s1⟩
theorem CSt.s0 (h : CSt M) : mK M 0 = 21 ∧ mL M 0 = 3 ∧ mK M 1 = 21 ∧ mL M 1 = 3 := ⟨(h.st 0 (by omega)).1, (h.st 0 (by omega)).2.1, (h.st 1 (by omega)).1, (h.st 1 (by omega)).2.1⟩
theorem TbV.sm {t : Nat} {T : Tb} (h : TbV M t T) (s : Sm S M N) (h0 : ¬ S t 0) (h1 : ∀ j, ¬ S (t + 1) j) : TbV N t T := ⟨(s.I t 0 h0).trans h.1, fun q hq => (s.I _ _ (h1 q)).trans (h.2 q hq)⟩
theorem DfV.sm (h : DfV M) (s : Sm S M N) (hs : ∀ k j, k < 3 → ¬ S (107 + 5 * k) 0 ∧ ¬ S (107 + 5 * k + 1) j) : DfV N := fun k hk => (h k hk).sm s (hs k 0 hk).1 fun j => (hs k j hk).2
theorem TKd.sm {tb : Nat → Option Tb} (h : TKd M tb) (s : Sm S M N) (hs : ∀ k, k < 3 → ¬ S 136 k ∧ ¬ S 135 k ∧ ∀ t j, tOk k t → ¬ S t 0 ∧ ¬ S (t + 1) j) : TKd N tb := by
  intro k hk
  obtain ⟨a1, a2⟩ := h k hk
  obtain ⟨b1, b2, b3⟩ := hs k hk
  refine ⟨(s.I _ _ b1).trans a1, fun T hT => ?_⟩
  obtain ⟨c1, t, c2, c3, c4⟩ := a2 T hT
  exact ⟨c1, t, (s.R _ _ b2).trans c2, c3, c4.sm s (b3 t 0 c3).1 fun j => (b3 t j c3).2⟩
end TABS
