/-! a PACKED block as numbers -/
abbrev Tl : Type := Option Cd × (Nat → Option Tb) × (Nat → Int) × (Nat → Nat) × Nat × (Nat → Nat → Int)
def rdN (u : Nat → Nat) (md g : Nat) : Nat → Nat → Nat → (Nat → Option Tb) → Option Nat × (Nat → Option Tb)
  | 0, _, a, tb => (some a, tb)
  | n + 1, k, a, tb => match rdKa u md g k a tb with
    | none => (none, rdKt u md g k a tb)
    | some a' => rdN u md g n (k + 1) a' (rdKt u md g k a tb)
def tsOf (tb : Nat → Option Tb) (k : Nat) : Tb := (tb k).getD (aln 0)
/-- what stands behind the LETTERS -/
def seB (u : Nat → Nat) (s g lim span cs : Nat) (ct ls : Nat → Nat) (cnt t : Nat) (w : Nat → Nat) (x : Tl) : Option (Nat × (Nat → Nat)) × Tl :=
  if ¬ sqG u s g then (none, x) else
  if sqM u s = 0 then (if lim < cnt then none else some (t + cnt, ptL w ls t 0 cnt), x) else
  match rdN u (sqD u s) g 3 0 (sqN u s) x.2.1 with
  | (none, tb) => (none, (x.1, tb, x.2.2))
  | (some p, tb) => ((sqS u p g (tsOf tb) ls cnt t lim span cs ct (sqM u s) x.2.2.2.1 t w x.2.2.2.2.1 x.2.2.2.2.2).1, (x.1, tb, x.2.2.1, (sqS u p g (tsOf tb) ls cnt t lim span cs ct (sqM u s) x.2.2.2.1 t w x.2.2.2.2.1 x.2.2.2.2.2).2))
def pkB (u : Nat → Nat) (a g lim span cs : Nat) (ct : Nat → Nat) (t : Nat) (w : Nat → Nat) (x : Tl) : Option (Nat × (Nat → Nat)) × Tl :=
  match ltR u a g lim x.1 with
  | none => (none, (ltC u a g lim x.1, x.2))
  | some ls => seB u (enL u a) g lim span cs ct ls (cnL u a) t w (ltC u a g lim x.1, x.2.1, up x.2.2.1 3 (x.2.2.1 3 + cnL u a), x.2.2.2)
section PACK
variable {u ct ls w r : Nat → Nat} {Ts : Nat → Tb} {F cnt blk lim span cs p g many t ts : Nat} {nt : Nat → Nat → Int}
theorem rnK_ts : ∀ {k s ok s'}, rnK u F Ts ls cnt blk lim span cs ct k s = (ok, s') → s'.2.2.2.2.2.1 ≤ s.2.2.2.2.2.1 + k := by
  intro k
  induction k with
  | zero => intro s ok s' h; rw [rnK] at h; cases h; omega
  | succ k ih =>
    intro s ok s' h
    rw [rnK] at h
    obtain ⟨⟨L, l, o, c⟩, r, us, t, w, ts, nt⟩ := s
    cases hst : stK u F Ts ls cnt blk lim span cs ct (k == 0) ((L, l, o, c), r, us, t, w, ts, nt) with
    | none => rw [hst] at h; cases h; show ts ≤ ts + (k + 1); omega
    | some s2 =>
      rw [hst] at h
      obtain ⟨n, cp, off, -, -, -, -, -, c6, -⟩ := stK_r hst
      have := ih h
      show _ ≤ ts + (k + 1)
      omega
theorem sqS_ts : (sqS u p g Ts ls cnt blk lim span cs ct many r t w ts nt).2.2.1 ≤ ts + many := by
  unfold sqS
  split
  · show ts ≤ _; omega
  · split
    · show ts ≤ _; omega
    · obtain ⟨ok, s', hrn⟩ : ∃ ok s', rnK u p Ts ls cnt blk lim span cs ct many (iSt u p Ts (mkL u p g), r, 0, t, w, ts, nt) = (ok, s') := ⟨_, _, rfl⟩
      rw [hrn]
      exact rnK_ts hrn
theorem rdKt_s {md k a : Nat} {tb : Nat → Option Tb} {a' : Nat} (h : rdKa u md g k a tb = some a') : ((rdKt u md g k a tb) k).isSome ∧ ∀ i, (tb i).isSome → ((rdKt u md g k a tb) i).isSome := by
  have key : ∀ T, ((upT tb k (some T)) k).isSome ∧ ∀ i, (tb i).isSome → ((upT tb k (some T)) i).isSome := by
    intro T
    unfold upT
    refine ⟨by rw [if_pos rfl]; rfl, fun i hi => ?_⟩
    split
    · rfl
    · exact hi
  unfold rdKa at h
  unfold rdKt
  split at h
  · rename_i c
    rw [if_pos c]
    split at h
    · rename_i c2
      exact ⟨c2, fun i hi => hi⟩
    · cases h
  · rename_i c
    rw [if_neg c]
    split at h
    · rename_i c1
      rw [if_pos c1]
      split at h
      · cases h
      · rename_i c2
        rw [if_neg c2]
        exact key _
    · rename_i c1
      rw [if_neg c1]
      split at h
      · rename_i c2
        rw [if_pos c2]
        cases hx : rdT u a g (grK k) (mlK k) with
        | none => rw [hx] at h; cases h
        | some x => exact key _
      · rename_i c2
        rw [if_neg c2]
        exact key _
theorem rdN_s {md : Nat} : ∀ {n k a tb p tb'}, rdN u md g n k a tb = (some p, tb') → (∀ i, i < k → (tb i).isSome) → ∀ i, i < k + n → (tb' i).isSome := by
  intro n
  induction n with
  | zero => intro k a tb p tb' h hk i hi; rw [rdN] at h; cases h; exact hk i (by omega)
  | succ n ih =>
    intro k a tb p tb' h hk i hi
    rw [rdN] at h
    cases hx : rdKa u md g k a tb with
    | none => rw [hx] at h; cases h
    | some a' =>
      rw [hx] at h
      obtain ⟨s1, s2⟩ := rdKt_s hx
      exact ih h (fun j hj => by
        by_cases e : j = k
        · rw [e]; exact s1
        · exact s2 j (hk j (by omega))) i (by omega)
theorem rdKa_le {md k a : Nat} {tb : Nat → Option Tb} {a' : Nat} (h : rdKa u md g k a tb = some a') (hk : k < 3) : a ≤ a' ∧ (a' ≤ g ∨ a' = a) := by
  unfold rdKa at h
  split at h
  · split at h
    · cases h; omega
    · cases h
  · split at h
    · split at h
      · cases h
      · cases h; omega
    · split at h
      · cases hx : rdT u a g (grK k) (mlK k) with
        | none => rw [hx] at h; cases h
        | some x =>
          obtain ⟨p, T⟩ := x
          rw [hx] at h
          cases h
          obtain ⟨-, -, -, -, -, h1, h2, -⟩ := rdT_ok hx (mlK_r k) (grK_r k)
          omega
      · cases h; omega
theorem rdN_le {md : Nat} : ∀ {n k a tb p tb'}, rdN u md g n k a tb = (some p, tb') → k + n ≤ 3 → a ≤ p ∧ (p ≤ g ∨ p = a) := by
  intro n
  induction n with
  | zero => intro k a tb p tb' h hk; rw [rdN] at h; cases h; omega
  | succ n ih =>
    intro k a tb p tb' h hk
    rw [rdN] at h
    cases hx : rdKa u md g k a tb with
    | none => rw [hx] at h; cases h
    | some a' =>
      rw [hx] at h
      have h1 := rdKa_le hx (by omega)
      have h2 := ih h (by omega)
      omega
end PACK
/-! letters are bytes -/
section LTB
variable {u : Nat → Nat}
theorem rdS_lt {f g n : Nat} {C : Cd} {ls : Nat → Nat} (hC : CdR C) (h : rdS u f g C n = some ls) : ∀ i, ls i < 256 := by
  unfold rdS at h
  split at h
  · cases h
  · split at h
    · cases h
      intro i
      exact lk_lt hC _
    · cases h
theorem rdF_lt {a : Nat} {C : Cd} {E : Nat} (hC : CdR C) : ∀ {k ls}, rdF u a C E k = some ls → ∀ i, ls i < 256 := by
  intro k
  induction k with
  | zero => intro ls h; rw [rdF] at h; cases h; intro i; show 0 < 256; omega
  | succ k ih =>
    intro ls h i
    rw [rdF] at h
    cases h1 : rdF u a C E k with
    | none => rw [h1] at h; cases h
    | some l =>
      cases h2 : rdS u (pF u a k) (pF u a (k + 1)) C E with
      | none => rw [h1] at h; simp only [h2] at h; cases h
      | some m =>
        rw [h1] at h
        simp only [h2] at h
        cases h
        show (if i < mE E k then l i else m (i - mE E k)) < 256
        split
        · exact ih h1 i
        · exact rdS_lt hC h2 _
theorem rsS_lt {a g cnt b4 : Nat} {C : Cd} {ls : Nat → Nat} (hC : CdR C) (h : rsS u a g C cnt b4 = some ls) : ∀ i, ls i < 256 := by
  unfold rsS at h
  split at h
  · exact rdS_lt hC h
  · unfold rd4 at h
    split at h
    · cases h
    · split at h
      · cases h
      · cases h1 : rdF u a C ((cnt + 3) / 4) 3 with
        | none => rw [h1] at h; cases h
        | some l =>
          cases h2 : rdS u (pF u a 3) g C (cnt - 3 * ((cnt + 3) / 4)) with
          | none => rw [h1] at h; simp only [h2] at h; cases h
          | some m =>
            rw [h1] at h
            simp only [h2] at h
            cases h
            intro i
            show (if i < 3 * ((cnt + 3) / 4) then l i else m (i - 3 * ((cnt + 3) / 4))) < 256
            split
            · exact rdF_lt hC h1 i
            · exact rdS_lt hC h2 _
theorem ltR_lt {a g lim : Nat} {c0 : Option Cd} {ls : Nat → Nat} (hu : ∀ i, u i < 256) (hC : ∀ C, c0 = some C → CdR C) (h : ltR u a g lim c0 = some ls) : ∀ i, ls i < 256 := by
  unfold ltR at h
  split at h
  · cases h
  · split at h
    · cases h; exact fun i => hu _
    · split at h
      · cases h; exact fun i => hu _
      · split at h
        · cases hc : c0 with
          | none => rw [hc] at h; cases h
          | some C => rw [hc] at h; exact rsS_lt (hC C hc) h
        · cases hx : rdW u (nxL u a) (enL u a) with
          | none => rw [hx] at h; cases h
          | some x =>
            obtain ⟨p, m, k, w⟩ := x
            rw [hx] at h
            exact rsS_lt (cdOf_R (rdW_ok hx hu).2.2) h
end LTB
