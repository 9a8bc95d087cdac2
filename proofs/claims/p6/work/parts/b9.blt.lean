/-! what comes out of a BLOCK are bytes -/
section BLT
variable {u ct ls w r : Nat → Nat} {Ts : Nat → Tb} {F cnt blk lim span cs p g many t ts a ff n : Nat} {nt : Nat → Nat → Int} {x : Tl}
theorem rnK_lt (hct : ∀ i, ct i < 256) (hls : ∀ i, ls i < 256) : ∀ {k s ok s'}, rnK u F Ts ls cnt blk lim span cs ct k s = (ok, s') → (∀ i, s.2.2.2.2.1 i < 256) → ∀ i, s'.2.2.2.2.1 i < 256 := by
  intro k
  induction k with
  | zero => intro s ok s' h hw; rw [rnK] at h; cases h; exact hw
  | succ k ih =>
    intro s ok s' h hw
    rw [rnK] at h
    obtain ⟨⟨L, l, o, c⟩, r, us, t, w, ts, nt⟩ := s
    cases hst : stK u F Ts ls cnt blk lim span cs ct (k == 0) ((L, l, o, c), r, us, t, w, ts, nt) with
    | none => rw [hst] at h; cases h; exact hw
    | some s2 =>
      rw [hst] at h
      obtain ⟨n, cp, off, c1, c2, c3, c4, c5, c6, c7⟩ := stK_r hst
      refine ih h ?_
      rw [c5]
      exact ptC_lt (ptL_lt hw hls n) hct cp
theorem sqS_lt (hct : ∀ i, ct i < 256) (hls : ∀ i, ls i < 256) (hw : ∀ i, w i < 256) {t' : Nat} {w' : Nat → Nat} (h : (sqS u p g Ts ls cnt blk lim span cs ct many r t w ts nt).1 = some (t', w')) : ∀ i, w' i < 256 := by
  unfold sqS at h
  split at h
  · cases h
  · split at h
    · cases h
    · obtain ⟨ok, s', hrn⟩ : ∃ ok s', rnK u p Ts ls cnt blk lim span cs ct many (iSt u p Ts (mkL u p g), r, 0, t, w, ts, nt) = (ok, s') := ⟨_, _, rfl⟩
      rw [hrn] at h
      have h : (if (ok = true ∧ s'.1.1 = 0) ∧ ¬ lim < s'.2.2.2.1 + (cnt - s'.2.2.1) - blk then some (s'.2.2.2.1 + (cnt - s'.2.2.1), ptL s'.2.2.2.2.1 ls s'.2.2.2.1 s'.2.2.1 (cnt - s'.2.2.1)) else none) = some (t', w') := h
      split at h
      · cases h
        exact ptL_lt (rnK_lt hct hls hrn hw) hls _
      · cases h
theorem seB_lt {s : Nat} (hct : ∀ i, ct i < 256) (hls : ∀ i, ls i < 256) (hw : ∀ i, w i < 256) {t' : Nat} {w' : Nat → Nat} (h : (seB u s g lim span cs ct ls cnt t w x).1 = some (t', w')) : ∀ i, w' i < 256 := by
  unfold seB at h
  split at h
  · cases h
  · split at h
    · have h : (if lim < cnt then none else some (t + cnt, ptL w ls t 0 cnt)) = some (t', w') := h
      split at h
      · cases h
      · cases h
        exact ptL_lt hw hls _
    · obtain ⟨R1, R2, hrd⟩ : ∃ R1 R2, rdN u (sqD u s) g 3 0 (sqN u s) x.2.1 = (R1, R2) := ⟨_, _, rfl⟩
      rw [hrd] at h
      cases R1 with
      | none => cases h
      | some p => exact sqS_lt hct hls hw h
theorem pkB_lt (hu : ∀ i, u i < 256) (hC : ∀ C, x.1 = some C → CdR C) (hct : ∀ i, ct i < 256) (hw : ∀ i, w i < 256) {t' : Nat} {w' : Nat → Nat} (h : (pkB u a g lim span cs ct t w x).1 = some (t', w')) : ∀ i, w' i < 256 := by
  unfold pkB at h
  cases hl : ltR u a g lim x.1 with
  | none => rw [hl] at h; cases h
  | some ls => rw [hl] at h; exact seB_lt hct (ltR_lt hu hC hl) hw h
theorem boB_lt (hu : ∀ i, u i < 256) (hC : ∀ C, x.1 = some C → CdR C) (hct : ∀ i, ct i < 256) (hw : ∀ i, w i < 256) {t' : Nat} {w' : Nat → Nat} (h : (boB u lim span cs ct a t w x).1 = some (t', w')) : ∀ i, w' i < 256 := by
  unfold boB at h
  split at h
  · exact pkB_lt hu hC hct hw h
  · cases h
    refine ptL_lt hw (fun i => ?_) _
    show (if num u a 3 / 2 % 4 = 0 then u (a + 3 + i) else u (a + 3)) < 256
    split
    · exact hu _
    · exact hu _
theorem blB_lt (hu : ∀ i, u i < 256) (hC : ∀ C, x.1 = some C → CdR C) (hct : ∀ i, ct i < 256) (hw : ∀ i, w i < 256) {a' : Nat} {l : Bool} {t' : Nat} {w' : Nat → Nat} {x' : Tl} (h : blB u n lim span cs ct ff a t w x = (some (a', l, t', w'), x')) : ∀ i, w' i < 256 := by
  unfold blB at h
  split at h
  · cases h
  · split at h
    · cases h
    · obtain ⟨R1, R2, hb⟩ : ∃ R1 R2, boB u lim span cs ct a t w (tdU x 1 (x.2.2.1 1 + 1)) = (R1, R2) := ⟨_, _, rfl⟩
      rw [hb] at h
      cases R1 with
      | none => unfold enB at h; cases h
      | some q =>
        have hq : (boB u lim span cs ct a t w (tdU x 1 (x.2.2.1 1 + 1))).1 = some (q.1, q.2) := by rw [hb]
        unfold enB at h
        have h : (if 8000 < ff + q.1 then (none, R2) else (some (a + 3 + szB u a, num u a 3 % 2 == 1, q.1, q.2), tdU (tdU R2 2 (R2.2.2.1 2 + if num u a 3 / 2 % 4 = 2 then 1 else 0)) 5 ((ff + q.1 : Nat) : Int))) = (some (a', l, t', w'), x') := h
        split at h
        · cases h
        · cases h
          exact boB_lt (x := tdU x 1 (x.2.2.1 1 + 1)) hu hC hct hw hq
end BLT
