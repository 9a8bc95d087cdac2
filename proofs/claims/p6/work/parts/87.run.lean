/-! one SEQUENCE, the class's: by stK -/
section RUN
variable {M : Mem} {Ts : Nat → Tb} {rb rn e F m mb cr cb cn cs ff lim span blk cnt : Nat} {u ct ls old : Nat → Nat}
theorem sZ_le (L l o c : Nat) : sZ3 Ts L l o c ≤ 1 ∧ sZ6 Ts L l o c ≤ 1 ∧ (sZ6 Ts L l o c = 0 → sZ3 Ts L l o c = 0) := by
  have h3 : sZ3 Ts L l o c ≤ 1 := by unfold sZ3; exact tkZ_le (tkZ_le (tkZ_le (by omega)))
  refine ⟨h3, ?_, fun h => ?_⟩
  · unfold sZ6; exact tkZ_le (tkZ_le (tkZ_le h3))
  · unfold sZ6 at h; exact tkZ_0 (tkZ_0 (tkZ_0 h))
/-- what stK asks, and what it makes -/
theorem stK_e {L l o c us t ts : Nat} {r w : Nat → Nat} {nt : Nat → Nat → Int} {last : Bool} :
    stK u F Ts ls cnt blk lim span cs ct last ((L, l, o, c), r, us, t, w, ts, nt) =
      if sZ3 Ts L l o c ≠ 0 then none else if last = false ∧ sZ6 Ts L l o c ≠ 0 then none else
      if cnt - us < sN u F Ts L l o c then none else if ¬ rcK (t + sN u F Ts L l o c) (ofK r (sV u F Ts L o) (sN u F Ts L l o c)) cs span then none else if lim < t + sN u F Ts L l o c + sC u F Ts L o c - blk then none else
      some ((if last then (sL3 Ts L l o c, l, o, c) else (sL6 Ts L l o c, goK u F Ts 0 l (sL3 Ts L l o c), goK u F Ts 1 o (sL5 Ts L l o c), goK u F Ts 2 c (sL4 Ts L l o c))),
        rmK r (whK (sV u F Ts L o) (sN u F Ts L l o c)) (ofK r (sV u F Ts L o) (sN u F Ts L l o c)), us + sN u F Ts L l o c, t + sN u F Ts L l o c + sC u F Ts L o c, ptC (ptL w ls t us (sN u F Ts L l o c)) ct (t + sN u F Ts L l o c) (ofK r (sV u F Ts L o) (sN u F Ts L l o c)) cs (sC u F Ts L o c), ts + 1, ntK nt ts (sN u F Ts L l o c) (sC u F Ts L o c) (sV u F Ts L o) (ofK r (sV u F Ts L o) (sN u F Ts L l o c))) := rfl
theorem stK_L {L l o c us t ts z : Nat} {r w : Nat → Nat} {nt : Nat → Nat → Int} {last : Bool} (hz : z = if last then sZ3 Ts L l o c else sZ6 Ts L l o c) :
    (¬ L52O lim span blk cnt cs r z (sV u F Ts L o) (sC u F Ts L o c) (sN u F Ts L l o c) us t → stK u F Ts ls cnt blk lim span cs ct last ((L, l, o, c), r, us, t, w, ts, nt) = none) ∧
    (L52O lim span blk cnt cs r z (sV u F Ts L o) (sC u F Ts L o c) (sN u F Ts L l o c) us t → stK u F Ts ls cnt blk lim span cs ct last ((L, l, o, c), r, us, t, w, ts, nt) = some ((if last then (sL3 Ts L l o c, l, o, c) else (sL6 Ts L l o c, goK u F Ts 0 l (sL3 Ts L l o c), goK u F Ts 1 o (sL5 Ts L l o c), goK u F Ts 2 c (sL4 Ts L l o c))),
        rmK r (whK (sV u F Ts L o) (sN u F Ts L l o c)) (ofK r (sV u F Ts L o) (sN u F Ts L l o c)), us + sN u F Ts L l o c, t + sN u F Ts L l o c + sC u F Ts L o c, ptC (ptL w ls t us (sN u F Ts L l o c)) ct (t + sN u F Ts L l o c) (ofK r (sV u F Ts L o) (sN u F Ts L l o c)) cs (sC u F Ts L o c), ts + 1, ntK nt ts (sN u F Ts L l o c) (sC u F Ts L o c) (sV u F Ts L o) (ofK r (sV u F Ts L o) (sN u F Ts L l o c)))) := by
  rw [stK_e]
  have hq := (sZ_le (Ts := Ts) L l o c).2.2
  generalize sZ3 Ts L l o c = z3 at *
  generalize sZ6 Ts L l o c = z6 at *
  refine ⟨fun h => ?_, fun h => ?_⟩
  · by_cases a1 : z3 ≠ 0
    · rw [if_pos a1]
    · rw [if_neg a1]
      by_cases a2 : last = false ∧ z6 ≠ 0
      · rw [if_pos a2]
      · rw [if_neg a2]
        by_cases a3 : cnt - us < sN u F Ts L l o c
        · rw [if_pos a3]
        · rw [if_neg a3]
          by_cases a4 : ¬ rcK (t + sN u F Ts L l o c) (ofK r (sV u F Ts L o) (sN u F Ts L l o c)) cs span
          · rw [if_pos a4]
          · rw [if_neg a4]
            by_cases a5 : lim < t + sN u F Ts L l o c + sC u F Ts L o c - blk
            · rw [if_pos a5]
            · refine absurd ⟨?_, a3, Classical.not_not.mp a4, a5⟩ h
              rw [hz]
              cases last with
              | true => exact Classical.not_not.mp a1
              | false => exact Classical.not_not.mp fun q => a2 ⟨rfl, q⟩
  · obtain ⟨b1, b2, b3, b4⟩ := h
    have b0 : z3 = 0 ∧ ¬ (last = false ∧ z6 ≠ 0) := by
      rw [hz] at b1
      cases last with
      | true => exact ⟨b1, fun q => by cases q.1⟩
      | false => exact ⟨hq b1, fun q => q.2 b1⟩
    rw [if_neg (fun q => q b0.1), if_neg b0.2, if_neg b2, if_neg (fun q => q b3), if_neg b4]
end RUN
