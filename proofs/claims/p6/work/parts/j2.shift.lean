/-! a body further on in a file has the same bytes -/
abbrev Shf (P : Nat) (u0 : Nat → Nat) (c c' : (Nat → Nat) × Nat) : Prop := c'.2 = P + c.2 ∧ (∀ i, c'.1 (P + i) = c.1 i) ∧ ∀ i, i < P → c'.1 i = u0 i
section SHIFT
variable {P lv m q k : Nat} {u0 u u' cn cp vl r : Nat → Nat} {c c' : (Nat → Nat) × Nat} {f : Fs}
theorem shf_ap (h : Shf P u0 c c') (s : Nat × Nat) : Shf P u0 (apW c s) (apW c' s) := by
  obtain ⟨h1, h2, h3⟩ := h
  refine ⟨?_, fun i => ?_, fun i hi => ?_⟩
  · show c'.2 + (s.2 + 7) / 8 = P + (c.2 + (s.2 + 7) / 8)
    omega
  · show wr c'.1 c'.2 s.1 (P + i) = wr c.1 c.2 s.1 i
    unfold wr
    by_cases e : i < c.2
    · rw [if_pos (by omega), if_pos e, h2]
    · rw [if_neg (by omega), if_neg e, h1, show P + i - (P + c.2) = i - c.2 by omega]
  · show wr c'.1 c'.2 s.1 i = u0 i
    unfold wr
    rw [if_pos (by omega), h3 i hi]
theorem shf_qT (h : Shf P u0 c c') : ∀ k, Shf P u0 (qT lv cn cp vl m c k) (qT lv cn cp vl m c' k)
  | 0 => h
  | k + 1 => by
    rw [qT, qT]
    exact shf_ap (shf_qT h k) _
theorem shf_qW (h : Shf P u0 (u, q) (u', P + q)) : Shf P u0 (qW u q lv cn cp vl m) (qW u' (P + q) lv cn cp vl m) := by
  have h1 : Shf P u0 (qW1 u q m) (qW1 u' (P + q) m) := shf_ap h _
  unfold qW
  by_cases c : m = 0
  · rw [if_pos c, if_pos c]
    exact h1
  · rw [if_neg c, if_neg c]
    have h2 : Shf P u0 (qW2 u q lv cn cp vl m 3) (qW2 u' (P + q) lv cn cp vl m 3) := shf_qT (shf_ap h1 _) 3
    have h3 : Shf P u0 (qW3 u q lv cn cp vl m) (qW3 u' (P + q) lv cn cp vl m) := by
      refine ⟨h2.1, fun i => ?_, fun i hi => ?_⟩
      · show upH _ (qW1 u' (P + q) m).2 _ (P + i) = upH _ (qW1 u q m).2 _ i
        unfold upH
        by_cases e : i = (qW1 u q m).2
        · rw [if_pos e, if_pos (by rw [h1.1, e])]
        · rw [if_neg e, if_neg (by rw [h1.1]; omega)]
          exact h2.2.1 i
      · show upH _ (qW1 u' (P + q) m).2 _ i = _
        unfold upH
        rw [if_neg (by rw [h1.1]; omega)]
        exact h2.2.2 i hi
    exact shf_ap h3 _
theorem shf_bd : Shf P u0 (bdW (fun _ => 0) 0 lv f r) (bdW u0 P lv f r) := by
  unfold bdW
  have h : Shf P u0 (bdU (fun _ => 0) 0 f.2.2.2.2.2.2.2 f.2.2.2.2.2.2.1 lv, 0 + ltN f.2.2.2.2.2.2.2 f.2.2.2.2.2.2.1 lv) (bdU u0 P f.2.2.2.2.2.2.2 f.2.2.2.2.2.2.1 lv, P + (0 + ltN f.2.2.2.2.2.2.2 f.2.2.2.2.2.2.1 lv)) := by
    refine ⟨rfl, fun i => ?_, fun i hi => ?_⟩
    · show bdU u0 P _ _ lv (P + i) = bdU (fun _ => 0) 0 _ _ lv i
      have := bd_u (u := fun _ => 0) (p := 0) (lv := lv) (lu := f.2.2.2.2.2.2.2) (c := f.2.2.2.2.2.2.1) (i := i)
      rw [Nat.zero_add] at this
      rw [bd_u, this]
    · show bdU u0 P _ _ lv i = u0 i
      unfold bdU
      rw [if_pos hi]
  have := shf_qW (lv := lv) (m := f.2.2.1) (cn := f.2.2.2.1) (cp := f.2.2.2.2.1) (vl := vS f.2.2.2.1 f.2.2.2.2.2.1 r) h
  rw [Nat.zero_add] at this ⊢
  exact this
end SHIFT
