/-! a PACKED block: the class's -/
def WOp (m mb a j : Nat) : Prop := Rw m mb a j ∨ (¬ fx a j ∧ ((18 ≤ a ∧ a ≤ 32) ∨ (122 ≤ a ∧ a ≤ 141) ∨ (144 ≤ a ∧ a ≤ 158)))
def WPk (m mb a j : Nat) : Prop := WOp m mb a j ∧ (a = 122 → j = 8) ∧ (a = 134 → 15 ≤ j)
def WBk (m mb a j : Nat) : Prop := WOp m mb a j ∧ (a = 122 → j = 8 ∨ (14 ≤ j ∧ j ≤ 17)) ∧ (a = 134 → 15 ≤ j)
theorem WOp_fx {m mb : Nat} (hm : m = 12 ∨ m = 14 ∨ m = 16) (hb : mb = m + 1) : ∀ a j, WOp m mb a j → 10 ≤ a ∧ ¬ fx a j := by
  rintro a j (h | ⟨h1, h2⟩)
  · refine WRo_fx hm hb a j ?_
    unfold WRo
    simp [h]
  · exact ⟨by omega, h1⟩
section WPKS
variable {m mb a j : Nat}
theorem pk_bk (h : WPk m mb a j) : WBk m mb a j := ⟨h.1, fun q => Or.inl (h.2.1 q), h.2.2⟩
theorem pk_i (h : ¬ fx a j) (h2 : (18 ≤ a ∧ a ≤ 32) ∨ (122 ≤ a ∧ a ≤ 141) ∨ (144 ≤ a ∧ a ≤ 158)) (h3 : a = 122 → j = 8) (h4 : a = 134 → 15 ≤ j) : WPk m mb a j := ⟨Or.inr ⟨h, h2⟩, h3, h4⟩
theorem pk_Lh (h : WLh a j) : WPk m mb a j := by
  have := (WLh_fx a j h).2
  unfold WLh at h
  exact pk_i this (by omega) (by omega) (by omega)
theorem pk_Lc (h : WLc a j) : WPk m mb a j := by
  have := (WLc_fx a j h).2
  unfold WLc WW WK at h
  exact pk_i this (by omega) (by omega) (by omega)
theorem pk_Lb (h : WLb a j) : WPk m mb a j := by
  have := (WLb_fx a j h).2
  unfold WLb WSt at h
  exact pk_i this (by omega) (by omega) (by omega)
theorem pk_Sh (h : WSh a j) : WPk m mb a j := by
  have := (WSh_fx a j h).2
  unfold WSh at h
  exact pk_i this (by omega) (by omega) (by omega)
theorem pk_Tk {k : Nat} (hk : k < 3) (h : WTk k a j) : WPk m mb a j := by
  have := (WTk_fx hk a j h).2
  unfold WTk WT at h
  exact pk_i this (by omega) (by omega) (by omega)
theorem pk_Cr (hm : m = 12 ∨ m = 14 ∨ m = 16) (hb : mb = m + 1) (h : WCr m mb a j) : WPk m mb a j := by
  have h0 := (WCr_fx hm hb a j h).2
  by_cases q : Rw m mb a j
  · exact ⟨Or.inl q, by unfold Rw at q; omega, by unfold Rw at q; omega⟩
  · unfold WCr WRo at h
    have h : (a = 140 ∧ (j = 2 ∨ j = 3)) ∨ a = 138 ∨ (a = 134 ∧ j = 18) ∨ a = 139 ∨ (a = 31 ∧ (j = 4 ∨ (6 ≤ j ∧ j < 9))) ∨ a = 32 ∨ (a = 134 ∧ (j = 17 ∨ j = 18)) ∨ a = 140 ∨ (a = 30 ∧ j ≤ 1) := by
      rcases h with (h | h | h | h | h | h | h) | h | h | h
      · exact Or.inl h
      · exact Or.inr (Or.inl h)
      · exact absurd h q
      · exact Or.inr (Or.inr (Or.inl h))
      · exact Or.inr (Or.inr (Or.inr (Or.inl h)))
      · exact Or.inr (Or.inr (Or.inr (Or.inr (Or.inl h))))
      · exact Or.inr (Or.inr (Or.inr (Or.inr (Or.inr (Or.inl h)))))
      · exact Or.inr (Or.inr (Or.inr (Or.inr (Or.inr (Or.inr (Or.inl h))))))
      · exact Or.inr (Or.inr (Or.inr (Or.inr (Or.inr (Or.inr (Or.inr (Or.inl h)))))))
      · exact Or.inr (Or.inr (Or.inr (Or.inr (Or.inr (Or.inr (Or.inr (Or.inr h)))))))
    exact pk_i h0 (by omega) (by omega) (by omega)
end WPKS
section CPACK
variable {M N : Mem} {r rb e m mb cr cb cn cs ff lim span t : Nat} {u ct old w : Nat → Nat} {x : Tl}
/-- what the opening of a row stands on: the row, the row that is made, the FRAME's numbers -/
abbrev OC (M : Mem) (r rb e : Nat) (u : Nat → Nat) (m mb cr cb cn cs ff : Nat) (ct : Nat → Nat) (lim span : Nat) : Prop := CSt M ∧ DfV M ∧ RS M r rb 8000 ∧ BV M rb 8000 e u ∧ FR0 M m mb cr cb cn cs ff ct lim span ∧ mR M 122 3 = some r ∧ mR M 122 4 = some m ∧ mI M r 1 = iI e
/-- the cells' numbers -/
abbrev OA (r rb m mb cr cb cn cs ff lim span e : Nat) : Prop := (m = 12 ∨ m = 14 ∨ m = 16) ∧ mb = m + 1 ∧ (r = 12 ∨ r = 14 ∨ r = 16) ∧ rb = r + 1 ∧ r ≠ m ∧ ((cr = 41 ∨ cr = 65 ∨ cr = 89 ∨ cr = 142) ∧ cb = cr + 1) ∧ (cs ≤ cn ∧ cn < 4000) ∧ ff ≤ 8000 ∧ lim ≤ 131072 ∧ span < 9223372036854775808 ∧ e ≤ 8000
/-- what is told -/
abbrev TLc (M : Mem) (x : Tl) : Prop := LKd M x.1 ∧ TKd M x.2.1 ∧ (∀ j, j < 12 → j ≠ 4 → (j < 6 ∨ 9 ≤ j) → mI M 31 j = iI (x.2.2.1 j)) ∧ SM M x.2.2.2.1 x.2.2.2.2.1 x.2.2.2.2.2
/-- the CODE and the tables are those that were, or the opener's own, or the DEFAULT ones -/
abbrev RFx (M N : Mem) : Prop := (∀ i, i < 3 → mR N 135 i = mR M 135 i ∨ mR N 135 i = some (107 + 5 * i) ∨ mR N 135 i = some (144 + 5 * i)) ∧ (mR N 125 1 = mR M 125 1 ∨ mR N 125 1 = some 128)
theorem RFx.rf : RFx M M := ⟨fun _ _ => Or.inl rfl, Or.inl rfl⟩
theorem RFx.tr {O : Mem} (h1 : RFx M N) (h2 : RFx N O) : RFx M O := ⟨fun i hi => by
    rcases h2.1 i hi with q | q | q
    · rw [q]; exact h1.1 i hi
    · exact Or.inr (Or.inl q)
    · exact Or.inr (Or.inr q), by
    rcases h2.2 with q | q
    · rw [q]; exact h1.2
    · exact Or.inr q⟩
theorem RFx.sm {S : Nat → Nat → Prop} (s : Sm S M N) (h1 : ∀ i, i < 3 → ¬ S 135 i) (h2 : ¬ S 125 1) : RFx M N := ⟨fun i hi => Or.inl (s.R _ _ (h1 i hi)), Or.inl (s.R _ _ h2)⟩
theorem OC.sb {S : Nat → Nat → Prop} (hA : OA r rb m mb cr cb cn cs ff lim span e) (h : OC M r rb e u m mb cr cb cn cs ff ct lim span) (s : Sm S M N) (hs : ∀ a j, S a j → WBk m mb a j) : OC N r rb e u m mb cr cb cn cs ff ct lim span := by
  obtain ⟨hC, hD, hr, hb, ⟨f1, f2, f3, f4, f5, f6⟩, g3, g4, g5⟩ := h
  obtain ⟨a1, a2, a3, a4, a5, a6, a7, -⟩ := hA
  have s := s.weak hs
  refine ⟨hC.sm s fun a j h => WOp_fx a1 a2 a j h.1, hD.sm s fun k j hk => ⟨?_, ?_⟩, hr.sm s ?_, hb.sm s ?_, ⟨(s.R _ _ ?_).trans f1, (s.R _ _ ?_).trans f2, f3.sm s ?_ ?_ ?_, (s.I _ _ ?_).trans f4, (s.I _ _ ?_).trans f5, (s.J _ _ ?_).trans f6⟩, (s.R _ _ ?_).trans g3, (s.R _ _ ?_).trans g4, (s.I _ _ ?_).trans g5⟩
  · unfold WBk WOp Rw; omega
  · unfold WBk WOp Rw; omega
  · unfold WBk WOp Rw; omega
  · unfold WBk WOp Rw; omega
  · unfold WBk; omega
  · unfold WBk; omega
  · unfold WBk WOp Rw; omega
  · unfold WBk WOp Rw; omega
  · unfold WBk WOp Rw; omega
  · unfold WBk; omega
  · unfold WBk; omega
  · unfold WBk; omega
  · unfold WBk; omega
  · unfold WBk; omega
  · unfold WBk WOp Rw; omega
theorem OC.sm {S : Nat → Nat → Prop} (hA : OA r rb m mb cr cb cn cs ff lim span e) (h : OC M r rb e u m mb cr cb cn cs ff ct lim span) (s : Sm S M N) (hs : ∀ a j, S a j → WPk m mb a j) : OC N r rb e u m mb cr cb cn cs ff ct lim span := h.sb hA s fun a j q => pk_bk (hs a j q)
end CPACK
