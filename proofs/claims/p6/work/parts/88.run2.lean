/-! one SEQUENCE, the class's -/
section RUN2
variable {M : Mem} {Ts : Nat → Tb} {rb rn e F m mb cr cb cn cs ff lim span blk cnt : Nat} {u ct ls old : Nat → Nat}
theorem l52s_o {a j : Nat} (hm : m = 12 ∨ m = 14 ∨ m = 16) (hmb : mb = m + 1) (ha : a = 138 ∨ a = 140) : ¬ L52S m mb a j := by unfold L52S Rw; omega
set_option maxHeartbeats 4000000 in
theorem runOne_ok {L l o c us t ts lst : Nat} {r w : Nat → Nat} {nt : Nat → Nat → Int} (hm : m = 12 ∨ m = 14 ∨ m = 16) (hmb : mb = m + 1) (hcr : (cr = 41 ∨ cr = 65 ∨ cr = 89 ∨ cr = 142) ∧ cb = cr + 1) (hcn : cs ≤ cn ∧ cn < 4000) (hff : ff + t < 300000) (hlim : lim ≤ 131072) (hspan : span < 9223372036854775808) (hblk : blk ≤ t) (hcnt : cnt < 300000) (husc : us ≤ cnt) (hus : us ≤ ff + t)
    (hold : ∀ i, old i < 256) (hw : ∀ i, w i < 256) (hct : ∀ i, ct i < 256) (hls : ∀ i, ls i < 256) (hts : ts < 900000000) (hlst : lst ≤ 1)
    (hb : BV M rb rn e u) (hrb : rb < 18) (hu : ∀ i, u i < 256) (he : 8 * F + L ≤ 8 * e)
    (hE : SE M Ts m mb cr cb cn cs ff ct lim span blk cnt ls) (hN : SN M ((L, l, o, c), r, us, t, w, ts, nt)) (hB : SB M Ts rb F m mb ff old 0 ((L, l, o, c), r, us, t, w, ts, nt)) :
    Wp (fX9_runOne (some 134) (iI lst) M) fun x N => Sm (WRo m mb) M N ∧
      (stK u F Ts ls cnt blk lim span cs ct (lst == 1) ((L, l, o, c), r, us, t, w, ts, nt) = none → (∃ y : Int, x = iI y ∧ 0 < y ∧ y < 100) ∧ NTd N ts nt ∧ ∀ i, i < 3 → mI N 31 (6 + i) = iI (r i : Nat)) ∧
      ∀ s', stK u F Ts ls cnt blk lim span cs ct (lst == 1) ((L, l, o, c), r, us, t, w, ts, nt) = some s' → x = iI 0 ∧ SN N s' ∧ (lst = 1 → BK N 140 rb F s'.1.1 0) ∧ (lst = 0 → SB N Ts rb F m mb ff old 0 s') ∧ mI N 134 18 = iI (s'.2.2.1 : Nat) ∧ RV N m mb 8000 (ff + s'.2.2.2.1) (frW old s'.2.2.2.2.1 ff) := by
  obtain ⟨hC, hT, hF, hLt⟩ := hE
  obtain ⟨n1, n2, n3⟩ := hN
  obtain ⟨b1, b2, b3, b4, b5, b6⟩ := hB
  dsimp only at n1 n2 n3 b1 b2 b3 b4 b5 b6
  have g0 := (hT 0 (by omega)).1
  have g1 := (hT 1 (by omega)).1
  have g2 := (hT 2 (by omega)).1
  obtain ⟨v1, v2, v3⟩ := sV_r (u := u) (F := F) (L := L) g1 b3.2
  have c1 : sC u F Ts L o c < 200000 := ex_r (u := u) (F := F) (L := sL1 Ts L o) (Or.inr rfl) g2 b4.2
  have c2 : sN u F Ts L l o c < 200000 := ex_r (u := u) (F := F) (L := sL2 Ts L o c) (Or.inl rfl) g0 b2.2
  obtain ⟨z1, z2, z3⟩ := sZ_le (Ts := Ts) L l o c
  refine dec_ok hC hT hb hrb hu he b1 b2 b3 b4 hlst fun N hS h1 h0 => ?_
  have hCN := hC.sm hS WDc_fx
  have hSR : Sm (WRo m mb) M N := hS.weak fun a j h => by unfold WRo; rcases h with h | h <;> simp [h]
  obtain ⟨z, hz⟩ : ∃ z, z = if (lst == 1) then sZ3 Ts L l o c else sZ6 Ts L l o c := ⟨_, rfl⟩
  have hz1 : z ≤ 1 := by rw [hz]; split <;> omega
  have hKN : mK N 140 = 0 ∧ mI N 140 3 = iI z := by
    by_cases q : lst = 1
    · subst q
      obtain ⟨k, -⟩ := h1 rfl
      rw [hz]
      exact ⟨k.1, k.2.2.2.2⟩
    · obtain rfl : lst = 0 := by omega
      obtain ⟨k, -⟩ := h0 rfl
      rw [hz]
      exact ⟨k.1, k.2.2.2.2⟩
  have := l52_ok (s := ((L, l, o, c), r, us, t, w, ts, nt)) (z := z) (v := sV u F Ts L o) (cp := sC u F Ts L o c) (n := sN u F Ts L l o c) (L := L) hm hmb hcr hcn hff hlim hspan hblk hcnt husc hus hold hw hct hls v2 v3 c1 c2 hts hz1 hCN (FR.ro hm hmb hcr hF hSR) (hLt.sm hS (by omega) (by omega) (by omega)) hKN ((hS.I 134 18 (by first | decide | omega)).trans b5) (b6.sm hS (by omega) (by omega) (by omega)) (fun i hi => ⟨(hS.I 139 i (by omega)).trans (n1 i hi).1, (n1 i hi).2⟩) ⟨(hS.I 31 4 (by first | decide | omega)).trans n2.1, fun i j q1 q2 q3 => (hS.I 32 _ (by omega)).trans (n2.2 i j q1 q2 q3)⟩ (fun i hi => (hS.I 31 _ (by omega)).trans (n3 i hi))
  refine w_mono this fun x P hP => ?_
  obtain ⟨p1, p2, p3⟩ := hP
  obtain ⟨k1, k2⟩ := stK_L (u := u) (F := F) (Ts := Ts) (ls := ls) (cnt := cnt) (blk := blk) (lim := lim) (span := span) (cs := cs) (ct := ct) (us := us) (t := t) (ts := ts) (r := r) (w := w) (nt := nt) hz
  refine ⟨hSR.tr (p1.weak fun a j h => by unfold WRo; rcases h with h | h | h | h | h <;> simp [h]), fun h => ?_, fun s' h => ?_⟩
  · by_cases q : L52O lim span blk cnt cs r z (sV u F Ts L o) (sC u F Ts L o c) (sN u F Ts L l o c) us t
    · rw [k2 q] at h; cases h
    · exact p2 q
  · by_cases q : L52O lim span blk cnt cs r z (sV u F Ts L o) (sC u F Ts L o c) (sN u F Ts L l o c) us t
    · rw [k2 q] at h
      obtain ⟨q1, q2, q3, q4, q5, q6⟩ := p3 q
      have hBK : ∀ {L' z' : Nat}, BK N 140 rb F L' z' → BK P 140 rb F L' z' := fun k => ⟨(p1.K _).trans k.1, (p1.R 140 0 (l52s_o hm hmb (Or.inr rfl))).trans k.2.1, (p1.I 140 1 (l52s_o hm hmb (Or.inr rfl))).trans k.2.2.1, (p1.I 140 2 (l52s_o hm hmb (Or.inr rfl))).trans k.2.2.2.1, (p1.I 140 3 (l52s_o hm hmb (Or.inr rfl))).trans k.2.2.2.2⟩
      have hz0 : z = 0 := q.1
      cases h
      refine ⟨q1, ⟨q4, q5, q6⟩, fun e1 => ?_, fun e0 => ?_, q2, q3⟩
      · subst e1
        obtain ⟨k, -⟩ := h1 rfl
        have hz' : sZ3 Ts L l o c = 0 := by rw [← hz0, hz]; rfl
        rw [hz'] at k
        exact hBK k
      · subst e0
        obtain ⟨k, i0, i1, i2⟩ := h0 rfl
        have hz' : sZ6 Ts L l o c = 0 := by rw [← hz0, hz]; rfl
        rw [hz'] at k
        obtain ⟨h0a, h0b, h0c⟩ := (hT 0 (by omega)).1.1.2 l b2.2
        obtain ⟨h1a, h1b, h1c⟩ := (hT 1 (by omega)).1.1.2 o b3.2
        obtain ⟨h2a, h2b, h2c⟩ := (hT 2 (by omega)).1.1.2 c b4.2
        have t0 := tkV_lt u F (sL3 Ts L l o c) ((Ts 0).2.2.1 l)
        have t1 := tkV_lt u F (sL5 Ts L l o c) ((Ts 1).2.2.1 o)
        have t2 := tkV_lt u F (sL4 Ts L l o c) ((Ts 2).2.2.1 c)
        exact ⟨hBK k, ⟨(p1.I 138 0 (l52s_o hm hmb (Or.inl rfl))).trans i0, by show goK u F Ts 0 l _ < _; unfold goK; omega⟩, ⟨(p1.I 138 1 (l52s_o hm hmb (Or.inl rfl))).trans i1, by show goK u F Ts 1 o _ < _; unfold goK; omega⟩, ⟨(p1.I 138 2 (l52s_o hm hmb (Or.inl rfl))).trans i2, by show goK u F Ts 2 c _ < _; unfold goK; omega⟩, q2, q3⟩
    · rw [k1 q] at h; cases h
end RUN2
