/-! the places from which a state comes; SEQUENCES as bits -/
def ffP (P : Nat → Bool) : Nat → Nat → Nat
  | 0, q => q
  | d + 1, q => if P q = true then q else ffP P d (q + 1)
def plF (T : Tb) (s : Nat) : Nat := ffP (fun q => decide (T.2.1 q = s)) (2 ^ T.1) 0
def plB (T : Tb) (s nx : Nat) : Nat := ffP (fun q => decide (T.2.1 q = s ∧ T.2.2.2 q ≤ nx ∧ nx < T.2.2.2 q + 2 ^ T.2.2.1 q)) (2 ^ T.1) 0
abbrev TCv (T : Tb) (s : Nat) : Prop := ∀ nx, nx < 2 ^ T.1 → ∃ q, q < 2 ^ T.1 ∧ T.2.1 q = s ∧ T.2.2.2 q ≤ nx ∧ nx < T.2.2.2 q + 2 ^ T.2.2.1 q
def lsy (x : Nat) : Nat := sOf lbK x 36
def csy (x : Nat) : Nat := sOf cbK x 53
def syQ (cn cp vl : Nat → Nat) (k i : Nat) : Nat := if k = 0 then lsy (cn i) else if k = 1 then Nat.log2 (vl i) else csy (cp i)
/-- the state d before the last -/
def qS (T : Tb) (s : Nat → Nat) (m : Nat) : Nat → Nat
  | 0 => plF T (s (m - 1))
  | d + 1 => plB T (s (m - 1 - (d + 1))) (qS T s m d)
def qGo (T : Tb) (s : Nat → Nat) (m d : Nat) (x : Nat × Nat) : Nat × Nat := bAp x (qS T s m d - T.2.2.2 (qS T s m (d + 1))) (T.2.2.1 (qS T s m (d + 1)))
def qE (cn cp vl : Nat → Nat) (i : Nat) (x : Nat × Nat) : Nat × Nat := bAp (bAp (bAp x (cn i - lbK (lsy (cn i))) (lxK (lsy (cn i)))) (cp i - cbK (csy (cp i))) (cxK (csy (cp i)))) (vl i) (Nat.log2 (vl i))
def qG3 (Ts : Nat → Tb) (cn cp vl : Nat → Nat) (m d : Nat) (x : Nat × Nat) : Nat × Nat := qGo (Ts 0) (syQ cn cp vl 0) m d (qGo (Ts 2) (syQ cn cp vl 2) m d (qGo (Ts 1) (syQ cn cp vl 1) m d x))
def qB (Ts : Nat → Tb) (cn cp vl : Nat → Nat) (m : Nat) : Nat → Nat × Nat
  | 0 => (0, 0)
  | d + 1 => qE cn cp vl (m - 1 - d) (if d = 0 then (0, 0) else qG3 Ts cn cp vl m (d - 1) (qB Ts cn cp vl m d))
def qF (Ts : Nat → Tb) (cn cp vl : Nat → Nat) (m : Nat) : Nat × Nat := bAp (bAp (bAp (qB Ts cn cp vl m m) (qS (Ts 2) (syQ cn cp vl 2) m (m - 1)) (Ts 2).1) (qS (Ts 1) (syQ cn cp vl 1) m (m - 1)) (Ts 1).1) (qS (Ts 0) (syQ cn cp vl 0) m (m - 1)) (Ts 0).1
abbrev QR (m : Nat) (cn cp vl : Nat → Nat) : Prop := m ≤ 512 ∧ ∀ i, i < m → cn i ≤ 2048 ∧ 4 ≤ cp i ∧ cp i ≤ 2048 ∧ 1 ≤ vl i ∧ vl i ≤ 10000
section COVER
variable {l S s nx m d n Y : Nat} {c : Nat → Int} {T : Tb} {cn cp vl : Nat → Nat}
theorem ffP_sp {P : Nat → Bool} : ∀ {d q}, (∃ i, q ≤ i ∧ i < q + d ∧ P i = true) → q ≤ ffP P d q ∧ ffP P d q < q + d ∧ P (ffP P d q) = true ∧ ∀ i, q ≤ i → i < ffP P d q → P i = false := by
  intro d
  induction d with
  | zero =>
    rintro q ⟨i, h1, h2, h3⟩
    omega
  | succ d ih =>
    rintro q ⟨i, h1, h2, h3⟩
    rw [ffP]
    by_cases e : P q = true
    · rw [if_pos e]
      exact ⟨Nat.le_refl _, by omega, e, fun j a b => by omega⟩
    · rw [if_neg e]
      have hne : i ≠ q := fun w => e (by rw [← w]; exact h3)
      obtain ⟨a1, a2, a3, a4⟩ := ih (q := q + 1) ⟨i, by omega, by omega, h3⟩
      refine ⟨by omega, by omega, a3, fun j b1 b2 => ?_⟩
      by_cases ej : j = q
      · rw [ej]
        exact Bool.eq_false_iff.mpr e
      · exact a4 j (by omega) b2
theorem plF_sp (h : TCv T s) : plF T s < 2 ^ T.1 ∧ T.2.1 (plF T s) = s ∧ ∀ i, i < plF T s → T.2.1 i ≠ s := by
  obtain ⟨q, h1, h2, h3, h4⟩ := h 0 (two_pos T.1)
  obtain ⟨a1, a2, a3, a4⟩ := ffP_sp (P := fun q => decide (T.2.1 q = s)) (d := 2 ^ T.1) (q := 0) ⟨q, Nat.zero_le _, by omega, decide_eq_true h2⟩
  refine ⟨?_, of_decide_eq_true a3, fun i hi => of_decide_eq_false (a4 i (Nat.zero_le _) hi)⟩
  rw [Nat.zero_add] at a2
  exact a2
theorem plB_sp (h : TCv T s) (hx : nx < 2 ^ T.1) : plB T s nx < 2 ^ T.1 ∧ T.2.1 (plB T s nx) = s ∧ T.2.2.2 (plB T s nx) ≤ nx ∧ nx < T.2.2.2 (plB T s nx) + 2 ^ T.2.2.1 (plB T s nx) ∧ ∀ i, i < plB T s nx → ¬ (T.2.1 i = s ∧ T.2.2.2 i ≤ nx ∧ nx < T.2.2.2 i + 2 ^ T.2.2.1 i) := by
  obtain ⟨q, h1, h2, h3, h4⟩ := h nx hx
  obtain ⟨a1, a2, a3, a4⟩ := ffP_sp (P := fun q => decide (T.2.1 q = s ∧ T.2.2.2 q ≤ nx ∧ nx < T.2.2.2 q + 2 ^ T.2.2.1 q)) (d := 2 ^ T.1) (q := 0) ⟨q, Nat.zero_le _, by omega, decide_eq_true ⟨h2, h3, h4⟩⟩
  have a5 := of_decide_eq_true a3
  rw [Nat.zero_add] at a2
  exact ⟨a2, a5.1, a5.2.1, a5.2.2, fun i hi => of_decide_eq_false (a4 i (Nat.zero_le _) hi)⟩
theorem cnt_at {P : Nat → Bool} {k : Nat} : ∀ {n}, k < cnt P n → ∃ q, q < n ∧ P q = true ∧ cnt P q = k := by
  intro n
  induction n with
  | zero =>
    intro h
    rw [cnt] at h
    omega
  | succ n ih =>
    intro h
    by_cases e : k < cnt P n
    · obtain ⟨q, a1, a2, a3⟩ := ih e
      exact ⟨q, by omega, a2, a3⟩
    · rw [cnt] at h
      by_cases p : P n = true
      · rw [if_pos p] at h
        exact ⟨n, by omega, p, by omega⟩
      · rw [if_neg p] at h
        omega
theorem ex_b (h0 : n ≤ Y) : ∀ {k}, Y < n * 2 ^ k → ∃ b, b < k ∧ n * 2 ^ b ≤ Y ∧ Y < n * 2 ^ (b + 1) := by
  intro k
  induction k with
  | zero =>
    intro h
    rw [Nat.pow_zero, Nat.mul_one] at h
    omega
  | succ k ih =>
    intro h
    by_cases e : Y < n * 2 ^ k
    · obtain ⟨b, a1, a2, a3⟩ := ih e
      exact ⟨b, by omega, a2, a3⟩
    · exact ⟨k, by omega, by omega, h⟩
/-- each state comes from one place of each symbol -/
theorem tb_cov (h : CO l S c) (hs : s < S) (hc : c s ≠ 0) : TCv (tbOf l S c) s := by
  intro nx hx
  have hx : nx < 2 ^ l := hx
  obtain ⟨n, hn⟩ : ∃ n, (c s).natAbs = n := ⟨_, rfl⟩
  have hoc := oc_n h hs
  have hle : oc l S c s (2 ^ l) ≤ 2 ^ l := cnt_le _ _
  rw [hn] at hoc
  have hn0 : 0 < n := by omega
  have h2l : 2 ^ (l + 1) = 2 ^ l * 2 := Nat.pow_succ 2 l
  have hbig : nx + 2 ^ l < n * 2 ^ (l + 1) := by
    have : 1 * 2 ^ (l + 1) ≤ n * 2 ^ (l + 1) := Nat.mul_le_mul_right _ hn0
    omega
  obtain ⟨b, hbl, hb1, hb2⟩ := ex_b (n := n) (Y := nx + 2 ^ l) (by omega) hbig
  have e2 : n * 2 ^ (b + 1) = 2 * n * 2 ^ b := by rw [Nat.pow_succ, Nat.mul_comm (2 ^ b) 2, ← Nat.mul_assoc, Nat.mul_comm n 2]
  rw [e2] at hb2
  have hpb := two_pos b
  obtain ⟨X, hX⟩ : ∃ X, (nx + 2 ^ l) / 2 ^ b = X := ⟨_, rfl⟩
  have hX1 : n ≤ X := by rw [← hX]; exact (Nat.le_div_iff_mul_le hpb).2 hb1
  have hX2 : X < 2 * n := by rw [← hX]; exact (Nat.div_lt_iff_lt_mul hpb).2 hb2
  have hsp : 2 ^ l = 2 ^ (l - b) * 2 ^ b := by rw [← Nat.pow_add, Nat.sub_add_cancel (by omega)]
  have hX3 : 2 ^ (l - b) ≤ X := by rw [← hX]; exact (Nat.le_div_iff_mul_le hpb).2 (by omega)
  have hX4 : X < 2 ^ (l - b + 1) := by
    rw [← hX]
    refine (Nat.div_lt_iff_lt_mul hpb).2 ?_
    rw [Nat.pow_succ, Nat.mul_assoc, Nat.mul_comm 2, ← Nat.mul_assoc, ← hsp]
    omega
  have hlog := log2_of hX3 hX4
  have hdm := Nat.div_add_mod (nx + 2 ^ l) (2 ^ b)
  have hml := Nat.mod_lt (nx + 2 ^ l) hpb
  rw [hX, Nat.mul_comm] at hdm
  obtain ⟨q, q1, q2, q3⟩ := cnt_at (P := fun q => decide (sy l S c q = s)) (k := X - n) (n := 2 ^ l) (by
    have : cnt (fun q => decide (sy l S c q = s)) (2 ^ l) = n := hoc
    omega)
  have q2 : sy l S c q = s := of_decide_eq_true q2
  have exx : xx l S c q = X := by
    have q3 : oc l S c s q = X - n := q3
    unfold xx
    rw [q2, q3, hn]
    omega
  have ebb : bb l S c q = b := by
    unfold bb
    rw [exx, hlog]
    omega
  have eba : ba l S c q = X * 2 ^ b - 2 ^ l := by
    unfold ba
    rw [exx, ebb]
  refine ⟨q, q1, q2, ?_, ?_⟩
  · show ba l S c q ≤ nx
    rw [eba]
    omega
  · show nx < ba l S c q + 2 ^ bb l S c q
    rw [eba, ebb]
    omega
theorem aln_cov : TCv (aln s) s := by
  intro nx hx
  have hx : nx < 2 ^ 0 := hx
  rw [Nat.pow_zero] at hx
  refine ⟨0, by show 0 < 2 ^ 0; omega, rfl, Nat.zero_le _, ?_⟩
  show nx < 0 + 2 ^ 0
  omega
theorem dc_nz : ∀ k, k < 3 → ∀ s, s < 53 → s < dSK k → dcK k s ≠ 0 := by decide +kernel
theorem dft_cov {k : Nat} (hk : k < 3) (hs : s < dSK k) : TCv (dft k) s := by
  have h53 : dSK k ≤ 53 := by
    unfold dSK
    split <;> (try split) <;> omega
  exact tb_cov (dft_CO hk) hs (dc_nz k hk s (by omega) hs)
theorem lb_m : ∀ i, i < 36 → ∀ j, j < 36 → i ≤ j → lbK i ≤ lbK j := by decide +kernel
theorem cb_m : ∀ i, i < 53 → ∀ j, j < 53 → i ≤ j → cbK i ≤ cbK j := by decide +kernel
theorem sOf_dn {f : Nat → Nat} {x : Nat} (h0 : f 0 ≤ x) : ∀ {S}, 0 < S → f (sOf f x S) ≤ x ∧ sOf f x S < S := by
  intro S
  induction S with
  | zero => intro h; omega
  | succ S ih =>
    intro _
    rw [sOf]
    by_cases e : f S ≤ x
    · rw [if_pos e]
      exact ⟨e, by omega⟩
    · rw [if_neg e]
      by_cases z : S = 0
      · rw [z] at e
        exact absurd h0 e
      · have := ih (by omega)
        exact ⟨this.1, by omega⟩
theorem sOf_eqB {f : Nat → Nat} {x s : Nat} (h1 : f s ≤ x) : ∀ {S}, s < S → (∀ i, s < i → i < S → x < f i) → sOf f x S = s := by
  intro S
  induction S with
  | zero => intro h; omega
  | succ S ih =>
    intro h hm
    rw [sOf]
    by_cases e : s = S
    · rw [← e, if_pos h1]
    · have := hm S (by omega) (by omega)
      rw [if_neg (by omega)]
      exact ih (by omega) fun i a b => hm i a (by omega)
theorem lsy_r (x : Nat) : lbK (lsy x) ≤ x ∧ lsy x < 36 := sOf_dn (Nat.zero_le _) (by omega)
theorem csy_r {x : Nat} (h : 4 ≤ x) : cbK (csy x) ≤ x ∧ csy x < 53 := sOf_dn (by show 3 ≤ x; omega) (by omega)
theorem vlog_r {x : Nat} (h : 1 ≤ x) (h2 : x ≤ 10000) : Nat.log2 x ≤ 13 ∧ 2 ^ Nat.log2 x ≤ x ∧ x < 2 ^ (Nat.log2 x + 1) := by
  have h3 := log2_l (a := x) (by omega)
  refine ⟨?_, h3, log2_u x⟩
  have : 2 ^ Nat.log2 x < 2 ^ 14 := by
    have e : (2 : Nat) ^ 14 = 16384 := by decide
    omega
  have := pow_lt2 this
  omega
theorem syQ_r (hR : QR m cn cp vl) {k i : Nat} (hk : k < 3) (hi : i < m) : syQ cn cp vl k i < dSK k ∧ syQ cn cp vl k i ≤ grK k ∧ syQ cn cp vl k i < 53 := by
  obtain ⟨r1, r2, r3, r4, r5⟩ := hR.2 i hi
  have a1 := lsy_r (cn i)
  have a2 := csy_r r2
  have a3 := vlog_r r4 r5
  have : k = 0 ∨ k = 1 ∨ k = 2 := by omega
  rcases this with rfl | rfl | rfl
  · show lsy (cn i) < 36 ∧ lsy (cn i) ≤ 35 ∧ lsy (cn i) < 53
    omega
  · show Nat.log2 (vl i) < 29 ∧ Nat.log2 (vl i) ≤ 31 ∧ Nat.log2 (vl i) < 53
    omega
  · show csy (cp i) < 53 ∧ csy (cp i) ≤ 52 ∧ csy (cp i) < 53
    omega
theorem qS_r {s : Nat → Nat} (h : ∀ i, i < m → TCv T (s i)) (hm : 0 < m) : ∀ {d}, qS T s m d < 2 ^ T.1 := by
  intro d
  induction d with
  | zero =>
    rw [qS]
    exact (plF_sp (h (m - 1) (by omega))).1
  | succ d ih =>
    rw [qS]
    exact (plB_sp (h (m - 1 - (d + 1)) (by omega)) ih).1
theorem qS_b {s : Nat → Nat} (h : ∀ i, i < m → TCv T (s i)) (hm : 0 < m) : T.2.1 (qS T s m (d + 1)) = s (m - 1 - (d + 1)) ∧ T.2.2.2 (qS T s m (d + 1)) ≤ qS T s m d ∧ qS T s m d < T.2.2.2 (qS T s m (d + 1)) + 2 ^ T.2.2.1 (qS T s m (d + 1)) := by
  rw [qS]
  obtain ⟨a1, a2, a3, a4, a5⟩ := plB_sp (h (m - 1 - (d + 1)) (by omega)) (qS_r h hm (d := d))
  exact ⟨a2, a3, a4⟩
theorem bAp_Y {E a : Nat} {x : Nat × Nat} : Y * 2 ^ (bAp x a m).2 + (bAp x a m).1 = (Y * 2 ^ m + a % 2 ^ m) * 2 ^ x.2 + x.1 := by
  unfold bAp
  show Y * 2 ^ (x.2 + m) + (x.1 + a % 2 ^ m * 2 ^ x.2) = _
  rw [Nat.add_mul, Nat.mul_assoc Y, ← Nat.pow_add, Nat.add_comm x.2 m]
  omega
theorem sub_pw {x k : Nat} (h1 : 2 ^ k ≤ x) : (x - 2 ^ k) % 2 ^ k = x % 2 ^ k := (Nat.mod_eq_sub_mod h1).symm
theorem lx_16 : ∀ s, s < 36 → lxK s ≤ 16 := fun s h => (lb_r s h).2
theorem qE_D (hR : QR m cn cp vl) {i : Nat} (hi : i < m) (x : Nat × Nat) : (qE cn cp vl i x).2 ≤ x.2 + 45 := by
  obtain ⟨r1, r2, r3, r4, r5⟩ := hR.2 i hi
  have a1 := (lb_r _ (lsy_r (cn i)).2).2
  have a2 := (cb_r _ (csy_r r2).2).2
  have a3 := (vlog_r r4 r5).1
  unfold qE
  show x.2 + lxK (lsy (cn i)) + cxK (csy (cp i)) + Nat.log2 (vl i) ≤ _
  omega
theorem qG3_D {Ts : Nat → Tb} (hT : ∀ k, k < 3 → TbR (Ts k) ∧ ∀ i, i < m → TCv (Ts k) (syQ cn cp vl k i)) (hm : 0 < m) (x : Nat × Nat) : (qG3 Ts cn cp vl m d x).2 ≤ x.2 + 27 := by
  have g : ∀ k, k < 3 → (Ts k).2.2.1 (qS (Ts k) (syQ cn cp vl k) m (d + 1)) ≤ 9 := fun k hk => ((hT k hk).1.2 _ (qS_r (hT k hk).2 hm)).2.1
  have g0 := g 0 (by omega)
  have g1 := g 1 (by omega)
  have g2 := g 2 (by omega)
  unfold qG3 qGo
  show x.2 + (Ts 1).2.2.1 (qS (Ts 1) (syQ cn cp vl 1) m (d + 1)) + (Ts 2).2.2.1 (qS (Ts 2) (syQ cn cp vl 2) m (d + 1)) + (Ts 0).2.2.1 (qS (Ts 0) (syQ cn cp vl 0) m (d + 1)) ≤ _
  omega
theorem qB_D {Ts : Nat → Tb} (hR : QR m cn cp vl) (hT : ∀ k, k < 3 → TbR (Ts k) ∧ ∀ i, i < m → TCv (Ts k) (syQ cn cp vl k i)) : ∀ {d}, d ≤ m → (qB Ts cn cp vl m d).2 ≤ 72 * d := by
  intro d
  induction d with
  | zero =>
    intro _
    rw [qB]
    exact Nat.zero_le _
  | succ d ih =>
    intro hd
    have ih := ih (by omega)
    rw [qB]
    refine Nat.le_trans (qE_D hR (by omega) _) ?_
    by_cases e : d = 0
    · rw [if_pos e]
      show 0 + 45 ≤ _
      omega
    · rw [if_neg e]
      have := qG3_D (d := d - 1) hT (by omega) (qB Ts cn cp vl m d)
      omega
end COVER
