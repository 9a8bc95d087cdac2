/-! the head of a FRAME: as numbers, and the class's pieces -/
abbrev Dc : Type := Option (Cd × (Nat → Tb)) × (Nat → Nat) × Nat × Nat × (Nat → Nat)
def r0 (i : Nat) : Nat := if i = 0 then 1 else if i = 1 then 4 else 8
def spB (b : Nat) : Nat := 2 ^ (10 + b / 8) + b % 8 * (2 ^ (10 + b / 8) / 8)
/-- bytes of the number, of the SIZE -/
def nbB (k : Nat) : Nat := if k % 4 = 3 then 4 else k % 4
def szN (k : Nat) : Nat := if k / 64 = 0 then (if k / 32 % 2 = 0 then 0 else 1) else 2 ^ (k / 64)
def szV (u : Nat → Nat) (k p : Nat) : Nat := num u p (szN k) + if k / 64 = 1 then 256 else 0
/-- where the number begins; where the SIZE begins -/
def p1B (k a : Nat) : Nat := if k / 32 % 2 = 0 then a + 2 else a + 1
def p2B (k a : Nat) : Nat := p1B k a + nbB k
abbrev ftB (dk : Option Dc) (v : Nat) : Prop := ∃ D, dk = some D ∧ D.2.2.1 = v
/-- a head at a is good: span it tells -/
def hdS (u : Nat → Nat) (a : Nat) : Nat := if u a / 32 % 2 = 0 then spB (u (a + 1)) else szV u (u a) (p2B (u a) a)
abbrev hdG (u : Nat → Nat) (n most : Nat) (dk : Option Dc) (a : Nat) : Prop := a < n ∧ u a / 8 % 2 = 0 ∧ (u a / 32 % 2 = 0 → a + 2 ≤ n ∧ spB (u (a + 1)) ≤ most) ∧ p2B (u a) a ≤ n ∧ (num u (p1B (u a) a) (nbB (u a)) = 0 ∨ ftB dk (num u (p1B (u a) a) (nbB (u a)))) ∧ p2B (u a) a + szN (u a) ≤ n ∧ (u a / 32 % 2 ≠ 0 → szV u (u a) (p2B (u a) a) ≤ most)
def bgR (D : Option Dc) : Nat → Nat := match D with | none => r0 | some D => D.2.1
def bgC (D : Option Dc) : Option Cd := match D with | none => none | some D => D.1.map fun q => q.1
def bgT (D : Option Dc) (k : Nat) : Option Tb := match D with | none => none | some D => D.1.map fun q => q.2 k
def bgN (D : Option Dc) : Nat := match D with | none => 0 | some D => D.2.2.2.1
def bgW (D : Option Dc) : Nat → Nat := match D with | none => fun _ => 0 | some D => D.2.2.2.2
def bgX (u : Nat → Nat) (a : Nat) (D : Option Dc) (x : Tl) : Tl := (bgC D, bgT D, up (up (up x.2.2.1 0 (x.2.2.1 0 + 1)) 9 ((hdS u a % 2147483648 : Nat) : Int)) 10 (if szN (u a) = 0 then -1 else ((szV u (u a) (p2B (u a) a) % 2147483648 : Nat) : Int)), bgR D, x.2.2.2.2)
def ftD (dk : Option Dc) (v : Nat) : Option Dc := match dk with | none => none | some D => if D.2.2.1 = v then some D else none
theorem spB_lt {b : Nat} (hb : b < 256) : spB b < 4398046511104 ∧ 2 ^ (10 + b / 8) < 4398046511104 := by
  have h1 : 2 ^ (10 + b / 8) ≤ 2 ^ 41 := pow_le2 (by omega)
  have h2 : b % 8 * (2 ^ (10 + b / 8) / 8) ≤ 7 * (2 ^ 41 / 8) := Nat.mul_le_mul (by omega) (Nat.div_le_div_right h1)
  unfold spB
  omega
theorem dvL_i {a b : Int} (ha : 0 ≤ a ∧ a < 9223372036854775808) (hb : 0 < b ∧ b < 9223372036854775808) : dvL (iJ a) (iJ b) = some (iJ (a / b)) := by
  have h1 : a / b ≤ a := Int.ediv_le_self _ ha.1
  have h2 : 0 ≤ a / b := Int.ediv_nonneg ha.1 (by omega)
  have ez : (0 : Int64) = iJ 0 := iJ_lit 0
  rw [dvL, if_neg (by rw [ez, iJ_eq (by omega) (by omega)]; omega)]
  refine congrArg some ?_
  apply Int64.toInt_inj.mp
  rw [Int64.toInt_div_of_ne_right _ _ (by
    intro h
    have := congrArg Int64.toInt h
    rw [iJ_toInt (by omega)] at this
    simp at this
    omega), iJ_toInt (by omega), iJ_toInt (by omega), iJ_toInt (by omega), Int.tdiv_eq_ediv_of_nonneg ha.1]
theorem cmp0 (x y : Int64) : (lg_cmp x y = iI 0) = (x = y) := by
  have hx := iJ_of x
  have hy := iJ_of y
  have bx : -9223372036854775808 ≤ x.toInt ∧ x.toInt < 9223372036854775808 := ⟨Int64.le_toInt x, Int64.toInt_lt x⟩
  have b_y : -9223372036854775808 ≤ y.toInt ∧ y.toInt < 9223372036854775808 := ⟨Int64.le_toInt y, Int64.toInt_lt y⟩
  rw [hx, hy, cmp_eq bx b_y, iJ_eq bx b_y]
  by_cases h1 : y.toInt < x.toInt
  · rw [if_pos h1, iI_eq (by omega) (by omega)]
    exact propext ⟨fun h => by omega, fun h => by omega⟩
  · rw [if_neg h1]
    by_cases h2 : x.toInt = y.toInt
    · rw [if_pos h2]
      exact propext ⟨fun _ => h2, fun _ => rfl⟩
    · rw [if_neg h2, iI_eq (by omega) (by omega)]
      exact propext ⟨fun h => by omega, fun h => by omega⟩
theorem iI_n32 {a b : Nat} (ha : a < 4294967296) (hb : b < 4294967296) : (iI (a : Int) = iI b) = (a = b) := by
  refine propext ⟨fun h => ?_, fun h => by rw [h]⟩
  have := congrArg (fun z : Int32 => z.toBitVec.toNat) h
  simp only [iI_tn] at this
  omega
theorem iJ_n64 {a b : Nat} (ha : a < 18446744073709551616) (hb : b < 18446744073709551616) : (iJ (a : Int) = iJ b) = (a = b) := by
  refine propext ⟨fun h => ?_, fun h => by rw [h]⟩
  have := congrArg (fun z : Int64 => z.toBitVec.toNat) h
  simp only [iJ_tn] at this
  omega
/-- a number of eight bytes, with its sign -/
def sg (v : Nat) : Int := if v < 9223372036854775808 then (v : Int) else (v : Int) - 18446744073709551616
theorem iJ_sg {v : Nat} (h : v < 18446744073709551616) : iJ (v : Int) = iJ (sg v) ∧ -9223372036854775808 ≤ sg v ∧ sg v < 9223372036854775808 := by
  unfold sg
  split
  · exact ⟨rfl, by omega, by omega⟩
  · refine ⟨?_, by omega, by omega⟩
    apply iJ_ext
    omega
theorem szN_r (k : Nat) (hk : k < 256) : szN k ≤ 8 := by
  have : k / 64 = 0 ∨ k / 64 = 1 ∨ k / 64 = 2 ∨ k / 64 = 3 := by omega
  unfold szN
  rcases this with h | h | h | h <;> rw [h]
  · split <;> (try split) <;> omega
  · rw [if_neg (by omega)]; decide
  · rw [if_neg (by omega)]; decide
  · rw [if_neg (by omega)]; decide
theorem szV_lt {u : Nat → Nat} (hu : ∀ i, u i < 256) {k p : Nat} (hk : k < 256) : szV u k p < 18446744073709551616 := by
  have h1 := num_lt hu (szN k) p
  have h2 := szN_r k hk
  unfold szV
  by_cases c : k / 64 = 1
  · have : szN k = 2 := by unfold szN; rw [c]; rfl
    rw [this] at h1
    rw [if_pos c, this]
    have h1 : num u p 2 < 65536 := h1
    omega
  · rw [if_neg c]
    have : 256 ^ szN k ≤ 256 ^ 8 := Nat.pow_le_pow_right (by omega) h2
    have h3 : (256 : Nat) ^ 8 = 18446744073709551616 := by decide
    omega
theorem nbB_r (k : Nat) : nbB k ≤ 4 := by unfold nbB; split <;> omega
theorem nb_lt {u : Nat → Nat} (hu : ∀ i, u i < 256) {k p : Nat} : num u p (nbB k) < 4294967296 := by
  have h1 := num_lt hu (nbB k) p
  have : 256 ^ nbB k ≤ 256 ^ 4 := Nat.pow_le_pow_right (by omega) (nbB_r k)
  have h3 : (256 : Nat) ^ 4 = 4294967296 := by decide
  omega
section CHEAD
variable {M N : Mem} {r rb e m mb d a most : Nat} {u : Nat → Nat} {x : Tl} {D : Dc} {dk : Option (Nat × Dc)}
/-- what a FRAME's head may change -/
def WFr (m mb a j : Nat) : Prop := WOp m mb a j ∧ (a = 122 → j = 6 ∨ 8 ≤ j)
abbrev DV (M : Mem) (d : Nat) (D : Dc) : Prop := (d = 34 ∨ d = 58 ∨ d = 82) ∧ mI M d 0 = iI (D.2.2.1 : Nat) ∧ D.2.2.1 < 4294967296 ∧ mI M d 1 = iI (if D.1.isSome then 1 else 0) ∧ (∀ q, D.1 = some q → CdR q.1 ∧ CdV M (d + 3) q.1 ∧ ∀ k, k < 3 → TG k (q.2 k) ∧ TbV M (d + 9 + 5 * k) (q.2 k)) ∧ (∀ i, i < 3 → mI M (d + 1) i = iI (D.2.1 i : Nat) ∧ 1 ≤ D.2.1 i ∧ D.2.1 i < 1000000000) ∧ RV M (d + 7) (d + 8) 3000 D.2.2.2.1 D.2.2.2.2 ∧ D.2.2.2.1 ≤ 3000 ∧ ∀ i, D.2.2.2.2 i < 256
abbrev KD (M : Mem) (dk : Option (Nat × Dc)) : Prop := match dk with
  | none => mR M 122 5 = none
  | some q => mR M 122 5 = some q.1 ∧ DV M q.1 q.2
abbrev OB (M : Mem) (r rb e : Nat) (u : Nat → Nat) (m mb most : Nat) : Prop := CSt M ∧ DfV M ∧ RS M r rb 8000 ∧ BV M rb 8000 e u ∧ mR M 122 3 = some r ∧ mR M 122 4 = some m ∧ mI M r 1 = iI e ∧ mI M 142 1 = iI 0 ∧ mJ M 122 7 = iJ most
abbrev OX (r rb m mb e most : Nat) : Prop := (m = 12 ∨ m = 14 ∨ m = 16) ∧ mb = m + 1 ∧ (r = 12 ∨ r = 14 ∨ r = 16) ∧ rb = r + 1 ∧ r ≠ m ∧ e ≤ 8000 ∧ most < 9223372036854775808
theorem DV.sm {S : Nat → Nat → Prop} (h : DV M d D) (s : Sm S M N) (hs : ∀ a j, S a j → a < 33 ∨ 106 ≤ a) : DV N d D := by
  obtain ⟨h0, h1, h2, h3, h4, h5, h6, h7, h8⟩ := h
  have n : ∀ {a j}, 33 ≤ a → a < 106 → ¬ S a j := fun {a j} p q z => by have := hs a j z; omega
  refine ⟨h0, (s.I _ _ (n (by omega) (by omega))).trans h1, h2, (s.I _ _ (n (by omega) (by omega))).trans h3, fun q hq => ?_, fun i hi => ⟨(s.I _ _ (n (by omega) (by omega))).trans (h5 i hi).1, (h5 i hi).2⟩, h6.sm s (n (by omega) (by omega)) (n (by omega) (by omega)) (fun j => n (by omega) (by omega)), h7, h8⟩
  obtain ⟨a1, a2, a3⟩ := h4 q hq
  exact ⟨a1, a2.sm s (n (by omega) (by omega)) (fun j => n (by omega) (by omega)) (fun j => n (by omega) (by omega)), fun k hk => ⟨(a3 k hk).1, (a3 k hk).2.sm s (n (by omega) (by omega)) fun j => n (by omega) (by omega)⟩⟩
theorem KD.sm {S : Nat → Nat → Prop} (h : KD M dk) (s : Sm S M N) (hs : ∀ a j, S a j → a < 33 ∨ 106 ≤ a) (h5 : ¬ S 122 5) : KD N dk := by
  cases dk with
  | none => exact (s.R _ _ h5).trans h
  | some q => exact ⟨(s.R _ _ h5).trans h.1, h.2.sm s hs⟩
theorem WOp_d {a j : Nat} (hm : m = 12 ∨ m = 14 ∨ m = 16) (hb : mb = m + 1) (h : WOp m mb a j) : a < 33 ∨ 106 ≤ a := by
  unfold WOp Rw at h
  rcases h with h | ⟨-, h⟩ <;> omega
theorem OB.sm {S : Nat → Nat → Prop} (hX : OX r rb m mb e most) (h : OB M r rb e u m mb most) (s : Sm S M N) (hs : ∀ a j, S a j → WFr m mb a j) : OB N r rb e u m mb most := by
  obtain ⟨hC, hD, hr, hb, g3, g4, g5, g6, g7⟩ := h
  obtain ⟨a1, a2, a3, a4, a5, a6, a7⟩ := hX
  have s := s.weak hs
  refine ⟨hC.sm s fun a j h => WOp_fx a1 a2 a j h.1, hD.sm s fun k j hk => ⟨?_, ?_⟩, hr.sm s ?_, hb.sm s ?_, (s.R _ _ ?_).trans g3, (s.R _ _ ?_).trans g4, (s.I _ _ ?_).trans g5, (s.I _ _ ?_).trans g6, (s.J _ _ ?_).trans g7⟩
  · unfold WFr WOp Rw; omega
  · unfold WFr WOp Rw; omega
  · unfold WFr WOp Rw; omega
  · unfold WFr WOp Rw; omega
  · unfold WFr; omega
  · unfold WFr; omega
  · unfold WFr WOp Rw; omega
  · unfold WFr WOp Rw; omega
  · unfold WFr; omega
theorem fr_i {a j : Nat} (h : ¬ fx a j) (h2 : (18 ≤ a ∧ a ≤ 32) ∨ (122 ≤ a ∧ a ≤ 141) ∨ (144 ≤ a ∧ a ≤ 158)) (h3 : a = 122 → j = 6 ∨ 8 ≤ j) : WFr m mb a j := ⟨Or.inr ⟨h, h2⟩, h3⟩
theorem fr_122 {j : Nat} (h : j = 6 ∨ 8 ≤ j) : WFr m mb 122 j := fr_i (fx_of 122 0 0 2 rfl rfl rfl (by omega)) (by omega) (by omega)
theorem fr_30 {j : Nat} (h : j ≤ 1) : WFr m mb 30 j := fr_i (fx_of 30 0 2 3 rfl rfl rfl (by omega)) (by omega) (by omega)
theorem fr_31 {j : Nat} : WFr m mb 31 j := fr_i (fx_of 31 0 1 0 rfl rfl rfl (by omega)) (by omega) (by omega)
abbrev W12 (a j : Nat) : Prop := (a = 122 ∧ (j = 6 ∨ 8 ≤ j)) ∨ (a = 30 ∧ j ≤ 1)
theorem w12_fr {a j : Nat} (h : W12 a j) : WFr m mb a j := by
  rcases h with ⟨rfl, h⟩ | ⟨rfl, h⟩
  · exact fr_122 h
  · exact fr_30 h
theorem numB {f k : Nat} (hb : BV M rb 8000 e u) (hr : RS M r rb 8000) (hu : ∀ i, u i < 256) (hk : k ≤ 8) (h : f + k ≤ e) (hf : f < 1000000) : fX8_number (some r) (iI f) (iI k) M = some (iJ (num u f k : Nat), M) := numC hb hr hu hk h hf
theorem getB {f : Nat} (hb : BV M rb 8000 e u) (hr : RS M r rb 8000) (hu : ∀ i, u i < 256) (h : f < e) (he : e ≤ 8000) : fX8_get (some r) (iI f) M = some (iI (u f), M) := by
  have := get_ok hr (f : Int) (by omega) (by omega)
  rwa [gB_u (hb.rd (i := (f : Int)) (j := f) rfl h) (hu _) (by omega)] at this
set_option maxHeartbeats 1000000 in
/-- readSpan -/
theorem rspan_ok (hX : OX r rb m mb e most) (hO : OB M r rb e u m mb most) (hu : ∀ i, u i < 256) (h8 : mI M 122 8 = iI a) (ha : a ≤ e) :
    Wp (fX5_readSpan (some 122) M) fun v N => Sm W12 M N ∧ (¬ (a < e ∧ spB (u a) ≤ most) → v = iI 0) ∧ (a < e ∧ spB (u a) ≤ most → v = iI 1 ∧ mI N 122 8 = iI ((a + 1 : Nat) : Int) ∧ mJ N 122 9 = iJ (spB (u a) : Nat) ∧ Sm (fun b j => b = 122 ∧ (j = 8 ∨ j = 9)) M N) := by
  obtain ⟨a1, a2, a3, a4, a5, a6, a7⟩ := hX
  obtain ⟨hC, -, hr, hb, o3, o4, o1, -, o7⟩ := hO
  obtain ⟨k122, r122_2, k30⟩ : mK M 122 = 5 ∧ mR M 122 2 = some 30 ∧ mK M 30 = 7 := ⟨hC.k 122 (by decide) (by decide), hC.r 122 2 (by decide) (by decide) (by decide), hC.k 30 (by decide) (by decide)⟩
  have kr := hr.1
  have eth := there_ok (k := 1) k122 o3 kr o1 h8 (by omega) (by omega) (by omega)
  have ej : (1 : Int64) = iJ 1 := iJ_lit 1
  by_cases c1 : a < e
  · rw [if_pos (by omega), show ((1 : Nat) : Int) = 1 from rfl] at eth
    have eg := getB hb hr hu c1 a6
    have hub := hu a
    obtain ⟨s1, s2⟩ := spB_lt hub
    have d1 := dv_i (a := (u a : Int)) (b := 8) (by omega) (by omega)
    have d2 := rm_i (a := (u a : Int)) (b := 8) (by omega) (by omega)
    have es := shlJ_n (a := 1) (k := 10 + u a / 8) (by omega)
    rw [Nat.one_mul, show ((1 : Nat) : Int) = 1 from rfl, show ((10 + u a / 8 : Nat) : Int) = 10 + (u a : Int) / 8 by omega] at es
    have e8 : (8 : Int64) = iJ 8 := iJ_lit 8
    have esp0 : spB (u a) = 2 ^ (10 + u a / 8) + u a % 8 * (2 ^ (10 + u a / 8) / 8) := rfl
    generalize 2 ^ (10 + u a / 8) = pw at *
    have d3 := dvL_i (a := (pw : Int)) (b := 8) (by omega) (by omega)
    have eJ : (iI ((u a : Int) % 8)).toInt64 = iJ ((u a : Int) % 8) := iI_J (by omega)
    have esp : (pw : Int) + (u a : Int) % 8 * ((pw : Int) / 8) = (spB (u a) : Nat) := by rw [esp0, Int.natCast_add, Int.natCast_mul, Int.natCast_emod, Int.natCast_ediv]; rfl
    have k1 := cmp_le (a := (spB (u a) : Int)) (b := (most : Int)) (by omega) (by omega)
    clear hb hr hC
    generalize spB (u a) = sp at *
    by_cases c2 : sp ≤ most
    · refine w_mono (P := fun v N => v = iI 1 ∧ N = sI (sJ M 122 9 (iJ sp)) 122 8 (iI ((a : Int) + 1))) ?_ fun v N h => ?_
      · (with_reducible apply w_e; · ((repeat' (first | (with_reducible apply bo_t; · ((try (simp -implicitDefEqProofs (disch := (first | decide | omega)) only [k122, ej, eth, o3, h8, kr, eg, d1, es, d2, e8, d3, eJ, iJ_mul, iJ_add, esp, o7, k1, bo_s, bd_s, bn_s, gI_s, gJ_s, gR_s, pI_s, pZ_s, pJ_s, pR_s, chk_s, chN_s, chN_n, aL_s, aI_c, aJ_c, aR_c, wI_c, wB_c, wS_c, wZ_c, wJ_c, wR_c, mK_sI, mK_sJ, mK_sR, mK_cpI, mL_sI, mL_sJ, mL_sR, mL_cpI, mI_sI, mI_sJ, mI_sR, mI_cpI, mJ_sI, mJ_sJ, mJ_sR, mJ_cpI, mR_sI, mR_sJ, mR_sR, mR_cpI, i2b_i2b, i2b_sb, iI_lit, iI_add, iI_sub, iI_mul, iI_neg, iI_lt, iI_le, iI_eq, iI_J, lt_T, lt_F, le_T, le_F, eq_T, eq_F, eqN_T, eqN_F, leN_T, leN_F, ltN_T, ltN_F, if_true, if_false, and_true, true_and, and_false, false_and, or_true, true_or, or_false, false_or, not_true_eq_false, not_false_eq_true, and_self, or_self, tn_c, ne_eq, dite_true, dite_false])); (with_reducible exact rfl))) | (with_reducible apply bd_t; · ((try (simp -implicitDefEqProofs (disch := (first | decide | omega)) only [k122, ej, eth, o3, h8, kr, eg, d1, es, d2, e8, d3, eJ, iJ_mul, iJ_add, esp, o7, k1, bo_s, bd_s, bn_s, gI_s, gJ_s, gR_s, pI_s, pZ_s, pJ_s, pR_s, chk_s, chN_s, chN_n, aL_s, aI_c, aJ_c, aR_c, wI_c, wB_c, wS_c, wZ_c, wJ_c, wR_c, mK_sI, mK_sJ, mK_sR, mK_cpI, mL_sI, mL_sJ, mL_sR, mL_cpI, mI_sI, mI_sJ, mI_sR, mI_cpI, mJ_sI, mJ_sJ, mJ_sR, mJ_cpI, mR_sI, mR_sJ, mR_sR, mR_cpI, i2b_i2b, i2b_sb, iI_lit, iI_add, iI_sub, iI_mul, iI_neg, iI_lt, iI_le, iI_eq, iI_J, lt_T, lt_F, le_T, le_F, eq_T, eq_F, eqN_T, eqN_F, leN_T, leN_F, ltN_T, ltN_F, if_true, if_false, and_true, true_and, and_false, false_and, or_true, true_or, or_false, false_or, not_true_eq_false, not_false_eq_true, and_self, or_self, tn_c, ne_eq, dite_true, dite_false])); (with_reducible exact rfl))) | (with_reducible apply bn_t; · ((try (simp -implicitDefEqProofs (disch := (first | decide | omega)) only [k122, ej, eth, o3, h8, kr, eg, d1, es, d2, e8, d3, eJ, iJ_mul, iJ_add, esp, o7, k1, bo_s, bd_s, bn_s, gI_s, gJ_s, gR_s, pI_s, pZ_s, pJ_s, pR_s, chk_s, chN_s, chN_n, aL_s, aI_c, aJ_c, aR_c, wI_c, wB_c, wS_c, wZ_c, wJ_c, wR_c, mK_sI, mK_sJ, mK_sR, mK_cpI, mL_sI, mL_sJ, mL_sR, mL_cpI, mI_sI, mI_sJ, mI_sR, mI_cpI, mJ_sI, mJ_sJ, mJ_sR, mJ_cpI, mR_sI, mR_sJ, mR_sR, mR_cpI, i2b_i2b, i2b_sb, iI_lit, iI_add, iI_sub, iI_mul, iI_neg, iI_lt, iI_le, iI_eq, iI_J, lt_T, lt_F, le_T, le_F, eq_T, eq_F, eqN_T, eqN_F, leN_T, leN_F, ltN_T, ltN_F, if_true, if_false, and_true, true_and, and_false, false_and, or_true, true_or, or_false, false_or, not_true_eq_false, not_false_eq_true, and_self, or_self, tn_c, ne_eq, dite_true, dite_false])); (with_reducible exact rfl))) | (with_reducible apply if_t; · (simp -implicitDefEqProofs (disch := (first | decide | omega)) only [k122, ej, eth, o3, h8, kr, eg, d1, es, d2, e8, d3, eJ, iJ_mul, iJ_add, esp, o7, k1, bo_s, bd_s, bn_s, gI_s, gJ_s, gR_s, pI_s, pZ_s, pJ_s, pR_s, chk_s, chN_s, chN_n, aL_s, aI_c, aJ_c, aR_c, wI_c, wB_c, wS_c, wZ_c, wJ_c, wR_c, mK_sI, mK_sJ, mK_sR, mK_cpI, mL_sI, mL_sJ, mL_sR, mL_cpI, mI_sI, mI_sJ, mI_sR, mI_cpI, mJ_sI, mJ_sJ, mJ_sR, mJ_cpI, mR_sI, mR_sJ, mR_sR, mR_cpI, i2b_i2b, i2b_sb, iI_lit, iI_add, iI_sub, iI_mul, iI_neg, iI_lt, iI_le, iI_eq, iI_J, lt_T, lt_F, le_T, le_F, eq_T, eq_F, eqN_T, eqN_F, leN_T, leN_F, ltN_T, ltN_F, if_true, if_false, and_true, true_and, and_false, false_and, or_true, true_or, or_false, false_or, not_true_eq_false, not_false_eq_true, and_self, or_self, tn_c, ne_eq, dite_true, dite_false]; done)) | (with_reducible apply if_f; · (simp -implicitDefEqProofs (disch := (first | decide | omega)) only [k122, ej, eth, o3, h8, kr, eg, d1, es, d2, e8, d3, eJ, iJ_mul, iJ_add, esp, o7, k1, bo_s, bd_s, bn_s, gI_s, gJ_s, gR_s, pI_s, pZ_s, pJ_s, pR_s, chk_s, chN_s, chN_n, aL_s, aI_c, aJ_c, aR_c, wI_c, wB_c, wS_c, wZ_c, wJ_c, wR_c, mK_sI, mK_sJ, mK_sR, mK_cpI, mL_sI, mL_sJ, mL_sR, mL_cpI, mI_sI, mI_sJ, mI_sR, mI_cpI, mJ_sI, mJ_sJ, mJ_sR, mJ_cpI, mR_sI, mR_sJ, mR_sR, mR_cpI, i2b_i2b, i2b_sb, iI_lit, iI_add, iI_sub, iI_mul, iI_neg, iI_lt, iI_le, iI_eq, iI_J, lt_T, lt_F, le_T, le_F, eq_T, eq_F, eqN_T, eqN_F, leN_T, leN_F, ltN_T, ltN_F, if_true, if_false, and_true, true_and, and_false, false_and, or_true, true_or, or_false, false_or, not_true_eq_false, not_false_eq_true, and_self, or_self, tn_c, ne_eq, dite_true, dite_false]; done)) | (with_reducible apply rz_t; · (simp -implicitDefEqProofs (disch := (first | decide | omega)) only [k122, ej, eth, o3, h8, kr, eg, d1, es, d2, e8, d3, eJ, iJ_mul, iJ_add, esp, o7, k1, bo_s, bd_s, bn_s, gI_s, gJ_s, gR_s, pI_s, pZ_s, pJ_s, pR_s, chk_s, chN_s, chN_n, aL_s, aI_c, aJ_c, aR_c, wI_c, wB_c, wS_c, wZ_c, wJ_c, wR_c, mK_sI, mK_sJ, mK_sR, mK_cpI, mL_sI, mL_sJ, mL_sR, mL_cpI, mI_sI, mI_sJ, mI_sR, mI_cpI, mJ_sI, mJ_sJ, mJ_sR, mJ_cpI, mR_sI, mR_sJ, mR_sR, mR_cpI, i2b_i2b, i2b_sb, iI_lit, iI_add, iI_sub, iI_mul, iI_neg, iI_lt, iI_le, iI_eq, iI_J, lt_T, lt_F, le_T, le_F, eq_T, eq_F, eqN_T, eqN_F, leN_T, leN_F, ltN_T, ltN_F, if_true, if_false, and_true, true_and, and_false, false_and, or_true, true_or, or_false, false_or, not_true_eq_false, not_false_eq_true, and_self, or_self, tn_c, ne_eq, dite_true, dite_false]; done)) | (unfold fX5_readSpan))); (try (simp -implicitDefEqProofs (disch := (first | decide | omega)) only [k122, ej, eth, o3, h8, kr, eg, d1, es, d2, e8, d3, eJ, iJ_mul, iJ_add, esp, o7, k1, bo_s, bd_s, bn_s, gI_s, gJ_s, gR_s, pI_s, pZ_s, pJ_s, pR_s, chk_s, chN_s, chN_n, aL_s, aI_c, aJ_c, aR_c, wI_c, wB_c, wS_c, wZ_c, wJ_c, wR_c, mK_sI, mK_sJ, mK_sR, mK_cpI, mL_sI, mL_sJ, mL_sR, mL_cpI, mI_sI, mI_sJ, mI_sR, mI_cpI, mJ_sI, mJ_sJ, mJ_sR, mJ_cpI, mR_sI, mR_sJ, mR_sR, mR_cpI, i2b_i2b, i2b_sb, iI_lit, iI_add, iI_sub, iI_mul, iI_neg, iI_lt, iI_le, iI_eq, iI_J, lt_T, lt_F, le_T, le_F, eq_T, eq_F, eqN_T, eqN_F, leN_T, leN_F, ltN_T, ltN_F, if_true, if_false, and_true, true_and, and_false, false_and, or_true, true_or, or_false, false_or, not_true_eq_false, not_false_eq_true, and_self, or_self, tn_c, ne_eq, dite_true, dite_false])); (with_reducible exact rfl)))
        exact w_ret ⟨rfl, rfl⟩
      · obtain ⟨rfl, rfl⟩ := h
        have hs : Sm (fun b j => b = 122 ∧ (j = 8 ∨ j = 9)) M (sI (sJ M 122 9 (iJ sp)) 122 8 (iI ((a : Int) + 1))) := Sm.sI (Sm.sJ Sm.rf ⟨rfl, by omega⟩) ⟨rfl, by omega⟩
        refine ⟨hs.weak fun b j h => Or.inl ⟨h.1, by omega⟩, fun h => absurd ⟨c1, c2⟩ h, fun _ => ⟨rfl, ?_, ?_, hs⟩⟩
        · simp -implicitDefEqProofs (disch := (first | decide | omega)) only [mK_sI, mK_sJ, mK_sR, mK_cpI, mL_sI, mL_sJ, mL_sR, mL_cpI, mI_sI, mI_sJ, mI_sR, mI_cpI, mJ_sI, mJ_sJ, mJ_sR, mJ_cpI, mR_sI, mR_sJ, mR_sR, mR_cpI, eqN_T, eqN_F, if_true, if_false, and_true, true_and, and_false, false_and, or_true, true_or, or_false, false_or, not_true_eq_false, not_false_eq_true, and_self, or_self, tn_c, ne_eq, dite_true, dite_false]
          rfl
        · simp -implicitDefEqProofs (disch := (first | decide | omega)) only [mK_sI, mK_sJ, mK_sR, mK_cpI, mL_sI, mL_sJ, mL_sR, mL_cpI, mI_sI, mI_sJ, mI_sR, mI_cpI, mJ_sI, mJ_sJ, mJ_sR, mJ_cpI, mR_sI, mR_sJ, mR_sR, mR_cpI, eqN_T, eqN_F, if_true, if_false, and_true, true_and, and_false, false_and, or_true, true_or, or_false, false_or, not_true_eq_false, not_false_eq_true, and_self, or_self, tn_c, ne_eq, dite_true, dite_false]
    · have e1 := fun M (k : mK M 30 = 7) => fail_ok (M := M) k (iI 4) (iI a)
      have e1 := e1 (sJ M 122 9 (iJ sp)) k30
      refine w_mono (P := fun v N => v = iI 0 ∧ N = sI (sI (sJ M 122 9 (iJ sp)) 30 0 (iI 4)) 30 1 (iI a)) ?_ fun v N h => ?_
      · (with_reducible apply w_e; · ((repeat' (first | (with_reducible apply bo_t; · ((try (simp -implicitDefEqProofs (disch := (first | decide | omega)) only [k122, ej, eth, o3, h8, kr, eg, d1, es, d2, e8, d3, eJ, iJ_mul, iJ_add, esp, o7, k1, r122_2, k30, e1, bo_s, bd_s, bn_s, gI_s, gJ_s, gR_s, pI_s, pZ_s, pJ_s, pR_s, chk_s, chN_s, chN_n, aL_s, aI_c, aJ_c, aR_c, wI_c, wB_c, wS_c, wZ_c, wJ_c, wR_c, mK_sI, mK_sJ, mK_sR, mK_cpI, mL_sI, mL_sJ, mL_sR, mL_cpI, mI_sI, mI_sJ, mI_sR, mI_cpI, mJ_sI, mJ_sJ, mJ_sR, mJ_cpI, mR_sI, mR_sJ, mR_sR, mR_cpI, i2b_i2b, i2b_sb, iI_lit, iI_add, iI_sub, iI_mul, iI_neg, iI_lt, iI_le, iI_eq, iI_J, lt_T, lt_F, le_T, le_F, eq_T, eq_F, eqN_T, eqN_F, leN_T, leN_F, ltN_T, ltN_F, if_true, if_false, and_true, true_and, and_false, false_and, or_true, true_or, or_false, false_or, not_true_eq_false, not_false_eq_true, and_self, or_self, tn_c, ne_eq, dite_true, dite_false])); (with_reducible exact rfl))) | (with_reducible apply bd_t; · ((try (simp -implicitDefEqProofs (disch := (first | decide | omega)) only [k122, ej, eth, o3, h8, kr, eg, d1, es, d2, e8, d3, eJ, iJ_mul, iJ_add, esp, o7, k1, r122_2, k30, e1, bo_s, bd_s, bn_s, gI_s, gJ_s, gR_s, pI_s, pZ_s, pJ_s, pR_s, chk_s, chN_s, chN_n, aL_s, aI_c, aJ_c, aR_c, wI_c, wB_c, wS_c, wZ_c, wJ_c, wR_c, mK_sI, mK_sJ, mK_sR, mK_cpI, mL_sI, mL_sJ, mL_sR, mL_cpI, mI_sI, mI_sJ, mI_sR, mI_cpI, mJ_sI, mJ_sJ, mJ_sR, mJ_cpI, mR_sI, mR_sJ, mR_sR, mR_cpI, i2b_i2b, i2b_sb, iI_lit, iI_add, iI_sub, iI_mul, iI_neg, iI_lt, iI_le, iI_eq, iI_J, lt_T, lt_F, le_T, le_F, eq_T, eq_F, eqN_T, eqN_F, leN_T, leN_F, ltN_T, ltN_F, if_true, if_false, and_true, true_and, and_false, false_and, or_true, true_or, or_false, false_or, not_true_eq_false, not_false_eq_true, and_self, or_self, tn_c, ne_eq, dite_true, dite_false])); (with_reducible exact rfl))) | (with_reducible apply bn_t; · ((try (simp -implicitDefEqProofs (disch := (first | decide | omega)) only [k122, ej, eth, o3, h8, kr, eg, d1, es, d2, e8, d3, eJ, iJ_mul, iJ_add, esp, o7, k1, r122_2, k30, e1, bo_s, bd_s, bn_s, gI_s, gJ_s, gR_s, pI_s, pZ_s, pJ_s, pR_s, chk_s, chN_s, chN_n, aL_s, aI_c, aJ_c, aR_c, wI_c, wB_c, wS_c, wZ_c, wJ_c, wR_c, mK_sI, mK_sJ, mK_sR, mK_cpI, mL_sI, mL_sJ, mL_sR, mL_cpI, mI_sI, mI_sJ, mI_sR, mI_cpI, mJ_sI, mJ_sJ, mJ_sR, mJ_cpI, mR_sI, mR_sJ, mR_sR, mR_cpI, i2b_i2b, i2b_sb, iI_lit, iI_add, iI_sub, iI_mul, iI_neg, iI_lt, iI_le, iI_eq, iI_J, lt_T, lt_F, le_T, le_F, eq_T, eq_F, eqN_T, eqN_F, leN_T, leN_F, ltN_T, ltN_F, if_true, if_false, and_true, true_and, and_false, false_and, or_true, true_or, or_false, false_or, not_true_eq_false, not_false_eq_true, and_self, or_self, tn_c, ne_eq, dite_true, dite_false])); (with_reducible exact rfl))) | (with_reducible apply if_t; · (simp -implicitDefEqProofs (disch := (first | decide | omega)) only [k122, ej, eth, o3, h8, kr, eg, d1, es, d2, e8, d3, eJ, iJ_mul, iJ_add, esp, o7, k1, r122_2, k30, e1, bo_s, bd_s, bn_s, gI_s, gJ_s, gR_s, pI_s, pZ_s, pJ_s, pR_s, chk_s, chN_s, chN_n, aL_s, aI_c, aJ_c, aR_c, wI_c, wB_c, wS_c, wZ_c, wJ_c, wR_c, mK_sI, mK_sJ, mK_sR, mK_cpI, mL_sI, mL_sJ, mL_sR, mL_cpI, mI_sI, mI_sJ, mI_sR, mI_cpI, mJ_sI, mJ_sJ, mJ_sR, mJ_cpI, mR_sI, mR_sJ, mR_sR, mR_cpI, i2b_i2b, i2b_sb, iI_lit, iI_add, iI_sub, iI_mul, iI_neg, iI_lt, iI_le, iI_eq, iI_J, lt_T, lt_F, le_T, le_F, eq_T, eq_F, eqN_T, eqN_F, leN_T, leN_F, ltN_T, ltN_F, if_true, if_false, and_true, true_and, and_false, false_and, or_true, true_or, or_false, false_or, not_true_eq_false, not_false_eq_true, and_self, or_self, tn_c, ne_eq, dite_true, dite_false]; done)) | (with_reducible apply if_f; · (simp -implicitDefEqProofs (disch := (first | decide | omega)) only [k122, ej, eth, o3, h8, kr, eg, d1, es, d2, e8, d3, eJ, iJ_mul, iJ_add, esp, o7, k1, r122_2, k30, e1, bo_s, bd_s, bn_s, gI_s, gJ_s, gR_s, pI_s, pZ_s, pJ_s, pR_s, chk_s, chN_s, chN_n, aL_s, aI_c, aJ_c, aR_c, wI_c, wB_c, wS_c, wZ_c, wJ_c, wR_c, mK_sI, mK_sJ, mK_sR, mK_cpI, mL_sI, mL_sJ, mL_sR, mL_cpI, mI_sI, mI_sJ, mI_sR, mI_cpI, mJ_sI, mJ_sJ, mJ_sR, mJ_cpI, mR_sI, mR_sJ, mR_sR, mR_cpI, i2b_i2b, i2b_sb, iI_lit, iI_add, iI_sub, iI_mul, iI_neg, iI_lt, iI_le, iI_eq, iI_J, lt_T, lt_F, le_T, le_F, eq_T, eq_F, eqN_T, eqN_F, leN_T, leN_F, ltN_T, ltN_F, if_true, if_false, and_true, true_and, and_false, false_and, or_true, true_or, or_false, false_or, not_true_eq_false, not_false_eq_true, and_self, or_self, tn_c, ne_eq, dite_true, dite_false]; done)) | (with_reducible apply rz_t; · (simp -implicitDefEqProofs (disch := (first | decide | omega)) only [k122, ej, eth, o3, h8, kr, eg, d1, es, d2, e8, d3, eJ, iJ_mul, iJ_add, esp, o7, k1, r122_2, k30, e1, bo_s, bd_s, bn_s, gI_s, gJ_s, gR_s, pI_s, pZ_s, pJ_s, pR_s, chk_s, chN_s, chN_n, aL_s, aI_c, aJ_c, aR_c, wI_c, wB_c, wS_c, wZ_c, wJ_c, wR_c, mK_sI, mK_sJ, mK_sR, mK_cpI, mL_sI, mL_sJ, mL_sR, mL_cpI, mI_sI, mI_sJ, mI_sR, mI_cpI, mJ_sI, mJ_sJ, mJ_sR, mJ_cpI, mR_sI, mR_sJ, mR_sR, mR_cpI, i2b_i2b, i2b_sb, iI_lit, iI_add, iI_sub, iI_mul, iI_neg, iI_lt, iI_le, iI_eq, iI_J, lt_T, lt_F, le_T, le_F, eq_T, eq_F, eqN_T, eqN_F, leN_T, leN_F, ltN_T, ltN_F, if_true, if_false, and_true, true_and, and_false, false_and, or_true, true_or, or_false, false_or, not_true_eq_false, not_false_eq_true, and_self, or_self, tn_c, ne_eq, dite_true, dite_false]; done)) | (unfold fX5_readSpan))); (try (simp -implicitDefEqProofs (disch := (first | decide | omega)) only [k122, ej, eth, o3, h8, kr, eg, d1, es, d2, e8, d3, eJ, iJ_mul, iJ_add, esp, o7, k1, r122_2, k30, e1, bo_s, bd_s, bn_s, gI_s, gJ_s, gR_s, pI_s, pZ_s, pJ_s, pR_s, chk_s, chN_s, chN_n, aL_s, aI_c, aJ_c, aR_c, wI_c, wB_c, wS_c, wZ_c, wJ_c, wR_c, mK_sI, mK_sJ, mK_sR, mK_cpI, mL_sI, mL_sJ, mL_sR, mL_cpI, mI_sI, mI_sJ, mI_sR, mI_cpI, mJ_sI, mJ_sJ, mJ_sR, mJ_cpI, mR_sI, mR_sJ, mR_sR, mR_cpI, i2b_i2b, i2b_sb, iI_lit, iI_add, iI_sub, iI_mul, iI_neg, iI_lt, iI_le, iI_eq, iI_J, lt_T, lt_F, le_T, le_F, eq_T, eq_F, eqN_T, eqN_F, leN_T, leN_F, ltN_T, ltN_F, if_true, if_false, and_true, true_and, and_false, false_and, or_true, true_or, or_false, false_or, not_true_eq_false, not_false_eq_true, and_self, or_self, tn_c, ne_eq, dite_true, dite_false])); (with_reducible exact rfl)))
        exact w_ret ⟨rfl, rfl⟩
      · obtain ⟨rfl, rfl⟩ := h
        refine ⟨?_, fun _ => rfl, fun h => absurd h.2 c2⟩
        exact Sm.sI (Sm.sI (Sm.sJ Sm.rf (Or.inl ⟨rfl, by omega⟩)) (Or.inr ⟨rfl, by omega⟩)) (Or.inr ⟨rfl, by omega⟩)
  · rw [if_neg (by omega), show ((0 : Nat) : Int) = 0 from rfl] at eth
    have elk := lacks_ok k122 r122_2 k30 o3 kr o1
    clear hb hr hC
    (with_reducible apply w_e; · ((repeat' (first | (with_reducible apply bo_t; · ((try (simp -implicitDefEqProofs (disch := (first | decide | omega)) only [k122, ej, eth, elk, bo_s, bd_s, bn_s, gI_s, gJ_s, gR_s, pI_s, pZ_s, pJ_s, pR_s, chk_s, chN_s, chN_n, aL_s, aI_c, aJ_c, aR_c, wI_c, wB_c, wS_c, wZ_c, wJ_c, wR_c, mK_sI, mK_sJ, mK_sR, mK_cpI, mL_sI, mL_sJ, mL_sR, mL_cpI, mI_sI, mI_sJ, mI_sR, mI_cpI, mJ_sI, mJ_sJ, mJ_sR, mJ_cpI, mR_sI, mR_sJ, mR_sR, mR_cpI, i2b_i2b, i2b_sb, iI_lit, iI_add, iI_sub, iI_mul, iI_neg, iI_lt, iI_le, iI_eq, iI_J, lt_T, lt_F, le_T, le_F, eq_T, eq_F, eqN_T, eqN_F, leN_T, leN_F, ltN_T, ltN_F, if_true, if_false, and_true, true_and, and_false, false_and, or_true, true_or, or_false, false_or, not_true_eq_false, not_false_eq_true, and_self, or_self, tn_c, ne_eq, dite_true, dite_false])); (with_reducible exact rfl))) | (with_reducible apply bd_t; · ((try (simp -implicitDefEqProofs (disch := (first | decide | omega)) only [k122, ej, eth, elk, bo_s, bd_s, bn_s, gI_s, gJ_s, gR_s, pI_s, pZ_s, pJ_s, pR_s, chk_s, chN_s, chN_n, aL_s, aI_c, aJ_c, aR_c, wI_c, wB_c, wS_c, wZ_c, wJ_c, wR_c, mK_sI, mK_sJ, mK_sR, mK_cpI, mL_sI, mL_sJ, mL_sR, mL_cpI, mI_sI, mI_sJ, mI_sR, mI_cpI, mJ_sI, mJ_sJ, mJ_sR, mJ_cpI, mR_sI, mR_sJ, mR_sR, mR_cpI, i2b_i2b, i2b_sb, iI_lit, iI_add, iI_sub, iI_mul, iI_neg, iI_lt, iI_le, iI_eq, iI_J, lt_T, lt_F, le_T, le_F, eq_T, eq_F, eqN_T, eqN_F, leN_T, leN_F, ltN_T, ltN_F, if_true, if_false, and_true, true_and, and_false, false_and, or_true, true_or, or_false, false_or, not_true_eq_false, not_false_eq_true, and_self, or_self, tn_c, ne_eq, dite_true, dite_false])); (with_reducible exact rfl))) | (with_reducible apply bn_t; · ((try (simp -implicitDefEqProofs (disch := (first | decide | omega)) only [k122, ej, eth, elk, bo_s, bd_s, bn_s, gI_s, gJ_s, gR_s, pI_s, pZ_s, pJ_s, pR_s, chk_s, chN_s, chN_n, aL_s, aI_c, aJ_c, aR_c, wI_c, wB_c, wS_c, wZ_c, wJ_c, wR_c, mK_sI, mK_sJ, mK_sR, mK_cpI, mL_sI, mL_sJ, mL_sR, mL_cpI, mI_sI, mI_sJ, mI_sR, mI_cpI, mJ_sI, mJ_sJ, mJ_sR, mJ_cpI, mR_sI, mR_sJ, mR_sR, mR_cpI, i2b_i2b, i2b_sb, iI_lit, iI_add, iI_sub, iI_mul, iI_neg, iI_lt, iI_le, iI_eq, iI_J, lt_T, lt_F, le_T, le_F, eq_T, eq_F, eqN_T, eqN_F, leN_T, leN_F, ltN_T, ltN_F, if_true, if_false, and_true, true_and, and_false, false_and, or_true, true_or, or_false, false_or, not_true_eq_false, not_false_eq_true, and_self, or_self, tn_c, ne_eq, dite_true, dite_false])); (with_reducible exact rfl))) | (with_reducible apply if_t; · (simp -implicitDefEqProofs (disch := (first | decide | omega)) only [k122, ej, eth, elk, bo_s, bd_s, bn_s, gI_s, gJ_s, gR_s, pI_s, pZ_s, pJ_s, pR_s, chk_s, chN_s, chN_n, aL_s, aI_c, aJ_c, aR_c, wI_c, wB_c, wS_c, wZ_c, wJ_c, wR_c, mK_sI, mK_sJ, mK_sR, mK_cpI, mL_sI, mL_sJ, mL_sR, mL_cpI, mI_sI, mI_sJ, mI_sR, mI_cpI, mJ_sI, mJ_sJ, mJ_sR, mJ_cpI, mR_sI, mR_sJ, mR_sR, mR_cpI, i2b_i2b, i2b_sb, iI_lit, iI_add, iI_sub, iI_mul, iI_neg, iI_lt, iI_le, iI_eq, iI_J, lt_T, lt_F, le_T, le_F, eq_T, eq_F, eqN_T, eqN_F, leN_T, leN_F, ltN_T, ltN_F, if_true, if_false, and_true, true_and, and_false, false_and, or_true, true_or, or_false, false_or, not_true_eq_false, not_false_eq_true, and_self, or_self, tn_c, ne_eq, dite_true, dite_false]; done)) | (with_reducible apply if_f; · (simp -implicitDefEqProofs (disch := (first | decide | omega)) only [k122, ej, eth, elk, bo_s, bd_s, bn_s, gI_s, gJ_s, gR_s, pI_s, pZ_s, pJ_s, pR_s, chk_s, chN_s, chN_n, aL_s, aI_c, aJ_c, aR_c, wI_c, wB_c, wS_c, wZ_c, wJ_c, wR_c, mK_sI, mK_sJ, mK_sR, mK_cpI, mL_sI, mL_sJ, mL_sR, mL_cpI, mI_sI, mI_sJ, mI_sR, mI_cpI, mJ_sI, mJ_sJ, mJ_sR, mJ_cpI, mR_sI, mR_sJ, mR_sR, mR_cpI, i2b_i2b, i2b_sb, iI_lit, iI_add, iI_sub, iI_mul, iI_neg, iI_lt, iI_le, iI_eq, iI_J, lt_T, lt_F, le_T, le_F, eq_T, eq_F, eqN_T, eqN_F, leN_T, leN_F, ltN_T, ltN_F, if_true, if_false, and_true, true_and, and_false, false_and, or_true, true_or, or_false, false_or, not_true_eq_false, not_false_eq_true, and_self, or_self, tn_c, ne_eq, dite_true, dite_false]; done)) | (with_reducible apply rz_t; · (simp -implicitDefEqProofs (disch := (first | decide | omega)) only [k122, ej, eth, elk, bo_s, bd_s, bn_s, gI_s, gJ_s, gR_s, pI_s, pZ_s, pJ_s, pR_s, chk_s, chN_s, chN_n, aL_s, aI_c, aJ_c, aR_c, wI_c, wB_c, wS_c, wZ_c, wJ_c, wR_c, mK_sI, mK_sJ, mK_sR, mK_cpI, mL_sI, mL_sJ, mL_sR, mL_cpI, mI_sI, mI_sJ, mI_sR, mI_cpI, mJ_sI, mJ_sJ, mJ_sR, mJ_cpI, mR_sI, mR_sJ, mR_sR, mR_cpI, i2b_i2b, i2b_sb, iI_lit, iI_add, iI_sub, iI_mul, iI_neg, iI_lt, iI_le, iI_eq, iI_J, lt_T, lt_F, le_T, le_F, eq_T, eq_F, eqN_T, eqN_F, leN_T, leN_F, ltN_T, ltN_F, if_true, if_false, and_true, true_and, and_false, false_and, or_true, true_or, or_false, false_or, not_true_eq_false, not_false_eq_true, and_self, or_self, tn_c, ne_eq, dite_true, dite_false]; done)) | (unfold fX5_readSpan))); (try (simp -implicitDefEqProofs (disch := (first | decide | omega)) only [k122, ej, eth, elk, bo_s, bd_s, bn_s, gI_s, gJ_s, gR_s, pI_s, pZ_s, pJ_s, pR_s, chk_s, chN_s, chN_n, aL_s, aI_c, aJ_c, aR_c, wI_c, wB_c, wS_c, wZ_c, wJ_c, wR_c, mK_sI, mK_sJ, mK_sR, mK_cpI, mL_sI, mL_sJ, mL_sR, mL_cpI, mI_sI, mI_sJ, mI_sR, mI_cpI, mJ_sI, mJ_sJ, mJ_sR, mJ_cpI, mR_sI, mR_sJ, mR_sR, mR_cpI, i2b_i2b, i2b_sb, iI_lit, iI_add, iI_sub, iI_mul, iI_neg, iI_lt, iI_le, iI_eq, iI_J, lt_T, lt_F, le_T, le_F, eq_T, eq_F, eqN_T, eqN_F, leN_T, leN_F, ltN_T, ltN_F, if_true, if_false, and_true, true_and, and_false, false_and, or_true, true_or, or_false, false_or, not_true_eq_false, not_false_eq_true, and_self, or_self, tn_c, ne_eq, dite_true, dite_false])); (with_reducible exact rfl)))
    exact w_ret ⟨Sm.sI (Sm.sI Sm.rf (Or.inr ⟨rfl, by omega⟩)) (Or.inr ⟨rfl, by omega⟩), fun _ => rfl, fun h => absurd h.1 c1⟩
end CHEAD
