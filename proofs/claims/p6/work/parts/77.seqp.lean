/-! SEQUENCES as numbers: the bits of one, and what comes out by it -/
def tkV (u : Nat → Nat) (F L m : Nat) : Nat := if m ≤ L then bits u (8 * F + L - m) m else 0
def tkL (L m : Nat) : Nat := if m ≤ L then L - m else L
def tkZ (L m z : Nat) : Nat := if m ≤ L then z else 1
theorem tkV_lt (u : Nat → Nat) (F L m : Nat) : tkV u F L m < 2 ^ m := by
  unfold tkV
  split
  · exact bits_lt _ _ _
  · exact two_pos m
theorem tkL_le (L m : Nat) : tkL L m ≤ L := by unfold tkL; split <;> omega
theorem tkZ_le {L m z : Nat} (h : z ≤ 1) : tkZ L m z ≤ 1 := by unfold tkZ; split <;> omega
def lbK (s : Nat) : Nat := if s < 16 then s else if s < 20 then 16 + 2 * (s - 16) else if s = 20 then 24 else if s = 21 then 28 else if s = 22 then 32 else if s = 23 then 40 else if s = 24 then 48 else 64 * 2 ^ (s - 25)
def lxK (s : Nat) : Nat := if s < 16 then 0 else if s < 20 then 1 else if s < 22 then 2 else if s < 24 then 3 else if s = 24 then 4 else s - 19
def cbK (s : Nat) : Nat := if s < 32 then 3 + s else if s < 36 then 35 + 2 * (s - 32) else if s < 44 then (if s = 36 then 43 else if s = 37 then 47 else if s = 38 then 51 else if s = 39 then 59 else if s = 40 then 67 else if s = 41 then 83 else if s = 42 then 99 else 131) else 256 * 2 ^ (s - 44) + 3
def cxK (s : Nat) : Nat := if s < 32 then 0 else if s < 36 then 1 else if s < 38 then 2 else if s < 40 then 3 else if s < 42 then 4 else if s = 42 then 5 else s - 36
set_option maxRecDepth 100000 in
theorem st6 : ∀ s, s < 36 → (stLit 6).getD s 0 = iI (lbK s : Nat) := by decide +kernel
set_option maxRecDepth 100000 in
theorem st7 : ∀ s, s < 36 → (stLit 7).getD s 0 = iI (lxK s : Nat) := by decide +kernel
set_option maxRecDepth 100000 in
theorem st8 : ∀ s, s < 53 → (stLit 8).getD s 0 = iI (cbK s : Nat) := by decide +kernel
set_option maxRecDepth 100000 in
theorem st9 : ∀ s, s < 53 → (stLit 9).getD s 0 = iI (cxK s : Nat) := by decide +kernel
theorem lb_r : ∀ s, s < 36 → lbK s ≤ 65536 ∧ lxK s ≤ 16 := by decide +kernel
theorem cb_r : ∀ s, s < 53 → cbK s ≤ 65539 ∧ cxK s ≤ 16 := by decide +kernel
/-- base and bits by kind: 0 LETTERS, 2 COPIES -/
def bsK (k s : Nat) : Nat := if k = 0 then lbK s else cbK s
def exK (k s : Nat) : Nat := if k = 0 then lxK s else cxK s
theorem bs_r {k s : Nat} (hk : k = 0 ∨ k = 2) (h : s ≤ grK k) : bsK k s ≤ 65539 ∧ exK k s ≤ 16 := by
  rcases hk with rfl | rfl
  · have h : s ≤ 35 := h
    have := lb_r s (by omega)
    show lbK s ≤ 65539 ∧ lxK s ≤ 16
    omega
  · have h : s ≤ 52 := h
    exact cb_r s (by omega)
section SEQP
variable (u : Nat → Nat) (F : Nat) (Ts : Nat → Tb)
/-- symbol of a state -/
def syK (k q : Nat) : Nat := (Ts k).2.1 q
def goK (k q L : Nat) : Nat := (Ts k).2.2.2 q + tkV u F L ((Ts k).2.2.1 q)
/-- VALUE, COPY, LETTERS, and the bits left behind each -/
def sV (L o : Nat) : Nat := 2 ^ syK Ts 1 o + tkV u F L (syK Ts 1 o)
def sL1 (L o : Nat) : Nat := tkL L (syK Ts 1 o)
def sC (L o c : Nat) : Nat := bsK 2 (syK Ts 2 c) + tkV u F (sL1 Ts L o) (exK 2 (syK Ts 2 c))
def sL2 (L o c : Nat) : Nat := tkL (sL1 Ts L o) (exK 2 (syK Ts 2 c))
def sN (L l o c : Nat) : Nat := bsK 0 (syK Ts 0 l) + tkV u F (sL2 Ts L o c) (exK 0 (syK Ts 0 l))
def sL3 (L l o c : Nat) : Nat := tkL (sL2 Ts L o c) (exK 0 (syK Ts 0 l))
def sZ3 (L l o c : Nat) : Nat := tkZ (sL2 Ts L o c) (exK 0 (syK Ts 0 l)) (tkZ (sL1 Ts L o) (exK 2 (syK Ts 2 c)) (tkZ L (syK Ts 1 o) 0))
def sL4 (L l o c : Nat) : Nat := tkL (sL3 Ts L l o c) ((Ts 0).2.2.1 l)
def sL5 (L l o c : Nat) : Nat := tkL (sL4 Ts L l o c) ((Ts 2).2.2.1 c)
def sL6 (L l o c : Nat) : Nat := tkL (sL5 Ts L l o c) ((Ts 1).2.2.1 o)
def sZ6 (L l o c : Nat) : Nat := tkZ (sL5 Ts L l o c) ((Ts 1).2.2.1 o) (tkZ (sL4 Ts L l o c) ((Ts 2).2.2.1 c) (tkZ (sL3 Ts L l o c) ((Ts 0).2.2.1 l) (sZ3 Ts L l o c)))
end SEQP
/-- which of the REMEMBERED a VALUE means: 0 none, 4 the first less 1 -/
def whK (v n : Nat) : Nat := if 3 < v then 0 else v + if n = 0 then 1 else 0
def ofK (r : Nat → Nat) (v n : Nat) : Nat := if whK v n = 0 then v - 3 else if whK v n = 4 then r 0 - 1 else r (whK v n - 1)
def rmK (r : Nat → Nat) (wh off : Nat) (i : Nat) : Nat := if wh = 1 then r i else if i = 0 then off else if i = 1 then r 0 else if wh = 2 then r 2 else r 1
/-- letters, then a copy, come out -/
def ptL (w ls : Nat → Nat) (t us : Nat) : Nat → Nat → Nat
  | 0 => w
  | k + 1 => uN (ptL w ls t us k) (t + k) (ls (us + k))
def ptC (w ct : Nat → Nat) (t off cs : Nat) : Nat → Nat → Nat
  | 0 => w
  | k + 1 => uN (ptC w ct t off cs k) (t + k) (if off ≤ t + k then ptC w ct t off cs k (t + k - off) else ct (cs + (t + k) - off))
abbrev rcK (t1 off cs span : Nat) : Prop := off ≠ 0 ∧ off ≤ t1 + cs ∧ (if off ≤ t1 then off ≤ span else t1 ≤ span)
def ntK (nt : Nat → Nat → Int) (ts : Nat) (n cp v off : Nat) (i j : Nat) : Int := if i = ts then (if j = 0 then (n : Int) else if j = 1 then (cp : Int) else if j = 2 then (v : Int) else (off : Int)) else nt i j
/-- what stands behind some SEQUENCES: bits left, states, REMEMBERED, letters used, bytes of the FRAME, SEQUENCES told -/
abbrev SSt : Type := (Nat × Nat × Nat × Nat) × (Nat → Nat) × Nat × Nat × (Nat → Nat) × Nat × (Nat → Nat → Int)
/-- one SEQUENCE -/
def stK (u : Nat → Nat) (F : Nat) (Ts : Nat → Tb) (ls : Nat → Nat) (cnt blk lim span cs : Nat) (ct : Nat → Nat) (last : Bool) (s : SSt) : Option SSt :=
  let L := s.1.1; let l := s.1.2.1; let o := s.1.2.2.1; let c := s.1.2.2.2
  let v := sV u F Ts L o; let cp := sC u F Ts L o c; let n := sN u F Ts L l o c
  let r := s.2.1; let us := s.2.2.1; let t := s.2.2.2.1; let w := s.2.2.2.2.1; let ts := s.2.2.2.2.2.1; let nt := s.2.2.2.2.2.2
  if sZ3 Ts L l o c ≠ 0 then none else if last = false ∧ sZ6 Ts L l o c ≠ 0 then none else
  if cnt - us < n then none else if ¬ rcK (t + n) (ofK r v n) cs span then none else if lim < t + n + cp - blk then none else
  some ((if last then (sL3 Ts L l o c, l, o, c) else (sL6 Ts L l o c, goK u F Ts 0 l (sL3 Ts L l o c), goK u F Ts 1 o (sL5 Ts L l o c), goK u F Ts 2 c (sL4 Ts L l o c))),
    rmK r (whK v n) (ofK r v n), us + n, t + n + cp, ptC (ptL w ls t us n) ct (t + n) (ofK r v n) cs cp, ts + 1, ntK nt ts n cp v (ofK r v n))
def rnK (u : Nat → Nat) (F : Nat) (Ts : Nat → Tb) (ls : Nat → Nat) (cnt blk lim span cs : Nat) (ct : Nat → Nat) : Nat → SSt → Bool × SSt
  | 0, s => (true, s)
  | k + 1, s => match stK u F Ts ls cnt blk lim span cs ct (k == 0) s with
    | none => (false, s)
    | some s' => rnK u F Ts ls cnt blk lim span cs ct k s'
theorem take_u {M : Mem} {b n e k F L m z : Nat} {u : Nat → Nat} (h : BK M k b F L z) (hb : BV M b n e u) (hu : ∀ i, u i < 256) (hm : m ≤ 40) (he : 8 * F + L ≤ 8 * e) :
    ∃ N, fX0_take (some k) (iI m) M = some (iJ (tkV u F L m : Nat), N) ∧ BK N k b F (tkL L m) (tkZ L m z : Nat) ∧ Sm (fun a j => a = k ∧ (j = 2 ∨ j = 3)) M N := by
  have hkb : b ≠ k := fun q => by have := hb.1; have := h.1; rw [q] at *; omega
  unfold tkV tkL tkZ
  by_cases c : m ≤ L
  · have e1 := take_ok h hb hu hm c he
    rw [if_pos c, if_pos c, if_pos c]
    obtain ⟨h0, h1, h2, h3, h4⟩ := h
    refine ⟨_, e1, ⟨h0, h1, ?_, ?_, ?_⟩, Sm.rf.sI ⟨rfl, by omega⟩⟩ <;> simp -implicitDefEqProofs (disch := (first | decide | omega)) only [mK_sI, mK_sJ, mK_sR, mK_cpI, mL_sI, mL_sJ, mL_sR, mL_cpI, mI_sI, mI_sJ, mI_sR, mI_cpI, mJ_sI, mJ_sJ, mJ_sR, mJ_cpI, mR_sI, mR_sJ, mR_sR, mR_cpI, eqN_T, eqN_F, if_true, if_false, and_true, true_and, and_false, false_and, or_true, true_or, or_false, false_or, not_true_eq_false, not_false_eq_true, and_self, or_self, tn_c, ne_eq, dite_true, dite_false]
    · exact h2
    · exact h4
  · have e1 := take_no h hm (by omega)
    rw [if_neg c, if_neg c, if_neg c]
    obtain ⟨h0, h1, h2, h3, h4⟩ := h
    refine ⟨_, e1, ⟨h0, h1, ?_, ?_, ?_⟩, Sm.rf.sI ⟨rfl, by omega⟩⟩ <;> simp -implicitDefEqProofs (disch := (first | decide | omega)) only [mK_sI, mK_sJ, mK_sR, mK_cpI, mL_sI, mL_sJ, mL_sR, mL_cpI, mI_sI, mI_sJ, mI_sR, mI_cpI, mJ_sI, mJ_sJ, mJ_sR, mJ_cpI, mR_sI, mR_sJ, mR_sR, mR_cpI, eqN_T, eqN_F, if_true, if_false, and_true, true_and, and_false, false_and, or_true, true_or, or_false, false_or, not_true_eq_false, not_false_eq_true, and_self, or_self, tn_c, ne_eq, dite_true, dite_false]
    · exact h2
    · exact h3
    · rfl
theorem back_u {M : Mem} {b n e o F L m z : Nat} {u : Nat → Nat} (h : RK M o b F L z) (hb : BV M b n e u) (hu : ∀ i, u i < 256) (hm : m ≤ 40) (he : 8 * F + L ≤ 8 * e) :
    ∃ N, fX13_back (some o) (iI m) M = some (iJ (tkV u F L m : Nat), N) ∧ RK N o b F (tkL L m) (tkZ L m z : Nat) ∧ Sq (fun a j => a = o ∧ (j = 9 ∨ j = 11)) M N := by
  unfold tkV tkL tkZ
  by_cases c : m ≤ L
  · obtain ⟨v, N, e1, rfl, hK, hS⟩ := back_ok h hb hu hm c he
    rw [if_pos c, if_pos c, if_pos c]
    exact ⟨N, e1, hK, hS.weak (by omega)⟩
  · have e1 := back_no h hm (by omega)
    rw [if_neg c, if_neg c, if_neg c]
    obtain ⟨h0, h1, h2, h3, h4⟩ := h
    refine ⟨_, e1, ⟨h0, h1, ?_, ?_, ?_⟩, Sq.rf.sI ⟨rfl, by omega⟩⟩ <;> simp -implicitDefEqProofs (disch := (first | decide | omega)) only [mK_sI, mK_sJ, mK_sR, mK_cpI, mL_sI, mL_sJ, mL_sR, mL_cpI, mI_sI, mI_sJ, mI_sR, mI_cpI, mJ_sI, mJ_sJ, mJ_sR, mJ_cpI, mR_sI, mR_sJ, mR_sR, mR_cpI, eqN_T, eqN_F, if_true, if_false, and_true, true_and, and_false, false_and, or_true, true_or, or_false, false_or, not_true_eq_false, not_false_eq_true, and_self, or_self, tn_c, ne_eq, dite_true, dite_false]
    · exact h2
    · exact h3
    · rfl
