/-! SEQUENCES are written: the class's, whole -/
def hdW (m : Nat) : Nat × Nat := if m < 128 then (m, 8) else (128 + m / 256 + m % 256 * 256, 16)
def apW (c : (Nat → Nat) × Nat) (s : Nat × Nat) : (Nat → Nat) × Nat := (wr c.1 c.2 s.1, c.2 + (s.2 + 7) / 8)
def qT (lv : Nat) (cn cp vl : Nat → Nat) (m : Nat) (c : (Nat → Nat) × Nat) : Nat → (Nat → Nat) × Nat
  | 0 => c
  | k + 1 => apW (qT lv cn cp vl m c k) (bQt lv (syQ cn cp vl k) m)
def mdS (lv : Nat) (cn cp vl : Nat → Nat) (m : Nat) : Nat → Nat
  | 0 => 0
  | k + 1 => mdS lv cn cp vl m k + mdQ lv (syQ cn cp vl k) m * 2 ^ (6 - 2 * k)
def tsQ (lv : Nat) (cn cp vl : Nat → Nat) (m k : Nat) : Tb := tqQ lv k (syQ cn cp vl k) m
def qW1 (u : Nat → Nat) (p m : Nat) : (Nat → Nat) × Nat := apW (u, p) (hdW m)
def qW2 (u : Nat → Nat) (p lv : Nat) (cn cp vl : Nat → Nat) (m k : Nat) : (Nat → Nat) × Nat := qT lv cn cp vl m (apW (qW1 u p m) (0, 8)) k
def qW3 (u : Nat → Nat) (p lv : Nat) (cn cp vl : Nat → Nat) (m : Nat) : (Nat → Nat) × Nat := (upH (qW2 u p lv cn cp vl m 3).1 (qW1 u p m).2 (mdS lv cn cp vl m 3), (qW2 u p lv cn cp vl m 3).2)
def qFm (lv : Nat) (cn cp vl : Nat → Nat) (m : Nat) : Nat × Nat := ((qF (tsQ lv cn cp vl m) cn cp vl m).1 + 2 ^ (qF (tsQ lv cn cp vl m) cn cp vl m).2, (qF (tsQ lv cn cp vl m) cn cp vl m).2 + 1)
def qW (u : Nat → Nat) (p lv : Nat) (cn cp vl : Nat → Nat) (m : Nat) : (Nat → Nat) × Nat := if m = 0 then qW1 u p m else apW (qW3 u p lv cn cp vl m) (qFm lv cn cp vl m)
section CSEQW
variable {M N : Mem} {lv k m p i : Nat} {cn cp vl u : Nat → Nat}
theorem or_md {A v : Nat} (hk : k < 3) (hv : v ≤ 2) (hA : A < 256) (hd : A % 2 ^ (8 - 2 * k) = 0) : iI (A : Int) ||| shlI (iI (v : Int)) (iI (6 - 2 * (k : Int))) = iI ((A + v * 2 ^ (6 - 2 * k) : Nat) : Int) ∧ (A + v * 2 ^ (6 - 2 * k)) % 2 ^ (8 - 2 * (k + 1)) = 0 ∧ A + v * 2 ^ (6 - 2 * k) < 256 := by
  have : k = 0 ∨ k = 1 ∨ k = 2 := by omega
  rcases this with rfl | rfl | rfl
  · have hd : A % 256 = 0 := hd
    have e1 := shl_n (a := v) (k := 6) (by omega)
    have e1 : shlI (iI (v : Int)) (iI (6 - 2 * ((0 : Nat) : Int))) = iI ((v * 64 : Nat) : Int) := e1
    have e2 := iI_or (0 : Int) (b := ((v * 64 : Nat) : Int)) (k := 8) (by omega) (by show _ ∧ _ < (256 : Int); omega)
    rw [e1, show (A : Int) = 0 * 2 ^ 8 by omega, e2]
    show iI (0 * 256 + ((v * 64 : Nat) : Int)) = iI ((A + v * 64 : Nat) : Int) ∧ (A + v * 64) % 64 = 0 ∧ A + v * 64 < 256
    exact ⟨congrArg iI (by omega), by omega, by omega⟩
  · have hd : A % 64 = 0 := hd
    have e1 := shl_n (a := v) (k := 4) (by omega)
    have e1 : shlI (iI (v : Int)) (iI (6 - 2 * ((1 : Nat) : Int))) = iI ((v * 16 : Nat) : Int) := e1
    obtain ⟨B, hB⟩ : ∃ B, A = B * 64 := ⟨A / 64, by omega⟩
    have e2 := iI_or (B : Int) (b := ((v * 16 : Nat) : Int)) (k := 6) (by omega) (by show _ ∧ _ < (64 : Int); omega)
    have e2 : iI ((B : Int) * 64) ||| iI ((v * 16 : Nat) : Int) = iI ((B : Int) * 64 + ((v * 16 : Nat) : Int)) := e2
    rw [e1, show (A : Int) = (B : Int) * 64 by omega, e2]
    show iI ((B : Int) * 64 + ((v * 16 : Nat) : Int)) = iI ((A + v * 16 : Nat) : Int) ∧ (A + v * 16) % 16 = 0 ∧ A + v * 16 < 256
    exact ⟨congrArg iI (by omega), by omega, by omega⟩
  · have hd : A % 16 = 0 := hd
    have e1 := shl_n (a := v) (k := 2) (by omega)
    have e1 : shlI (iI (v : Int)) (iI (6 - 2 * ((2 : Nat) : Int))) = iI ((v * 4 : Nat) : Int) := e1
    obtain ⟨B, hB⟩ : ∃ B, A = B * 16 := ⟨A / 16, by omega⟩
    have e2 := iI_or (B : Int) (b := ((v * 4 : Nat) : Int)) (k := 4) (by omega) (by show _ ∧ _ < (16 : Int); omega)
    have e2 : iI ((B : Int) * 16) ||| iI ((v * 4 : Nat) : Int) = iI ((B : Int) * 16 + ((v * 4 : Nat) : Int)) := e2
    rw [e1, show (A : Int) = (B : Int) * 16 by omega, e2]
    show iI ((B : Int) * 16 + ((v * 4 : Nat) : Int)) = iI ((A + v * 4 : Nat) : Int) ∧ (A + v * 4) % 4 = 0 ∧ A + v * 4 < 256
    exact ⟨congrArg iI (by omega), by omega, by omega⟩
theorem mdS_r : ∀ k, k ≤ 3 → mdS lv cn cp vl m k % 2 ^ (8 - 2 * k) = 0 ∧ mdS lv cn cp vl m k < 256
  | 0, _ => by
    exact ⟨Nat.zero_mod _, by show 0 < 256; omega⟩
  | k + 1, h => by
    obtain ⟨h1, h2⟩ := mdS_r k (by omega)
    have := or_md (k := k) (v := mdQ lv (syQ cn cp vl k) m) (by omega) mdQ_2 h2 h1
    rw [mdS]
    exact this.2
theorem qT_L (hR : QR m cn cp vl) {c : (Nat → Nat) × Nat} : ∀ k, k ≤ 3 → (qT lv cn cp vl m c k).2 ≤ c.2 + 88 * k
  | 0, _ => by
    rw [qT]
    omega
  | k + 1, h => by
    have h1 := qT_L hR (c := c) k (by omega)
    have h2 := bQt_D (lv := lv) (f := syQ cn cp vl k) (m := m) (fun i hi => by have := (syQ_r hR (k := k) (by omega) hi).2.2; omega) hR.1
    rw [qT]
    show (qT lv cn cp vl m c k).2 + ((bQt lv (syQ cn cp vl k) m).2 + 7) / 8 ≤ _
    omega
theorem qW1_L (hm : m ≤ 512) : p < (qW1 u p m).2 ∧ (qW1 u p m).2 ≤ p + 2 := by
  by_cases c : m < 128
  · have e : (qW1 u p m).2 = p + 1 := by unfold qW1 apW hdW; rw [if_pos c]; show p + (8 + 7) / 8 = p + 1; omega
    omega
  · have e : (qW1 u p m).2 = p + 2 := by unfold qW1 apW hdW; rw [if_neg c]; show p + (16 + 7) / 8 = p + 2; omega
    omega
theorem qW2_L (hR : QR m cn cp vl) {k : Nat} (hk : k ≤ 3) : (qW2 u p lv cn cp vl m k).2 ≤ p + 3 + 88 * k := by
  have h1 := qT_L hR (lv := lv) (c := apW (qW1 u p m) (0, 8)) k hk
  have h2 : (apW (qW1 u p m) (0, 8)).2 = (qW1 u p m).2 + 1 := rfl
  have h3 := (qW1_L (u := u) (p := p) hR.1).2
  unfold qW2
  omega
theorem tsQ_ok (hR : QR m cn cp vl) : (∀ k, k < 3 → TbR (tsQ lv cn cp vl m k)) ∧ QT (tsQ lv cn cp vl m) m cn cp vl := by
  refine ⟨fun k hk => tqQ_R hk (fun i hi => ?_) hR.1, fun k hk i hi => tqQ_cov hk (fun i hi => ?_) hR.1 hi⟩
  · have := (syQ_r hR hk hi).2.2
    omega
  · have := syQ_r hR hk hi
    omega
theorem qF_D (hR : QR m cn cp vl) (hm : 0 < m) : (qF (tsQ lv cn cp vl m) cn cp vl m).2 ≤ 36900 := by
  obtain ⟨h1, h2⟩ := tsQ_ok (lv := lv) hR
  have h3 := qB_D (d := m) hR (fun k hk => ⟨h1 k hk, h2 k hk⟩) (Nat.le_refl m)
  have h4 := hR.1
  have a0 := (h1 0 (by omega)).1
  have a1 := (h1 1 (by omega)).1
  have a2 := (h1 2 (by omega)).1
  unfold qF
  show (qB (tsQ lv cn cp vl m) cn cp vl m m).2 + (tsQ lv cn cp vl m 2).1 + (tsQ lv cn cp vl m 1).1 + (tsQ lv cn cp vl m 0).1 ≤ _
  omega
abbrev Wsq (a j : Nat) : Prop := Rw2 170 171 a j ∨ a = 177 ∨ a = 178 ∨ a = 182 ∨ (183 ≤ a ∧ a < 198 ∧ (a = 183 ∨ a = 188 ∨ a = 193 → j = 0 ∨ 4 ≤ j))
theorem Wsq_fx : ∀ a j, Wsq a j → 10 ≤ a ∧ ¬ fx a j := by
  intro a j h
  unfold Wsq at h
  have h : Rw2 170 171 a j ∨ a = 177 ∨ a = 178 ∨ a = 182 ∨ (a = 183 ∧ (j = 0 ∨ 4 ≤ j)) ∨ a = 184 ∨ a = 185 ∨ a = 186 ∨ a = 187 ∨ (a = 188 ∧ (j = 0 ∨ 4 ≤ j)) ∨ a = 189 ∨ a = 190 ∨ a = 191 ∨ a = 192 ∨ (a = 193 ∧ (j = 0 ∨ 4 ≤ j)) ∨ a = 194 ∨ a = 195 ∨ a = 196 ∨ a = 197 := by
    rcases h with h | h | h | h | h
    · exact Or.inl h
    · exact Or.inr (Or.inl h)
    · exact Or.inr (Or.inr (Or.inl h))
    · exact Or.inr (Or.inr (Or.inr (Or.inl h)))
    · exact Or.inr (by omega)
  rcases h with h | rfl | rfl | rfl | ⟨rfl, h⟩ | rfl | rfl | rfl | rfl | ⟨rfl, h⟩ | rfl | rfl | rfl | rfl | ⟨rfl, h⟩ | rfl | rfl | rfl | rfl
  · exact Rw2_c a j h
  · exact ⟨by omega, fx_of 177 0 1 0 rfl rfl rfl (by omega)⟩
  · exact ⟨by omega, fx_of 178 0 1 0 rfl rfl rfl (by omega)⟩
  · exact ⟨by omega, fx_of 182 0 1 0 rfl rfl rfl (by omega)⟩
  · exact ⟨by omega, fx_of 183 0 1 3 rfl rfl rfl (by omega)⟩
  · exact ⟨by omega, fx_of 184 0 1 0 rfl rfl rfl (by omega)⟩
  · exact ⟨by omega, fx_of 185 0 1 0 rfl rfl rfl (by omega)⟩
  · exact ⟨by omega, fx_of 186 0 1 0 rfl rfl rfl (by omega)⟩
  · exact ⟨by omega, fx_of 187 0 1 0 rfl rfl rfl (by omega)⟩
  · exact ⟨by omega, fx_of 188 0 1 3 rfl rfl rfl (by omega)⟩
  · exact ⟨by omega, fx_of 189 0 1 0 rfl rfl rfl (by omega)⟩
  · exact ⟨by omega, fx_of 190 0 1 0 rfl rfl rfl (by omega)⟩
  · exact ⟨by omega, fx_of 191 0 1 0 rfl rfl rfl (by omega)⟩
  · exact ⟨by omega, fx_of 192 0 1 0 rfl rfl rfl (by omega)⟩
  · exact ⟨by omega, fx_of 193 0 1 3 rfl rfl rfl (by omega)⟩
  · exact ⟨by omega, fx_of 194 0 1 0 rfl rfl rfl (by omega)⟩
  · exact ⟨by omega, fx_of 195 0 1 0 rfl rfl rfl (by omega)⟩
  · exact ⟨by omega, fx_of 196 0 1 0 rfl rfl rfl (by omega)⟩
  · exact ⟨by omega, fx_of 197 0 1 0 rfl rfl rfl (by omega)⟩
theorem WTq_sq (hk : k < 3) : ∀ a j, WTq k a j → Wsq a j := fun a j h => by
  unfold WTq WT at h
  unfold Wsq
  rcases h with h | h | h | h
  · exact Or.inr (Or.inl h.1)
  · exact Or.inr (Or.inr (Or.inr (Or.inl h)))
  · refine Or.inr (Or.inr (Or.inr (Or.inr ?_)))
    have : k = 0 ∨ k = 1 ∨ k = 2 := by omega
    rcases this with rfl | rfl | rfl <;> omega
  · exact Or.inl h
theorem WQs_sq : ∀ a j, WQs a j → Wsq a j := fun a j h => by
  rcases h with h | h
  · exact Or.inl h
  · exact Or.inr (Or.inr (Or.inl h))
theorem wr_1 {X : Nat} (h : X < 256) : wr u p X p = X := by
  unfold wr
  rw [if_neg (by omega), Nat.sub_self, Nat.pow_zero, Nat.div_one]
  omega
theorem wr_2 {X : Nat} : wr u p X (p + 1) = X / 256 % 256 := by
  unfold wr
  rw [if_neg (by omega), show p + 1 - p = 1 by omega, Nat.pow_one]
set_option maxHeartbeats 4000000 in
/-- the tables, the modes, the states -/
theorem cseq75 (hC : CSt M) (hD : DfV M) (hQ : QC M m cn cp vl) (hR : QR m cn cp vl) (hm : 0 < m) (h14 : mI M 159 14 = iI lv) (hlv : lv < 100) (hB : RV M 170 171 8000 (qW2 u p lv cn cp vl m 0).2 (qW2 u p lv cn cp vl m 0).1) (h2 : mJ M 170 2 = iJ 0) (h3 : mI M 170 3 = iI 0) (hp : p < 7000) :
    Wp (fX6_writeSequences_L75 (some 159) (iI m) (iI (qW1 u p m).2) (iI 0) (iI 0) M) fun _ N => RV N 170 171 8000 (qW u p lv cn cp vl m).2 (qW u p lv cn cp vl m).1 ∧ mJ N 170 2 = iJ 0 ∧ mI N 170 3 = iI 0 ∧ Sm Wsq M N := by
  have hm2 := hR.1
  have hq1 := qW1_L (u := u) (p := p) hm2
  unfold fX6_writeSequences_L75
  refine w_lpF (fun dd y O => ∃ k : Nat, k + dd = 3 ∧ Sm Wsq M O ∧ RV O 170 171 8000 (qW2 u p lv cn cp vl m k).2 (qW2 u p lv cn cp vl m k).1 ∧ mJ O 170 2 = iJ 0 ∧ mI O 170 3 = iI 0 ∧ (∀ q, q < k → mR O 177 q = some (ctQ (mdQ lv (syQ cn cp vl q) m) q) ∧ TbV O (ctQ (mdQ lv (syQ cn cp vl q) m) q) (tsQ lv cn cp vl m q)) ∧ y = (some 159, iI m, iI (qW1 u p m).2, iI (mdS lv cn cp vl m k : Nat), iI k)) 3 (by omega) ⟨0, by omega, Sm.rf, hB, h2, h3, fun q hq => by omega, rfl⟩ ?_
  rintro gg dd y O ⟨k, hk, hS, hBO, h2O, h3O, hTs, rfl⟩ ih
  have hCO := hC.sm hS Wsq_fx
  have hDO : DfV O := hD.sm hS fun q j hq => by unfold Wsq Rw2; omega
  have hQO : QC O m cn cp vl := hQ.sm hS (by unfold Wsq Rw2; omega) (fun j => by unfold Wsq Rw2; omega)
  have h14O := (hS.I 159 14 (by unfold Wsq Rw2; omega)).trans h14
  have hL := qW2_L (u := u) (p := p) (lv := lv) hR (k := k) (by omega)
  obtain ⟨hd, hd2⟩ := mdS_r (m := m) (lv := lv) (cn := cn) (cp := cp) (vl := vl) k (by omega)
  by_cases c0 : dd = 0
  · have ek : k = 3 := by omega
    subst ek
    obtain ⟨⟨b1, b2, b3, b4⟩, b5, b6⟩ := id hBO
    obtain ⟨hT1, hT2⟩ := tsQ_ok (lv := lv) hR
    obtain ⟨A, hA⟩ : ∃ A, sI O 171 (qW1 u p m).2 (sb (mdS lv cn cp vl m 3)) = A := ⟨_, rfl⟩
    have sA : Sm (fun a _ => a = 171) O A := by rw [← hA]; exact Sm.sI Sm.rf rfl
    have sAw : Sm WQs O A := sA.weak fun a j h => Or.inl (Or.inr h)
    have eb := i2b_nat (mdS lv cn cp vl m 3)
    rw [Nat.mod_eq_of_lt hd2] at eb
    have hBA : RV A 170 171 8000 (qW3 u p lv cn cp vl m).2 (qW3 u p lv cn cp vl m).1 := by
      refine ⟨hBO.1.sm sA (by omega), (sA.I 170 1 (by first | decide | omega)).trans b5, fun i hi hi2 => ?_⟩
      show _ = sb (upH _ _ _ i)
      unfold upH
      rw [← hA]
      by_cases ei : i = (qW1 u p m).2
      · rw [if_pos ei, ei]
        simp -implicitDefEqProofs (disch := (first | decide | omega)) only [mK_sI, mK_sJ, mK_sR, mK_cpI, mL_sI, mL_sJ, mL_sR, mL_cpI, mI_sI, mI_sJ, mI_sR, mI_cpI, mJ_sI, mJ_sJ, mJ_sR, mJ_cpI, mR_sI, mR_sJ, mR_sR, mR_cpI, eqN_T, eqN_F, if_true, if_false, and_true, true_and, and_false, false_and, or_true, true_or, or_false, false_or, not_true_eq_false, not_false_eq_true, and_self, or_self, tn_c, ne_eq, dite_true, dite_false]
      · rw [if_neg ei]
        simp -implicitDefEqProofs (disch := (first | decide | omega)) only [mK_sI, mK_sJ, mK_sR, mK_cpI, mL_sI, mL_sJ, mL_sR, mL_cpI, mI_sI, mI_sJ, mI_sR, mI_cpI, mJ_sI, mJ_sJ, mJ_sR, mJ_cpI, mR_sI, mR_sJ, mR_sR, mR_cpI, eqN_T, eqN_F, if_true, if_false, and_true, true_and, and_false, false_and, or_true, true_or, or_false, false_or, not_true_eq_false, not_false_eq_true, and_self, or_self, tn_c, ne_eq, dite_true, dite_false]
        exact b6 i hi hi2
    have hH : CHd A (tsQ lv cn cp vl m) := fun q hq => by
      obtain ⟨t1, t2⟩ := hTs q hq
      have hct := ctQ_r (mdQ lv (syQ cn cp vl q) m) q
      exact ⟨hT1 q hq, _, (sA.R 177 q (by omega)).trans t1, hct, t2.sm sA (by omega) (fun j => by omega)⟩
    have hqm : (qW2 u p lv cn cp vl m 3).2 = (qW3 u p lv cn cp vl m).2 := rfl
    obtain ⟨v1, N, e1, n1, n2, n3, sN⟩ := cstates_ok (hCO.sm sAw WQs_fx) (hQO.q sAw) hR hm hH hT2 hBA ((sA.J 170 2 (by first | decide | omega)).trans h2O) ((sA.I 170 3 (by first | decide | omega)).trans h3O) (by omega)
    have eqW : qW u p lv cn cp vl m = apW (qW3 u p lv cn cp vl m) (qFm lv cn cp vl m) := by unfold qW; rw [if_neg (by omega)]
    have fin : (fun (_ : Unit) N => RV N 170 171 8000 (qW u p lv cn cp vl m).2 (qW u p lv cn cp vl m).1 ∧ mJ N 170 2 = iJ 0 ∧ mI N 170 3 = iI 0 ∧ Sm Wsq M N) () N := by
      refine ⟨?_, n2, n3, (hS.tr (sAw.weak WQs_sq)).tr (sN.weak WQs_sq)⟩
      rw [eqW]
      show RV N 170 171 8000 ((qW3 u p lv cn cp vl m).2 + ((qF (tsQ lv cn cp vl m) cn cp vl m).2 + 1 + 7) / 8) (wr (qW3 u p lv cn cp vl m).1 (qW3 u p lv cn cp vl m).2 ((qF (tsQ lv cn cp vl m) cn cp vl m).1 + 2 ^ (qF (tsQ lv cn cp vl m) cn cp vl m).2))
      rw [show (qW3 u p lv cn cp vl m).2 + ((qF (tsQ lv cn cp vl m) cn cp vl m).2 + 1 + 7) / 8 = (qW3 u p lv cn cp vl m).2 + (qF (tsQ lv cn cp vl m) cn cp vl m).2 / 8 + 1 by omega]
      exact n1
    obtain ⟨k159, r159_1⟩ : mK O 159 = 6 ∧ mR O 159 1 = some 170 := ⟨hCO.k 159 (by decide) (by decide), hCO.r 159 1 (by decide) (by decide) (by decide)⟩
    have ak := (sA.K 159).trans k159
    clear ih hC hD hQ hR hB h2 h3 hS hBO h2O h3O hTs hCO hDO hQO h14O hT1 hT2 sA sAw hBA hH n1 n2 n3 sN eqW b6 hqm
    generalize mdS lv cn cp vl m 3 = md at *
    generalize (qW1 u p m).2 = pl at *
    (with_reducible apply w_e; · ((repeat' (first | (with_reducible apply bo_t; · ((try (simp -implicitDefEqProofs (disch := (first | decide | omega)) only [k159, r159_1, b1, b2, b3, b4, eb, hA, ak, e1, bo_s, bd_s, bn_s, gI_s, gJ_s, gR_s, pI_s, pZ_s, pJ_s, pR_s, chk_s, chN_s, chN_n, aL_s, aI_c, aJ_c, aR_c, wI_c, wB_c, wS_c, wZ_c, wJ_c, wR_c, mK_sI, mK_sJ, mK_sR, mK_cpI, mL_sI, mL_sJ, mL_sR, mL_cpI, mI_sI, mI_sJ, mI_sR, mI_cpI, mJ_sI, mJ_sJ, mJ_sR, mJ_cpI, mR_sI, mR_sJ, mR_sR, mR_cpI, i2b_i2b, i2b_sb, iI_lit, iI_add, iI_sub, iI_mul, iI_neg, iI_lt, iI_le, iI_eq, iI_J, lt_T, lt_F, le_T, le_F, eq_T, eq_F, eqN_T, eqN_F, leN_T, leN_F, ltN_T, ltN_F, if_true, if_false, and_true, true_and, and_false, false_and, or_true, true_or, or_false, false_or, not_true_eq_false, not_false_eq_true, and_self, or_self, tn_c, ne_eq, dite_true, dite_false])); (with_reducible exact rfl))) | (with_reducible apply bd_t; · ((try (simp -implicitDefEqProofs (disch := (first | decide | omega)) only [k159, r159_1, b1, b2, b3, b4, eb, hA, ak, e1, bo_s, bd_s, bn_s, gI_s, gJ_s, gR_s, pI_s, pZ_s, pJ_s, pR_s, chk_s, chN_s, chN_n, aL_s, aI_c, aJ_c, aR_c, wI_c, wB_c, wS_c, wZ_c, wJ_c, wR_c, mK_sI, mK_sJ, mK_sR, mK_cpI, mL_sI, mL_sJ, mL_sR, mL_cpI, mI_sI, mI_sJ, mI_sR, mI_cpI, mJ_sI, mJ_sJ, mJ_sR, mJ_cpI, mR_sI, mR_sJ, mR_sR, mR_cpI, i2b_i2b, i2b_sb, iI_lit, iI_add, iI_sub, iI_mul, iI_neg, iI_lt, iI_le, iI_eq, iI_J, lt_T, lt_F, le_T, le_F, eq_T, eq_F, eqN_T, eqN_F, leN_T, leN_F, ltN_T, ltN_F, if_true, if_false, and_true, true_and, and_false, false_and, or_true, true_or, or_false, false_or, not_true_eq_false, not_false_eq_true, and_self, or_self, tn_c, ne_eq, dite_true, dite_false])); (with_reducible exact rfl))) | (with_reducible apply bn_t; · ((try (simp -implicitDefEqProofs (disch := (first | decide | omega)) only [k159, r159_1, b1, b2, b3, b4, eb, hA, ak, e1, bo_s, bd_s, bn_s, gI_s, gJ_s, gR_s, pI_s, pZ_s, pJ_s, pR_s, chk_s, chN_s, chN_n, aL_s, aI_c, aJ_c, aR_c, wI_c, wB_c, wS_c, wZ_c, wJ_c, wR_c, mK_sI, mK_sJ, mK_sR, mK_cpI, mL_sI, mL_sJ, mL_sR, mL_cpI, mI_sI, mI_sJ, mI_sR, mI_cpI, mJ_sI, mJ_sJ, mJ_sR, mJ_cpI, mR_sI, mR_sJ, mR_sR, mR_cpI, i2b_i2b, i2b_sb, iI_lit, iI_add, iI_sub, iI_mul, iI_neg, iI_lt, iI_le, iI_eq, iI_J, lt_T, lt_F, le_T, le_F, eq_T, eq_F, eqN_T, eqN_F, leN_T, leN_F, ltN_T, ltN_F, if_true, if_false, and_true, true_and, and_false, false_and, or_true, true_or, or_false, false_or, not_true_eq_false, not_false_eq_true, and_self, or_self, tn_c, ne_eq, dite_true, dite_false])); (with_reducible exact rfl))) | (with_reducible apply if_t; · (simp -implicitDefEqProofs (disch := (first | decide | omega)) only [k159, r159_1, b1, b2, b3, b4, eb, hA, ak, e1, bo_s, bd_s, bn_s, gI_s, gJ_s, gR_s, pI_s, pZ_s, pJ_s, pR_s, chk_s, chN_s, chN_n, aL_s, aI_c, aJ_c, aR_c, wI_c, wB_c, wS_c, wZ_c, wJ_c, wR_c, mK_sI, mK_sJ, mK_sR, mK_cpI, mL_sI, mL_sJ, mL_sR, mL_cpI, mI_sI, mI_sJ, mI_sR, mI_cpI, mJ_sI, mJ_sJ, mJ_sR, mJ_cpI, mR_sI, mR_sJ, mR_sR, mR_cpI, i2b_i2b, i2b_sb, iI_lit, iI_add, iI_sub, iI_mul, iI_neg, iI_lt, iI_le, iI_eq, iI_J, lt_T, lt_F, le_T, le_F, eq_T, eq_F, eqN_T, eqN_F, leN_T, leN_F, ltN_T, ltN_F, if_true, if_false, and_true, true_and, and_false, false_and, or_true, true_or, or_false, false_or, not_true_eq_false, not_false_eq_true, and_self, or_self, tn_c, ne_eq, dite_true, dite_false]; done)) | (with_reducible apply if_f; · (simp -implicitDefEqProofs (disch := (first | decide | omega)) only [k159, r159_1, b1, b2, b3, b4, eb, hA, ak, e1, bo_s, bd_s, bn_s, gI_s, gJ_s, gR_s, pI_s, pZ_s, pJ_s, pR_s, chk_s, chN_s, chN_n, aL_s, aI_c, aJ_c, aR_c, wI_c, wB_c, wS_c, wZ_c, wJ_c, wR_c, mK_sI, mK_sJ, mK_sR, mK_cpI, mL_sI, mL_sJ, mL_sR, mL_cpI, mI_sI, mI_sJ, mI_sR, mI_cpI, mJ_sI, mJ_sJ, mJ_sR, mJ_cpI, mR_sI, mR_sJ, mR_sR, mR_cpI, i2b_i2b, i2b_sb, iI_lit, iI_add, iI_sub, iI_mul, iI_neg, iI_lt, iI_le, iI_eq, iI_J, lt_T, lt_F, le_T, le_F, eq_T, eq_F, eqN_T, eqN_F, leN_T, leN_F, ltN_T, ltN_F, if_true, if_false, and_true, true_and, and_false, false_and, or_true, true_or, or_false, false_or, not_true_eq_false, not_false_eq_true, and_self, or_self, tn_c, ne_eq, dite_true, dite_false]; done)) | (with_reducible apply rz_t; · (simp -implicitDefEqProofs (disch := (first | decide | omega)) only [k159, r159_1, b1, b2, b3, b4, eb, hA, ak, e1, bo_s, bd_s, bn_s, gI_s, gJ_s, gR_s, pI_s, pZ_s, pJ_s, pR_s, chk_s, chN_s, chN_n, aL_s, aI_c, aJ_c, aR_c, wI_c, wB_c, wS_c, wZ_c, wJ_c, wR_c, mK_sI, mK_sJ, mK_sR, mK_cpI, mL_sI, mL_sJ, mL_sR, mL_cpI, mI_sI, mI_sJ, mI_sR, mI_cpI, mJ_sI, mJ_sJ, mJ_sR, mJ_cpI, mR_sI, mR_sJ, mR_sR, mR_cpI, i2b_i2b, i2b_sb, iI_lit, iI_add, iI_sub, iI_mul, iI_neg, iI_lt, iI_le, iI_eq, iI_J, lt_T, lt_F, le_T, le_F, eq_T, eq_F, eqN_T, eqN_F, leN_T, leN_F, ltN_T, ltN_F, if_true, if_false, and_true, true_and, and_false, false_and, or_true, true_or, or_false, false_or, not_true_eq_false, not_false_eq_true, and_self, or_self, tn_c, ne_eq, dite_true, dite_false]; done)) | (unfold fX6_writeSequences_B75) | (unfold fX8_put) | (unfold fX8_put_L21))); (try (simp -implicitDefEqProofs (disch := (first | decide | omega)) only [k159, r159_1, b1, b2, b3, b4, eb, hA, ak, e1, bo_s, bd_s, bn_s, gI_s, gJ_s, gR_s, pI_s, pZ_s, pJ_s, pR_s, chk_s, chN_s, chN_n, aL_s, aI_c, aJ_c, aR_c, wI_c, wB_c, wS_c, wZ_c, wJ_c, wR_c, mK_sI, mK_sJ, mK_sR, mK_cpI, mL_sI, mL_sJ, mL_sR, mL_cpI, mI_sI, mI_sJ, mI_sR, mI_cpI, mJ_sI, mJ_sJ, mJ_sR, mJ_cpI, mR_sI, mR_sJ, mR_sR, mR_cpI, i2b_i2b, i2b_sb, iI_lit, iI_add, iI_sub, iI_mul, iI_neg, iI_lt, iI_le, iI_eq, iI_J, lt_T, lt_F, le_T, le_F, eq_T, eq_F, eqN_T, eqN_F, leN_T, leN_F, ltN_T, ltN_F, if_true, if_false, and_true, true_and, and_false, false_and, or_true, true_or, or_false, false_or, not_true_eq_false, not_false_eq_true, and_self, or_self, tn_c, ne_eq, dite_true, dite_false])); (with_reducible exact rfl)))
    exact w_ret fin
  · have hk3 : k < 3 := by omega
    obtain ⟨v, N, e1, ev, n1, n2, n3, n4, n5, sN⟩ := cwtab_ok hCO hDO hQO hR hk3 h14O hlv hBO h2O h3O (by omega)
    have hm2' := mdQ_2 (lv := lv) (f := syQ cn cp vl k) (m := m)
    have eor := (or_md (k := k) (v := mdQ lv (syQ cn cp vl k) m) hk3 hm2' hd2 hd).1
    have sNw := sN.weak (WTq_sq hk3)
    have nx := ih (dd - 1) (some 159, iI m, iI (qW1 u p m).2, iI (mdS lv cn cp vl m (k + 1) : Nat), iI ((k : Int) + 1)) N (by omega) ⟨k + 1, by omega, hS.tr sNw, n1, n2, n3, fun q hq => by
      by_cases eq : q = k
      · rw [eq]
        exact ⟨n4, n5⟩
      · obtain ⟨t1, t2⟩ := hTs q (by omega)
        have hct := ctQ_r (mdQ lv (syQ cn cp vl q) m) q
        have hne : ∀ j, ¬ WTq k (ctQ (mdQ lv (syQ cn cp vl q) m) q) j ∧ ¬ WTq k (ctQ (mdQ lv (syQ cn cp vl q) m) q + 1) j := fun j => by
          unfold WTq WT Rw2
          omega
        exact ⟨(sN.R 177 q (by unfold WTq WT Rw2; omega)).trans t1, t2.sm sN (hne 0).1 fun j => (hne j).2⟩, by rw [show ((k + 1 : Nat) : Int) = (k : Int) + 1 by omega]⟩
    rw [mdS] at nx
    subst ev
    have k159 : mK O 159 = 6 := hCO.k 159 (by decide) (by decide)
    clear ih hC hD hQ hR hB h2 h3 hS hBO h2O h3O hTs hCO hDO hQO h14O n1 n2 n3 n4 n5 sN sNw hd
    generalize (qW1 u p m).2 = pl at *
    generalize mdQ lv (syQ cn cp vl k) m * 2 ^ (6 - 2 * k) = mm at *
    generalize mdQ lv (syQ cn cp vl k) m = mq at *
    generalize mdS lv cn cp vl m k = md at *
    (with_reducible apply w_e; · ((repeat' (first | (with_reducible apply bo_t; · ((try (simp -implicitDefEqProofs (disch := (first | decide | omega)) only [k159, e1, eor, bo_s, bd_s, bn_s, gI_s, gJ_s, gR_s, pI_s, pZ_s, pJ_s, pR_s, chk_s, chN_s, chN_n, aL_s, aI_c, aJ_c, aR_c, wI_c, wB_c, wS_c, wZ_c, wJ_c, wR_c, mK_sI, mK_sJ, mK_sR, mK_cpI, mL_sI, mL_sJ, mL_sR, mL_cpI, mI_sI, mI_sJ, mI_sR, mI_cpI, mJ_sI, mJ_sJ, mJ_sR, mJ_cpI, mR_sI, mR_sJ, mR_sR, mR_cpI, i2b_i2b, i2b_sb, iI_lit, iI_add, iI_sub, iI_mul, iI_neg, iI_lt, iI_le, iI_eq, iI_J, lt_T, lt_F, le_T, le_F, eq_T, eq_F, eqN_T, eqN_F, leN_T, leN_F, ltN_T, ltN_F, if_true, if_false, and_true, true_and, and_false, false_and, or_true, true_or, or_false, false_or, not_true_eq_false, not_false_eq_true, and_self, or_self, tn_c, ne_eq, dite_true, dite_false])); (with_reducible exact rfl))) | (with_reducible apply bd_t; · ((try (simp -implicitDefEqProofs (disch := (first | decide | omega)) only [k159, e1, eor, bo_s, bd_s, bn_s, gI_s, gJ_s, gR_s, pI_s, pZ_s, pJ_s, pR_s, chk_s, chN_s, chN_n, aL_s, aI_c, aJ_c, aR_c, wI_c, wB_c, wS_c, wZ_c, wJ_c, wR_c, mK_sI, mK_sJ, mK_sR, mK_cpI, mL_sI, mL_sJ, mL_sR, mL_cpI, mI_sI, mI_sJ, mI_sR, mI_cpI, mJ_sI, mJ_sJ, mJ_sR, mJ_cpI, mR_sI, mR_sJ, mR_sR, mR_cpI, i2b_i2b, i2b_sb, iI_lit, iI_add, iI_sub, iI_mul, iI_neg, iI_lt, iI_le, iI_eq, iI_J, lt_T, lt_F, le_T, le_F, eq_T, eq_F, eqN_T, eqN_F, leN_T, leN_F, ltN_T, ltN_F, if_true, if_false, and_true, true_and, and_false, false_and, or_true, true_or, or_false, false_or, not_true_eq_false, not_false_eq_true, and_self, or_self, tn_c, ne_eq, dite_true, dite_false])); (with_reducible exact rfl))) | (with_reducible apply bn_t; · ((try (simp -implicitDefEqProofs (disch := (first | decide | omega)) only [k159, e1, eor, bo_s, bd_s, bn_s, gI_s, gJ_s, gR_s, pI_s, pZ_s, pJ_s, pR_s, chk_s, chN_s, chN_n, aL_s, aI_c, aJ_c, aR_c, wI_c, wB_c, wS_c, wZ_c, wJ_c, wR_c, mK_sI, mK_sJ, mK_sR, mK_cpI, mL_sI, mL_sJ, mL_sR, mL_cpI, mI_sI, mI_sJ, mI_sR, mI_cpI, mJ_sI, mJ_sJ, mJ_sR, mJ_cpI, mR_sI, mR_sJ, mR_sR, mR_cpI, i2b_i2b, i2b_sb, iI_lit, iI_add, iI_sub, iI_mul, iI_neg, iI_lt, iI_le, iI_eq, iI_J, lt_T, lt_F, le_T, le_F, eq_T, eq_F, eqN_T, eqN_F, leN_T, leN_F, ltN_T, ltN_F, if_true, if_false, and_true, true_and, and_false, false_and, or_true, true_or, or_false, false_or, not_true_eq_false, not_false_eq_true, and_self, or_self, tn_c, ne_eq, dite_true, dite_false])); (with_reducible exact rfl))) | (with_reducible apply if_t; · (simp -implicitDefEqProofs (disch := (first | decide | omega)) only [k159, e1, eor, bo_s, bd_s, bn_s, gI_s, gJ_s, gR_s, pI_s, pZ_s, pJ_s, pR_s, chk_s, chN_s, chN_n, aL_s, aI_c, aJ_c, aR_c, wI_c, wB_c, wS_c, wZ_c, wJ_c, wR_c, mK_sI, mK_sJ, mK_sR, mK_cpI, mL_sI, mL_sJ, mL_sR, mL_cpI, mI_sI, mI_sJ, mI_sR, mI_cpI, mJ_sI, mJ_sJ, mJ_sR, mJ_cpI, mR_sI, mR_sJ, mR_sR, mR_cpI, i2b_i2b, i2b_sb, iI_lit, iI_add, iI_sub, iI_mul, iI_neg, iI_lt, iI_le, iI_eq, iI_J, lt_T, lt_F, le_T, le_F, eq_T, eq_F, eqN_T, eqN_F, leN_T, leN_F, ltN_T, ltN_F, if_true, if_false, and_true, true_and, and_false, false_and, or_true, true_or, or_false, false_or, not_true_eq_false, not_false_eq_true, and_self, or_self, tn_c, ne_eq, dite_true, dite_false]; done)) | (with_reducible apply if_f; · (simp -implicitDefEqProofs (disch := (first | decide | omega)) only [k159, e1, eor, bo_s, bd_s, bn_s, gI_s, gJ_s, gR_s, pI_s, pZ_s, pJ_s, pR_s, chk_s, chN_s, chN_n, aL_s, aI_c, aJ_c, aR_c, wI_c, wB_c, wS_c, wZ_c, wJ_c, wR_c, mK_sI, mK_sJ, mK_sR, mK_cpI, mL_sI, mL_sJ, mL_sR, mL_cpI, mI_sI, mI_sJ, mI_sR, mI_cpI, mJ_sI, mJ_sJ, mJ_sR, mJ_cpI, mR_sI, mR_sJ, mR_sR, mR_cpI, i2b_i2b, i2b_sb, iI_lit, iI_add, iI_sub, iI_mul, iI_neg, iI_lt, iI_le, iI_eq, iI_J, lt_T, lt_F, le_T, le_F, eq_T, eq_F, eqN_T, eqN_F, leN_T, leN_F, ltN_T, ltN_F, if_true, if_false, and_true, true_and, and_false, false_and, or_true, true_or, or_false, false_or, not_true_eq_false, not_false_eq_true, and_self, or_self, tn_c, ne_eq, dite_true, dite_false]; done)) | (with_reducible apply rz_t; · (simp -implicitDefEqProofs (disch := (first | decide | omega)) only [k159, e1, eor, bo_s, bd_s, bn_s, gI_s, gJ_s, gR_s, pI_s, pZ_s, pJ_s, pR_s, chk_s, chN_s, chN_n, aL_s, aI_c, aJ_c, aR_c, wI_c, wB_c, wS_c, wZ_c, wJ_c, wR_c, mK_sI, mK_sJ, mK_sR, mK_cpI, mL_sI, mL_sJ, mL_sR, mL_cpI, mI_sI, mI_sJ, mI_sR, mI_cpI, mJ_sI, mJ_sJ, mJ_sR, mJ_cpI, mR_sI, mR_sJ, mR_sR, mR_cpI, i2b_i2b, i2b_sb, iI_lit, iI_add, iI_sub, iI_mul, iI_neg, iI_lt, iI_le, iI_eq, iI_J, lt_T, lt_F, le_T, le_F, eq_T, eq_F, eqN_T, eqN_F, leN_T, leN_F, ltN_T, ltN_F, if_true, if_false, and_true, true_and, and_false, false_and, or_true, true_or, or_false, false_or, not_true_eq_false, not_false_eq_true, and_self, or_self, tn_c, ne_eq, dite_true, dite_false]; done)) | (unfold fX6_writeSequences_B75))); (try (simp -implicitDefEqProofs (disch := (first | decide | omega)) only [k159, e1, eor, bo_s, bd_s, bn_s, gI_s, gJ_s, gR_s, pI_s, pZ_s, pJ_s, pR_s, chk_s, chN_s, chN_n, aL_s, aI_c, aJ_c, aR_c, wI_c, wB_c, wS_c, wZ_c, wJ_c, wR_c, mK_sI, mK_sJ, mK_sR, mK_cpI, mL_sI, mL_sJ, mL_sR, mL_cpI, mI_sI, mI_sJ, mI_sR, mI_cpI, mJ_sI, mJ_sJ, mJ_sR, mJ_cpI, mR_sI, mR_sJ, mR_sR, mR_cpI, i2b_i2b, i2b_sb, iI_lit, iI_add, iI_sub, iI_mul, iI_neg, iI_lt, iI_le, iI_eq, iI_J, lt_T, lt_F, le_T, le_F, eq_T, eq_F, eqN_T, eqN_F, leN_T, leN_F, ltN_T, ltN_F, if_true, if_false, and_true, true_and, and_false, false_and, or_true, true_or, or_false, false_or, not_true_eq_false, not_false_eq_true, and_self, or_self, tn_c, ne_eq, dite_true, dite_false])); (with_reducible exact rfl)))
    exact nx
set_option maxHeartbeats 4000000 in
theorem cseqs_ok (hC : CSt M) (hD : DfV M) (hQ : QC M m cn cp vl) (hR : QR m cn cp vl) (h14 : mI M 159 14 = iI lv) (hlv : lv < 100) (hB : RV M 170 171 8000 p u) (h2 : mJ M 170 2 = iJ 0) (h3 : mI M 170 3 = iI 0) (hp : p < 7000) :
    Wp (fX6_writeSequences (some 159) M) fun _ N => RV N 170 171 8000 (qW u p lv cn cp vl m).2 (qW u p lv cn cp vl m).1 ∧ mJ N 170 2 = iJ 0 ∧ mI N 170 3 = iI 0 ∧ Sm Wsq M N := by
  have hm2 := hR.1
  have hrw : ∀ a j, Rw 170 171 a j → Wsq a j := fun a j h => Or.inl (Rw_Rw2 h)
  have l49 : ∀ A, Sm Wsq M A → RV A 170 171 8000 (qW1 u p m).2 (qW1 u p m).1 → mJ A 170 2 = iJ 0 → mI A 170 3 = iI 0 → Wp (fX6_writeSequences_L49 (some 159) (iI m) A) fun _ N => RV N 170 171 8000 (qW u p lv cn cp vl m).2 (qW u p lv cn cp vl m).1 ∧ mJ N 170 2 = iJ 0 ∧ mI N 170 3 = iI 0 ∧ Sm Wsq M N := by
    intro A sA hBA a2 a3
    by_cases c0 : m = 0
    · have e : qW u p lv cn cp vl m = qW1 u p m := by unfold qW; rw [if_pos c0]
      have fin : (fun (_ : Unit) N => RV N 170 171 8000 (qW u p lv cn cp vl m).2 (qW u p lv cn cp vl m).1 ∧ mJ N 170 2 = iJ 0 ∧ mI N 170 3 = iI 0 ∧ Sm Wsq M N) () A := ⟨by rw [e]; exact hBA, a2, a3, sA⟩
      clear hC hD hQ hR hB h2 h3 sA hBA
      (with_reducible apply w_e; · ((repeat' (first | (with_reducible apply bo_t; · ((try (simp -implicitDefEqProofs (disch := (first | decide | omega)) only [bo_s, bd_s, bn_s, gI_s, gJ_s, gR_s, pI_s, pZ_s, pJ_s, pR_s, chk_s, chN_s, chN_n, aL_s, aI_c, aJ_c, aR_c, wI_c, wB_c, wS_c, wZ_c, wJ_c, wR_c, mK_sI, mK_sJ, mK_sR, mK_cpI, mL_sI, mL_sJ, mL_sR, mL_cpI, mI_sI, mI_sJ, mI_sR, mI_cpI, mJ_sI, mJ_sJ, mJ_sR, mJ_cpI, mR_sI, mR_sJ, mR_sR, mR_cpI, i2b_i2b, i2b_sb, iI_lit, iI_add, iI_sub, iI_mul, iI_neg, iI_lt, iI_le, iI_eq, iI_J, lt_T, lt_F, le_T, le_F, eq_T, eq_F, eqN_T, eqN_F, leN_T, leN_F, ltN_T, ltN_F, if_true, if_false, and_true, true_and, and_false, false_and, or_true, true_or, or_false, false_or, not_true_eq_false, not_false_eq_true, and_self, or_self, tn_c, ne_eq, dite_true, dite_false])); (with_reducible exact rfl))) | (with_reducible apply bd_t; · ((try (simp -implicitDefEqProofs (disch := (first | decide | omega)) only [bo_s, bd_s, bn_s, gI_s, gJ_s, gR_s, pI_s, pZ_s, pJ_s, pR_s, chk_s, chN_s, chN_n, aL_s, aI_c, aJ_c, aR_c, wI_c, wB_c, wS_c, wZ_c, wJ_c, wR_c, mK_sI, mK_sJ, mK_sR, mK_cpI, mL_sI, mL_sJ, mL_sR, mL_cpI, mI_sI, mI_sJ, mI_sR, mI_cpI, mJ_sI, mJ_sJ, mJ_sR, mJ_cpI, mR_sI, mR_sJ, mR_sR, mR_cpI, i2b_i2b, i2b_sb, iI_lit, iI_add, iI_sub, iI_mul, iI_neg, iI_lt, iI_le, iI_eq, iI_J, lt_T, lt_F, le_T, le_F, eq_T, eq_F, eqN_T, eqN_F, leN_T, leN_F, ltN_T, ltN_F, if_true, if_false, and_true, true_and, and_false, false_and, or_true, true_or, or_false, false_or, not_true_eq_false, not_false_eq_true, and_self, or_self, tn_c, ne_eq, dite_true, dite_false])); (with_reducible exact rfl))) | (with_reducible apply bn_t; · ((try (simp -implicitDefEqProofs (disch := (first | decide | omega)) only [bo_s, bd_s, bn_s, gI_s, gJ_s, gR_s, pI_s, pZ_s, pJ_s, pR_s, chk_s, chN_s, chN_n, aL_s, aI_c, aJ_c, aR_c, wI_c, wB_c, wS_c, wZ_c, wJ_c, wR_c, mK_sI, mK_sJ, mK_sR, mK_cpI, mL_sI, mL_sJ, mL_sR, mL_cpI, mI_sI, mI_sJ, mI_sR, mI_cpI, mJ_sI, mJ_sJ, mJ_sR, mJ_cpI, mR_sI, mR_sJ, mR_sR, mR_cpI, i2b_i2b, i2b_sb, iI_lit, iI_add, iI_sub, iI_mul, iI_neg, iI_lt, iI_le, iI_eq, iI_J, lt_T, lt_F, le_T, le_F, eq_T, eq_F, eqN_T, eqN_F, leN_T, leN_F, ltN_T, ltN_F, if_true, if_false, and_true, true_and, and_false, false_and, or_true, true_or, or_false, false_or, not_true_eq_false, not_false_eq_true, and_self, or_self, tn_c, ne_eq, dite_true, dite_false])); (with_reducible exact rfl))) | (with_reducible apply if_t; · (simp -implicitDefEqProofs (disch := (first | decide | omega)) only [bo_s, bd_s, bn_s, gI_s, gJ_s, gR_s, pI_s, pZ_s, pJ_s, pR_s, chk_s, chN_s, chN_n, aL_s, aI_c, aJ_c, aR_c, wI_c, wB_c, wS_c, wZ_c, wJ_c, wR_c, mK_sI, mK_sJ, mK_sR, mK_cpI, mL_sI, mL_sJ, mL_sR, mL_cpI, mI_sI, mI_sJ, mI_sR, mI_cpI, mJ_sI, mJ_sJ, mJ_sR, mJ_cpI, mR_sI, mR_sJ, mR_sR, mR_cpI, i2b_i2b, i2b_sb, iI_lit, iI_add, iI_sub, iI_mul, iI_neg, iI_lt, iI_le, iI_eq, iI_J, lt_T, lt_F, le_T, le_F, eq_T, eq_F, eqN_T, eqN_F, leN_T, leN_F, ltN_T, ltN_F, if_true, if_false, and_true, true_and, and_false, false_and, or_true, true_or, or_false, false_or, not_true_eq_false, not_false_eq_true, and_self, or_self, tn_c, ne_eq, dite_true, dite_false]; done)) | (with_reducible apply if_f; · (simp -implicitDefEqProofs (disch := (first | decide | omega)) only [bo_s, bd_s, bn_s, gI_s, gJ_s, gR_s, pI_s, pZ_s, pJ_s, pR_s, chk_s, chN_s, chN_n, aL_s, aI_c, aJ_c, aR_c, wI_c, wB_c, wS_c, wZ_c, wJ_c, wR_c, mK_sI, mK_sJ, mK_sR, mK_cpI, mL_sI, mL_sJ, mL_sR, mL_cpI, mI_sI, mI_sJ, mI_sR, mI_cpI, mJ_sI, mJ_sJ, mJ_sR, mJ_cpI, mR_sI, mR_sJ, mR_sR, mR_cpI, i2b_i2b, i2b_sb, iI_lit, iI_add, iI_sub, iI_mul, iI_neg, iI_lt, iI_le, iI_eq, iI_J, lt_T, lt_F, le_T, le_F, eq_T, eq_F, eqN_T, eqN_F, leN_T, leN_F, ltN_T, ltN_F, if_true, if_false, and_true, true_and, and_false, false_and, or_true, true_or, or_false, false_or, not_true_eq_false, not_false_eq_true, and_self, or_self, tn_c, ne_eq, dite_true, dite_false]; done)) | (with_reducible apply rz_t; · (simp -implicitDefEqProofs (disch := (first | decide | omega)) only [bo_s, bd_s, bn_s, gI_s, gJ_s, gR_s, pI_s, pZ_s, pJ_s, pR_s, chk_s, chN_s, chN_n, aL_s, aI_c, aJ_c, aR_c, wI_c, wB_c, wS_c, wZ_c, wJ_c, wR_c, mK_sI, mK_sJ, mK_sR, mK_cpI, mL_sI, mL_sJ, mL_sR, mL_cpI, mI_sI, mI_sJ, mI_sR, mI_cpI, mJ_sI, mJ_sJ, mJ_sR, mJ_cpI, mR_sI, mR_sJ, mR_sR, mR_cpI, i2b_i2b, i2b_sb, iI_lit, iI_add, iI_sub, iI_mul, iI_neg, iI_lt, iI_le, iI_eq, iI_J, lt_T, lt_F, le_T, le_F, eq_T, eq_F, eqN_T, eqN_F, leN_T, leN_F, ltN_T, ltN_F, if_true, if_false, and_true, true_and, and_false, false_and, or_true, true_or, or_false, false_or, not_true_eq_false, not_false_eq_true, and_self, or_self, tn_c, ne_eq, dite_true, dite_false]; done)) | (unfold fX6_writeSequences_L49))); (try (simp -implicitDefEqProofs (disch := (first | decide | omega)) only [bo_s, bd_s, bn_s, gI_s, gJ_s, gR_s, pI_s, pZ_s, pJ_s, pR_s, chk_s, chN_s, chN_n, aL_s, aI_c, aJ_c, aR_c, wI_c, wB_c, wS_c, wZ_c, wJ_c, wR_c, mK_sI, mK_sJ, mK_sR, mK_cpI, mL_sI, mL_sJ, mL_sR, mL_cpI, mI_sI, mI_sJ, mI_sR, mI_cpI, mJ_sI, mJ_sJ, mJ_sR, mJ_cpI, mR_sI, mR_sJ, mR_sR, mR_cpI, i2b_i2b, i2b_sb, iI_lit, iI_add, iI_sub, iI_mul, iI_neg, iI_lt, iI_le, iI_eq, iI_J, lt_T, lt_F, le_T, le_F, eq_T, eq_F, eqN_T, eqN_F, leN_T, leN_F, ltN_T, ltN_F, if_true, if_false, and_true, true_and, and_false, false_and, or_true, true_or, or_false, false_or, not_true_eq_false, not_false_eq_true, and_self, or_self, tn_c, ne_eq, dite_true, dite_false])); (with_reducible exact rfl)))
      exact w_ret fin
    · have hq1 := qW1_L (u := u) (p := p) hm2
      have hCA := hC.sm sA Wsq_fx
      obtain ⟨k159, r159_1⟩ : mK A 159 = 6 ∧ mR A 159 1 = some 170 := ⟨hCA.k 159 (by decide) (by decide), hCA.r 159 1 (by decide) (by decide) (by decide)⟩
      have k170 : mK A 170 = 8 := hBA.1.1
      have a1 := hBA.2.1
      have hBA' : RV A 170 171 8000 (qW1 u p m).2 (qW2 u p lv cn cp vl m 0).1 := wr_0 hBA
      obtain ⟨v1, B, e1, hB1, sB⟩ := add_v hBA' (by omega) (by omega) (by omega) (iI 0) (by
        show wr (qW1 u p m).1 (qW1 u p m).2 0 (qW1 u p m).2 = _
        rw [wr_1 (by omega), bN_iI]
        rfl)
      have sBw : Sm Wsq M B := sA.tr (sB.weak hrw)
      have main := cseq75 (u := u) (p := p) (hC.sm sBw Wsq_fx) (hD.sm sBw fun q j hq => by unfold Wsq Rw2; omega) (hQ.sm sBw (by unfold Wsq Rw2; omega) (fun j => by unfold Wsq Rw2; omega)) hR (by omega) ((sBw.I 159 14 (by unfold Wsq Rw2; omega)).trans h14) hlv hB1 ((sB.J 170 2 (by unfold Rw; omega)).trans a2) ((sB.I 170 3 (by unfold Rw; omega)).trans a3) hp
      have main := w_mono main fun _ N h => show RV N 170 171 8000 (qW u p lv cn cp vl m).2 (qW u p lv cn cp vl m).1 ∧ mJ N 170 2 = iJ 0 ∧ mI N 170 3 = iI 0 ∧ Sm Wsq M N from ⟨h.1, h.2.1, h.2.2.1, sBw.tr h.2.2.2⟩
      clear hC hD hQ hR hB h2 h3 sA hBA hBA' hB1 sB sBw hCA
      generalize (qW1 u p m).2 = pl at *
      (with_reducible apply w_e; · ((repeat' (first | (with_reducible apply bo_t; · ((try (simp -implicitDefEqProofs (disch := (first | decide | omega)) only [k159, r159_1, k170, a1, e1, bo_s, bd_s, bn_s, gI_s, gJ_s, gR_s, pI_s, pZ_s, pJ_s, pR_s, chk_s, chN_s, chN_n, aL_s, aI_c, aJ_c, aR_c, wI_c, wB_c, wS_c, wZ_c, wJ_c, wR_c, mK_sI, mK_sJ, mK_sR, mK_cpI, mL_sI, mL_sJ, mL_sR, mL_cpI, mI_sI, mI_sJ, mI_sR, mI_cpI, mJ_sI, mJ_sJ, mJ_sR, mJ_cpI, mR_sI, mR_sJ, mR_sR, mR_cpI, i2b_i2b, i2b_sb, iI_lit, iI_add, iI_sub, iI_mul, iI_neg, iI_lt, iI_le, iI_eq, iI_J, lt_T, lt_F, le_T, le_F, eq_T, eq_F, eqN_T, eqN_F, leN_T, leN_F, ltN_T, ltN_F, if_true, if_false, and_true, true_and, and_false, false_and, or_true, true_or, or_false, false_or, not_true_eq_false, not_false_eq_true, and_self, or_self, tn_c, ne_eq, dite_true, dite_false])); (with_reducible exact rfl))) | (with_reducible apply bd_t; · ((try (simp -implicitDefEqProofs (disch := (first | decide | omega)) only [k159, r159_1, k170, a1, e1, bo_s, bd_s, bn_s, gI_s, gJ_s, gR_s, pI_s, pZ_s, pJ_s, pR_s, chk_s, chN_s, chN_n, aL_s, aI_c, aJ_c, aR_c, wI_c, wB_c, wS_c, wZ_c, wJ_c, wR_c, mK_sI, mK_sJ, mK_sR, mK_cpI, mL_sI, mL_sJ, mL_sR, mL_cpI, mI_sI, mI_sJ, mI_sR, mI_cpI, mJ_sI, mJ_sJ, mJ_sR, mJ_cpI, mR_sI, mR_sJ, mR_sR, mR_cpI, i2b_i2b, i2b_sb, iI_lit, iI_add, iI_sub, iI_mul, iI_neg, iI_lt, iI_le, iI_eq, iI_J, lt_T, lt_F, le_T, le_F, eq_T, eq_F, eqN_T, eqN_F, leN_T, leN_F, ltN_T, ltN_F, if_true, if_false, and_true, true_and, and_false, false_and, or_true, true_or, or_false, false_or, not_true_eq_false, not_false_eq_true, and_self, or_self, tn_c, ne_eq, dite_true, dite_false])); (with_reducible exact rfl))) | (with_reducible apply bn_t; · ((try (simp -implicitDefEqProofs (disch := (first | decide | omega)) only [k159, r159_1, k170, a1, e1, bo_s, bd_s, bn_s, gI_s, gJ_s, gR_s, pI_s, pZ_s, pJ_s, pR_s, chk_s, chN_s, chN_n, aL_s, aI_c, aJ_c, aR_c, wI_c, wB_c, wS_c, wZ_c, wJ_c, wR_c, mK_sI, mK_sJ, mK_sR, mK_cpI, mL_sI, mL_sJ, mL_sR, mL_cpI, mI_sI, mI_sJ, mI_sR, mI_cpI, mJ_sI, mJ_sJ, mJ_sR, mJ_cpI, mR_sI, mR_sJ, mR_sR, mR_cpI, i2b_i2b, i2b_sb, iI_lit, iI_add, iI_sub, iI_mul, iI_neg, iI_lt, iI_le, iI_eq, iI_J, lt_T, lt_F, le_T, le_F, eq_T, eq_F, eqN_T, eqN_F, leN_T, leN_F, ltN_T, ltN_F, if_true, if_false, and_true, true_and, and_false, false_and, or_true, true_or, or_false, false_or, not_true_eq_false, not_false_eq_true, and_self, or_self, tn_c, ne_eq, dite_true, dite_false])); (with_reducible exact rfl))) | (with_reducible apply if_t; · (simp -implicitDefEqProofs (disch := (first | decide | omega)) only [k159, r159_1, k170, a1, e1, bo_s, bd_s, bn_s, gI_s, gJ_s, gR_s, pI_s, pZ_s, pJ_s, pR_s, chk_s, chN_s, chN_n, aL_s, aI_c, aJ_c, aR_c, wI_c, wB_c, wS_c, wZ_c, wJ_c, wR_c, mK_sI, mK_sJ, mK_sR, mK_cpI, mL_sI, mL_sJ, mL_sR, mL_cpI, mI_sI, mI_sJ, mI_sR, mI_cpI, mJ_sI, mJ_sJ, mJ_sR, mJ_cpI, mR_sI, mR_sJ, mR_sR, mR_cpI, i2b_i2b, i2b_sb, iI_lit, iI_add, iI_sub, iI_mul, iI_neg, iI_lt, iI_le, iI_eq, iI_J, lt_T, lt_F, le_T, le_F, eq_T, eq_F, eqN_T, eqN_F, leN_T, leN_F, ltN_T, ltN_F, if_true, if_false, and_true, true_and, and_false, false_and, or_true, true_or, or_false, false_or, not_true_eq_false, not_false_eq_true, and_self, or_self, tn_c, ne_eq, dite_true, dite_false]; done)) | (with_reducible apply if_f; · (simp -implicitDefEqProofs (disch := (first | decide | omega)) only [k159, r159_1, k170, a1, e1, bo_s, bd_s, bn_s, gI_s, gJ_s, gR_s, pI_s, pZ_s, pJ_s, pR_s, chk_s, chN_s, chN_n, aL_s, aI_c, aJ_c, aR_c, wI_c, wB_c, wS_c, wZ_c, wJ_c, wR_c, mK_sI, mK_sJ, mK_sR, mK_cpI, mL_sI, mL_sJ, mL_sR, mL_cpI, mI_sI, mI_sJ, mI_sR, mI_cpI, mJ_sI, mJ_sJ, mJ_sR, mJ_cpI, mR_sI, mR_sJ, mR_sR, mR_cpI, i2b_i2b, i2b_sb, iI_lit, iI_add, iI_sub, iI_mul, iI_neg, iI_lt, iI_le, iI_eq, iI_J, lt_T, lt_F, le_T, le_F, eq_T, eq_F, eqN_T, eqN_F, leN_T, leN_F, ltN_T, ltN_F, if_true, if_false, and_true, true_and, and_false, false_and, or_true, true_or, or_false, false_or, not_true_eq_false, not_false_eq_true, and_self, or_self, tn_c, ne_eq, dite_true, dite_false]; done)) | (with_reducible apply rz_t; · (simp -implicitDefEqProofs (disch := (first | decide | omega)) only [k159, r159_1, k170, a1, e1, bo_s, bd_s, bn_s, gI_s, gJ_s, gR_s, pI_s, pZ_s, pJ_s, pR_s, chk_s, chN_s, chN_n, aL_s, aI_c, aJ_c, aR_c, wI_c, wB_c, wS_c, wZ_c, wJ_c, wR_c, mK_sI, mK_sJ, mK_sR, mK_cpI, mL_sI, mL_sJ, mL_sR, mL_cpI, mI_sI, mI_sJ, mI_sR, mI_cpI, mJ_sI, mJ_sJ, mJ_sR, mJ_cpI, mR_sI, mR_sJ, mR_sR, mR_cpI, i2b_i2b, i2b_sb, iI_lit, iI_add, iI_sub, iI_mul, iI_neg, iI_lt, iI_le, iI_eq, iI_J, lt_T, lt_F, le_T, le_F, eq_T, eq_F, eqN_T, eqN_F, leN_T, leN_F, ltN_T, ltN_F, if_true, if_false, and_true, true_and, and_false, false_and, or_true, true_or, or_false, false_or, not_true_eq_false, not_false_eq_true, and_self, or_self, tn_c, ne_eq, dite_true, dite_false]; done)) | (unfold fX6_writeSequences_L49))); (try (simp -implicitDefEqProofs (disch := (first | decide | omega)) only [k159, r159_1, k170, a1, e1, bo_s, bd_s, bn_s, gI_s, gJ_s, gR_s, pI_s, pZ_s, pJ_s, pR_s, chk_s, chN_s, chN_n, aL_s, aI_c, aJ_c, aR_c, wI_c, wB_c, wS_c, wZ_c, wJ_c, wR_c, mK_sI, mK_sJ, mK_sR, mK_cpI, mL_sI, mL_sJ, mL_sR, mL_cpI, mI_sI, mI_sJ, mI_sR, mI_cpI, mJ_sI, mJ_sJ, mJ_sR, mJ_cpI, mR_sI, mR_sJ, mR_sR, mR_cpI, i2b_i2b, i2b_sb, iI_lit, iI_add, iI_sub, iI_mul, iI_neg, iI_lt, iI_le, iI_eq, iI_J, lt_T, lt_F, le_T, le_F, eq_T, eq_F, eqN_T, eqN_F, leN_T, leN_F, ltN_T, ltN_F, if_true, if_false, and_true, true_and, and_false, false_and, or_true, true_or, or_false, false_or, not_true_eq_false, not_false_eq_true, and_self, or_self, tn_c, ne_eq, dite_true, dite_false])); (with_reducible exact rfl)))
      exact main
  obtain ⟨k159, k160, r159_0, r159_1⟩ : mK M 159 = 6 ∧ mK M 160 = 3 ∧ mR M 159 0 = some 160 ∧ mR M 159 1 = some 170 := ⟨hC.k 159 (by decide) (by decide), hC.k 160 (by decide) (by decide), hC.r 159 0 (by decide) (by decide) (by decide), hC.r 159 1 (by decide) (by decide) (by decide)⟩
  have k170 : mK M 170 = 8 := hB.1.1
  have q1 := hQ.1
  by_cases c1 : m < 128
  · have e : qW1 u p m = (wr u p m, p + 1) := by unfold qW1 apW hdW; rw [if_pos c1]; show (wr u p m, p + (8 + 7) / 8) = (wr u p m, p + 1); rw [show p + (8 + 7) / 8 = p + 1 by omega]
    obtain ⟨v1, A, e1, hA, sA⟩ := add_v (wr_0 (X := m) hB) (by omega) (by omega) (by omega) (iI m) (by
      rw [wr_1 (by omega), bN_iI]
      omega)
    have main := l49 A (sA.weak hrw) (by rw [e]; exact hA) ((sA.J 170 2 (by unfold Rw; omega)).trans h2) ((sA.I 170 3 (by unfold Rw; omega)).trans h3)
    clear hC hD hQ hR hB h2 h3 hA sA l49
    (with_reducible apply w_e; · ((repeat' (first | (with_reducible apply bo_t; · ((try (simp -implicitDefEqProofs (disch := (first | decide | omega)) only [k159, r159_0, k160, q1, r159_1, k170, e1, bo_s, bd_s, bn_s, gI_s, gJ_s, gR_s, pI_s, pZ_s, pJ_s, pR_s, chk_s, chN_s, chN_n, aL_s, aI_c, aJ_c, aR_c, wI_c, wB_c, wS_c, wZ_c, wJ_c, wR_c, mK_sI, mK_sJ, mK_sR, mK_cpI, mL_sI, mL_sJ, mL_sR, mL_cpI, mI_sI, mI_sJ, mI_sR, mI_cpI, mJ_sI, mJ_sJ, mJ_sR, mJ_cpI, mR_sI, mR_sJ, mR_sR, mR_cpI, i2b_i2b, i2b_sb, iI_lit, iI_add, iI_sub, iI_mul, iI_neg, iI_lt, iI_le, iI_eq, iI_J, lt_T, lt_F, le_T, le_F, eq_T, eq_F, eqN_T, eqN_F, leN_T, leN_F, ltN_T, ltN_F, if_true, if_false, and_true, true_and, and_false, false_and, or_true, true_or, or_false, false_or, not_true_eq_false, not_false_eq_true, and_self, or_self, tn_c, ne_eq, dite_true, dite_false])); (with_reducible exact rfl))) | (with_reducible apply bd_t; · ((try (simp -implicitDefEqProofs (disch := (first | decide | omega)) only [k159, r159_0, k160, q1, r159_1, k170, e1, bo_s, bd_s, bn_s, gI_s, gJ_s, gR_s, pI_s, pZ_s, pJ_s, pR_s, chk_s, chN_s, chN_n, aL_s, aI_c, aJ_c, aR_c, wI_c, wB_c, wS_c, wZ_c, wJ_c, wR_c, mK_sI, mK_sJ, mK_sR, mK_cpI, mL_sI, mL_sJ, mL_sR, mL_cpI, mI_sI, mI_sJ, mI_sR, mI_cpI, mJ_sI, mJ_sJ, mJ_sR, mJ_cpI, mR_sI, mR_sJ, mR_sR, mR_cpI, i2b_i2b, i2b_sb, iI_lit, iI_add, iI_sub, iI_mul, iI_neg, iI_lt, iI_le, iI_eq, iI_J, lt_T, lt_F, le_T, le_F, eq_T, eq_F, eqN_T, eqN_F, leN_T, leN_F, ltN_T, ltN_F, if_true, if_false, and_true, true_and, and_false, false_and, or_true, true_or, or_false, false_or, not_true_eq_false, not_false_eq_true, and_self, or_self, tn_c, ne_eq, dite_true, dite_false])); (with_reducible exact rfl))) | (with_reducible apply bn_t; · ((try (simp -implicitDefEqProofs (disch := (first | decide | omega)) only [k159, r159_0, k160, q1, r159_1, k170, e1, bo_s, bd_s, bn_s, gI_s, gJ_s, gR_s, pI_s, pZ_s, pJ_s, pR_s, chk_s, chN_s, chN_n, aL_s, aI_c, aJ_c, aR_c, wI_c, wB_c, wS_c, wZ_c, wJ_c, wR_c, mK_sI, mK_sJ, mK_sR, mK_cpI, mL_sI, mL_sJ, mL_sR, mL_cpI, mI_sI, mI_sJ, mI_sR, mI_cpI, mJ_sI, mJ_sJ, mJ_sR, mJ_cpI, mR_sI, mR_sJ, mR_sR, mR_cpI, i2b_i2b, i2b_sb, iI_lit, iI_add, iI_sub, iI_mul, iI_neg, iI_lt, iI_le, iI_eq, iI_J, lt_T, lt_F, le_T, le_F, eq_T, eq_F, eqN_T, eqN_F, leN_T, leN_F, ltN_T, ltN_F, if_true, if_false, and_true, true_and, and_false, false_and, or_true, true_or, or_false, false_or, not_true_eq_false, not_false_eq_true, and_self, or_self, tn_c, ne_eq, dite_true, dite_false])); (with_reducible exact rfl))) | (with_reducible apply if_t; · (simp -implicitDefEqProofs (disch := (first | decide | omega)) only [k159, r159_0, k160, q1, r159_1, k170, e1, bo_s, bd_s, bn_s, gI_s, gJ_s, gR_s, pI_s, pZ_s, pJ_s, pR_s, chk_s, chN_s, chN_n, aL_s, aI_c, aJ_c, aR_c, wI_c, wB_c, wS_c, wZ_c, wJ_c, wR_c, mK_sI, mK_sJ, mK_sR, mK_cpI, mL_sI, mL_sJ, mL_sR, mL_cpI, mI_sI, mI_sJ, mI_sR, mI_cpI, mJ_sI, mJ_sJ, mJ_sR, mJ_cpI, mR_sI, mR_sJ, mR_sR, mR_cpI, i2b_i2b, i2b_sb, iI_lit, iI_add, iI_sub, iI_mul, iI_neg, iI_lt, iI_le, iI_eq, iI_J, lt_T, lt_F, le_T, le_F, eq_T, eq_F, eqN_T, eqN_F, leN_T, leN_F, ltN_T, ltN_F, if_true, if_false, and_true, true_and, and_false, false_and, or_true, true_or, or_false, false_or, not_true_eq_false, not_false_eq_true, and_self, or_self, tn_c, ne_eq, dite_true, dite_false]; done)) | (with_reducible apply if_f; · (simp -implicitDefEqProofs (disch := (first | decide | omega)) only [k159, r159_0, k160, q1, r159_1, k170, e1, bo_s, bd_s, bn_s, gI_s, gJ_s, gR_s, pI_s, pZ_s, pJ_s, pR_s, chk_s, chN_s, chN_n, aL_s, aI_c, aJ_c, aR_c, wI_c, wB_c, wS_c, wZ_c, wJ_c, wR_c, mK_sI, mK_sJ, mK_sR, mK_cpI, mL_sI, mL_sJ, mL_sR, mL_cpI, mI_sI, mI_sJ, mI_sR, mI_cpI, mJ_sI, mJ_sJ, mJ_sR, mJ_cpI, mR_sI, mR_sJ, mR_sR, mR_cpI, i2b_i2b, i2b_sb, iI_lit, iI_add, iI_sub, iI_mul, iI_neg, iI_lt, iI_le, iI_eq, iI_J, lt_T, lt_F, le_T, le_F, eq_T, eq_F, eqN_T, eqN_F, leN_T, leN_F, ltN_T, ltN_F, if_true, if_false, and_true, true_and, and_false, false_and, or_true, true_or, or_false, false_or, not_true_eq_false, not_false_eq_true, and_self, or_self, tn_c, ne_eq, dite_true, dite_false]; done)) | (with_reducible apply rz_t; · (simp -implicitDefEqProofs (disch := (first | decide | omega)) only [k159, r159_0, k160, q1, r159_1, k170, e1, bo_s, bd_s, bn_s, gI_s, gJ_s, gR_s, pI_s, pZ_s, pJ_s, pR_s, chk_s, chN_s, chN_n, aL_s, aI_c, aJ_c, aR_c, wI_c, wB_c, wS_c, wZ_c, wJ_c, wR_c, mK_sI, mK_sJ, mK_sR, mK_cpI, mL_sI, mL_sJ, mL_sR, mL_cpI, mI_sI, mI_sJ, mI_sR, mI_cpI, mJ_sI, mJ_sJ, mJ_sR, mJ_cpI, mR_sI, mR_sJ, mR_sR, mR_cpI, i2b_i2b, i2b_sb, iI_lit, iI_add, iI_sub, iI_mul, iI_neg, iI_lt, iI_le, iI_eq, iI_J, lt_T, lt_F, le_T, le_F, eq_T, eq_F, eqN_T, eqN_F, leN_T, leN_F, ltN_T, ltN_F, if_true, if_false, and_true, true_and, and_false, false_and, or_true, true_or, or_false, false_or, not_true_eq_false, not_false_eq_true, and_self, or_self, tn_c, ne_eq, dite_true, dite_false]; done)) | (unfold fX6_writeSequences))); (try (simp -implicitDefEqProofs (disch := (first | decide | omega)) only [k159, r159_0, k160, q1, r159_1, k170, e1, bo_s, bd_s, bn_s, gI_s, gJ_s, gR_s, pI_s, pZ_s, pJ_s, pR_s, chk_s, chN_s, chN_n, aL_s, aI_c, aJ_c, aR_c, wI_c, wB_c, wS_c, wZ_c, wJ_c, wR_c, mK_sI, mK_sJ, mK_sR, mK_cpI, mL_sI, mL_sJ, mL_sR, mL_cpI, mI_sI, mI_sJ, mI_sR, mI_cpI, mJ_sI, mJ_sJ, mJ_sR, mJ_cpI, mR_sI, mR_sJ, mR_sR, mR_cpI, i2b_i2b, i2b_sb, iI_lit, iI_add, iI_sub, iI_mul, iI_neg, iI_lt, iI_le, iI_eq, iI_J, lt_T, lt_F, le_T, le_F, eq_T, eq_F, eqN_T, eqN_F, leN_T, leN_F, ltN_T, ltN_F, if_true, if_false, and_true, true_and, and_false, false_and, or_true, true_or, or_false, false_or, not_true_eq_false, not_false_eq_true, and_self, or_self, tn_c, ne_eq, dite_true, dite_false])); (with_reducible exact rfl)))
    exact main
  · have e : qW1 u p m = (wr u p (128 + m / 256 + m % 256 * 256), p + 1 + 1) := by unfold qW1 apW hdW; rw [if_neg c1]; show (wr u p (128 + m / 256 + m % 256 * 256), p + (16 + 7) / 8) = (wr u p (128 + m / 256 + m % 256 * 256), p + 1 + 1); rw [show p + (16 + 7) / 8 = p + 1 + 1 by omega]
    obtain ⟨X, hX⟩ : ∃ X, 128 + m / 256 + m % 256 * 256 = X := ⟨_, rfl⟩
    rw [hX] at e
    obtain ⟨v1, A, e1, hA, sA⟩ := add_v (wr_0 (X := X) hB) (by omega) (by omega) (by omega) (iI (128 + ((m / 256 : Nat) : Int))) (by
      unfold wr
      rw [if_neg (by omega), Nat.sub_self, Nat.pow_zero, Nat.div_one, bN_iI]
      omega)
    obtain ⟨v2, B, e2, hB2, sB⟩ := add_v hA (by omega) (by omega) (by omega) (iI m) (by
      have hx : X / 256 = m % 256 := by omega
      rw [wr_2, bN_iI, hx]
      omega)
    have main := l49 B ((sA.tr sB).weak hrw) (by rw [e]; exact hB2) ((sB.J 170 2 (by unfold Rw; omega)).trans ((sA.J 170 2 (by unfold Rw; omega)).trans h2)) ((sB.I 170 3 (by unfold Rw; omega)).trans ((sA.I 170 3 (by unfold Rw; omega)).trans h3))
    have esh := shr_n (a := m) (k := 8) (by omega) (by omega)
    rw [show (2 : Nat) ^ 8 = 256 by decide] at esh
    have esh : shrI (iI (m : Int)) (iI 8) = iI ((m / 256 : Nat) : Int) := esh
    have ak159 := (sA.K 159).trans k159
    have ak170 := (sA.K 170).trans k170
    have ar1 := (sA.R 159 1 (by unfold Rw; omega)).trans r159_1
    clear hC hD hQ hR hB h2 h3 hA hB2 sA sB l49
    (with_reducible apply w_e; · ((repeat' (first | (with_reducible apply bo_t; · ((try (simp -implicitDefEqProofs (disch := (first | decide | omega)) only [k159, r159_0, k160, q1, r159_1, k170, esh, e1, ak159, ak170, ar1, e2, bo_s, bd_s, bn_s, gI_s, gJ_s, gR_s, pI_s, pZ_s, pJ_s, pR_s, chk_s, chN_s, chN_n, aL_s, aI_c, aJ_c, aR_c, wI_c, wB_c, wS_c, wZ_c, wJ_c, wR_c, mK_sI, mK_sJ, mK_sR, mK_cpI, mL_sI, mL_sJ, mL_sR, mL_cpI, mI_sI, mI_sJ, mI_sR, mI_cpI, mJ_sI, mJ_sJ, mJ_sR, mJ_cpI, mR_sI, mR_sJ, mR_sR, mR_cpI, i2b_i2b, i2b_sb, iI_lit, iI_add, iI_sub, iI_mul, iI_neg, iI_lt, iI_le, iI_eq, iI_J, lt_T, lt_F, le_T, le_F, eq_T, eq_F, eqN_T, eqN_F, leN_T, leN_F, ltN_T, ltN_F, if_true, if_false, and_true, true_and, and_false, false_and, or_true, true_or, or_false, false_or, not_true_eq_false, not_false_eq_true, and_self, or_self, tn_c, ne_eq, dite_true, dite_false])); (with_reducible exact rfl))) | (with_reducible apply bd_t; · ((try (simp -implicitDefEqProofs (disch := (first | decide | omega)) only [k159, r159_0, k160, q1, r159_1, k170, esh, e1, ak159, ak170, ar1, e2, bo_s, bd_s, bn_s, gI_s, gJ_s, gR_s, pI_s, pZ_s, pJ_s, pR_s, chk_s, chN_s, chN_n, aL_s, aI_c, aJ_c, aR_c, wI_c, wB_c, wS_c, wZ_c, wJ_c, wR_c, mK_sI, mK_sJ, mK_sR, mK_cpI, mL_sI, mL_sJ, mL_sR, mL_cpI, mI_sI, mI_sJ, mI_sR, mI_cpI, mJ_sI, mJ_sJ, mJ_sR, mJ_cpI, mR_sI, mR_sJ, mR_sR, mR_cpI, i2b_i2b, i2b_sb, iI_lit, iI_add, iI_sub, iI_mul, iI_neg, iI_lt, iI_le, iI_eq, iI_J, lt_T, lt_F, le_T, le_F, eq_T, eq_F, eqN_T, eqN_F, leN_T, leN_F, ltN_T, ltN_F, if_true, if_false, and_true, true_and, and_false, false_and, or_true, true_or, or_false, false_or, not_true_eq_false, not_false_eq_true, and_self, or_self, tn_c, ne_eq, dite_true, dite_false])); (with_reducible exact rfl))) | (with_reducible apply bn_t; · ((try (simp -implicitDefEqProofs (disch := (first | decide | omega)) only [k159, r159_0, k160, q1, r159_1, k170, esh, e1, ak159, ak170, ar1, e2, bo_s, bd_s, bn_s, gI_s, gJ_s, gR_s, pI_s, pZ_s, pJ_s, pR_s, chk_s, chN_s, chN_n, aL_s, aI_c, aJ_c, aR_c, wI_c, wB_c, wS_c, wZ_c, wJ_c, wR_c, mK_sI, mK_sJ, mK_sR, mK_cpI, mL_sI, mL_sJ, mL_sR, mL_cpI, mI_sI, mI_sJ, mI_sR, mI_cpI, mJ_sI, mJ_sJ, mJ_sR, mJ_cpI, mR_sI, mR_sJ, mR_sR, mR_cpI, i2b_i2b, i2b_sb, iI_lit, iI_add, iI_sub, iI_mul, iI_neg, iI_lt, iI_le, iI_eq, iI_J, lt_T, lt_F, le_T, le_F, eq_T, eq_F, eqN_T, eqN_F, leN_T, leN_F, ltN_T, ltN_F, if_true, if_false, and_true, true_and, and_false, false_and, or_true, true_or, or_false, false_or, not_true_eq_false, not_false_eq_true, and_self, or_self, tn_c, ne_eq, dite_true, dite_false])); (with_reducible exact rfl))) | (with_reducible apply if_t; · (simp -implicitDefEqProofs (disch := (first | decide | omega)) only [k159, r159_0, k160, q1, r159_1, k170, esh, e1, ak159, ak170, ar1, e2, bo_s, bd_s, bn_s, gI_s, gJ_s, gR_s, pI_s, pZ_s, pJ_s, pR_s, chk_s, chN_s, chN_n, aL_s, aI_c, aJ_c, aR_c, wI_c, wB_c, wS_c, wZ_c, wJ_c, wR_c, mK_sI, mK_sJ, mK_sR, mK_cpI, mL_sI, mL_sJ, mL_sR, mL_cpI, mI_sI, mI_sJ, mI_sR, mI_cpI, mJ_sI, mJ_sJ, mJ_sR, mJ_cpI, mR_sI, mR_sJ, mR_sR, mR_cpI, i2b_i2b, i2b_sb, iI_lit, iI_add, iI_sub, iI_mul, iI_neg, iI_lt, iI_le, iI_eq, iI_J, lt_T, lt_F, le_T, le_F, eq_T, eq_F, eqN_T, eqN_F, leN_T, leN_F, ltN_T, ltN_F, if_true, if_false, and_true, true_and, and_false, false_and, or_true, true_or, or_false, false_or, not_true_eq_false, not_false_eq_true, and_self, or_self, tn_c, ne_eq, dite_true, dite_false]; done)) | (with_reducible apply if_f; · (simp -implicitDefEqProofs (disch := (first | decide | omega)) only [k159, r159_0, k160, q1, r159_1, k170, esh, e1, ak159, ak170, ar1, e2, bo_s, bd_s, bn_s, gI_s, gJ_s, gR_s, pI_s, pZ_s, pJ_s, pR_s, chk_s, chN_s, chN_n, aL_s, aI_c, aJ_c, aR_c, wI_c, wB_c, wS_c, wZ_c, wJ_c, wR_c, mK_sI, mK_sJ, mK_sR, mK_cpI, mL_sI, mL_sJ, mL_sR, mL_cpI, mI_sI, mI_sJ, mI_sR, mI_cpI, mJ_sI, mJ_sJ, mJ_sR, mJ_cpI, mR_sI, mR_sJ, mR_sR, mR_cpI, i2b_i2b, i2b_sb, iI_lit, iI_add, iI_sub, iI_mul, iI_neg, iI_lt, iI_le, iI_eq, iI_J, lt_T, lt_F, le_T, le_F, eq_T, eq_F, eqN_T, eqN_F, leN_T, leN_F, ltN_T, ltN_F, if_true, if_false, and_true, true_and, and_false, false_and, or_true, true_or, or_false, false_or, not_true_eq_false, not_false_eq_true, and_self, or_self, tn_c, ne_eq, dite_true, dite_false]; done)) | (with_reducible apply rz_t; · (simp -implicitDefEqProofs (disch := (first | decide | omega)) only [k159, r159_0, k160, q1, r159_1, k170, esh, e1, ak159, ak170, ar1, e2, bo_s, bd_s, bn_s, gI_s, gJ_s, gR_s, pI_s, pZ_s, pJ_s, pR_s, chk_s, chN_s, chN_n, aL_s, aI_c, aJ_c, aR_c, wI_c, wB_c, wS_c, wZ_c, wJ_c, wR_c, mK_sI, mK_sJ, mK_sR, mK_cpI, mL_sI, mL_sJ, mL_sR, mL_cpI, mI_sI, mI_sJ, mI_sR, mI_cpI, mJ_sI, mJ_sJ, mJ_sR, mJ_cpI, mR_sI, mR_sJ, mR_sR, mR_cpI, i2b_i2b, i2b_sb, iI_lit, iI_add, iI_sub, iI_mul, iI_neg, iI_lt, iI_le, iI_eq, iI_J, lt_T, lt_F, le_T, le_F, eq_T, eq_F, eqN_T, eqN_F, leN_T, leN_F, ltN_T, ltN_F, if_true, if_false, and_true, true_and, and_false, false_and, or_true, true_or, or_false, false_or, not_true_eq_false, not_false_eq_true, and_self, or_self, tn_c, ne_eq, dite_true, dite_false]; done)) | (unfold fX6_writeSequences))); (try (simp -implicitDefEqProofs (disch := (first | decide | omega)) only [k159, r159_0, k160, q1, r159_1, k170, esh, e1, ak159, ak170, ar1, e2, bo_s, bd_s, bn_s, gI_s, gJ_s, gR_s, pI_s, pZ_s, pJ_s, pR_s, chk_s, chN_s, chN_n, aL_s, aI_c, aJ_c, aR_c, wI_c, wB_c, wS_c, wZ_c, wJ_c, wR_c, mK_sI, mK_sJ, mK_sR, mK_cpI, mL_sI, mL_sJ, mL_sR, mL_cpI, mI_sI, mI_sJ, mI_sR, mI_cpI, mJ_sI, mJ_sJ, mJ_sR, mJ_cpI, mR_sI, mR_sJ, mR_sR, mR_cpI, i2b_i2b, i2b_sb, iI_lit, iI_add, iI_sub, iI_mul, iI_neg, iI_lt, iI_le, iI_eq, iI_J, lt_T, lt_F, le_T, le_F, eq_T, eq_F, eqN_T, eqN_F, leN_T, leN_F, ltN_T, ltN_F, if_true, if_false, and_true, true_and, and_false, false_and, or_true, true_or, or_false, false_or, not_true_eq_false, not_false_eq_true, and_self, or_self, tn_c, ne_eq, dite_true, dite_false])); (with_reducible exact rfl)))
    exact main
end CSEQW
