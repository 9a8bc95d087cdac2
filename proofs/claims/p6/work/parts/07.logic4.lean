def maxI (u v : Int32) : Int32 := if u < v then v else u
def minI (u v : Int32) : Int32 := if v < u then v else u
def absI (u : Int32) : Int32 := if 0 ≤ u then u else 0 - u
def minJ (u v : Int64) : Int64 := if v < u then v else u
theorem sum_cat0 (u : List Value) : (u.map fun v => v.category).sum ≤ 2 * u.length := by
  induction u with
  | nil => simp
  | cons v u ih =>
    have : v.category ≤ 2 := by rcases lv_cat v with h | h <;> omega
    simp only [List.map_cons, List.sum_cons, List.length_cons]
    omega
section RTC
variable {ρ : Type} {p : Program} {l : Launch} {e : Env} {R : Room} {s : State} {m : MethodId} {args : Array Value} {below : List Frame} {meth : Method} {c : Code} {x : Cx} {cc : ByteArray} {y : MethodName} {ret : Option FieldType} {nL cells slots pc : Nat} {Q : ρ → Mem → State → Prop} {r : Option (ρ × Mem)} {li : List (Nat × Int32)} {ll : List (Nat × Int64)} {lr : List (Nat × Option Nat)} {st : List Value} {M : Mem}
theorem r_gets (E : EE p s m args meth c x cc y nL ret) {idx : Nat} (a : Nat) (ha : a < 10) (hl : Cond.fieldLink y.cls idx "TabledFrames" (snm a) "[I" ∈ AL) (d : decode cc pc = .ok (.getstatic idx, 3)) (k : RT p l e R s m args below meth c x nL Q cells slots r (pc + 3) li ll lr (rv x (some a) :: st) M) : RT p l e R s m args below meth c x nL Q cells slots r pc li ll lr st M :=
  by
  intro v0 M0 h ls H locs a1 a2 a3
  obtain ⟨cf, kf, fi, f, b, cell, h1, h2, h3, h4, h5, h6, h7, h8⟩ := E.2.2.2.2.2.1.2.2.2.1 a ha
  have hio : io x a = xst x a := if_pos (by omega)
  have kk := k v0 M0 h ls H locs a1 a2 a3
  rw [show rv x (some a) = .ref (xst x a) from congrArg Value.ref hio] at kk
  exact W.gets E.1 E.2.1 E.2.2.1 (E.2.2.2.1 _ hl) h1 h2 h3 h4 (by rw [a2.2.2.1 b (Nat.not_le.mp h8)]; exact h5) (fun e => by rw [e] at h6; cases h6) h7 rfl d kk
theorem r_getsN (E : EE p s m args meth c x cc y nL ret) {idx : Nat} (a : Nat) (ha : a < 10) (hl : (y.cls, idx, "TabledFrames", snm a, "[I", "TabledFrames") ∈ nestF) (d : decode cc pc = .ok (.getstatic idx, 3)) (k : RT p l e R s m args below meth c x nL Q cells slots r (pc + 3) li ll lr (rv x (some a) :: st) M) : RT p l e R s m args below meth c x nL Q cells slots r pc li ll lr st M :=
  by
  intro v0 M0 h ls H locs a1 a2 a3
  obtain ⟨cf, kf, fi, f, b, cell, h1, h2, h3, h4, h5, h6, h7, h8⟩ := E.2.2.2.2.2.1.2.2.2.1 a ha
  have hio : io x a = xst x a := if_pos (by omega)
  have kk := k v0 M0 h ls H locs a1 a2 a3
  rw [show rv x (some a) = .ref (xst x a) from congrArg Value.ref hio] at kk
  exact va_WgetsN E.1 E.2.1 E.2.2.1 (va_Nw.use rfl (E.2.2.2.2.2.1.2.2.2.2.2.1 _ hl)) h1 h2 h3 h4 (by rw [a2.2.2.1 b (Nat.not_le.mp h8)]; exact h5) (fun e => by rw [e] at h6; cases h6) h7 rfl d kk
theorem r_copy (E : EE p s m args meth c x cc y nL ret) {idx : Nat} {ws wd : Option Nat} {sp dp n : Int32} {K : Mem → Option (ρ × Mem)} (hl : Cond.methodLink y.cls idx arraycopyName ∈ AL) (hnat : Cond.native arraycopyName ∈ AL) (hstat : Cond.static arraycopyName ∈ AL) (hini : Cond.initialized "java/lang/System" ∈ AL) (d : decode cc pc = .ok (.invokestatic idx, 3)) (hfr : 1 ≤ R.frames) (hlo : 26 ≤ R.locals) (hst : st.length ≤ 4) (k : ∀ N, RT p l e R s m args below meth c x nL Q cells slots (K N) (pc + 3) li ll lr st N) : RT p l e R s m args below meth c x nL Q cells slots (bo (cI M ws sp wd dp n) K) pc li ll lr (.int n :: .int dp :: rv x wd :: .int sp :: rv x ws :: st) M :=
  by
  intro v0 M0 h ls H locs a1 a2 a3
  have nn : ∀ z : Int32, ¬ z < 0 → z.toInt = (z.toNatClampNeg : Int) := by
    intro z hz
    have hz0 : (0 : Int) ≤ z.toInt := by
      have := Int32.not_lt.mp hz
      simpa using Int32.le_iff_toInt_le.mp this
    show z.toInt = ((z.toInt.toNat : Nat) : Int)
    omega
  have hcat : ∀ u : List Value, (u.map fun v => v.category).sum ≤ 2 * u.length := by
    intro u
    induction u with
    | nil => simp
    | cons v u ih =>
      have : v.category ≤ 2 := by rcases lv_cat v with h | h <;> omega
      simp only [List.map_cons, List.sum_cons, List.length_cons]
      omega
  cases ws with
  | none => cases h
  | some a =>
    cases wd with
    | none => cases h
    | some b =>
      by_cases hk : (mK M a = 15 ∨ mK M a = 21) ∧ mK M b = 15 ∧ ¬ sp < 0 ∧ ¬ dp < 0 ∧ ¬ n < 0 ∧ sp.toNatClampNeg + n.toNatClampNeg ≤ mL M a ∧ dp.toNatClampNeg + n.toNatClampNeg ≤ mL M b
      · have h2 : K (cpI M a sp.toNatClampNeg b dp.toNatClampNeg n.toNatClampNeg) = some (v0, M0) := by
          simp only [cI, bo] at h
          rw [if_pos hk] at h
          exact h
        obtain ⟨hka, hkb, i1, i2, i3, i4, i5⟩ := hk
        obtain ⟨scr, hc0, ⟨hs6, k0, hk0, cm0, hkk0⟩, hs3, hs4, -, hs5⟩ := arr_view E.2.2.2.2.2.1 a2 hka
        obtain ⟨ha, hb, hc1⟩ := arr_ex a2 hkb (by omega) (by omega)
        obtain ⟨-, k1, hk1, cm1, hkk1⟩ := (E.2.2.2.2.2.1.2.1 15 (by omega) (by omega)).1 (mL M b) (vl x M (ety 15) b)
        intro T hT X
        obtain ⟨vm', X', step⟩ := X.arraycopy E.1 E.2.2.1 (E.2.2.2.1 _ hl) (E.2.2.2.1 _ hnat) (E.2.2.2.1 _ hstat) (E.2.2.2.1 _ hini) (src := io x a) (dst := io x b) (cs := scr) (cd := arrV (x.2.2.1 15) (mL M b) (vl x M (ety 15) b)) (srcPos := sp) (destPos := dp) (n := n) (by rw [hT]; exact hc0) (by rw [hT]; exact hc1)
          hs6 (fun _ h => by cases h) hs3 (fun h => by cases h) hk0 hk1 hkk0 hkk1 (by simp [refKind, ety]) i1 i2 i3
          (by rw [nn sp i1, nn n i3]; omega)
          (by rw [nn dp i2, nn n i3, arrV_size]; omega)
          (fun vm₁ _ i hi => by
            have e : scr.slots.getD (sp.toNatClampNeg + i) .null = .int (mI M a (sp.toNatClampNeg + i)) := by
              rw [Array.getD_eq_getD_getElem?, hs5 _ (by omega)]
              rfl
            refine ⟨?_, ?_⟩
            · rw [e]
              rfl
            · rw [e]
              exact trivial)
          (g := F0 m pc ls (.int n :: .int dp :: .ref (io x b) :: .int sp :: .ref (io x a) :: st)) rfl (by rw [E.2.2.2.2.1]; exact a1.1) (rest := st) rfl (by rw [E.2.1]; exact d) hfr (by
            have := hcat st
            show 2 * 0 + _ + (7 + 11) ≤ _
            omega)
        have e1 : copied scr (arrV (x.2.2.1 15) (mL M b) (vl x M (ety 15) b)) sp dp n = arrV (x.2.2.1 15) (mL M b) (fun j => .int (va_cpy (mI M a) (mI M b) sp.toNatClampNeg dp.toNatClampNeg n.toNatClampNeg j)) := va_copiedX (fun z => .int z) scr (x.2.2.1 15) (mI M a) (mI M b) hs5 i4
        rw [e1] at X' step
        have hlt : io x b < H.size := (Array.getElem?_eq_some_iff.mp hc1).1
        have hheap : ((T.setVm vm').setCell (io x b) (arrV (x.2.2.1 15) (mL M b) (fun j => .int (va_cpy (mI M a) (mI M b) sp.toNatClampNeg dp.toNatClampNeg n.toNatClampNeg j)))).heap = H.setIfInBounds (io x b) (arrV (x.2.2.1 15) (mL M b) (fun j => .int (va_cpy (mI M a) (mI M b) sp.toNatClampNeg dp.toNatClampNeg n.toNatClampNeg j))) := by rw [← hT]; rfl
        have hH : Hp x (cpI M a sp.toNatClampNeg b dp.toNatClampNeg n.toNatClampNeg) (H.setIfInBounds (io x b) (arrV (x.2.2.1 15) (mL M b) (fun j => .int (va_cpy (mI M a) (mI M b) sp.toNatClampNeg dp.toNatClampNeg n.toNatClampNeg j)))) := by
          refine a2.put ha hb (by simp) (fun q hq => by simp [Array.getElem?_setIfInBounds, Ne.symm hq]) rfl (fun _ => rfl) (fun _ => rfl) (fun c hc i => by simp [mI_cpI, hc]) (fun _ _ _ => rfl) (fun _ _ _ => rfl) ⟨fun q hq => ?_, fun _ => ?_⟩
          · rw [mK_cpI, hkb] at hq
            have := vwCl_lt hq
            omega
          · rw [mK_cpI, hkb, mL_cpI]
            simp only [Array.getElem?_setIfInBounds, hlt, if_true]
            congr 2
            funext j
            simp [vl, ety, mI_cpI, va_cpy]
        obtain ⟨t, b1, b2⟩ := k _ v0 M0 h2 ls _ _ a1 hH (fun q hq => by
          rcases List.mem_append.mp hq with hq | hq
          · exact a3 q hq
          · obtain ⟨z, -, hz⟩ := List.mem_map.mp hq
            rw [← hz]
            show xb x ≤ io x b
            rw [io_ge ha]; omega) _ hheap X'
        exact ⟨t, step t b1, b2⟩
      · simp only [cI, bo] at h
        rw [if_neg hk] at h
        cases h
theorem r_mmax (E : EE p s m args meth c x cc y nL ret) {idx : Nat} {u v : Int32} (hl : Cond.methodLink y.cls idx Lib.Math.max.name ∈ AL) (hsta : Cond.static Lib.Math.max.name ∈ AL) (hini : Cond.initialized "java/lang/Math" ∈ AL) (hcode : Cond.code Lib.Math.max.name Lib.Math.max.code 2 (some .int) ∈ AL) (d : decode cc pc = .ok (.invokestatic idx, 3)) (hfr : 1 ≤ R.frames ∧ 23 ≤ R.locals ∧ cells ≤ R.cells ∧ slots ≤ R.slots) (hst : st.length ≤ 4) (k : RT p l e R s m args below meth c x nL Q cells slots r (pc + 3) li ll lr (.int (maxI u v) :: st) M) : RT p l e R s m args below meth c x nL Q cells slots r pc li ll lr (.int v :: .int u :: st) M :=
  fun v0 M0 h ls H locs a1 a2 a3 => va_mmax E.1 E.2.1 (by rw [E.2.2.2.2.1]; exact a1.1.symm) E.2.2.1 (E.2.2.2.1 _ hl) (E.2.2.2.1 _ hsta) (E.2.2.2.1 _ hini) (E.2.2.2.1 _ hcode) hfr.1 (by have := sum_cat0 st; omega) hfr.2.2.1 hfr.2.2.2 d (k v0 M0 h ls H locs a1 a2 a3)
theorem r_mmin (E : EE p s m args meth c x cc y nL ret) {idx : Nat} {u v : Int32} (hl : Cond.methodLink y.cls idx Lib.Math.min.name ∈ AL) (hsta : Cond.static Lib.Math.min.name ∈ AL) (hini : Cond.initialized "java/lang/Math" ∈ AL) (hcode : Cond.code Lib.Math.min.name Lib.Math.min.code 2 (some .int) ∈ AL) (d : decode cc pc = .ok (.invokestatic idx, 3)) (hfr : 1 ≤ R.frames ∧ 23 ≤ R.locals ∧ cells ≤ R.cells ∧ slots ≤ R.slots) (hst : st.length ≤ 4) (k : RT p l e R s m args below meth c x nL Q cells slots r (pc + 3) li ll lr (.int (minI u v) :: st) M) : RT p l e R s m args below meth c x nL Q cells slots r pc li ll lr (.int v :: .int u :: st) M :=
  fun v0 M0 h ls H locs a1 a2 a3 => va_mmin E.1 E.2.1 (by rw [E.2.2.2.2.1]; exact a1.1.symm) E.2.2.1 (E.2.2.2.1 _ hl) (E.2.2.2.1 _ hsta) (E.2.2.2.1 _ hini) (E.2.2.2.1 _ hcode) hfr.1 (by have := sum_cat0 st; omega) hfr.2.2.1 hfr.2.2.2 d (k v0 M0 h ls H locs a1 a2 a3)
theorem r_mabs (E : EE p s m args meth c x cc y nL ret) {idx : Nat} {u : Int32} (hl : Cond.methodLink y.cls idx Lib.Math.abs.name ∈ AL) (hsta : Cond.static Lib.Math.abs.name ∈ AL) (hini : Cond.initialized "java/lang/Math" ∈ AL) (hcode : Cond.code Lib.Math.abs.name Lib.Math.abs.code 1 (some .int) ∈ AL) (d : decode cc pc = .ok (.invokestatic idx, 3)) (hfr : 1 ≤ R.frames ∧ 23 ≤ R.locals ∧ cells ≤ R.cells ∧ slots ≤ R.slots) (hst : st.length ≤ 4) (k : RT p l e R s m args below meth c x nL Q cells slots r (pc + 3) li ll lr (.int (absI u) :: st) M) : RT p l e R s m args below meth c x nL Q cells slots r pc li ll lr (.int u :: st) M :=
  fun v0 M0 h ls H locs a1 a2 a3 => va_mabs E.1 E.2.1 (by rw [E.2.2.2.2.1]; exact a1.1.symm) E.2.2.1 (E.2.2.2.1 _ hl) (E.2.2.2.1 _ hsta) (E.2.2.2.1 _ hini) (E.2.2.2.1 _ hcode) hfr.1 (by have := sum_cat0 st; omega) hfr.2.2.1 hfr.2.2.2 d (k v0 M0 h ls H locs a1 a2 a3)
theorem r_mminL (E : EE p s m args meth c x cc y nL ret) {idx : Nat} {u v : Int64} (hl : Cond.methodLink y.cls idx Lib.MathLoose.min_long.x ∈ AL) (hsta : Cond.static Lib.MathLoose.min_long.x ∈ AL) (hini : Cond.initialized "java/lang/Math" ∈ AL) (hcode : Cond.code Lib.MathLoose.min_long.x Lib.MathLoose.min_long.code 4 (some .long) ∈ AL) (d : decode cc pc = .ok (.invokestatic idx, 3)) (hfr : 1 ≤ R.frames ∧ 23 ≤ R.locals ∧ cells ≤ R.cells ∧ slots ≤ R.slots) (hst : st.length ≤ 4) (k : RT p l e R s m args below meth c x nL Q cells slots r (pc + 3) li ll lr (.long (minJ u v) :: st) M) : RT p l e R s m args below meth c x nL Q cells slots r pc li ll lr (.long v :: .long u :: st) M :=
  fun v0 M0 h ls H locs a1 a2 a3 => va_mmin_long E.1 E.2.1 (by rw [E.2.2.2.2.1]; exact a1.1.symm) E.2.2.1 (E.2.2.2.1 _ hl) (E.2.2.2.1 _ hsta) (E.2.2.2.1 _ hini) (E.2.2.2.1 _ hcode) hfr.1 (by have := sum_cat0 st; omega) hfr.2.2.1 hfr.2.2.2 d (k v0 M0 h ls H locs a1 a2 a3)
theorem r_acmp_eq (E : EE p s m args meth c x cc y nL ret) {u w : Option Nat} {kd : Nat} {off : Int} {tgt : Nat} {A B : Option (ρ × Mem)} (hkd : kd < 21) (d : decode cc pc = .ok (.if_acmp .eq off, 3)) (ht : (pc : Int) + off = (tgt : Int)) (kt : RT p l e R s m args below meth c x nL Q cells slots A tgt li ll lr st M) (kf : RT p l e R s m args below meth c x nL Q cells slots B (pc + 3) li ll lr st M) : RT p l e R s m args below meth c x nL Q cells slots (bo (chN M u kd) fun _ => bo (chN M w kd) fun _ => if u = w then A else B) pc li ll lr (rv x w :: rv x u :: st) M :=
  by
  intro v0 M0 h ls H locs a1 a2 a3
  have inj : ∀ a b, mK M a = kd → mK M b = kd → io x a = io x b → a = b := fun a b ha hb hab => by
    obtain ⟨p1, -⟩ := a2.at (a := a) (by omega)
    obtain ⟨p2, -⟩ := a2.at (a := b) (by omega)
    rw [io_ge p1, io_ge p2] at hab
    omega
  have conv : ∀ q : Option Nat, rv x q = va_rf (q.map (io x)) := fun q => by cases q <;> rfl
  have hcu : ∀ q : Option Nat, ∀ F : Unit → Option (ρ × Mem), bo (chN M q kd) F = some (v0, M0) → F () = some (v0, M0) ∧ ∀ a, q = some a → mK M a = kd := by
    intro q F hq
    cases q with
    | none => exact ⟨hq, fun a h => by cases h⟩
    | some a =>
      by_cases hk : mK M a = kd
      · simp only [chN, bo, if_pos hk] at hq
        exact ⟨hq, fun b hb => by cases hb; exact hk⟩
      · simp only [chN, bo, if_neg hk] at hq
        cases hq
  obtain ⟨h1, hu⟩ := hcu _ _ h
  obtain ⟨h2, hw⟩ := hcu _ _ h1
  have iff : u.map (io x) = w.map (io x) ↔ u = w := by
    constructor
    · intro hq
      cases u <;> cases w <;> simp at hq ⊢
      exact inj _ _ (hu _ rfl) (hw _ rfl) hq
    · intro hq; rw [hq]
  rw [conv u, conv w]
  exact lv_acmp_eq E.1 E.2.1 d ht (fun q => kt v0 M0 (by rw [if_pos (iff.mp q)] at h2; exact h2) ls H locs a1 a2 a3) (fun q => kf v0 M0 (by rw [if_neg (fun z => q (iff.mpr z))] at h2; exact h2) ls H locs a1 a2 a3)
theorem r_widen {k n : Nat} (h1 : cells ≤ k) (h2 : slots ≤ n) (kk : RT p l e R s m args below meth c x nL Q k n r pc li ll lr st M) : RT p l e R s m args below meth c x nL Q cells slots r pc li ll lr st M := fun v0 M0 h ls H locs a1 a2 a3 => W.widen h1 h2 (kk v0 M0 h ls H locs a1 a2 a3)
end RTC
section RTE
variable {p : Program} {l : Launch} {e : Env} {R : Room} {s : State} {m : MethodId} {args : Array Value} {below : List Frame} {meth : Method} {c : Code} {x : Cx} {cc : ByteArray} {y : MethodName} {nL cells slots pc : Nat} {li : List (Nat × Int32)} {ll : List (Nat × Int64)} {lr : List (Nat × Option Nat)} {st : List Value} {M : Mem}
theorem e_int (E : EE p s m args meth c x cc y nL (some .int)) {v : Int32} (d : decode cc pc = .ok (.ireturn, 1)) : RT p l e R s m args below meth c x nL (QM below args s x (fun v : Int32 => some (.int v)) cells slots) cells slots (some (v, M)) pc li ll lr [.int v] M := by
  intro v0 M0 h ls H locs a1 a2 a3
  cases h
  exact W.iret E.1 E.2.1 E.2.2.2.2.2.2.1 (fun t ht _ => ⟨rfl, by rw [ht]; exact a2⟩) a3 d E.2.2.2.2.2.2.2.1
theorem e_bool (E : EE p s m args meth c x cc y nL (some .boolean)) {v : Int32} (d : decode cc pc = .ok (.ireturn, 1)) : RT p l e R s m args below meth c x nL (QM below args s x (fun v : Int32 => some (.int v)) cells slots) cells slots (rtZ v M) pc li ll lr [.int v] M := by
  intro v0 M0 h ls H locs a1 a2 a3
  by_cases hv : v = 0 ∨ v = 1
  · rw [rtZ, if_pos hv] at h
    cases h
    exact W.zret E.1 E.2.1 E.2.2.2.2.2.2.1 (by rcases hv with rfl | rfl <;> rfl) (fun t ht _ => ⟨rfl, by rw [ht]; exact a2⟩) a3 d E.2.2.2.2.2.2.2.1
  · rw [rtZ, if_neg hv] at h
    cases h
theorem e_long (E : EE p s m args meth c x cc y nL (some .long)) {v : Int64} (d : decode cc pc = .ok (.lreturn, 1)) : RT p l e R s m args below meth c x nL (QM below args s x (fun v : Int64 => some (.long v)) cells slots) cells slots (some (v, M)) pc li ll lr [.long v] M := by
  intro v0 M0 h ls H locs a1 a2 a3
  cases h
  exact W.lret E.1 E.2.1 E.2.2.2.2.2.2.1 (fun t ht _ => ⟨rfl, by rw [ht]; exact a2⟩) a3 d E.2.2.2.2.2.2.2.1
theorem e_ref {rt : FieldType} (E : EE p s m args meth c x cc y nL (some rt)) (hrt : (∃ n, rt = .object n) ∨ ∃ t, rt = .array t) {v : Option Nat} (d : decode cc pc = .ok (.areturn, 1)) : RT p l e R s m args below meth c x nL (QM below args s x (fun v : Option Nat => some (rv x v)) cells slots) cells slots (some (v, M)) pc li ll lr [rv x v] M := by
  intro v0 M0 h ls H locs a1 a2 a3
  cases h
  exact W.aret E.1 E.2.1 E.2.2.2.2.2.2.1 hrt (by cases v; exact Or.inl rfl; exact Or.inr ⟨_, rfl⟩) (fun t ht _ => ⟨rfl, by rw [ht]; exact a2⟩) a3 d E.2.2.2.2.2.2.2.1
theorem e_void (E : EE p s m args meth c x cc y nL none) (d : decode cc pc = .ok (.return_, 1)) : RT p l e R s m args below meth c x nL (QM below args s x (fun _ : Unit => none) cells slots) cells slots (some ((), M)) pc li ll lr [] M := by
  intro v0 M0 h ls H locs a1 a2 a3
  cases h
  exact W.vret E.1 E.2.1 E.2.2.2.2.2.2.1 (fun t ht _ => ⟨rfl, by rw [ht]; exact a2⟩) a3 d E.2.2.2.2.2.2.2.1
end RTE
/-- a method's contract: from any memory M, its arguments av; it answers v, and leaves M' -/
def CT (l : Launch) (y : MethodName) (cc : ByteArray) (nL : Nat) (ret : Option FieldType) (rm : Room) (x : Cx) (av : List Value) (M : Mem) (ov : Option Value) (M' : Mem) : Prop :=
  Met l y (Cond.code y cc nL ret :: AL) rm (va_Pc av (fun U => Kn x U ∧ Hp x M U.heap)) (QQ x ov M') rm.cells rm.slots (fun q => xb x ≤ q)
theorem ct_mk {ρ : Type} {enc : ρ → Option Value} {l : Launch} {y : MethodName} {cc : ByteArray} {nL : Nat} {ret : Option FieldType} {rm : Room} {x : Cx} {av : List Value} {M M' : Mem} {v : ρ} {r : Option (ρ × Mem)} {li : List (Nat × Int32)} {ll : List (Nat × Int64)} {lr : List (Nat × Option Nat)} (hy : plainName y.cls = true) (hlen : (lg_sl av).length ≤ nL) (hlv : ∀ q ∈ flat x li ll lr, q ∈ lv_args 0 av) (hr : r = some (v, M'))
    (k : ∀ p e s m args below meth c, EE p s m args meth c x cc y nL ret → RT p l e rm s m args below meth c x nL (QM below args s x enc rm.cells rm.slots) 0 0 r 0 li ll lr [] M) : CT l y cc nL ret rm x av M (enc v) M' := by
  refine Met.ofW (cc := cc) (maxL := nL) (ret := ret) hy rfl ?_
  intro p e s m args below meth c s₁ B hml hv
  obtain ⟨rfl, hK, hH⟩ := hv
  have hts := atoms_spec (ws := Cond.code y cc nL ret :: AL) B.pre
  have E : EE p s m av.toArray meth c x cc y nL ret := ⟨B.exec, B.bytes, findClass_of_methodNamed B.named, fun w hw => hts w (List.mem_cons_of_mem _ hw), hml, hK, B.returns, B.notSynchronized, fun h => (name_of_methodNamed B.named B.method).1.trans h⟩
  have hl := lv_entry av (n := nL) hlen
  rw [lg_entry_eq]
  exact k p e s m av.toArray below meth c E v M' hr _ _ [] ⟨hl.1, hl.2.1, fun q hq => hl.2.2 q (hlv q hq)⟩ hH (fun q hq => by cases hq)
/-! calls -/
def chk0 (w : Option Nat) : Option Unit := match w with
  | none => none
  | some _ => some ()
section RTX
variable {ρ : Type} {p : Program} {l : Launch} {e : Env} {R : Room} {s : State} {m : MethodId} {args : Array Value} {below : List Frame} {meth : Method} {c : Code} {x : Cx} {cc : ByteArray} {y : MethodName} {ret : Option FieldType} {nL cells slots pc : Nat} {Q : ρ → Mem → State → Prop} {r : Option (ρ × Mem)} {li : List (Nat × Int32)} {ll : List (Nat × Int64)} {lr : List (Nat × Option Nat)} {st : List Value} {M : Mem}
theorem sum_cat (u : List Value) : (u.map fun v => v.category).sum ≤ 2 * u.length := by
  induction u with
  | nil => simp
  | cons v u ih =>
    have : v.category ≤ 2 := by rcases lv_cat v with h | h <;> omega
    simp only [List.map_cons, List.sum_cons, List.length_cons]
    omega
theorem fb (x : Cx) (M : Mem) (av : List Value) : FrameBlind (va_Pc av (fun U => Kn x U ∧ Hp x M U.heap)) := fun a U g mk q => ⟨q.1, q.2.1.same (U := U.calling g mk a) rfl, q.2.2⟩
theorem pay_al (E : EE p s m args meth c x cc y nL ret) {w : Cond} (hw : w ∈ AL) : ∀ v ∈ w :: AL, ∀ (a' : Array Value) (U : State), s.WarmedH U.vm → v.before a' U = true := pay_in E.2.2.2.1 (AL_call hw)
theorem afterCall {mc ms : Nat} {g0 : JFrame} {rest : List Value} {H : Heap} {locs : List Loc} {ls : Array Slot} {Q0 : State → Prop} {ov : Option Value} {N : Mem} {a : Array Value} (hg : g0 = F0 m pc ls st)
    (hr : va_Run p l e R s m args below meth c H locs cells slots mc ms g0 rest (QQ x ov N a) (fun q => xb x ≤ q)) (a3 : ∀ q ∈ locs, xb x ≤ q.base)
    (k : ∀ (H1 : Heap) (locs1 : List Loc), Hp x N H1 → (∀ q ∈ locs1, xb x ≤ q.base) → W p l e R s m args below meth c H1 locs1 (cells + mc) (slots + ms) Q0 (F0 m (pc + 3) ls (ov.toList ++ rest))) : W p l e R s m args below meth c H locs cells slots Q0 (F0 m pc ls st) := by
  subst hg
  intro T hT X
  obtain ⟨v, st₀, t, T', L, h0, X', hL, e1, e2, ⟨hv, hH⟩, go⟩ := hr T hT X
  cases hv
  obtain ⟨t2, b1, b2⟩ := k T'.heap (locs ++ L) (by rw [e1]; exact hH) (fun q hq => by
    rcases List.mem_append.mp hq with h | h
    · exact a3 q h
    · exact hL q h) T' rfl X'
  exact ⟨t2, go t2 b1, b2⟩
theorem r_callSi (E : EE p s m args meth c x cc y nL ret) {z : MethodName} {cz : ByteArray} {nz idx : Nat} {rz : Option FieldType} {rmz : Room} {As rest : List Value} {f : Option (Int32 × Mem)} {K : Int32 → Mem → Option (ρ × Mem)} (hcode : Cond.code z cz nz rz ∈ AL) (hini : Cond.initialized z.cls ∈ AL) (hd : z.cls ≠ "java/lang/invoke/MethodHandle" ∧ z.cls ≠ "java/lang/invoke/VarHandle" ∧ (parseMethodDescriptor z.desc).map (fun d => d.parameters.length) = some As.length) (hl : Cond.methodLink y.cls idx z ∈ AL) (hsta : Cond.static z ∈ AL) (d : decode cc pc = .ok (.invokestatic idx, 3)) (hR : rmz.frames + 1 ≤ R.frames ∧ 8 + (nz + 11) + rmz.locals ≤ R.locals ∧ cells + rmz.cells ≤ R.cells ∧ slots + rmz.slots ≤ R.slots) (hst : rest.length ≤ 4) (hM : ∀ v N, f = some (v, N) → CT l z cz nz rz rmz x As M ((fun v : Int32 => some (.int v)) v) N) (hs : st = As.reverse ++ rest) (k : ∀ (v : Int32) (N : Mem), RT p l e R s m args below meth c x nL Q (cells + rmz.cells) (slots + rmz.slots) (K v N) (pc + 3) li ll lr (.int v :: rest) N) : RT p l e R s m args below meth c x nL Q cells slots (bd f K) pc li ll lr st M :=
  by
  subst hs
  intro v0 M0 h ls H locs a1 a2 a3
  cases f with
  | none => cases h
  | some q =>
    obtain ⟨v, N⟩ := q
    exact afterCall rfl (va_runS (g := F0 m pc ls _) ⟨E.1, E.2.1, E.2.2.2.2.1, E.2.2.1, E.2.2.2.1⟩ (hM v N rfl) ⟨(callB_of As.length E.2.2.2.1 (AL_call hcode) rfl rfl rfl (E.2.2.2.1 _ hini) (E.2.2.2.1 _ hl) hd ⟨hR.1, hR.2.1⟩), E.2.2.2.1 _ hsta⟩ ⟨fb x M _, fun U hU hW => ⟨rfl, E.2.2.2.2.2.1.warm hW, by rw [hU]; exact a2⟩⟩ rfl rfl a1.1 rfl (by have := sum_cat rest; show 2 * 0 + _ ≤ 8; omega) d ⟨hR.2.2.1, hR.2.2.2⟩) a3 (fun H1 locs1 b1 b2 => k v N v0 M0 h ls H1 locs1 a1 b1 b2)
theorem r_kSi (E : EE p s m args meth c x cc y nL ret) {z : MethodName} {cz : ByteArray} {nz idx : Nat} {rz : Option FieldType} {rmz : Room} {As rest : List Value} {f : Option (Int32 × Mem)} {K : Int32 → Mem → Option (ρ × Mem)} (hcode : Cond.code z cz nz rz ∈ AL) (hini : Cond.initialized z.cls ∈ AL) (hd : z.cls ≠ "java/lang/invoke/MethodHandle" ∧ z.cls ≠ "java/lang/invoke/VarHandle" ∧ (parseMethodDescriptor z.desc).map (fun d => d.parameters.length) = some As.length) (hl : Cond.methodLink y.cls idx z ∈ AL) (hsta : Cond.static z ∈ AL) (d : decode cc pc = .ok (.invokestatic idx, 3)) (hR : rmz.frames + 1 ≤ R.frames ∧ 8 + (nz + 11) + rmz.locals ≤ R.locals ∧ cells + rmz.cells ≤ R.cells ∧ slots + rmz.slots ≤ R.slots) (hst : rest.length ≤ 4) (hz : rmz.cells = 0 ∧ rmz.slots = 0) (hM : ∀ v N, f = some (v, N) → CT l z cz nz rz rmz x As M ((fun v : Int32 => some (.int v)) v) N) (hs : st = As.reverse ++ rest) (k : ∀ (v : Int32) (N : Mem), RT p l e R s m args below meth c x nL Q cells slots (K v N) (pc + 3) li ll lr (.int v :: rest) N) : RT p l e R s m args below meth c x nL Q cells slots (bd f K) pc li ll lr st M :=
  r_callSi E hcode hini hd hl hsta d hR hst hM hs (fun v N => by rw [hz.1, hz.2]; exact k v N)
theorem r_callSl (E : EE p s m args meth c x cc y nL ret) {z : MethodName} {cz : ByteArray} {nz idx : Nat} {rz : Option FieldType} {rmz : Room} {As rest : List Value} {f : Option (Int64 × Mem)} {K : Int64 → Mem → Option (ρ × Mem)} (hcode : Cond.code z cz nz rz ∈ AL) (hini : Cond.initialized z.cls ∈ AL) (hd : z.cls ≠ "java/lang/invoke/MethodHandle" ∧ z.cls ≠ "java/lang/invoke/VarHandle" ∧ (parseMethodDescriptor z.desc).map (fun d => d.parameters.length) = some As.length) (hl : Cond.methodLink y.cls idx z ∈ AL) (hsta : Cond.static z ∈ AL) (d : decode cc pc = .ok (.invokestatic idx, 3)) (hR : rmz.frames + 1 ≤ R.frames ∧ 8 + (nz + 11) + rmz.locals ≤ R.locals ∧ cells + rmz.cells ≤ R.cells ∧ slots + rmz.slots ≤ R.slots) (hst : rest.length ≤ 4) (hM : ∀ v N, f = some (v, N) → CT l z cz nz rz rmz x As M ((fun v : Int64 => some (.long v)) v) N) (hs : st = As.reverse ++ rest) (k : ∀ (v : Int64) (N : Mem), RT p l e R s m args below meth c x nL Q (cells + rmz.cells) (slots + rmz.slots) (K v N) (pc + 3) li ll lr (.long v :: rest) N) : RT p l e R s m args below meth c x nL Q cells slots (bd f K) pc li ll lr st M :=
  by
  subst hs
  intro v0 M0 h ls H locs a1 a2 a3
  cases f with
  | none => cases h
  | some q =>
    obtain ⟨v, N⟩ := q
    exact afterCall rfl (va_runS (g := F0 m pc ls _) ⟨E.1, E.2.1, E.2.2.2.2.1, E.2.2.1, E.2.2.2.1⟩ (hM v N rfl) ⟨(callB_of As.length E.2.2.2.1 (AL_call hcode) rfl rfl rfl (E.2.2.2.1 _ hini) (E.2.2.2.1 _ hl) hd ⟨hR.1, hR.2.1⟩), E.2.2.2.1 _ hsta⟩ ⟨fb x M _, fun U hU hW => ⟨rfl, E.2.2.2.2.2.1.warm hW, by rw [hU]; exact a2⟩⟩ rfl rfl a1.1 rfl (by have := sum_cat rest; show 2 * 0 + _ ≤ 8; omega) d ⟨hR.2.2.1, hR.2.2.2⟩) a3 (fun H1 locs1 b1 b2 => k v N v0 M0 h ls H1 locs1 a1 b1 b2)
theorem r_kSl (E : EE p s m args meth c x cc y nL ret) {z : MethodName} {cz : ByteArray} {nz idx : Nat} {rz : Option FieldType} {rmz : Room} {As rest : List Value} {f : Option (Int64 × Mem)} {K : Int64 → Mem → Option (ρ × Mem)} (hcode : Cond.code z cz nz rz ∈ AL) (hini : Cond.initialized z.cls ∈ AL) (hd : z.cls ≠ "java/lang/invoke/MethodHandle" ∧ z.cls ≠ "java/lang/invoke/VarHandle" ∧ (parseMethodDescriptor z.desc).map (fun d => d.parameters.length) = some As.length) (hl : Cond.methodLink y.cls idx z ∈ AL) (hsta : Cond.static z ∈ AL) (d : decode cc pc = .ok (.invokestatic idx, 3)) (hR : rmz.frames + 1 ≤ R.frames ∧ 8 + (nz + 11) + rmz.locals ≤ R.locals ∧ cells + rmz.cells ≤ R.cells ∧ slots + rmz.slots ≤ R.slots) (hst : rest.length ≤ 4) (hz : rmz.cells = 0 ∧ rmz.slots = 0) (hM : ∀ v N, f = some (v, N) → CT l z cz nz rz rmz x As M ((fun v : Int64 => some (.long v)) v) N) (hs : st = As.reverse ++ rest) (k : ∀ (v : Int64) (N : Mem), RT p l e R s m args below meth c x nL Q cells slots (K v N) (pc + 3) li ll lr (.long v :: rest) N) : RT p l e R s m args below meth c x nL Q cells slots (bd f K) pc li ll lr st M :=
  r_callSl E hcode hini hd hl hsta d hR hst hM hs (fun v N => by rw [hz.1, hz.2]; exact k v N)
theorem r_callSr (E : EE p s m args meth c x cc y nL ret) {z : MethodName} {cz : ByteArray} {nz idx : Nat} {rz : Option FieldType} {rmz : Room} {As rest : List Value} {f : Option (Option Nat × Mem)} {K : Option Nat → Mem → Option (ρ × Mem)} (hcode : Cond.code z cz nz rz ∈ AL) (hini : Cond.initialized z.cls ∈ AL) (hd : z.cls ≠ "java/lang/invoke/MethodHandle" ∧ z.cls ≠ "java/lang/invoke/VarHandle" ∧ (parseMethodDescriptor z.desc).map (fun d => d.parameters.length) = some As.length) (hl : Cond.methodLink y.cls idx z ∈ AL) (hsta : Cond.static z ∈ AL) (d : decode cc pc = .ok (.invokestatic idx, 3)) (hR : rmz.frames + 1 ≤ R.frames ∧ 8 + (nz + 11) + rmz.locals ≤ R.locals ∧ cells + rmz.cells ≤ R.cells ∧ slots + rmz.slots ≤ R.slots) (hst : rest.length ≤ 4) (hM : ∀ v N, f = some (v, N) → CT l z cz nz rz rmz x As M ((fun v : Option Nat => some (rv x v)) v) N) (hs : st = As.reverse ++ rest) (k : ∀ (v : Option Nat) (N : Mem), RT p l e R s m args below meth c x nL Q (cells + rmz.cells) (slots + rmz.slots) (K v N) (pc + 3) li ll lr (rv x v :: rest) N) : RT p l e R s m args below meth c x nL Q cells slots (bd f K) pc li ll lr st M :=
  by
  subst hs
  intro v0 M0 h ls H locs a1 a2 a3
  cases f with
  | none => cases h
  | some q =>
    obtain ⟨v, N⟩ := q
    exact afterCall rfl (va_runS (g := F0 m pc ls _) ⟨E.1, E.2.1, E.2.2.2.2.1, E.2.2.1, E.2.2.2.1⟩ (hM v N rfl) ⟨(callB_of As.length E.2.2.2.1 (AL_call hcode) rfl rfl rfl (E.2.2.2.1 _ hini) (E.2.2.2.1 _ hl) hd ⟨hR.1, hR.2.1⟩), E.2.2.2.1 _ hsta⟩ ⟨fb x M _, fun U hU hW => ⟨rfl, E.2.2.2.2.2.1.warm hW, by rw [hU]; exact a2⟩⟩ rfl rfl a1.1 rfl (by have := sum_cat rest; show 2 * 0 + _ ≤ 8; omega) d ⟨hR.2.2.1, hR.2.2.2⟩) a3 (fun H1 locs1 b1 b2 => k v N v0 M0 h ls H1 locs1 a1 b1 b2)
theorem r_kSr (E : EE p s m args meth c x cc y nL ret) {z : MethodName} {cz : ByteArray} {nz idx : Nat} {rz : Option FieldType} {rmz : Room} {As rest : List Value} {f : Option (Option Nat × Mem)} {K : Option Nat → Mem → Option (ρ × Mem)} (hcode : Cond.code z cz nz rz ∈ AL) (hini : Cond.initialized z.cls ∈ AL) (hd : z.cls ≠ "java/lang/invoke/MethodHandle" ∧ z.cls ≠ "java/lang/invoke/VarHandle" ∧ (parseMethodDescriptor z.desc).map (fun d => d.parameters.length) = some As.length) (hl : Cond.methodLink y.cls idx z ∈ AL) (hsta : Cond.static z ∈ AL) (d : decode cc pc = .ok (.invokestatic idx, 3)) (hR : rmz.frames + 1 ≤ R.frames ∧ 8 + (nz + 11) + rmz.locals ≤ R.locals ∧ cells + rmz.cells ≤ R.cells ∧ slots + rmz.slots ≤ R.slots) (hst : rest.length ≤ 4) (hz : rmz.cells = 0 ∧ rmz.slots = 0) (hM : ∀ v N, f = some (v, N) → CT l z cz nz rz rmz x As M ((fun v : Option Nat => some (rv x v)) v) N) (hs : st = As.reverse ++ rest) (k : ∀ (v : Option Nat) (N : Mem), RT p l e R s m args below meth c x nL Q cells slots (K v N) (pc + 3) li ll lr (rv x v :: rest) N) : RT p l e R s m args below meth c x nL Q cells slots (bd f K) pc li ll lr st M :=
  r_callSr E hcode hini hd hl hsta d hR hst hM hs (fun v N => by rw [hz.1, hz.2]; exact k v N)
theorem r_callSv (E : EE p s m args meth c x cc y nL ret) {z : MethodName} {cz : ByteArray} {nz idx : Nat} {rz : Option FieldType} {rmz : Room} {As rest : List Value} {f : Option (Unit × Mem)} {K : Unit → Mem → Option (ρ × Mem)} (hcode : Cond.code z cz nz rz ∈ AL) (hini : Cond.initialized z.cls ∈ AL) (hd : z.cls ≠ "java/lang/invoke/MethodHandle" ∧ z.cls ≠ "java/lang/invoke/VarHandle" ∧ (parseMethodDescriptor z.desc).map (fun d => d.parameters.length) = some As.length) (hl : Cond.methodLink y.cls idx z ∈ AL) (hsta : Cond.static z ∈ AL) (d : decode cc pc = .ok (.invokestatic idx, 3)) (hR : rmz.frames + 1 ≤ R.frames ∧ 8 + (nz + 11) + rmz.locals ≤ R.locals ∧ cells + rmz.cells ≤ R.cells ∧ slots + rmz.slots ≤ R.slots) (hst : rest.length ≤ 4) (hM : ∀ v N, f = some (v, N) → CT l z cz nz rz rmz x As M ((fun _ : Unit => none) v) N) (hs : st = As.reverse ++ rest) (k : ∀ (v : Unit) (N : Mem), RT p l e R s m args below meth c x nL Q (cells + rmz.cells) (slots + rmz.slots) (K v N) (pc + 3) li ll lr rest N) : RT p l e R s m args below meth c x nL Q cells slots (bd f K) pc li ll lr st M :=
  by
  subst hs
  intro v0 M0 h ls H locs a1 a2 a3
  cases f with
  | none => cases h
  | some q =>
    obtain ⟨v, N⟩ := q
    exact afterCall rfl (va_runS (g := F0 m pc ls _) ⟨E.1, E.2.1, E.2.2.2.2.1, E.2.2.1, E.2.2.2.1⟩ (hM v N rfl) ⟨(callB_of As.length E.2.2.2.1 (AL_call hcode) rfl rfl rfl (E.2.2.2.1 _ hini) (E.2.2.2.1 _ hl) hd ⟨hR.1, hR.2.1⟩), E.2.2.2.1 _ hsta⟩ ⟨fb x M _, fun U hU hW => ⟨rfl, E.2.2.2.2.2.1.warm hW, by rw [hU]; exact a2⟩⟩ rfl rfl a1.1 rfl (by have := sum_cat rest; show 2 * 0 + _ ≤ 8; omega) d ⟨hR.2.2.1, hR.2.2.2⟩) a3 (fun H1 locs1 b1 b2 => k v N v0 M0 h ls H1 locs1 a1 b1 b2)
theorem r_kSv (E : EE p s m args meth c x cc y nL ret) {z : MethodName} {cz : ByteArray} {nz idx : Nat} {rz : Option FieldType} {rmz : Room} {As rest : List Value} {f : Option (Unit × Mem)} {K : Unit → Mem → Option (ρ × Mem)} (hcode : Cond.code z cz nz rz ∈ AL) (hini : Cond.initialized z.cls ∈ AL) (hd : z.cls ≠ "java/lang/invoke/MethodHandle" ∧ z.cls ≠ "java/lang/invoke/VarHandle" ∧ (parseMethodDescriptor z.desc).map (fun d => d.parameters.length) = some As.length) (hl : Cond.methodLink y.cls idx z ∈ AL) (hsta : Cond.static z ∈ AL) (d : decode cc pc = .ok (.invokestatic idx, 3)) (hR : rmz.frames + 1 ≤ R.frames ∧ 8 + (nz + 11) + rmz.locals ≤ R.locals ∧ cells + rmz.cells ≤ R.cells ∧ slots + rmz.slots ≤ R.slots) (hst : rest.length ≤ 4) (hz : rmz.cells = 0 ∧ rmz.slots = 0) (hM : ∀ v N, f = some (v, N) → CT l z cz nz rz rmz x As M ((fun _ : Unit => none) v) N) (hs : st = As.reverse ++ rest) (k : ∀ (v : Unit) (N : Mem), RT p l e R s m args below meth c x nL Q cells slots (K v N) (pc + 3) li ll lr rest N) : RT p l e R s m args below meth c x nL Q cells slots (bd f K) pc li ll lr st M :=
  r_callSv E hcode hini hd hl hsta d hR hst hM hs (fun v N => by rw [hz.1, hz.2]; exact k v N)
theorem r_callSNi (E : EE p s m args meth c x cc y nL ret) {z : MethodName} {cz : ByteArray} {nz idx : Nat} {rz : Option FieldType} {rmz : Room} {As rest : List Value} {f : Option (Int32 × Mem)} {K : Int32 → Mem → Option (ρ × Mem)} (hcode : Cond.code z cz nz rz ∈ AL) (hini : Cond.initialized z.cls ∈ AL) (hd : z.cls ≠ "java/lang/invoke/MethodHandle" ∧ z.cls ≠ "java/lang/invoke/VarHandle" ∧ (parseMethodDescriptor z.desc).map (fun d => d.parameters.length) = some As.length) {host : String} (hl : (y.cls, idx, z, host) ∈ nestM) (hsta : Cond.static z ∈ AL) (d : decode cc pc = .ok (.invokestatic idx, 3)) (hR : rmz.frames + 1 ≤ R.frames ∧ 8 + (nz + 11) + rmz.locals ≤ R.locals ∧ cells + rmz.cells ≤ R.cells ∧ slots + rmz.slots ≤ R.slots) (hst : rest.length ≤ 4) (hM : ∀ v N, f = some (v, N) → CT l z cz nz rz rmz x As M ((fun v : Int32 => some (.int v)) v) N) (hs : st = As.reverse ++ rest) (k : ∀ (v : Int32) (N : Mem), RT p l e R s m args below meth c x nL Q (cells + rmz.cells) (slots + rmz.slots) (K v N) (pc + 3) li ll lr (.int v :: rest) N) : RT p l e R s m args below meth c x nL Q cells slots (bd f K) pc li ll lr st M :=
  by
  subst hs
  intro v0 M0 h ls H locs a1 a2 a3
  cases f with
  | none => cases h
  | some q =>
    obtain ⟨v, N⟩ := q
    exact afterCall rfl (va_runSN (g := F0 m pc ls _) ⟨E.1, E.2.1, E.2.2.2.2.1, E.2.2.1, E.2.2.2.1⟩ (hM v N rfl) ⟨(va_cnB As.length E.2.2.2.1 (AL_call hcode) rfl rfl rfl (E.2.2.2.2.2.1.2.2.2.2.1 _ hl) (E.2.2.2.1 _ hini) hd ⟨hR.1, hR.2.1⟩), E.2.2.2.1 _ hsta, trivial⟩ ⟨fb x M _, fun U hU hW => ⟨rfl, E.2.2.2.2.2.1.warm hW, by rw [hU]; exact a2⟩⟩ rfl rfl a1.1 rfl (by have := sum_cat rest; show 2 * 0 + _ ≤ 8; omega) d ⟨hR.2.2.1, hR.2.2.2⟩) a3 (fun H1 locs1 b1 b2 => k v N v0 M0 h ls H1 locs1 a1 b1 b2)
theorem r_kSNi (E : EE p s m args meth c x cc y nL ret) {z : MethodName} {cz : ByteArray} {nz idx : Nat} {rz : Option FieldType} {rmz : Room} {As rest : List Value} {f : Option (Int32 × Mem)} {K : Int32 → Mem → Option (ρ × Mem)} (hcode : Cond.code z cz nz rz ∈ AL) (hini : Cond.initialized z.cls ∈ AL) (hd : z.cls ≠ "java/lang/invoke/MethodHandle" ∧ z.cls ≠ "java/lang/invoke/VarHandle" ∧ (parseMethodDescriptor z.desc).map (fun d => d.parameters.length) = some As.length) {host : String} (hl : (y.cls, idx, z, host) ∈ nestM) (hsta : Cond.static z ∈ AL) (d : decode cc pc = .ok (.invokestatic idx, 3)) (hR : rmz.frames + 1 ≤ R.frames ∧ 8 + (nz + 11) + rmz.locals ≤ R.locals ∧ cells + rmz.cells ≤ R.cells ∧ slots + rmz.slots ≤ R.slots) (hst : rest.length ≤ 4) (hz : rmz.cells = 0 ∧ rmz.slots = 0) (hM : ∀ v N, f = some (v, N) → CT l z cz nz rz rmz x As M ((fun v : Int32 => some (.int v)) v) N) (hs : st = As.reverse ++ rest) (k : ∀ (v : Int32) (N : Mem), RT p l e R s m args below meth c x nL Q cells slots (K v N) (pc + 3) li ll lr (.int v :: rest) N) : RT p l e R s m args below meth c x nL Q cells slots (bd f K) pc li ll lr st M :=
  r_callSNi E hcode hini hd hl hsta d hR hst hM hs (fun v N => by rw [hz.1, hz.2]; exact k v N)
theorem r_callSNl (E : EE p s m args meth c x cc y nL ret) {z : MethodName} {cz : ByteArray} {nz idx : Nat} {rz : Option FieldType} {rmz : Room} {As rest : List Value} {f : Option (Int64 × Mem)} {K : Int64 → Mem → Option (ρ × Mem)} (hcode : Cond.code z cz nz rz ∈ AL) (hini : Cond.initialized z.cls ∈ AL) (hd : z.cls ≠ "java/lang/invoke/MethodHandle" ∧ z.cls ≠ "java/lang/invoke/VarHandle" ∧ (parseMethodDescriptor z.desc).map (fun d => d.parameters.length) = some As.length) {host : String} (hl : (y.cls, idx, z, host) ∈ nestM) (hsta : Cond.static z ∈ AL) (d : decode cc pc = .ok (.invokestatic idx, 3)) (hR : rmz.frames + 1 ≤ R.frames ∧ 8 + (nz + 11) + rmz.locals ≤ R.locals ∧ cells + rmz.cells ≤ R.cells ∧ slots + rmz.slots ≤ R.slots) (hst : rest.length ≤ 4) (hM : ∀ v N, f = some (v, N) → CT l z cz nz rz rmz x As M ((fun v : Int64 => some (.long v)) v) N) (hs : st = As.reverse ++ rest) (k : ∀ (v : Int64) (N : Mem), RT p l e R s m args below meth c x nL Q (cells + rmz.cells) (slots + rmz.slots) (K v N) (pc + 3) li ll lr (.long v :: rest) N) : RT p l e R s m args below meth c x nL Q cells slots (bd f K) pc li ll lr st M :=
  by
  subst hs
  intro v0 M0 h ls H locs a1 a2 a3
  cases f with
  | none => cases h
  | some q =>
    obtain ⟨v, N⟩ := q
    exact afterCall rfl (va_runSN (g := F0 m pc ls _) ⟨E.1, E.2.1, E.2.2.2.2.1, E.2.2.1, E.2.2.2.1⟩ (hM v N rfl) ⟨(va_cnB As.length E.2.2.2.1 (AL_call hcode) rfl rfl rfl (E.2.2.2.2.2.1.2.2.2.2.1 _ hl) (E.2.2.2.1 _ hini) hd ⟨hR.1, hR.2.1⟩), E.2.2.2.1 _ hsta, trivial⟩ ⟨fb x M _, fun U hU hW => ⟨rfl, E.2.2.2.2.2.1.warm hW, by rw [hU]; exact a2⟩⟩ rfl rfl a1.1 rfl (by have := sum_cat rest; show 2 * 0 + _ ≤ 8; omega) d ⟨hR.2.2.1, hR.2.2.2⟩) a3 (fun H1 locs1 b1 b2 => k v N v0 M0 h ls H1 locs1 a1 b1 b2)
theorem r_kSNl (E : EE p s m args meth c x cc y nL ret) {z : MethodName} {cz : ByteArray} {nz idx : Nat} {rz : Option FieldType} {rmz : Room} {As rest : List Value} {f : Option (Int64 × Mem)} {K : Int64 → Mem → Option (ρ × Mem)} (hcode : Cond.code z cz nz rz ∈ AL) (hini : Cond.initialized z.cls ∈ AL) (hd : z.cls ≠ "java/lang/invoke/MethodHandle" ∧ z.cls ≠ "java/lang/invoke/VarHandle" ∧ (parseMethodDescriptor z.desc).map (fun d => d.parameters.length) = some As.length) {host : String} (hl : (y.cls, idx, z, host) ∈ nestM) (hsta : Cond.static z ∈ AL) (d : decode cc pc = .ok (.invokestatic idx, 3)) (hR : rmz.frames + 1 ≤ R.frames ∧ 8 + (nz + 11) + rmz.locals ≤ R.locals ∧ cells + rmz.cells ≤ R.cells ∧ slots + rmz.slots ≤ R.slots) (hst : rest.length ≤ 4) (hz : rmz.cells = 0 ∧ rmz.slots = 0) (hM : ∀ v N, f = some (v, N) → CT l z cz nz rz rmz x As M ((fun v : Int64 => some (.long v)) v) N) (hs : st = As.reverse ++ rest) (k : ∀ (v : Int64) (N : Mem), RT p l e R s m args below meth c x nL Q cells slots (K v N) (pc + 3) li ll lr (.long v :: rest) N) : RT p l e R s m args below meth c x nL Q cells slots (bd f K) pc li ll lr st M :=
  r_callSNl E hcode hini hd hl hsta d hR hst hM hs (fun v N => by rw [hz.1, hz.2]; exact k v N)
theorem r_callSNr (E : EE p s m args meth c x cc y nL ret) {z : MethodName} {cz : ByteArray} {nz idx : Nat} {rz : Option FieldType} {rmz : Room} {As rest : List Value} {f : Option (Option Nat × Mem)} {K : Option Nat → Mem → Option (ρ × Mem)} (hcode : Cond.code z cz nz rz ∈ AL) (hini : Cond.initialized z.cls ∈ AL) (hd : z.cls ≠ "java/lang/invoke/MethodHandle" ∧ z.cls ≠ "java/lang/invoke/VarHandle" ∧ (parseMethodDescriptor z.desc).map (fun d => d.parameters.length) = some As.length) {host : String} (hl : (y.cls, idx, z, host) ∈ nestM) (hsta : Cond.static z ∈ AL) (d : decode cc pc = .ok (.invokestatic idx, 3)) (hR : rmz.frames + 1 ≤ R.frames ∧ 8 + (nz + 11) + rmz.locals ≤ R.locals ∧ cells + rmz.cells ≤ R.cells ∧ slots + rmz.slots ≤ R.slots) (hst : rest.length ≤ 4) (hM : ∀ v N, f = some (v, N) → CT l z cz nz rz rmz x As M ((fun v : Option Nat => some (rv x v)) v) N) (hs : st = As.reverse ++ rest) (k : ∀ (v : Option Nat) (N : Mem), RT p l e R s m args below meth c x nL Q (cells + rmz.cells) (slots + rmz.slots) (K v N) (pc + 3) li ll lr (rv x v :: rest) N) : RT p l e R s m args below meth c x nL Q cells slots (bd f K) pc li ll lr st M :=
  by
  subst hs
  intro v0 M0 h ls H locs a1 a2 a3
  cases f with
  | none => cases h
  | some q =>
    obtain ⟨v, N⟩ := q
    exact afterCall rfl (va_runSN (g := F0 m pc ls _) ⟨E.1, E.2.1, E.2.2.2.2.1, E.2.2.1, E.2.2.2.1⟩ (hM v N rfl) ⟨(va_cnB As.length E.2.2.2.1 (AL_call hcode) rfl rfl rfl (E.2.2.2.2.2.1.2.2.2.2.1 _ hl) (E.2.2.2.1 _ hini) hd ⟨hR.1, hR.2.1⟩), E.2.2.2.1 _ hsta, trivial⟩ ⟨fb x M _, fun U hU hW => ⟨rfl, E.2.2.2.2.2.1.warm hW, by rw [hU]; exact a2⟩⟩ rfl rfl a1.1 rfl (by have := sum_cat rest; show 2 * 0 + _ ≤ 8; omega) d ⟨hR.2.2.1, hR.2.2.2⟩) a3 (fun H1 locs1 b1 b2 => k v N v0 M0 h ls H1 locs1 a1 b1 b2)
theorem r_kSNr (E : EE p s m args meth c x cc y nL ret) {z : MethodName} {cz : ByteArray} {nz idx : Nat} {rz : Option FieldType} {rmz : Room} {As rest : List Value} {f : Option (Option Nat × Mem)} {K : Option Nat → Mem → Option (ρ × Mem)} (hcode : Cond.code z cz nz rz ∈ AL) (hini : Cond.initialized z.cls ∈ AL) (hd : z.cls ≠ "java/lang/invoke/MethodHandle" ∧ z.cls ≠ "java/lang/invoke/VarHandle" ∧ (parseMethodDescriptor z.desc).map (fun d => d.parameters.length) = some As.length) {host : String} (hl : (y.cls, idx, z, host) ∈ nestM) (hsta : Cond.static z ∈ AL) (d : decode cc pc = .ok (.invokestatic idx, 3)) (hR : rmz.frames + 1 ≤ R.frames ∧ 8 + (nz + 11) + rmz.locals ≤ R.locals ∧ cells + rmz.cells ≤ R.cells ∧ slots + rmz.slots ≤ R.slots) (hst : rest.length ≤ 4) (hz : rmz.cells = 0 ∧ rmz.slots = 0) (hM : ∀ v N, f = some (v, N) → CT l z cz nz rz rmz x As M ((fun v : Option Nat => some (rv x v)) v) N) (hs : st = As.reverse ++ rest) (k : ∀ (v : Option Nat) (N : Mem), RT p l e R s m args below meth c x nL Q cells slots (K v N) (pc + 3) li ll lr (rv x v :: rest) N) : RT p l e R s m args below meth c x nL Q cells slots (bd f K) pc li ll lr st M :=
  r_callSNr E hcode hini hd hl hsta d hR hst hM hs (fun v N => by rw [hz.1, hz.2]; exact k v N)
theorem r_callSNv (E : EE p s m args meth c x cc y nL ret) {z : MethodName} {cz : ByteArray} {nz idx : Nat} {rz : Option FieldType} {rmz : Room} {As rest : List Value} {f : Option (Unit × Mem)} {K : Unit → Mem → Option (ρ × Mem)} (hcode : Cond.code z cz nz rz ∈ AL) (hini : Cond.initialized z.cls ∈ AL) (hd : z.cls ≠ "java/lang/invoke/MethodHandle" ∧ z.cls ≠ "java/lang/invoke/VarHandle" ∧ (parseMethodDescriptor z.desc).map (fun d => d.parameters.length) = some As.length) {host : String} (hl : (y.cls, idx, z, host) ∈ nestM) (hsta : Cond.static z ∈ AL) (d : decode cc pc = .ok (.invokestatic idx, 3)) (hR : rmz.frames + 1 ≤ R.frames ∧ 8 + (nz + 11) + rmz.locals ≤ R.locals ∧ cells + rmz.cells ≤ R.cells ∧ slots + rmz.slots ≤ R.slots) (hst : rest.length ≤ 4) (hM : ∀ v N, f = some (v, N) → CT l z cz nz rz rmz x As M ((fun _ : Unit => none) v) N) (hs : st = As.reverse ++ rest) (k : ∀ (v : Unit) (N : Mem), RT p l e R s m args below meth c x nL Q (cells + rmz.cells) (slots + rmz.slots) (K v N) (pc + 3) li ll lr rest N) : RT p l e R s m args below meth c x nL Q cells slots (bd f K) pc li ll lr st M :=
  by
  subst hs
  intro v0 M0 h ls H locs a1 a2 a3
  cases f with
  | none => cases h
  | some q =>
    obtain ⟨v, N⟩ := q
    exact afterCall rfl (va_runSN (g := F0 m pc ls _) ⟨E.1, E.2.1, E.2.2.2.2.1, E.2.2.1, E.2.2.2.1⟩ (hM v N rfl) ⟨(va_cnB As.length E.2.2.2.1 (AL_call hcode) rfl rfl rfl (E.2.2.2.2.2.1.2.2.2.2.1 _ hl) (E.2.2.2.1 _ hini) hd ⟨hR.1, hR.2.1⟩), E.2.2.2.1 _ hsta, trivial⟩ ⟨fb x M _, fun U hU hW => ⟨rfl, E.2.2.2.2.2.1.warm hW, by rw [hU]; exact a2⟩⟩ rfl rfl a1.1 rfl (by have := sum_cat rest; show 2 * 0 + _ ≤ 8; omega) d ⟨hR.2.2.1, hR.2.2.2⟩) a3 (fun H1 locs1 b1 b2 => k v N v0 M0 h ls H1 locs1 a1 b1 b2)
theorem r_kSNv (E : EE p s m args meth c x cc y nL ret) {z : MethodName} {cz : ByteArray} {nz idx : Nat} {rz : Option FieldType} {rmz : Room} {As rest : List Value} {f : Option (Unit × Mem)} {K : Unit → Mem → Option (ρ × Mem)} (hcode : Cond.code z cz nz rz ∈ AL) (hini : Cond.initialized z.cls ∈ AL) (hd : z.cls ≠ "java/lang/invoke/MethodHandle" ∧ z.cls ≠ "java/lang/invoke/VarHandle" ∧ (parseMethodDescriptor z.desc).map (fun d => d.parameters.length) = some As.length) {host : String} (hl : (y.cls, idx, z, host) ∈ nestM) (hsta : Cond.static z ∈ AL) (d : decode cc pc = .ok (.invokestatic idx, 3)) (hR : rmz.frames + 1 ≤ R.frames ∧ 8 + (nz + 11) + rmz.locals ≤ R.locals ∧ cells + rmz.cells ≤ R.cells ∧ slots + rmz.slots ≤ R.slots) (hst : rest.length ≤ 4) (hz : rmz.cells = 0 ∧ rmz.slots = 0) (hM : ∀ v N, f = some (v, N) → CT l z cz nz rz rmz x As M ((fun _ : Unit => none) v) N) (hs : st = As.reverse ++ rest) (k : ∀ (v : Unit) (N : Mem), RT p l e R s m args below meth c x nL Q cells slots (K v N) (pc + 3) li ll lr rest N) : RT p l e R s m args below meth c x nL Q cells slots (bd f K) pc li ll lr st M :=
  r_callSNv E hcode hini hd hl hsta d hR hst hM hs (fun v N => by rw [hz.1, hz.2]; exact k v N)
theorem r_callVi (E : EE p s m args meth c x cc y nL ret) {z : MethodName} {cz : ByteArray} {nz idx : Nat} {rz : Option FieldType} {rmz : Room} {As rest : List Value} {f : Option (Int32 × Mem)} {K : Int32 → Mem → Option (ρ × Mem)} {w : Option Nat} {ci : Nat} {C : String} {T : u_T} {N0 : Nat} (hcode : Cond.code z cz nz rz ∈ AL) (hini : Cond.initialized z.cls ∈ AL) (hd : z.cls ≠ "java/lang/invoke/MethodHandle" ∧ z.cls ≠ "java/lang/invoke/VarHandle" ∧ (parseMethodDescriptor z.desc).map (fun d => d.parameters.length) = some As.length) (hC : vwCl[ci]? = some (C, T, N0)) (hl : Cond.methodLink y.cls idx z ∈ AL) (hins : Cond.instanceMethod z ∈ AL) (hsel : Cond.selects C z z ∈ AL) (d : decode cc pc = .ok (.invokevirtual idx, 3)) (hR : rmz.frames + 1 ≤ R.frames ∧ 8 + (nz + 11) + rmz.locals ≤ R.locals ∧ cells + rmz.cells ≤ R.cells ∧ slots + rmz.slots ≤ R.slots) (hst : rest.length ≤ 4) (hM : ∀ v N, f = some (v, N) → CT l z cz nz rz rmz x (rv x w :: As) M ((fun v : Int32 => some (.int v)) v) N) (hs : st = As.reverse ++ rv x w :: rest) (k : ∀ (v : Int32) (N : Mem), RT p l e R s m args below meth c x nL Q (cells + rmz.cells) (slots + rmz.slots) (K v N) (pc + 3) li ll lr (.int v :: rest) N) : RT p l e R s m args below meth c x nL Q cells slots (bo (chk M w ci) fun _ => bd f K) pc li ll lr st M :=
  by
  subst hs
  intro v0 M0 h ls H locs a1 a2 a3
  cases w with
  | none => cases h
  | some b =>
    by_cases hk : mK M b = ci
    · simp only [chk, bo, if_pos hk] at h
      cases f with
      | none => cases h
      | some q =>
        obtain ⟨v, N⟩ := q
        exact afterCall rfl (va_runV (C := C) (b := io x b) (g := F0 m pc ls _) ⟨E.1, E.2.1, E.2.2.2.2.1, E.2.2.1, E.2.2.2.1⟩ (hM v N rfl) ⟨(callB_of As.length E.2.2.2.1 (AL_call hcode) rfl rfl rfl (E.2.2.2.1 _ hini) (E.2.2.2.1 _ hl) hd ⟨hR.1, hR.2.1⟩), E.2.2.2.1 _ hins, E.2.2.2.1 _ hsel⟩ ⟨fb x M _, lv_at_obj E.2.2.2.2.2.1 a2 hC hk, fun U hU hW => ⟨rfl, E.2.2.2.2.2.1.warm hW, by rw [hU]; exact a2⟩⟩ rfl rfl a1.1 rfl (by have := sum_cat rest; show 2 * 0 + _ ≤ 8; omega) d ⟨hR.2.2.1, hR.2.2.2⟩) a3 (fun H1 locs1 b1 b2 => k v N v0 M0 h ls H1 locs1 a1 b1 b2)
    · simp only [chk, bo, if_neg hk] at h
      cases h
theorem r_kVi (E : EE p s m args meth c x cc y nL ret) {z : MethodName} {cz : ByteArray} {nz idx : Nat} {rz : Option FieldType} {rmz : Room} {As rest : List Value} {f : Option (Int32 × Mem)} {K : Int32 → Mem → Option (ρ × Mem)} {w : Option Nat} {ci : Nat} {C : String} {T : u_T} {N0 : Nat} (hcode : Cond.code z cz nz rz ∈ AL) (hini : Cond.initialized z.cls ∈ AL) (hd : z.cls ≠ "java/lang/invoke/MethodHandle" ∧ z.cls ≠ "java/lang/invoke/VarHandle" ∧ (parseMethodDescriptor z.desc).map (fun d => d.parameters.length) = some As.length) (hC : vwCl[ci]? = some (C, T, N0)) (hl : Cond.methodLink y.cls idx z ∈ AL) (hins : Cond.instanceMethod z ∈ AL) (hsel : Cond.selects C z z ∈ AL) (d : decode cc pc = .ok (.invokevirtual idx, 3)) (hR : rmz.frames + 1 ≤ R.frames ∧ 8 + (nz + 11) + rmz.locals ≤ R.locals ∧ cells + rmz.cells ≤ R.cells ∧ slots + rmz.slots ≤ R.slots) (hst : rest.length ≤ 4) (hz : rmz.cells = 0 ∧ rmz.slots = 0) (hM : ∀ v N, f = some (v, N) → CT l z cz nz rz rmz x (rv x w :: As) M ((fun v : Int32 => some (.int v)) v) N) (hs : st = As.reverse ++ rv x w :: rest) (k : ∀ (v : Int32) (N : Mem), RT p l e R s m args below meth c x nL Q cells slots (K v N) (pc + 3) li ll lr (.int v :: rest) N) : RT p l e R s m args below meth c x nL Q cells slots (bo (chk M w ci) fun _ => bd f K) pc li ll lr st M :=
  r_callVi E hcode hini hd hC hl hins hsel d hR hst hM hs (fun v N => by rw [hz.1, hz.2]; exact k v N)
theorem r_callVl (E : EE p s m args meth c x cc y nL ret) {z : MethodName} {cz : ByteArray} {nz idx : Nat} {rz : Option FieldType} {rmz : Room} {As rest : List Value} {f : Option (Int64 × Mem)} {K : Int64 → Mem → Option (ρ × Mem)} {w : Option Nat} {ci : Nat} {C : String} {T : u_T} {N0 : Nat} (hcode : Cond.code z cz nz rz ∈ AL) (hini : Cond.initialized z.cls ∈ AL) (hd : z.cls ≠ "java/lang/invoke/MethodHandle" ∧ z.cls ≠ "java/lang/invoke/VarHandle" ∧ (parseMethodDescriptor z.desc).map (fun d => d.parameters.length) = some As.length) (hC : vwCl[ci]? = some (C, T, N0)) (hl : Cond.methodLink y.cls idx z ∈ AL) (hins : Cond.instanceMethod z ∈ AL) (hsel : Cond.selects C z z ∈ AL) (d : decode cc pc = .ok (.invokevirtual idx, 3)) (hR : rmz.frames + 1 ≤ R.frames ∧ 8 + (nz + 11) + rmz.locals ≤ R.locals ∧ cells + rmz.cells ≤ R.cells ∧ slots + rmz.slots ≤ R.slots) (hst : rest.length ≤ 4) (hM : ∀ v N, f = some (v, N) → CT l z cz nz rz rmz x (rv x w :: As) M ((fun v : Int64 => some (.long v)) v) N) (hs : st = As.reverse ++ rv x w :: rest) (k : ∀ (v : Int64) (N : Mem), RT p l e R s m args below meth c x nL Q (cells + rmz.cells) (slots + rmz.slots) (K v N) (pc + 3) li ll lr (.long v :: rest) N) : RT p l e R s m args below meth c x nL Q cells slots (bo (chk M w ci) fun _ => bd f K) pc li ll lr st M :=
  by
  subst hs
  intro v0 M0 h ls H locs a1 a2 a3
  cases w with
  | none => cases h
  | some b =>
    by_cases hk : mK M b = ci
    · simp only [chk, bo, if_pos hk] at h
      cases f with
      | none => cases h
      | some q =>
        obtain ⟨v, N⟩ := q
        exact afterCall rfl (va_runV (C := C) (b := io x b) (g := F0 m pc ls _) ⟨E.1, E.2.1, E.2.2.2.2.1, E.2.2.1, E.2.2.2.1⟩ (hM v N rfl) ⟨(callB_of As.length E.2.2.2.1 (AL_call hcode) rfl rfl rfl (E.2.2.2.1 _ hini) (E.2.2.2.1 _ hl) hd ⟨hR.1, hR.2.1⟩), E.2.2.2.1 _ hins, E.2.2.2.1 _ hsel⟩ ⟨fb x M _, lv_at_obj E.2.2.2.2.2.1 a2 hC hk, fun U hU hW => ⟨rfl, E.2.2.2.2.2.1.warm hW, by rw [hU]; exact a2⟩⟩ rfl rfl a1.1 rfl (by have := sum_cat rest; show 2 * 0 + _ ≤ 8; omega) d ⟨hR.2.2.1, hR.2.2.2⟩) a3 (fun H1 locs1 b1 b2 => k v N v0 M0 h ls H1 locs1 a1 b1 b2)
    · simp only [chk, bo, if_neg hk] at h
      cases h
theorem r_kVl (E : EE p s m args meth c x cc y nL ret) {z : MethodName} {cz : ByteArray} {nz idx : Nat} {rz : Option FieldType} {rmz : Room} {As rest : List Value} {f : Option (Int64 × Mem)} {K : Int64 → Mem → Option (ρ × Mem)} {w : Option Nat} {ci : Nat} {C : String} {T : u_T} {N0 : Nat} (hcode : Cond.code z cz nz rz ∈ AL) (hini : Cond.initialized z.cls ∈ AL) (hd : z.cls ≠ "java/lang/invoke/MethodHandle" ∧ z.cls ≠ "java/lang/invoke/VarHandle" ∧ (parseMethodDescriptor z.desc).map (fun d => d.parameters.length) = some As.length) (hC : vwCl[ci]? = some (C, T, N0)) (hl : Cond.methodLink y.cls idx z ∈ AL) (hins : Cond.instanceMethod z ∈ AL) (hsel : Cond.selects C z z ∈ AL) (d : decode cc pc = .ok (.invokevirtual idx, 3)) (hR : rmz.frames + 1 ≤ R.frames ∧ 8 + (nz + 11) + rmz.locals ≤ R.locals ∧ cells + rmz.cells ≤ R.cells ∧ slots + rmz.slots ≤ R.slots) (hst : rest.length ≤ 4) (hz : rmz.cells = 0 ∧ rmz.slots = 0) (hM : ∀ v N, f = some (v, N) → CT l z cz nz rz rmz x (rv x w :: As) M ((fun v : Int64 => some (.long v)) v) N) (hs : st = As.reverse ++ rv x w :: rest) (k : ∀ (v : Int64) (N : Mem), RT p l e R s m args below meth c x nL Q cells slots (K v N) (pc + 3) li ll lr (.long v :: rest) N) : RT p l e R s m args below meth c x nL Q cells slots (bo (chk M w ci) fun _ => bd f K) pc li ll lr st M :=
  r_callVl E hcode hini hd hC hl hins hsel d hR hst hM hs (fun v N => by rw [hz.1, hz.2]; exact k v N)
theorem r_callVr (E : EE p s m args meth c x cc y nL ret) {z : MethodName} {cz : ByteArray} {nz idx : Nat} {rz : Option FieldType} {rmz : Room} {As rest : List Value} {f : Option (Option Nat × Mem)} {K : Option Nat → Mem → Option (ρ × Mem)} {w : Option Nat} {ci : Nat} {C : String} {T : u_T} {N0 : Nat} (hcode : Cond.code z cz nz rz ∈ AL) (hini : Cond.initialized z.cls ∈ AL) (hd : z.cls ≠ "java/lang/invoke/MethodHandle" ∧ z.cls ≠ "java/lang/invoke/VarHandle" ∧ (parseMethodDescriptor z.desc).map (fun d => d.parameters.length) = some As.length) (hC : vwCl[ci]? = some (C, T, N0)) (hl : Cond.methodLink y.cls idx z ∈ AL) (hins : Cond.instanceMethod z ∈ AL) (hsel : Cond.selects C z z ∈ AL) (d : decode cc pc = .ok (.invokevirtual idx, 3)) (hR : rmz.frames + 1 ≤ R.frames ∧ 8 + (nz + 11) + rmz.locals ≤ R.locals ∧ cells + rmz.cells ≤ R.cells ∧ slots + rmz.slots ≤ R.slots) (hst : rest.length ≤ 4) (hM : ∀ v N, f = some (v, N) → CT l z cz nz rz rmz x (rv x w :: As) M ((fun v : Option Nat => some (rv x v)) v) N) (hs : st = As.reverse ++ rv x w :: rest) (k : ∀ (v : Option Nat) (N : Mem), RT p l e R s m args below meth c x nL Q (cells + rmz.cells) (slots + rmz.slots) (K v N) (pc + 3) li ll lr (rv x v :: rest) N) : RT p l e R s m args below meth c x nL Q cells slots (bo (chk M w ci) fun _ => bd f K) pc li ll lr st M :=
  by
  subst hs
  intro v0 M0 h ls H locs a1 a2 a3
  cases w with
  | none => cases h
  | some b =>
    by_cases hk : mK M b = ci
    · simp only [chk, bo, if_pos hk] at h
      cases f with
      | none => cases h
      | some q =>
        obtain ⟨v, N⟩ := q
        exact afterCall rfl (va_runV (C := C) (b := io x b) (g := F0 m pc ls _) ⟨E.1, E.2.1, E.2.2.2.2.1, E.2.2.1, E.2.2.2.1⟩ (hM v N rfl) ⟨(callB_of As.length E.2.2.2.1 (AL_call hcode) rfl rfl rfl (E.2.2.2.1 _ hini) (E.2.2.2.1 _ hl) hd ⟨hR.1, hR.2.1⟩), E.2.2.2.1 _ hins, E.2.2.2.1 _ hsel⟩ ⟨fb x M _, lv_at_obj E.2.2.2.2.2.1 a2 hC hk, fun U hU hW => ⟨rfl, E.2.2.2.2.2.1.warm hW, by rw [hU]; exact a2⟩⟩ rfl rfl a1.1 rfl (by have := sum_cat rest; show 2 * 0 + _ ≤ 8; omega) d ⟨hR.2.2.1, hR.2.2.2⟩) a3 (fun H1 locs1 b1 b2 => k v N v0 M0 h ls H1 locs1 a1 b1 b2)
    · simp only [chk, bo, if_neg hk] at h
      cases h
theorem r_kVr (E : EE p s m args meth c x cc y nL ret) {z : MethodName} {cz : ByteArray} {nz idx : Nat} {rz : Option FieldType} {rmz : Room} {As rest : List Value} {f : Option (Option Nat × Mem)} {K : Option Nat → Mem → Option (ρ × Mem)} {w : Option Nat} {ci : Nat} {C : String} {T : u_T} {N0 : Nat} (hcode : Cond.code z cz nz rz ∈ AL) (hini : Cond.initialized z.cls ∈ AL) (hd : z.cls ≠ "java/lang/invoke/MethodHandle" ∧ z.cls ≠ "java/lang/invoke/VarHandle" ∧ (parseMethodDescriptor z.desc).map (fun d => d.parameters.length) = some As.length) (hC : vwCl[ci]? = some (C, T, N0)) (hl : Cond.methodLink y.cls idx z ∈ AL) (hins : Cond.instanceMethod z ∈ AL) (hsel : Cond.selects C z z ∈ AL) (d : decode cc pc = .ok (.invokevirtual idx, 3)) (hR : rmz.frames + 1 ≤ R.frames ∧ 8 + (nz + 11) + rmz.locals ≤ R.locals ∧ cells + rmz.cells ≤ R.cells ∧ slots + rmz.slots ≤ R.slots) (hst : rest.length ≤ 4) (hz : rmz.cells = 0 ∧ rmz.slots = 0) (hM : ∀ v N, f = some (v, N) → CT l z cz nz rz rmz x (rv x w :: As) M ((fun v : Option Nat => some (rv x v)) v) N) (hs : st = As.reverse ++ rv x w :: rest) (k : ∀ (v : Option Nat) (N : Mem), RT p l e R s m args below meth c x nL Q cells slots (K v N) (pc + 3) li ll lr (rv x v :: rest) N) : RT p l e R s m args below meth c x nL Q cells slots (bo (chk M w ci) fun _ => bd f K) pc li ll lr st M :=
  r_callVr E hcode hini hd hC hl hins hsel d hR hst hM hs (fun v N => by rw [hz.1, hz.2]; exact k v N)
theorem r_callVv (E : EE p s m args meth c x cc y nL ret) {z : MethodName} {cz : ByteArray} {nz idx : Nat} {rz : Option FieldType} {rmz : Room} {As rest : List Value} {f : Option (Unit × Mem)} {K : Unit → Mem → Option (ρ × Mem)} {w : Option Nat} {ci : Nat} {C : String} {T : u_T} {N0 : Nat} (hcode : Cond.code z cz nz rz ∈ AL) (hini : Cond.initialized z.cls ∈ AL) (hd : z.cls ≠ "java/lang/invoke/MethodHandle" ∧ z.cls ≠ "java/lang/invoke/VarHandle" ∧ (parseMethodDescriptor z.desc).map (fun d => d.parameters.length) = some As.length) (hC : vwCl[ci]? = some (C, T, N0)) (hl : Cond.methodLink y.cls idx z ∈ AL) (hins : Cond.instanceMethod z ∈ AL) (hsel : Cond.selects C z z ∈ AL) (d : decode cc pc = .ok (.invokevirtual idx, 3)) (hR : rmz.frames + 1 ≤ R.frames ∧ 8 + (nz + 11) + rmz.locals ≤ R.locals ∧ cells + rmz.cells ≤ R.cells ∧ slots + rmz.slots ≤ R.slots) (hst : rest.length ≤ 4) (hM : ∀ v N, f = some (v, N) → CT l z cz nz rz rmz x (rv x w :: As) M ((fun _ : Unit => none) v) N) (hs : st = As.reverse ++ rv x w :: rest) (k : ∀ (v : Unit) (N : Mem), RT p l e R s m args below meth c x nL Q (cells + rmz.cells) (slots + rmz.slots) (K v N) (pc + 3) li ll lr rest N) : RT p l e R s m args below meth c x nL Q cells slots (bo (chk M w ci) fun _ => bd f K) pc li ll lr st M :=
  by
  subst hs
  intro v0 M0 h ls H locs a1 a2 a3
  cases w with
  | none => cases h
  | some b =>
    by_cases hk : mK M b = ci
    · simp only [chk, bo, if_pos hk] at h
      cases f with
      | none => cases h
      | some q =>
        obtain ⟨v, N⟩ := q
        exact afterCall rfl (va_runV (C := C) (b := io x b) (g := F0 m pc ls _) ⟨E.1, E.2.1, E.2.2.2.2.1, E.2.2.1, E.2.2.2.1⟩ (hM v N rfl) ⟨(callB_of As.length E.2.2.2.1 (AL_call hcode) rfl rfl rfl (E.2.2.2.1 _ hini) (E.2.2.2.1 _ hl) hd ⟨hR.1, hR.2.1⟩), E.2.2.2.1 _ hins, E.2.2.2.1 _ hsel⟩ ⟨fb x M _, lv_at_obj E.2.2.2.2.2.1 a2 hC hk, fun U hU hW => ⟨rfl, E.2.2.2.2.2.1.warm hW, by rw [hU]; exact a2⟩⟩ rfl rfl a1.1 rfl (by have := sum_cat rest; show 2 * 0 + _ ≤ 8; omega) d ⟨hR.2.2.1, hR.2.2.2⟩) a3 (fun H1 locs1 b1 b2 => k v N v0 M0 h ls H1 locs1 a1 b1 b2)
    · simp only [chk, bo, if_neg hk] at h
      cases h
theorem r_kVv (E : EE p s m args meth c x cc y nL ret) {z : MethodName} {cz : ByteArray} {nz idx : Nat} {rz : Option FieldType} {rmz : Room} {As rest : List Value} {f : Option (Unit × Mem)} {K : Unit → Mem → Option (ρ × Mem)} {w : Option Nat} {ci : Nat} {C : String} {T : u_T} {N0 : Nat} (hcode : Cond.code z cz nz rz ∈ AL) (hini : Cond.initialized z.cls ∈ AL) (hd : z.cls ≠ "java/lang/invoke/MethodHandle" ∧ z.cls ≠ "java/lang/invoke/VarHandle" ∧ (parseMethodDescriptor z.desc).map (fun d => d.parameters.length) = some As.length) (hC : vwCl[ci]? = some (C, T, N0)) (hl : Cond.methodLink y.cls idx z ∈ AL) (hins : Cond.instanceMethod z ∈ AL) (hsel : Cond.selects C z z ∈ AL) (d : decode cc pc = .ok (.invokevirtual idx, 3)) (hR : rmz.frames + 1 ≤ R.frames ∧ 8 + (nz + 11) + rmz.locals ≤ R.locals ∧ cells + rmz.cells ≤ R.cells ∧ slots + rmz.slots ≤ R.slots) (hst : rest.length ≤ 4) (hz : rmz.cells = 0 ∧ rmz.slots = 0) (hM : ∀ v N, f = some (v, N) → CT l z cz nz rz rmz x (rv x w :: As) M ((fun _ : Unit => none) v) N) (hs : st = As.reverse ++ rv x w :: rest) (k : ∀ (v : Unit) (N : Mem), RT p l e R s m args below meth c x nL Q cells slots (K v N) (pc + 3) li ll lr rest N) : RT p l e R s m args below meth c x nL Q cells slots (bo (chk M w ci) fun _ => bd f K) pc li ll lr st M :=
  r_callVv E hcode hini hd hC hl hins hsel d hR hst hM hs (fun v N => by rw [hz.1, hz.2]; exact k v N)
theorem r_callI (E : EE p s m args meth c x cc y nL ret) {z : MethodName} {cz : ByteArray} {nz idx : Nat} {rmz : Room} {As rest : List Value} {f : Option (Unit × Mem)} {K : Unit → Mem → Option (ρ × Mem)} {w : Option Nat} (hcode : Cond.code z cz nz none ∈ AL) (hini : Cond.initialized z.cls ∈ AL) (hd : z.cls ≠ "java/lang/invoke/MethodHandle" ∧ z.cls ≠ "java/lang/invoke/VarHandle" ∧ (parseMethodDescriptor z.desc).map (fun d => d.parameters.length) = some As.length) (hl : Cond.methodLink y.cls idx z ∈ AL) (hnm : z.name = "<init>") (hins : Cond.instanceMethod z ∈ AL) (d : decode cc pc = .ok (.invokespecial idx, 3)) (hR : rmz.frames + 1 ≤ R.frames ∧ 8 + (nz + 11) + rmz.locals ≤ R.locals ∧ cells + rmz.cells ≤ R.cells ∧ slots + rmz.slots ≤ R.slots) (hst : rest.length ≤ 4) (hM : ∀ v N, f = some (v, N) → CT l z cz nz none rmz x (rv x w :: As) M none N) (hs : st = As.reverse ++ rv x w :: rest) (k : ∀ (v : Unit) (N : Mem), RT p l e R s m args below meth c x nL Q (cells + rmz.cells) (slots + rmz.slots) (K v N) (pc + 3) li ll lr rest N) : RT p l e R s m args below meth c x nL Q cells slots (bo (chk0 w) fun _ => bd f K) pc li ll lr st M :=
  by
  subst hs
  intro v0 M0 h ls H locs a1 a2 a3
  cases w with
  | none => cases h
  | some b =>
    cases f with
    | none => cases h
    | some q =>
      obtain ⟨v, N⟩ := q
      exact afterCall rfl (va_runI (b := io x b) (g := F0 m pc ls _) ⟨E.1, E.2.1, E.2.2.2.2.1, E.2.2.1, E.2.2.2.1⟩ (hM v N rfl) ⟨(callB_of As.length E.2.2.2.1 (AL_call hcode) rfl rfl rfl (E.2.2.2.1 _ hini) (E.2.2.2.1 _ hl) hd ⟨hR.1, hR.2.1⟩), hnm, E.2.2.2.1 _ hins⟩ ⟨fb x M _, fun U hU hW => ⟨rfl, E.2.2.2.2.2.1.warm hW, by rw [hU]; exact a2⟩⟩ rfl rfl a1.1 rfl (by have := sum_cat rest; show 2 * 0 + _ ≤ 8; omega) d ⟨hR.2.2.1, hR.2.2.2⟩) a3 (fun H1 locs1 b1 b2 => k v N v0 M0 h ls H1 locs1 a1 b1 b2)
theorem r_obj (E : EE p s m args meth c x cc y nL ret) {idx : Nat} {w : Option Nat} (hl : Cond.methodLink y.cls idx objectInit ∈ AL) (hins : Cond.instanceMethod objectInit ∈ AL) (hcode : Cond.code objectInit ⟨#[0xb1]⟩ 1 none ∈ AL) (d : decode cc pc = .ok (.invokespecial idx, 3)) (hfr : 1 ≤ R.frames) (hlo : 20 ≤ R.locals) (hst : st.length ≤ 4) (k : RT p l e R s m args below meth c x nL Q cells slots r (pc + 3) li ll lr st M) : RT p l e R s m args below meth c x nL Q cells slots (bo (chk0 w) fun _ => r) pc li ll lr (rv x w :: st) M :=
  by
  intro v0 M0 h ls H locs a1 a2 a3
  cases w with
  | none => cases h
  | some a => exact W.objInit E.1 E.2.1 E.2.2.1 (E.2.2.2.1 _ hl) (E.2.2.2.1 _ hins) (E.2.2.2.1 _ hcode) rfl (by rw [E.2.2.2.2.1]; exact a1.1) rfl d hfr (by have := sum_cat st; show 2 * 0 + _ + 12 ≤ _; omega) (k v0 M0 h ls H locs a1 a2 a3)
end RTX
