section RTM
variable {ρ : Type} {p : Program} {l : Launch} {e : Env} {R : Room} {s : State} {m : MethodId} {args : Array Value} {below : List Frame} {meth : Method} {c : Code} {x : Cx} {cc : ByteArray} {y : MethodName} {ret : Option FieldType} {nL cells slots pc : Nat} {Q : ρ → Mem → State → Prop} {r : Option (ρ × Mem)} {li : List (Nat × Int32)} {ll : List (Nat × Int64)} {lr : List (Nat × Option Nat)} {st : List Value} {M : Mem}
/-- a field of one of the classes: its class's number, its place, its names, its type -/
def FD (ci j : Nat) (C nm ds : String) (ty : FieldType) (fin : Bool) : Prop := ∃ (T : u_T) (N : Nat), vwCl[ci]? = some (C, T, N) ∧ (∀ w ∈ u_ws C T N, w ∈ AL) ∧ (∀ k, k < N → parseFieldDescriptor (T k).2.2.1 = some (tyC ci k)) ∧ (∀ a, a < N → ∀ b, b < N → a ≠ b → (T a).2.1 ≠ (T b).2.1) ∧ j < N ∧ T j = (C, nm, ds, fin) ∧ tyC ci j = ty
theorem vwCl_lt {ci : Nat} {q : vw_C} (h : vwCl[ci]? = some q) : ci < 14 := (List.getElem?_eq_some_iff.mp h).1
theorem Hp.at {H : Heap} (h : Hp x M H) {a : Nat} (hk : mK M a < 21) : 11 ≤ a ∧ a < mN M ∧ cOK x M a H := by
  obtain ⟨h0, h1, h2, h3, h4, h5⟩ := h
  have ha : 11 ≤ a := by
    refine Nat.not_lt.mp fun q => ?_
    have h9 := (h4 a q).1
    split at h9 <;> omega
  have hb : a < mN M := by
    refine Nat.not_le.mp fun q => ?_
    have := h3 a q
    omega
  exact ⟨ha, hb, (h5 a ha hb).2⟩
theorem io_ge {a : Nat} (h : 11 ≤ a) : io x a = xb x + (a - 11) := if_neg (Nat.not_lt.mpr h)
theorem vl_congr {N : Mem} {ty : FieldType} {a : Nat} (h1 : ∀ j, mI N a j = mI M a j) (h2 : ∀ j, mJ N a j = mJ M a j) (h3 : ∀ j, mR N a j = mR M a j) (j : Nat) : vl x N ty a j = vl x M ty a j := by
  cases ty <;> simp [vl, h1, h2, h3]
/-- a write into one cell -/
theorem Hp.put {H H1 : Heap} {N : Mem} {a : Nat} (h : Hp x M H) (ha : 11 ≤ a) (hb : a < mN M) (e1 : H1.size = H.size) (e2 : ∀ q : Nat, q ≠ io x a → H1[q]? = H[q]?) (hN : mN N = mN M) (hK : ∀ b, mK N b = mK M b) (hL : ∀ b, mL N b = mL M b)
    (g1 : ∀ b, b ≠ a → ∀ j, mI N b j = mI M b j) (g2 : ∀ b, b ≠ a → ∀ j, mJ N b j = mJ M b j) (g3 : ∀ b, b ≠ a → ∀ j, mR N b j = mR M b j) (hc : cOK x N a H1) : Hp x N H1 := by
  obtain ⟨h0, h1, h2, h3, h4, h5⟩ := h
  refine ⟨by rw [hN]; exact h0, by rw [hN, e1]; exact h1, fun q hq => ?_, fun b hb => by rw [hK]; exact h3 b (by rw [← hN]; exact hb), fun b hb => ?_, fun b hb1 hb2 => ?_⟩
  · rw [e2 q (by rw [io_ge ha]; omega)]
    exact h2 q hq
  · exact ⟨by rw [hK]; exact (h4 b hb).1, fun hb2 => ⟨by rw [hL]; exact ((h4 b hb).2 hb2).1, fun j => by rw [g1 b (by omega)]; exact ((h4 b hb).2 hb2).2 j⟩⟩
  · rw [hK]
    rw [hN] at hb2
    refine ⟨(h5 b hb1 hb2).1, ?_⟩
    by_cases hba : b = a
    · rw [hba]; exact hc
    · obtain ⟨o1, o2⟩ := (h5 b hb1 hb2).2
      have hne : io x b ≠ io x a := by rw [io_ge hb1, io_ge ha]; omega
      refine ⟨fun q hq => ?_, fun hq => ?_⟩
      · rw [hK] at hq ⊢
        obtain ⟨cell, c1, c2, c3, c4⟩ := o1 q hq
        exact ⟨cell, by rw [e2 _ hne]; exact c1, c2, c3, fun k hk => (c4 k hk).trans (congrArg some (vl_congr (g1 b hba) (g2 b hba) (g3 b hba) k).symm)⟩
      · rw [hK] at hq ⊢
        rw [e2 _ hne, o2 hq, hL]
        congr 2
        funext j
        rw [vl_congr (g1 b hba) (g2 b hba) (g3 b hba)]
theorem lv_at_obj {H : Heap} {ci a : Nat} {C : String} {T : u_T} {N : Nat} (hK : Kn x s) (h : Hp x M H) (hc : vwCl[ci]? = some (C, T, N)) (hk : mK M a = ci) : ∃ cell : Cell, H[io x a]? = some cell ∧ cell.vm.isStatics = false ∧ s.vm.findClass C = some cell.cls := by
  obtain ⟨-, -, o1, -⟩ := h.at (a := a) (by have := vwCl_lt hc; omega)
  rw [hk] at o1
  obtain ⟨cell, c1, c2, c3, -⟩ := o1 _ hc
  exact ⟨cell, c1, by rw [c3]; rfl, by rw [c2]; exact (hK.1 ci _ hc).2.1⟩
theorem get_any {H : Heap} {locs : List Loc} {Q0 : State → Prop} {ls : Array Slot} (E : EE p s m args meth c x cc y nL ret) {ci j idx a : Nat} {C nm ds : String} {ty : FieldType} {fin : Bool} (F : FD ci j C nm ds ty fin) (hl : Cond.fieldLink y.cls idx C nm ds ∈ AL) (d : decode cc pc = .ok (.getfield idx, 3)) (h : Hp x M H) (hk : mK M a = ci)
    (k : W p l e R s m args below meth c H locs cells slots Q0 (F0 m (pc + 3) ls (vl x M ty a j :: st))) : W p l e R s m args below meth c H locs cells slots Q0 (F0 m pc ls (.ref (io x a) :: st)) := by
  obtain ⟨T, N, hc, hin, hty, hnm, hj, hT, ht⟩ := F
  obtain ⟨-, -, o1, -⟩ := h.at (a := a) (by have := vwCl_lt hc; omega)
  rw [hk] at o1
  obtain ⟨cell, q1, q2, q3, q4⟩ := o1 _ hc
  obtain ⟨hS, hfc, kC, hkC, hkind⟩ := E.2.2.2.2.2.1.1 ci _ hc
  obtain ⟨cf, kf, fi, f, hi, hsl⟩ := hS j hj
  have hu := (u_facts hfc hkC (u_lays E.2.2.2.1 hin hj) hi).1
  simp only [hT] at hi
  refine W.getf E.1 E.2.1 E.2.2.1 (E.2.2.2.1 _ hl) hi hu q1 (by rw [q3]; exact fun h => by cases h) (v := vl x M ty a j) ?_ rfl rfl d k
  rw [hsl, q4 j hj]
  simp only [ht]
theorem put_any {H : Heap} {locs : List Loc} {Q0 : State → Prop} {ls : Array Slot} {v : Value} {N1 : Mem} (E : EE p s m args meth c x cc y nL ret) {ci j idx a : Nat} {C nm ds : String} {ty : FieldType} {fin : Bool} (F : FD ci j C nm ds ty fin) (hl : Cond.fieldLink y.cls idx C nm ds ∈ AL) (d : decode cc pc = .ok (.putfield idx, 3)) (h : Hp x M H) (a3 : ∀ q ∈ locs, xb x ≤ q.base) (hk : mK M a = ci) (hfin : fin = false ∨ (y.name = "<init>" ∧ y.cls = C)) (hn : narrow ty v = v) (hfit : fits ty v = true)
    (hN : mN N1 = mN M) (hK : ∀ b, mK N1 b = mK M b) (hL : ∀ b, mL N1 b = mL M b) (g1 : ∀ b, b ≠ a → ∀ j, mI N1 b j = mI M b j) (g2 : ∀ b, b ≠ a → ∀ j, mJ N1 b j = mJ M b j) (g3 : ∀ b, b ≠ a → ∀ j, mR N1 b j = mR M b j)
    (hv : ∀ i, vl x N1 (tyC ci i) a i = updV (fun j => vl x M (tyC ci j) a j) j v i)
    (k : ∀ (H1 : Heap) (locs1 : List Loc), Hp x N1 H1 → (∀ q ∈ locs1, xb x ≤ q.base) → W p l e R s m args below meth c H1 locs1 cells slots Q0 (F0 m (pc + 3) ls st)) : W p l e R s m args below meth c H locs cells slots Q0 (F0 m pc ls (v :: .ref (io x a) :: st)) := by
  obtain ⟨T, N, hc, hin, hty, hnm, hj, hT, ht⟩ := F
  have hci := vwCl_lt hc
  obtain ⟨ha, hb, o1, -⟩ := h.at (a := a) (by omega)
  rw [hk] at o1
  obtain ⟨cell, q1, q2, q3, q4⟩ := o1 _ hc
  obtain ⟨hS, hfc, kC, hkC, hkind⟩ := E.2.2.2.2.2.1.1 ci _ hc
  have hap : ∀ a b, a < N → b < N → a ≠ b → x.2.1 ci a ≠ x.2.1 ci b := by
    intro u w hu hw hne
    obtain ⟨_, _, _, fa, hia, ea⟩ := hS u hu
    obtain ⟨_, _, _, fb, hib, eb⟩ := hS w hw
    rw [← ea, ← eb]
    refine u_apart (u_lays E.2.2.2.1 hin hu) (u_lays E.2.2.2.1 hin hw) hia hib ?_
    rw [(State.fieldFound?_type hia (hty u hu)).1, (State.fieldFound?_type hib (hty w hw)).1]
    exact hnm u hu w hw hne
  obtain ⟨cf, kf, fi, f, hi, hsl⟩ := hS j hj
  have hu := (u_facts hfc hkC (u_lays E.2.2.2.1 hin hj) hi).1
  have hd : parseFieldDescriptor (T j).2.2.1 = some ty := by rw [hty j hj, ht]
  have hlay := E.2.2.2.1 _ (hin _ (u_in_lay hj))
  have hlt : f.slot < cell.slots.size := by rw [hsl]; exact k2_hasslot (q4 j hj)
  have fin1 : ∀ (H' : Heap), H'[io x a]? = some (cell.setSlot f.slot v) → H'.size = H.size → (∀ q, q ≠ io x a → H'[q]? = H[q]?) → W p l e R s m args below meth c H' (locs ++ [⟨io x a, f.slot⟩]) cells slots Q0 (F0 m (pc + 3) ls st) := by
    intro H' e1 e2 e3
    rw [hsl] at e1
    refine k H' _ (h.put ha hb e2 e3 hN hK hL g1 g2 g3 ⟨fun q hq => ?_, fun hq => ?_⟩) (fun q hq => ?_)
    · rw [hK, hk] at hq ⊢
      cases hc.symm.trans hq
      exact ⟨_, e1, q2, q3, fun i hi => (t_set q4 hap hj v i hi).trans (congrArg some (hv i).symm)⟩
    · rw [hK, hk] at hq; omega
    · rcases List.mem_append.mp hq with hq | hq
      · exact a3 q hq
      · rw [List.mem_singleton.mp hq]
        show xb x ≤ io x a
        rw [io_ge ha]; omega
  rcases hfin with hfin | ⟨hin1, hin2⟩
  · unfold u_lay at hlay
    rw [if_neg (by rw [hT]; simp [hfin])] at hlay
    have h6 := u_store hfc hkC hkind hlay hi hd hn hfit
    simp only [hT] at hi
    exact W.putK E.1 E.2.1 (f := f) ⟨E.2.2.1, E.2.2.2.1 _ hl, ⟨_, _, _, hi⟩, hu⟩ (by rw [q2]; exact h6) q1 q3 hlt rfl rfl d fin1
  · have h6 := u_fits hfc hkC hkind (u_lays E.2.2.2.1 hin hj) hi hd hn hfit
    by_cases hff : fin = true
    · unfold u_lay at hlay
      rw [if_pos (by rw [hT]; exact hff)] at hlay
      have hcf : m.cls = cf := by
        obtain ⟨_, _, c', _, _, _, -, -, hf', -, -, -, hown2, -⟩ := Cond.laysFinal_spec hlay
        have e1 : c' = cf := by have := hi.symm.trans hf'; simp at this; exact this.1.symm
        rw [hT] at hown2
        simp only [← hin2] at hown2
        rw [← e1]; exact Option.some.inj (E.2.2.1.symm.trans hown2)
      simp only [hT] at hi
      exact W.putFinK E.1 E.2.1 E.2.2.1 (E.2.2.2.1 _ hl) hi hu hcf (E.2.2.2.2.2.2.2.2 hin1) (by rw [q2]; exact h6) q1 q3 hlt rfl rfl d fin1
    · unfold u_lay at hlay
      rw [if_neg (by rw [hT]; exact hff)] at hlay
      have h6 := u_store hfc hkC hkind hlay hi hd hn hfit
      simp only [hT] at hi
      exact W.putK E.1 E.2.1 (f := f) ⟨E.2.2.1, E.2.2.2.1 _ hl, ⟨_, _, _, hi⟩, hu⟩ (by rw [q2]; exact h6) q1 q3 hlt rfl rfl d fin1
theorem r_getI (E : EE p s m args meth c x cc y nL ret) {ci j idx : Nat} {w : Option Nat} {C nm ds : String} {fin : Bool} {K : Int32 → Option (ρ × Mem)} (F : FD ci j C nm ds .int fin) (hl : Cond.fieldLink y.cls idx C nm ds ∈ AL) (d : decode cc pc = .ok (.getfield idx, 3)) (k : ∀ v, RT p l e R s m args below meth c x nL Q cells slots (K v) (pc + 3) li ll lr (.int v :: st) M) : RT p l e R s m args below meth c x nL Q cells slots (bo (gI M w ci j) K) pc li ll lr (rv x w :: st) M :=
  by
  intro v0 M0 h ls H locs a1 a2 a3
  cases w with
  | none => cases h
  | some a =>
    by_cases hk : mK M a = ci
    · simp only [gI, bo, if_pos hk] at h
      exact get_any E F hl d a2 hk (k _ v0 M0 h ls H locs a1 a2 a3)
    · simp only [gI, bo, if_neg hk] at h; cases h
theorem r_getZ (E : EE p s m args meth c x cc y nL ret) {ci j idx : Nat} {w : Option Nat} {C nm ds : String} {fin : Bool} {K : Int32 → Option (ρ × Mem)} (F : FD ci j C nm ds .boolean fin) (hl : Cond.fieldLink y.cls idx C nm ds ∈ AL) (d : decode cc pc = .ok (.getfield idx, 3)) (k : ∀ v, RT p l e R s m args below meth c x nL Q cells slots (K v) (pc + 3) li ll lr (.int v :: st) M) : RT p l e R s m args below meth c x nL Q cells slots (bo (gI M w ci j) K) pc li ll lr (rv x w :: st) M :=
  by
  intro v0 M0 h ls H locs a1 a2 a3
  cases w with
  | none => cases h
  | some a =>
    by_cases hk : mK M a = ci
    · simp only [gI, bo, if_pos hk] at h
      exact get_any E F hl d a2 hk (k _ v0 M0 h ls H locs a1 a2 a3)
    · simp only [gI, bo, if_neg hk] at h; cases h
theorem r_getJ (E : EE p s m args meth c x cc y nL ret) {ci j idx : Nat} {w : Option Nat} {C nm ds : String} {fin : Bool} {K : Int64 → Option (ρ × Mem)} (F : FD ci j C nm ds .long fin) (hl : Cond.fieldLink y.cls idx C nm ds ∈ AL) (d : decode cc pc = .ok (.getfield idx, 3)) (k : ∀ v, RT p l e R s m args below meth c x nL Q cells slots (K v) (pc + 3) li ll lr (.long v :: st) M) : RT p l e R s m args below meth c x nL Q cells slots (bo (gJ M w ci j) K) pc li ll lr (rv x w :: st) M :=
  by
  intro v0 M0 h ls H locs a1 a2 a3
  cases w with
  | none => cases h
  | some a =>
    by_cases hk : mK M a = ci
    · simp only [gJ, bo, if_pos hk] at h
      exact get_any E F hl d a2 hk (k _ v0 M0 h ls H locs a1 a2 a3)
    · simp only [gJ, bo, if_neg hk] at h; cases h
theorem r_getR (E : EE p s m args meth c x cc y nL ret) {ci j idx : Nat} {w : Option Nat} {C nm ds : String} {D : String} {fin : Bool} {K : Option Nat → Option (ρ × Mem)} (F : FD ci j C nm ds (.object D) fin) (hl : Cond.fieldLink y.cls idx C nm ds ∈ AL) (d : decode cc pc = .ok (.getfield idx, 3)) (k : ∀ v, RT p l e R s m args below meth c x nL Q cells slots (K v) (pc + 3) li ll lr (rv x v :: st) M) : RT p l e R s m args below meth c x nL Q cells slots (bo (gR M w ci j) K) pc li ll lr (rv x w :: st) M :=
  by
  intro v0 M0 h ls H locs a1 a2 a3
  cases w with
  | none => cases h
  | some a =>
    by_cases hk : mK M a = ci
    · simp only [gR, bo, if_pos hk] at h
      exact get_any E F hl d a2 hk (k _ v0 M0 h ls H locs a1 a2 a3)
    · simp only [gR, bo, if_neg hk] at h; cases h
theorem r_getA (E : EE p s m args meth c x cc y nL ret) {ci j idx : Nat} {w : Option Nat} {C nm ds : String} {D : FieldType} {fin : Bool} {K : Option Nat → Option (ρ × Mem)} (F : FD ci j C nm ds (.array D) fin) (hl : Cond.fieldLink y.cls idx C nm ds ∈ AL) (d : decode cc pc = .ok (.getfield idx, 3)) (k : ∀ v, RT p l e R s m args below meth c x nL Q cells slots (K v) (pc + 3) li ll lr (rv x v :: st) M) : RT p l e R s m args below meth c x nL Q cells slots (bo (gR M w ci j) K) pc li ll lr (rv x w :: st) M :=
  by
  intro v0 M0 h ls H locs a1 a2 a3
  cases w with
  | none => cases h
  | some a =>
    by_cases hk : mK M a = ci
    · simp only [gR, bo, if_pos hk] at h
      exact get_any E F hl d a2 hk (k _ v0 M0 h ls H locs a1 a2 a3)
    · simp only [gR, bo, if_neg hk] at h; cases h
theorem r_putI (E : EE p s m args meth c x cc y nL ret) {ci j idx : Nat} {w : Option Nat} {C nm ds : String}  {fin : Bool} {u : Int32} {K : Mem → Option (ρ × Mem)} (F : FD ci j C nm ds .int fin) (hl : Cond.fieldLink y.cls idx C nm ds ∈ AL) (d : decode cc pc = .ok (.putfield idx, 3)) (hf : fin = false ∨ (y.name = "<init>" ∧ y.cls = C)) (k : ∀ N, RT p l e R s m args below meth c x nL Q cells slots (K N) (pc + 3) li ll lr st N) : RT p l e R s m args below meth c x nL Q cells slots (bo (pI M w ci j u) K) pc li ll lr (.int u :: rv x w :: st) M :=
  by
  intro v0 M0 h ls H locs a1 a2 a3
  cases w with
  | none => cases h
  | some a =>
    by_cases hk : mK M a = ci
    · simp only [pI, bo, if_pos hk] at h
      refine put_any (N1 := sI M a j u) E F hl d a2 a3 hk hf rfl rfl rfl (fun _ => rfl) (fun _ => rfl) (fun b hb i => by simp [mI_sI, hb]) (fun b hb i => rfl) (fun b hb i => rfl) (fun i => ?_) (fun H1 locs1 b1 b2 => k _ v0 M0 h ls H1 locs1 a1 b1 b2)
      obtain ⟨T, N, hc, hin, hty, hnm, hj, hT, ht⟩ := F
      by_cases hi : i = j
      · subst hi; simp [vl, updV, ht, mI_sI]
      · simp only [updV, if_neg hi]
        cases tyC ci i <;> simp [vl, mI_sI, mJ_sI, mR_sI, hi]
    · simp only [pI, bo, if_neg hk] at h; cases h
theorem r_putZ (E : EE p s m args meth c x cc y nL ret) {ci j idx : Nat} {w : Option Nat} {C nm ds : String}  {fin : Bool} {u : Int32} {K : Mem → Option (ρ × Mem)} (F : FD ci j C nm ds .boolean fin) (hl : Cond.fieldLink y.cls idx C nm ds ∈ AL) (d : decode cc pc = .ok (.putfield idx, 3)) (hf : fin = false ∨ (y.name = "<init>" ∧ y.cls = C)) (k : ∀ N, RT p l e R s m args below meth c x nL Q cells slots (K N) (pc + 3) li ll lr st N) : RT p l e R s m args below meth c x nL Q cells slots (bo (pZ M w ci j u) K) pc li ll lr (.int u :: rv x w :: st) M :=
  by
  intro v0 M0 h ls H locs a1 a2 a3
  cases w with
  | none => cases h
  | some a =>
    by_cases hk : mK M a = ci ∧ (u = 0 ∨ u = 1)
    · simp only [pZ, bo, if_pos hk] at h
      obtain ⟨hk, hz⟩ := hk
      refine put_any (N1 := sI M a j u) E F hl d a2 a3 hk hf (by rcases hz with rfl | rfl <;> decide) (by rcases hz with rfl | rfl <;> decide) rfl (fun _ => rfl) (fun _ => rfl) (fun b hb i => by simp [mI_sI, hb]) (fun b hb i => rfl) (fun b hb i => rfl) (fun i => ?_) (fun H1 locs1 b1 b2 => k _ v0 M0 h ls H1 locs1 a1 b1 b2)
      obtain ⟨T, N, hc, hin, hty, hnm, hj, hT, ht⟩ := F
      by_cases hi : i = j
      · subst hi; simp [vl, updV, ht, mI_sI]
      · simp only [updV, if_neg hi]
        cases tyC ci i <;> simp [vl, mI_sI, mJ_sI, mR_sI, hi]
    · simp only [pZ, bo, if_neg hk] at h; cases h
theorem r_putJ (E : EE p s m args meth c x cc y nL ret) {ci j idx : Nat} {w : Option Nat} {C nm ds : String}  {fin : Bool} {u : Int64} {K : Mem → Option (ρ × Mem)} (F : FD ci j C nm ds .long fin) (hl : Cond.fieldLink y.cls idx C nm ds ∈ AL) (d : decode cc pc = .ok (.putfield idx, 3)) (hf : fin = false ∨ (y.name = "<init>" ∧ y.cls = C)) (k : ∀ N, RT p l e R s m args below meth c x nL Q cells slots (K N) (pc + 3) li ll lr st N) : RT p l e R s m args below meth c x nL Q cells slots (bo (pJ M w ci j u) K) pc li ll lr (.long u :: rv x w :: st) M :=
  by
  intro v0 M0 h ls H locs a1 a2 a3
  cases w with
  | none => cases h
  | some a =>
    by_cases hk : mK M a = ci
    · simp only [pJ, bo, if_pos hk] at h
      refine put_any (N1 := sJ M a j u) E F hl d a2 a3 hk hf rfl rfl rfl (fun _ => rfl) (fun _ => rfl) (fun b hb i => rfl) (fun b hb i => by simp [mJ_sJ, hb]) (fun b hb i => rfl) (fun i => ?_) (fun H1 locs1 b1 b2 => k _ v0 M0 h ls H1 locs1 a1 b1 b2)
      obtain ⟨T, N, hc, hin, hty, hnm, hj, hT, ht⟩ := F
      by_cases hi : i = j
      · subst hi; simp [vl, updV, ht, mJ_sJ]
      · simp only [updV, if_neg hi]
        cases tyC ci i <;> simp [vl, mI_sJ, mJ_sJ, mR_sJ, hi]
    · simp only [pJ, bo, if_neg hk] at h; cases h
theorem r_putR (E : EE p s m args meth c x cc y nL ret) {ci j idx : Nat} {w : Option Nat} {C nm ds : String} {D : String} {fin : Bool} {u : Option Nat} {K : Mem → Option (ρ × Mem)} (F : FD ci j C nm ds (.object D) fin) (hl : Cond.fieldLink y.cls idx C nm ds ∈ AL) (d : decode cc pc = .ok (.putfield idx, 3)) (hf : fin = false ∨ (y.name = "<init>" ∧ y.cls = C)) (k : ∀ N, RT p l e R s m args below meth c x nL Q cells slots (K N) (pc + 3) li ll lr st N) : RT p l e R s m args below meth c x nL Q cells slots (bo (pR M w ci j u) K) pc li ll lr (rv x u :: rv x w :: st) M :=
  by
  intro v0 M0 h ls H locs a1 a2 a3
  cases w with
  | none => cases h
  | some a =>
    by_cases hk : mK M a = ci
    · simp only [pR, bo, if_pos hk] at h
      refine put_any (N1 := sR M a j u) E F hl d a2 a3 hk hf (by cases u <;> rfl) (by cases u <;> rfl) rfl (fun _ => rfl) (fun _ => rfl) (fun b hb i => rfl) (fun b hb i => rfl) (fun b hb i => by simp [mR_sR, hb]) (fun i => ?_) (fun H1 locs1 b1 b2 => k _ v0 M0 h ls H1 locs1 a1 b1 b2)
      obtain ⟨T, N, hc, hin, hty, hnm, hj, hT, ht⟩ := F
      by_cases hi : i = j
      · subst hi; simp [vl, updV, ht, mR_sR]
      · simp only [updV, if_neg hi]
        cases tyC ci i <;> simp [vl, mI_sR, mJ_sR, mR_sR, hi]
    · simp only [pR, bo, if_neg hk] at h; cases h
theorem r_putA (E : EE p s m args meth c x cc y nL ret) {ci j idx : Nat} {w : Option Nat} {C nm ds : String} {D : FieldType} {fin : Bool} {u : Option Nat} {K : Mem → Option (ρ × Mem)} (F : FD ci j C nm ds (.array D) fin) (hl : Cond.fieldLink y.cls idx C nm ds ∈ AL) (d : decode cc pc = .ok (.putfield idx, 3)) (hf : fin = false ∨ (y.name = "<init>" ∧ y.cls = C)) (k : ∀ N, RT p l e R s m args below meth c x nL Q cells slots (K N) (pc + 3) li ll lr st N) : RT p l e R s m args below meth c x nL Q cells slots (bo (pR M w ci j u) K) pc li ll lr (rv x u :: rv x w :: st) M :=
  by
  intro v0 M0 h ls H locs a1 a2 a3
  cases w with
  | none => cases h
  | some a =>
    by_cases hk : mK M a = ci
    · simp only [pR, bo, if_pos hk] at h
      refine put_any (N1 := sR M a j u) E F hl d a2 a3 hk hf (by cases u <;> rfl) (by cases u <;> rfl) rfl (fun _ => rfl) (fun _ => rfl) (fun b hb i => rfl) (fun b hb i => rfl) (fun b hb i => by simp [mR_sR, hb]) (fun i => ?_) (fun H1 locs1 b1 b2 => k _ v0 M0 h ls H1 locs1 a1 b1 b2)
      obtain ⟨T, N, hc, hin, hty, hnm, hj, hT, ht⟩ := F
      by_cases hi : i = j
      · subst hi; simp [vl, updV, ht, mR_sR]
      · simp only [updV, if_neg hi]
        cases tyC ci i <;> simp [vl, mI_sR, mJ_sR, mR_sR, hi]
    · simp only [pR, bo, if_neg hk] at h; cases h
end RTM
