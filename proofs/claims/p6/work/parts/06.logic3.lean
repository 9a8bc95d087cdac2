section RTA
variable {ρ : Type} {p : Program} {l : Launch} {e : Env} {R : Room} {s : State} {m : MethodId} {args : Array Value} {below : List Frame} {meth : Method} {c : Code} {x : Cx} {cc : ByteArray} {y : MethodName} {ret : Option FieldType} {nL cells slots pc : Nat} {Q : ρ → Mem → State → Prop} {r : Option (ρ × Mem)} {li : List (Nat × Int32)} {ll : List (Nat × Int64)} {lr : List (Nat × Option Nat)} {st : List Value} {M : Mem}
theorem arr_ex {H : Heap} (h : Hp x M H) {a k : Nat} (hk : mK M a = k) (h1 : 14 ≤ k) (h2 : k < 21) : 11 ≤ a ∧ a < mN M ∧ H[io x a]? = some (arrV (x.2.2.1 k) (mL M a) (vl x M (ety k) a)) := by
  obtain ⟨ha, hb, -, o2⟩ := h.at (a := a) (by omega)
  rw [hk] at o2
  exact ⟨ha, hb, o2 h1⟩
theorem arr_view {H : Heap} (hK : Kn x s) (h : Hp x M H) {a : Nat} (hk : mK M a = 15 ∨ mK M a = 21) : ∃ cell : Cell, H[io x a]? = some cell ∧ s.isArrayOf cell .int ∧ cell.vm ≠ .unknown ∧ mL M a ≤ cell.slots.size ∧ cell.slots.size.toInt32 = Int32.ofNat (mL M a) ∧ ∀ j, j < mL M a → cell.slots[j]? = some (.int (mI M a j)) := by
  rcases hk with hk | hk
  · obtain ⟨-, -, e1⟩ := arr_ex h hk (by omega) (by omega)
    exact ⟨_, e1, (hK.2.1 15 (by omega) (by omega)).1 _ _, (fun q => by cases q), by rw [arrV_size]; exact Nat.le_refl _, by rw [arrV_size], fun j hj => by rw [arrV_read _ _ hj]; rfl⟩
  · have ha : a < 11 := by
      refine Nat.not_le.mp fun q => ?_
      by_cases hb : a < mN M
      · have := (h.2.2.2.2.2 a q hb).1; omega
      · have := h.2.2.2.1 a (by omega); omega
    have hne : a ≠ 10 := by
      intro q
      have h9 := (h.2.2.2.2.1 a ha).1
      rw [if_pos q] at h9
      omega
    obtain ⟨e2, e3⟩ := (h.2.2.2.2.1 a ha).2 (by omega)
    obtain ⟨cell, t1, t2, t3, t4, t5, t6, t7⟩ := hK.2.2.1 a ha
    have hio : io x a = xst x a := if_pos ha
    refine ⟨cell, ?_, t2, t3, by rw [e2]; exact t4, by rw [e2]; exact t5, fun j hj => by rw [t6 j (by rw [← e2]; exact hj), e3 j]⟩
    rw [hio, h.2.2.1 _ (Nat.not_le.mp t7)]
    exact t1
theorem arr_put {H H1 : Heap} {N1 : Mem} {a k j : Nat} {v : Value} (h : Hp x M H) (hk : mK M a = k) (h1 : 14 ≤ k) (h2 : k < 21) (e0 : H1[io x a]? = some ((arrV (x.2.2.1 k) (mL M a) (vl x M (ety k) a)).setSlot j v)) (e1 : H1.size = H.size) (e2 : ∀ q : Nat, q ≠ io x a → H1[q]? = H[q]?)
    (hN : mN N1 = mN M) (hK : ∀ b, mK N1 b = mK M b) (hL : ∀ b, mL N1 b = mL M b) (g1 : ∀ b, b ≠ a → ∀ j, mI N1 b j = mI M b j) (g2 : ∀ b, b ≠ a → ∀ j, mJ N1 b j = mJ M b j) (g3 : ∀ b, b ≠ a → ∀ j, mR N1 b j = mR M b j)
    (hv : ∀ i, vl x N1 (ety k) a i = updV (vl x M (ety k) a) j v i) : Hp x N1 H1 := by
  obtain ⟨ha, hb, -⟩ := arr_ex h hk h1 h2
  refine h.put ha hb e1 e2 hN hK hL g1 g2 g3 ⟨fun q hq => ?_, fun _ => ?_⟩
  · rw [hK, hk] at hq
    have := vwCl_lt hq
    omega
  · rw [e0, arrV_store, hK, hk, hL]
    congr 2
    funext i
    exact (hv i).symm
theorem locs_put {locs : List Loc} {a j : Nat} (a3 : ∀ q ∈ locs, xb x ≤ q.base) (ha : 11 ≤ a) : ∀ q ∈ locs ++ [⟨io x a, j⟩], xb x ≤ q.base := by
  intro q hq
  rcases List.mem_append.mp hq with hq | hq
  · exact a3 q hq
  · rw [List.mem_singleton.mp hq]
    show xb x ≤ io x a
    rw [io_ge ha]; omega
theorem r_baload (E : EE p s m args meth c x cc y nL ret) {w : Option Nat} {i : Int32} {K : Int32 → Option (ρ × Mem)} (d : decode cc pc = .ok (.baload, 1)) (k : ∀ v, RT p l e R s m args below meth c x nL Q cells slots (K v) (pc + 1) li ll lr (.int v :: st) M) : RT p l e R s m args below meth c x nL Q cells slots (bo (aI M w 14 i) K) pc li ll lr (.int i :: rv x w :: st) M :=
  by
  intro v0 M0 h ls H locs a1 a2 a3
  cases w with
  | none => cases h
  | some a =>
    by_cases hk : mK M a = 14 ∧ ¬ (i < 0 ∨ mL M a ≤ i.toNatClampNeg)
    · obtain ⟨hk, hi⟩ := hk
      have h2 : K (mI M a i.toNatClampNeg) = some (v0, M0) := by
        simp only [aI, bo] at h
        rw [if_pos ⟨Or.inl hk, hi⟩] at h
        exact h
      obtain ⟨ha, hb, e1⟩ := arr_ex a2 hk (by omega) (by omega)
      have hlt : i.toNatClampNeg < mL M a := Nat.not_le.mp fun q => hi (Or.inr q)
      exact W.bald (v := .int (mI M a i.toNatClampNeg)) E.1 E.2.1 e1 ((E.2.2.2.2.2.1.2.1 14 (by omega) (by omega)).1 _ _) (fun q => by cases q) (by rw [arrV_size]; exact hi) (by rw [arrV_read _ _ hlt]; rfl) rfl rfl d (k _ v0 M0 h2 ls H locs a1 a2 a3)
    · simp only [aI, bo] at h
      rw [if_neg (fun q => hk ⟨q.1.elim id (fun z => absurd z.1 (by decide)), q.2⟩)] at h
      cases h
theorem r_zaload (E : EE p s m args meth c x cc y nL ret) {w : Option Nat} {i : Int32} {K : Int32 → Option (ρ × Mem)} (d : decode cc pc = .ok (.baload, 1)) (k : ∀ v, RT p l e R s m args below meth c x nL Q cells slots (K v) (pc + 1) li ll lr (.int v :: st) M) : RT p l e R s m args below meth c x nL Q cells slots (bo (aI M w 18 i) K) pc li ll lr (.int i :: rv x w :: st) M :=
  by
  intro v0 M0 h ls H locs a1 a2 a3
  cases w with
  | none => cases h
  | some a =>
    by_cases hk : mK M a = 18 ∧ ¬ (i < 0 ∨ mL M a ≤ i.toNatClampNeg)
    · obtain ⟨hk, hi⟩ := hk
      have h2 : K (mI M a i.toNatClampNeg) = some (v0, M0) := by
        simp only [aI, bo] at h
        rw [if_pos ⟨Or.inl hk, hi⟩] at h
        exact h
      obtain ⟨ha, hb, e1⟩ := arr_ex a2 hk (by omega) (by omega)
      have hlt : i.toNatClampNeg < mL M a := Nat.not_le.mp fun q => hi (Or.inr q)
      exact W.zald (v := .int (mI M a i.toNatClampNeg)) E.1 E.2.1 e1 ((E.2.2.2.2.2.1.2.1 18 (by omega) (by omega)).1 _ _) (fun q => by cases q) (by rw [arrV_size]; exact hi) (by rw [arrV_read _ _ hlt]; rfl) rfl rfl d (k _ v0 M0 h2 ls H locs a1 a2 a3)
    · simp only [aI, bo] at h
      rw [if_neg (fun q => hk ⟨q.1.elim id (fun z => absurd z.1 (by decide)), q.2⟩)] at h
      cases h
theorem r_saload (E : EE p s m args meth c x cc y nL ret) {w : Option Nat} {i : Int32} {K : Int32 → Option (ρ × Mem)} (d : decode cc pc = .ok (.saload, 1)) (k : ∀ v, RT p l e R s m args below meth c x nL Q cells slots (K v) (pc + 1) li ll lr (.int v :: st) M) : RT p l e R s m args below meth c x nL Q cells slots (bo (aI M w 17 i) K) pc li ll lr (.int i :: rv x w :: st) M :=
  by
  intro v0 M0 h ls H locs a1 a2 a3
  cases w with
  | none => cases h
  | some a =>
    by_cases hk : mK M a = 17 ∧ ¬ (i < 0 ∨ mL M a ≤ i.toNatClampNeg)
    · obtain ⟨hk, hi⟩ := hk
      have h2 : K (mI M a i.toNatClampNeg) = some (v0, M0) := by
        simp only [aI, bo] at h
        rw [if_pos ⟨Or.inl hk, hi⟩] at h
        exact h
      obtain ⟨ha, hb, e1⟩ := arr_ex a2 hk (by omega) (by omega)
      have hlt : i.toNatClampNeg < mL M a := Nat.not_le.mp fun q => hi (Or.inr q)
      exact W.sald (v := .int (mI M a i.toNatClampNeg)) E.1 E.2.1 e1 ((E.2.2.2.2.2.1.2.1 17 (by omega) (by omega)).1 _ _) (fun q => by cases q) (by rw [arrV_size]; exact hi) (by rw [arrV_read _ _ hlt]; rfl) rfl rfl d (k _ v0 M0 h2 ls H locs a1 a2 a3)
    · simp only [aI, bo] at h
      rw [if_neg (fun q => hk ⟨q.1.elim id (fun z => absurd z.1 (by decide)), q.2⟩)] at h
      cases h
theorem r_laload (E : EE p s m args meth c x cc y nL ret) {w : Option Nat} {i : Int32} {K : Int64 → Option (ρ × Mem)} (d : decode cc pc = .ok (.laload, 1)) (k : ∀ v, RT p l e R s m args below meth c x nL Q cells slots (K v) (pc + 1) li ll lr (.long v :: st) M) : RT p l e R s m args below meth c x nL Q cells slots (bo (aJ M w i) K) pc li ll lr (.int i :: rv x w :: st) M :=
  by
  intro v0 M0 h ls H locs a1 a2 a3
  cases w with
  | none => cases h
  | some a =>
    by_cases hk : mK M a = 16 ∧ ¬ (i < 0 ∨ mL M a ≤ i.toNatClampNeg)
    · obtain ⟨hk, hi⟩ := hk
      have h2 : K (mJ M a i.toNatClampNeg) = some (v0, M0) := by
        simp only [aJ, bo] at h
        rw [if_pos ⟨hk, hi⟩] at h
        exact h
      obtain ⟨ha, hb, e1⟩ := arr_ex a2 hk (by omega) (by omega)
      have hlt : i.toNatClampNeg < mL M a := Nat.not_le.mp fun q => hi (Or.inr q)
      exact W.lald (v := .long (mJ M a i.toNatClampNeg)) E.1 E.2.1 e1 ((E.2.2.2.2.2.1.2.1 16 (by omega) (by omega)).1 _ _) (fun q => by cases q) (by rw [arrV_size]; exact hi) (by rw [arrV_read _ _ hlt]; rfl) rfl rfl d (k _ v0 M0 h2 ls H locs a1 a2 a3)
    · simp only [aJ, bo] at h
      rw [if_neg hk] at h
      cases h
theorem r_aaload19 (E : EE p s m args meth c x cc y nL ret) {w : Option Nat} {i : Int32} {K : Option Nat → Option (ρ × Mem)} (d : decode cc pc = .ok (.aaload, 1)) (k : ∀ v, RT p l e R s m args below meth c x nL Q cells slots (K v) (pc + 1) li ll lr (rv x v :: st) M) : RT p l e R s m args below meth c x nL Q cells slots (bo (aR M w 19 i) K) pc li ll lr (.int i :: rv x w :: st) M :=
  by
  intro v0 M0 h ls H locs a1 a2 a3
  cases w with
  | none => cases h
  | some a =>
    by_cases hk : mK M a = 19 ∧ ¬ (i < 0 ∨ mL M a ≤ i.toNatClampNeg)
    · obtain ⟨hk, hi⟩ := hk
      have h2 : K (mR M a i.toNatClampNeg) = some (v0, M0) := by
        simp only [aR, bo] at h
        rw [if_pos ⟨hk, hi⟩] at h
        exact h
      obtain ⟨ha, hb, e1⟩ := arr_ex a2 hk (by omega) (by omega)
      have hlt : i.toNatClampNeg < mL M a := Nat.not_le.mp fun q => hi (Or.inr q)
      exact W.aald (v := rv x (mR M a i.toNatClampNeg)) E.1 E.2.1 e1 ((E.2.2.2.2.2.1.2.1 19 (by omega) (by omega)).1 _ _) rfl (fun q => by cases q) (by rw [arrV_size]; exact hi) (by rw [arrV_read _ _ hlt]; rfl) rfl rfl d (k _ v0 M0 h2 ls H locs a1 a2 a3)
    · simp only [aR, bo] at h
      rw [if_neg hk] at h
      cases h
theorem r_aaload20 (E : EE p s m args meth c x cc y nL ret) {w : Option Nat} {i : Int32} {K : Option Nat → Option (ρ × Mem)} (d : decode cc pc = .ok (.aaload, 1)) (k : ∀ v, RT p l e R s m args below meth c x nL Q cells slots (K v) (pc + 1) li ll lr (rv x v :: st) M) : RT p l e R s m args below meth c x nL Q cells slots (bo (aR M w 20 i) K) pc li ll lr (.int i :: rv x w :: st) M :=
  by
  intro v0 M0 h ls H locs a1 a2 a3
  cases w with
  | none => cases h
  | some a =>
    by_cases hk : mK M a = 20 ∧ ¬ (i < 0 ∨ mL M a ≤ i.toNatClampNeg)
    · obtain ⟨hk, hi⟩ := hk
      have h2 : K (mR M a i.toNatClampNeg) = some (v0, M0) := by
        simp only [aR, bo] at h
        rw [if_pos ⟨hk, hi⟩] at h
        exact h
      obtain ⟨ha, hb, e1⟩ := arr_ex a2 hk (by omega) (by omega)
      have hlt : i.toNatClampNeg < mL M a := Nat.not_le.mp fun q => hi (Or.inr q)
      exact W.aald (v := rv x (mR M a i.toNatClampNeg)) E.1 E.2.1 e1 ((E.2.2.2.2.2.1.2.1 20 (by omega) (by omega)).1 _ _) rfl (fun q => by cases q) (by rw [arrV_size]; exact hi) (by rw [arrV_read _ _ hlt]; rfl) rfl rfl d (k _ v0 M0 h2 ls H locs a1 a2 a3)
    · simp only [aR, bo] at h
      rw [if_neg hk] at h
      cases h
theorem r_iaload (E : EE p s m args meth c x cc y nL ret) {w : Option Nat} {i : Int32} {K : Int32 → Option (ρ × Mem)} (d : decode cc pc = .ok (.iaload, 1)) (k : ∀ v, RT p l e R s m args below meth c x nL Q cells slots (K v) (pc + 1) li ll lr (.int v :: st) M) : RT p l e R s m args below meth c x nL Q cells slots (bo (aI M w 15 i) K) pc li ll lr (.int i :: rv x w :: st) M :=
  by
  intro v0 M0 h ls H locs a1 a2 a3
  cases w with
  | none => cases h
  | some a =>
    by_cases hk : (mK M a = 15 ∨ mK M a = 21) ∧ ¬ (i < 0 ∨ mL M a ≤ i.toNatClampNeg)
    · obtain ⟨hk, hi⟩ := hk
      have h' : K (mI M a i.toNatClampNeg) = some (v0, M0) := by
        dsimp only [aI, bo] at h
        rw [if_pos ⟨hk.elim Or.inl (fun q => Or.inr ⟨rfl, q⟩), hi⟩] at h
        exact h
      obtain ⟨cell, t1, t2, t3, t4, t5, t6⟩ := arr_view E.2.2.2.2.2.1 a2 hk
      have hlt : i.toNatClampNeg < mL M a := Nat.not_le.mp fun q => hi (Or.inr q)
      exact W.iald E.1 E.2.1 t1 t2 t3 (fun q => q.elim (fun q => hi (Or.inl q)) (fun q => hi (Or.inr (Nat.le_trans t4 q)))) (t6 _ hlt) rfl rfl d (k _ v0 M0 h' ls H locs a1 a2 a3)
    · dsimp only [aI, bo] at h
      rw [if_neg (fun q => hk ⟨q.1.elim Or.inl (fun q => Or.inr q.2), q.2⟩)] at h
      cases h
theorem r_iastore (E : EE p s m args meth c x cc y nL ret) {w : Option Nat} {i : Int32} {u : Int32} {K : Mem → Option (ρ × Mem)} (d : decode cc pc = .ok (.iastore, 1)) (k : ∀ N, RT p l e R s m args below meth c x nL Q cells slots (K N) (pc + 1) li ll lr st N) : RT p l e R s m args below meth c x nL Q cells slots (bo (wI M w i u) K) pc li ll lr (.int u :: .int i :: rv x w :: st) M :=
  by
  intro v0 M0 h ls H locs a1 a2 a3
  cases w with
  | none => cases h
  | some a =>
    by_cases hk : mK M a = 15 ∧ ¬ (i < 0 ∨ mL M a ≤ i.toNatClampNeg)
    · have h2 : K (sI M a i.toNatClampNeg u) = some (v0, M0) := by
        simp only [wI, bo] at h
        rw [if_pos hk] at h
        exact h
      obtain ⟨hk, hi⟩ := hk
      obtain ⟨ha, hb, e1⟩ := arr_ex a2 hk (by omega) (by omega)
      refine W.iast E.1 E.2.1 e1 ((E.2.2.2.2.2.1.2.1 15 (by omega) (by omega)).1 _ _) (fun q => by cases q) (by rw [arrV_size]; exact hi) rfl rfl d (fun H1 q1 q2 q3 => k _ v0 M0 h2 ls H1 _ a1 (arr_put a2 hk (by omega) (by omega) q1 q2 q3 rfl (fun _ => rfl) (fun _ => rfl) (fun b hb i => by simp [mI_sI, hb]) (fun b hb i => rfl) (fun b hb i => rfl) (fun j => ?_)) (locs_put a3 ha))
      by_cases hj : j = i.toNatClampNeg
      · subst hj; simp [vl, ety, updV, narrow, mI_sI]
      · simp [vl, ety, updV, hj, mI_sI]
    · simp only [wI, bo] at h
      rw [if_neg hk] at h
      cases h
theorem r_bastore (E : EE p s m args meth c x cc y nL ret) {w : Option Nat} {i : Int32} {u : Int32} {K : Mem → Option (ρ × Mem)} (d : decode cc pc = .ok (.bastore, 1)) (k : ∀ N, RT p l e R s m args below meth c x nL Q cells slots (K N) (pc + 1) li ll lr st N) : RT p l e R s m args below meth c x nL Q cells slots (bo (wB M w i u) K) pc li ll lr (.int u :: .int i :: rv x w :: st) M :=
  by
  intro v0 M0 h ls H locs a1 a2 a3
  cases w with
  | none => cases h
  | some a =>
    by_cases hk : mK M a = 14 ∧ ¬ (i < 0 ∨ mL M a ≤ i.toNatClampNeg)
    · have h2 : K (sI M a i.toNatClampNeg u.toInt8.toInt32) = some (v0, M0) := by
        simp only [wB, bo] at h
        rw [if_pos hk] at h
        exact h
      obtain ⟨hk, hi⟩ := hk
      obtain ⟨ha, hb, e1⟩ := arr_ex a2 hk (by omega) (by omega)
      refine W.bast E.1 E.2.1 e1 ((E.2.2.2.2.2.1.2.1 14 (by omega) (by omega)).1 _ _) (fun q => by cases q) (by rw [arrV_size]; exact hi) rfl rfl d (fun H1 q1 q2 q3 => k _ v0 M0 h2 ls H1 _ a1 (arr_put a2 hk (by omega) (by omega) q1 q2 q3 rfl (fun _ => rfl) (fun _ => rfl) (fun b hb i => by simp [mI_sI, hb]) (fun b hb i => rfl) (fun b hb i => rfl) (fun j => ?_)) (locs_put a3 ha))
      by_cases hj : j = i.toNatClampNeg
      · subst hj; simp [vl, ety, updV, narrow, mI_sI]
      · simp [vl, ety, updV, hj, mI_sI]
    · simp only [wB, bo] at h
      rw [if_neg hk] at h
      cases h
theorem r_sastore (E : EE p s m args meth c x cc y nL ret) {w : Option Nat} {i : Int32} {u : Int32} {K : Mem → Option (ρ × Mem)} (d : decode cc pc = .ok (.sastore, 1)) (k : ∀ N, RT p l e R s m args below meth c x nL Q cells slots (K N) (pc + 1) li ll lr st N) : RT p l e R s m args below meth c x nL Q cells slots (bo (wS M w i u) K) pc li ll lr (.int u :: .int i :: rv x w :: st) M :=
  by
  intro v0 M0 h ls H locs a1 a2 a3
  cases w with
  | none => cases h
  | some a =>
    by_cases hk : mK M a = 17 ∧ ¬ (i < 0 ∨ mL M a ≤ i.toNatClampNeg)
    · have h2 : K (sI M a i.toNatClampNeg u.toInt16.toInt32) = some (v0, M0) := by
        simp only [wS, bo] at h
        rw [if_pos hk] at h
        exact h
      obtain ⟨hk, hi⟩ := hk
      obtain ⟨ha, hb, e1⟩ := arr_ex a2 hk (by omega) (by omega)
      refine W.sast E.1 E.2.1 e1 ((E.2.2.2.2.2.1.2.1 17 (by omega) (by omega)).1 _ _) (fun q => by cases q) (by rw [arrV_size]; exact hi) rfl rfl d (fun H1 q1 q2 q3 => k _ v0 M0 h2 ls H1 _ a1 (arr_put a2 hk (by omega) (by omega) q1 q2 q3 rfl (fun _ => rfl) (fun _ => rfl) (fun b hb i => by simp [mI_sI, hb]) (fun b hb i => rfl) (fun b hb i => rfl) (fun j => ?_)) (locs_put a3 ha))
      by_cases hj : j = i.toNatClampNeg
      · subst hj; simp [vl, ety, updV, narrow, mI_sI]
      · simp [vl, ety, updV, hj, mI_sI]
    · simp only [wS, bo] at h
      rw [if_neg hk] at h
      cases h
theorem r_zastore (E : EE p s m args meth c x cc y nL ret) {w : Option Nat} {i : Int32} {u : Int32} {K : Mem → Option (ρ × Mem)} (d : decode cc pc = .ok (.bastore, 1)) (k : ∀ N, RT p l e R s m args below meth c x nL Q cells slots (K N) (pc + 1) li ll lr st N) : RT p l e R s m args below meth c x nL Q cells slots (bo (wZ M w i u) K) pc li ll lr (.int u :: .int i :: rv x w :: st) M :=
  by
  intro v0 M0 h ls H locs a1 a2 a3
  cases w with
  | none => cases h
  | some a =>
    by_cases hk : mK M a = 18 ∧ ¬ (i < 0 ∨ mL M a ≤ i.toNatClampNeg)
    · have h2 : K (sI M a i.toNatClampNeg (u &&& 1)) = some (v0, M0) := by
        simp only [wZ, bo] at h
        rw [if_pos hk] at h
        exact h
      obtain ⟨hk, hi⟩ := hk
      obtain ⟨ha, hb, e1⟩ := arr_ex a2 hk (by omega) (by omega)
      refine W.zast E.1 E.2.1 e1 ((E.2.2.2.2.2.1.2.1 18 (by omega) (by omega)).1 _ _) (fun q => by cases q) (by rw [arrV_size]; exact hi) rfl rfl d (fun H1 q1 q2 q3 => k _ v0 M0 h2 ls H1 _ a1 (arr_put a2 hk (by omega) (by omega) q1 q2 q3 rfl (fun _ => rfl) (fun _ => rfl) (fun b hb i => by simp [mI_sI, hb]) (fun b hb i => rfl) (fun b hb i => rfl) (fun j => ?_)) (locs_put a3 ha))
      by_cases hj : j = i.toNatClampNeg
      · subst hj; simp [vl, ety, updV, narrow, mI_sI]
      · simp [vl, ety, updV, hj, mI_sI]
    · simp only [wZ, bo] at h
      rw [if_neg hk] at h
      cases h
theorem r_lastore (E : EE p s m args meth c x cc y nL ret) {w : Option Nat} {i : Int32} {u : Int64} {K : Mem → Option (ρ × Mem)} (d : decode cc pc = .ok (.lastore, 1)) (k : ∀ N, RT p l e R s m args below meth c x nL Q cells slots (K N) (pc + 1) li ll lr st N) : RT p l e R s m args below meth c x nL Q cells slots (bo (wJ M w i u) K) pc li ll lr (.long u :: .int i :: rv x w :: st) M :=
  by
  intro v0 M0 h ls H locs a1 a2 a3
  cases w with
  | none => cases h
  | some a =>
    by_cases hk : mK M a = 16 ∧ ¬ (i < 0 ∨ mL M a ≤ i.toNatClampNeg)
    · have h2 : K (sJ M a i.toNatClampNeg u) = some (v0, M0) := by
        simp only [wJ, bo] at h
        rw [if_pos hk] at h
        exact h
      obtain ⟨hk, hi⟩ := hk
      obtain ⟨ha, hb, e1⟩ := arr_ex a2 hk (by omega) (by omega)
      refine W.last E.1 E.2.1 e1 ((E.2.2.2.2.2.1.2.1 16 (by omega) (by omega)).1 _ _) (fun q => by cases q) (by rw [arrV_size]; exact hi) rfl rfl d (fun H1 q1 q2 q3 => k _ v0 M0 h2 ls H1 _ a1 (arr_put a2 hk (by omega) (by omega) q1 q2 q3 rfl (fun _ => rfl) (fun _ => rfl) (fun b hb i => rfl) (fun b hb i => by simp [mJ_sJ, hb]) (fun b hb i => rfl) (fun j => ?_)) (locs_put a3 ha))
      by_cases hj : j = i.toNatClampNeg
      · subst hj; simp [vl, ety, updV, narrow, mJ_sJ]
      · simp [vl, ety, updV, hj, mJ_sJ]
    · simp only [wJ, bo] at h
      rw [if_neg hk] at h
      cases h
theorem r_aastore19 (E : EE p s m args meth c x cc y nL ret) {w u : Option Nat} {i : Int32} {K : Mem → Option (ρ × Mem)} (d : decode cc pc = .ok (.aastore, 1)) (k : ∀ N, RT p l e R s m args below meth c x nL Q cells slots (K N) (pc + 1) li ll lr st N) : RT p l e R s m args below meth c x nL Q cells slots (bo (wR M w 19 2 i u) K) pc li ll lr (rv x u :: .int i :: rv x w :: st) M :=
  by
  intro v0 M0 h ls H locs a1 a2 a3
  cases w with
  | none => cases h
  | some a =>
    cases u with
    | none => cases h
    | some b =>
      by_cases hk : mK M a = 19 ∧ mK M b = 2 ∧ ¬ (i < 0 ∨ mL M a ≤ i.toNatClampNeg)
      · have h2 : K (sR M a i.toNatClampNeg (some b)) = some (v0, M0) := by
          simp only [wR, bo] at h
          rw [if_pos hk] at h
          exact h
        obtain ⟨hk, hkb, hi⟩ := hk
        obtain ⟨ha, hb, e1⟩ := arr_ex a2 hk (by omega) (by omega)
        have hc : vwCl[2]? = some (RX2, TX2, _) := rfl
        obtain ⟨-, -, o1, -⟩ := a2.at (a := b) (by omega)
        rw [hkb] at o1
        obtain ⟨cellV, g1, g2, g3, -⟩ := o1 _ hc
        have hcls := (E.2.2.2.2.2.1.1 2 _ hc).2
        obtain ⟨kA, comp, k1, k2, k3, -⟩ := (E.2.2.2.2.2.1.2.1 19 (by omega) (by omega)).2
        have hcomp : comp = x.1 2 := Option.some.inj (k3.symm.trans hcls.1)
        subst hcomp
        obtain ⟨kC, hkC, -⟩ := hcls.2
        refine W.aast E.1 E.2.1 e1 (fun q h => by cases h) (fun h => by cases h) k1 k2 rfl hkC ⟨fun q => hi (Or.inl q), by rw [arrV_size]; exact Nat.not_le.mp fun q => hi (Or.inr q)⟩ g1 (fun q h => by rw [g3] at h; cases h) (by rw [g2]; exact hkC) (by rw [g2]; exact va_assign hcls) rfl rfl d (fun H1 q1 q2 q3 => k _ v0 M0 h2 ls H1 _ a1 (arr_put a2 hk (by omega) (by omega) q1 q2 q3 rfl (fun _ => rfl) (fun _ => rfl) (fun b hb i => rfl) (fun b hb i => rfl) (fun b hb i => by simp [mR_sR, hb]) (fun j => ?_)) (locs_put a3 ha))
        by_cases hj : j = i.toNatClampNeg
        · subst hj; simp [vl, ety, updV, mR_sR, rv]
        · simp [vl, ety, updV, hj, mR_sR]
      · simp only [wR, bo] at h
        rw [if_neg hk] at h
        cases h
theorem r_aastore20 (E : EE p s m args meth c x cc y nL ret) {w u : Option Nat} {i : Int32} {K : Mem → Option (ρ × Mem)} (d : decode cc pc = .ok (.aastore, 1)) (k : ∀ N, RT p l e R s m args below meth c x nL Q cells slots (K N) (pc + 1) li ll lr st N) : RT p l e R s m args below meth c x nL Q cells slots (bo (wR M w 20 10 i u) K) pc li ll lr (rv x u :: .int i :: rv x w :: st) M :=
  by
  intro v0 M0 h ls H locs a1 a2 a3
  cases w with
  | none => cases h
  | some a =>
    cases u with
    | none => cases h
    | some b =>
      by_cases hk : mK M a = 20 ∧ mK M b = 10 ∧ ¬ (i < 0 ∨ mL M a ≤ i.toNatClampNeg)
      · have h2 : K (sR M a i.toNatClampNeg (some b)) = some (v0, M0) := by
          simp only [wR, bo] at h
          rw [if_pos hk] at h
          exact h
        obtain ⟨hk, hkb, hi⟩ := hk
        obtain ⟨ha, hb, e1⟩ := arr_ex a2 hk (by omega) (by omega)
        have hc : vwCl[10]? = some (RX10, TX10, _) := rfl
        obtain ⟨-, -, o1, -⟩ := a2.at (a := b) (by omega)
        rw [hkb] at o1
        obtain ⟨cellV, g1, g2, g3, -⟩ := o1 _ hc
        have hcls := (E.2.2.2.2.2.1.1 10 _ hc).2
        obtain ⟨kA, comp, k1, k2, k3, -⟩ := (E.2.2.2.2.2.1.2.1 20 (by omega) (by omega)).2
        have hcomp : comp = x.1 10 := Option.some.inj (k3.symm.trans hcls.1)
        subst hcomp
        obtain ⟨kC, hkC, -⟩ := hcls.2
        refine W.aast E.1 E.2.1 e1 (fun q h => by cases h) (fun h => by cases h) k1 k2 rfl hkC ⟨fun q => hi (Or.inl q), by rw [arrV_size]; exact Nat.not_le.mp fun q => hi (Or.inr q)⟩ g1 (fun q h => by rw [g3] at h; cases h) (by rw [g2]; exact hkC) (by rw [g2]; exact va_assign hcls) rfl rfl d (fun H1 q1 q2 q3 => k _ v0 M0 h2 ls H1 _ a1 (arr_put a2 hk (by omega) (by omega) q1 q2 q3 rfl (fun _ => rfl) (fun _ => rfl) (fun b hb i => rfl) (fun b hb i => rfl) (fun b hb i => by simp [mR_sR, hb]) (fun j => ?_)) (locs_put a3 ha))
        by_cases hj : j = i.toNatClampNeg
        · subst hj; simp [vl, ety, updV, mR_sR, rv]
        · simp [vl, ety, updV, hj, mR_sR]
      · simp only [wR, bo] at h
        rw [if_neg hk] at h
        cases h
theorem r_alen (E : EE p s m args meth c x cc y nL ret) {w : Option Nat} {K : Int32 → Option (ρ × Mem)} (d : decode cc pc = .ok (.arraylength, 1)) (k : ∀ v, RT p l e R s m args below meth c x nL Q cells slots (K v) (pc + 1) li ll lr (.int v :: st) M) : RT p l e R s m args below meth c x nL Q cells slots (bo (aL M w) K) pc li ll lr (rv x w :: st) M :=
  by
  intro v0 M0 h ls H locs a1 a2 a3
  cases w with
  | none => cases h
  | some a =>
    by_cases hk : 14 ≤ mK M a ∧ mK M a ≤ 21
    · have h2 : K (Int32.ofNat (mL M a)) = some (v0, M0) := by
        simp only [aL, bo] at h
        rw [if_pos hk] at h
        exact h
      by_cases h21 : mK M a = 21
      · obtain ⟨cell, t1, t2, t3, t4, t5, t6⟩ := arr_view E.2.2.2.2.2.1 a2 (Or.inr h21)
        exact W.alen E.1 E.2.1 t1 t2 t5 rfl rfl d (k _ v0 M0 h2 ls H locs a1 a2 a3)
      · obtain ⟨ha, hb, e1⟩ := arr_ex a2 rfl hk.1 (by omega)
        exact W.alen E.1 E.2.1 e1 ((E.2.2.2.2.2.1.2.1 _ hk.1 (by omega)).1 _ _) (by rw [arrV_size]) rfl rfl d (k _ v0 M0 h2 ls H locs a1 a2 a3)
    · simp only [aL, bo] at h
      rw [if_neg hk] at h
      cases h
theorem Hp.new {H H1 : Heap} {k n : Nat} (h : Hp x M H) (hk : k < 21) (e1 : H1.size = H.size + 1) (e2 : ∀ q : Nat, q < H.size → H1[q]? = H[q]?) (hc : cOK x (nA M k n) (mN M) H1) : Hp x (nA M k n) H1 := by
  obtain ⟨h0, h1, h2, h3, h4, h5⟩ := h
  have hne : ∀ b, b < mN M → b ≠ mN M := fun b hb => by omega
  refine ⟨by rw [mN_nA]; omega, by rw [mN_nA]; omega, fun q hq => ?_, fun b hb => ?_, fun b hb => ?_, fun b hb1 hb2 => ?_⟩
  · rw [e2 q (by omega)]; exact h2 q hq
  · rw [mN_nA] at hb
    rw [mK_nA, if_neg (by omega)]
    exact h3 b (by omega)
  · have hb' : b ≠ mN M := by omega
    exact ⟨by rw [mK_nA, if_neg hb']; exact (h4 b hb).1, fun hb2 => ⟨by rw [mL_nA, if_neg hb']; exact ((h4 b hb).2 hb2).1, fun j => by rw [mI_nA, if_neg hb']; exact ((h4 b hb).2 hb2).2 j⟩⟩
  · by_cases hb : b = mN M
    · subst hb
      exact ⟨by rw [mK_nA, if_pos rfl]; exact hk, hc⟩
    · rw [mN_nA] at hb2
      have hK : mK (nA M k n) b = mK M b := by rw [mK_nA, if_neg hb]
      have hlt : io x b < H.size := by rw [io_ge hb1]; omega
      obtain ⟨p1, o1, o2⟩ := h5 b hb1 (by omega)
      have hv : ∀ ty j, vl x (nA M k n) ty b j = vl x M ty b j := fun ty j => vl_congr (fun j => by rw [mI_nA, if_neg hb]) (fun j => by rw [mJ_nA, if_neg hb]) (fun j => by rw [mR_nA, if_neg hb]) j
      refine ⟨by rw [hK]; exact p1, fun q hq => ?_, fun hq => ?_⟩
      · rw [hK] at hq ⊢
        obtain ⟨cell, c1, c2, c3, c4⟩ := o1 q hq
        exact ⟨cell, by rw [e2 _ hlt]; exact c1, c2, c3, fun j hj => (c4 j hj).trans (congrArg some (hv _ j).symm)⟩
      · rw [hK] at hq ⊢
        rw [e2 _ hlt, o2 hq, mL_nA, if_neg hb]
        congr 2
        funext j
        exact (hv _ j).symm
def nw (M : Mem) (k : Nat) : Option (Option Nat × Mem) := some (some (mN M), nA M k 0)
theorem io_new {H : Heap} (h : Hp x M H) : io x (mN M) = H.size := by
  rw [io_ge h.1]
  have := h.2.1
  have := h.1
  omega
/-- a class of which objects are made -/
def CD (ci N : Nat) (C : String) : Prop := ∃ T : u_T, vwCl[ci]? = some (C, T, N) ∧ (∀ w ∈ u_ws C T N, w ∈ AL) ∧ (∀ k, k < N → parseFieldDescriptor (T k).2.2.1 = some (tyC ci k)) ∧ Cond.instantiable C N ∈ AL ∧ Cond.initialized C ∈ AL
theorem dfl {ty : FieldType} (h : ty ≠ .float ∧ ty ≠ .double) {N : Mem} {a j : Nat} (h1 : mI N a j = 0) (h2 : mJ N a j = 0) (h3 : mR N a j = none) : defaultValue ty = vl x N ty a j := by
  cases ty <;> simp [vl, defaultValue, h1, h2, h3, rv] at h ⊢
theorem r_new (E : EE p s m args meth c x cc y nL ret) {ci N idx : Nat} {C : String} {K : Option Nat → Mem → Option (ρ × Mem)} (F : CD ci N C) (hf : ∀ j, j < N → tyC ci j ≠ .float ∧ tyC ci j ≠ .double) (hl : Cond.classLink y.cls idx C ∈ AL) (d : decode cc pc = .ok (.new idx, 3)) (h1 : cells + 1 ≤ R.cells) (h2 : slots + N ≤ R.slots) (k : ∀ q N1, RT p l e R s m args below meth c x nL Q (cells + 1) (slots + N) (K q N1) (pc + 3) li ll lr (rv x q :: st) N1) : RT p l e R s m args below meth c x nL Q cells slots (bd (nw M ci) K) pc li ll lr st M :=
  by
  intro v0 M0 h ls H locs a1 a2 a3
  obtain ⟨T, hc, hin, hty, hins, hini⟩ := F
  have hKn := E.2.2.2.2.2.1.1 ci _ hc
  have hio := io_new a2
  refine W.newcK E.1 E.2.1 E.2.2.1 (E.2.2.2.1 _ hl) (E.2.2.2.1 _ hins) (E.2.2.2.1 _ hini) rfl d h1 h2 hKn.2.1 rfl fun H1 kC hkC e1 z1 o1 => ?_
  have hb := u_born (tyC ci) E.2.2.2.1 hin hKn hkC e1 hty
  have hK0 : mK (nA M ci 0) (mN M) = ci := by rw [mK_nA, if_pos rfl]
  have hH : Hp x (nA M ci 0) H1 := by
    refine a2.new (by have := vwCl_lt hc; omega) z1 o1 ⟨fun q hq => ?_, fun hq => ?_⟩
    · rw [hK0] at hq ⊢
      cases hc.symm.trans hq
      rw [hio]
      obtain ⟨cell, c1, c2, c3, c4⟩ := hb
      exact ⟨cell, c1, c2, c3, fun j hj => (c4 j hj).trans (congrArg some (dfl (hf j hj) (by rw [mI_nA, if_pos rfl]) (by rw [mJ_nA, if_pos rfl]) (by rw [mR_nA, if_pos rfl])))⟩
    · rw [hK0] at hq
      have := vwCl_lt hc
      omega
  have := k (some (mN M)) (nA M ci 0) v0 M0 h ls H1 locs a1 hH a3
  rw [show rv x (some (mN M)) = .ref H.size from congrArg Value.ref hio] at this
  exact this
theorem r_newarrayB (E : EE p s m args meth c x cc y nL ret) {u : Int32} {b : Nat} {K : Option Nat → Mem → Option (ρ × Mem)} (hw : Cond.arrayClass .byte ∈ AL) (d : decode cc pc = .ok (.newarray .byte, 2)) (hb : b ≤ 60000000) (h1 : cells + 1 ≤ R.cells) (h2 : slots + b ≤ R.slots) (k : ∀ q N1, RT p l e R s m args below meth c x nL Q (cells + 1) (slots + b) (K q N1) (pc + 2) li ll lr (rv x q :: st) N1) : RT p l e R s m args below meth c x nL Q cells slots (bd (nwA M 14 u b) K) pc li ll lr (.int u :: st) M :=
  by
  intro v0 M0 h ls H locs a1 a2 a3
  by_cases hu : ¬ u < 0 ∧ u.toNatClampNeg ≤ b
  · simp only [nwA, bd, if_pos hu] at h
    have hio := io_new a2
    refine W.widen (k := cells + 0) (n := slots + 0) (by omega) (by omega) ?_
    refine va_newaK (atype := .byte) (N := u.toNatClampNeg) E.1 E.2.1 (E.2.2.2.1 _ hw) rfl d rfl hu.1 rfl (by show _ * 1 ≤ _; omega) h1 (by omega) rfl fun H1 cA e1 z1 o1 hAr hNm => ?_
    have hcA : cA = x.2.2.1 14 := Option.some.inj (hNm.symm.trans (E.2.2.2.2.2.1.2.1 14 (by omega) (by omega)).2)
    subst hcA
    have hK0 : mK (nA M 14 u.toNatClampNeg) (mN M) = 14 := by rw [mK_nA, if_pos rfl]
    have hH : Hp x (nA M 14 u.toNatClampNeg) H1 := by
      refine a2.new (by omega) z1 o1 ⟨fun q hq => ?_, fun hq => ?_⟩
      · rw [hK0] at hq
        have := vwCl_lt hq
        omega
      · rw [hK0, hio, e1, mL_nA, if_pos rfl]
        congr 2
        funext j
        exact dfl (by constructor <;> (intro q; cases q)) (by rw [mI_nA, if_pos rfl]) (by rw [mJ_nA, if_pos rfl]) (by rw [mR_nA, if_pos rfl])
    have := k (some (mN M)) _ v0 M0 h ls H1 locs a1 hH a3
    rw [show rv x (some (mN M)) = .ref H.size from congrArg Value.ref hio] at this
    exact W.widen (k := cells + 1) (n := slots + b) (by omega) (by omega) this
  · simp only [nwA, bd, if_neg hu] at h
    cases h
theorem r_newarrayI (E : EE p s m args meth c x cc y nL ret) {u : Int32} {b : Nat} {K : Option Nat → Mem → Option (ρ × Mem)} (hw : Cond.arrayClass .int ∈ AL) (d : decode cc pc = .ok (.newarray .int, 2)) (hb : b ≤ 60000000) (h1 : cells + 1 ≤ R.cells) (h2 : slots + b ≤ R.slots) (k : ∀ q N1, RT p l e R s m args below meth c x nL Q (cells + 1) (slots + b) (K q N1) (pc + 2) li ll lr (rv x q :: st) N1) : RT p l e R s m args below meth c x nL Q cells slots (bd (nwA M 15 u b) K) pc li ll lr (.int u :: st) M :=
  by
  intro v0 M0 h ls H locs a1 a2 a3
  by_cases hu : ¬ u < 0 ∧ u.toNatClampNeg ≤ b
  · simp only [nwA, bd, if_pos hu] at h
    have hio := io_new a2
    refine W.widen (k := cells + 0) (n := slots + 0) (by omega) (by omega) ?_
    refine va_newaK (atype := .int) (N := u.toNatClampNeg) E.1 E.2.1 (E.2.2.2.1 _ hw) rfl d rfl hu.1 rfl (by show _ * 4 ≤ _; omega) h1 (by omega) rfl fun H1 cA e1 z1 o1 hAr hNm => ?_
    have hcA : cA = x.2.2.1 15 := Option.some.inj (hNm.symm.trans (E.2.2.2.2.2.1.2.1 15 (by omega) (by omega)).2)
    subst hcA
    have hK0 : mK (nA M 15 u.toNatClampNeg) (mN M) = 15 := by rw [mK_nA, if_pos rfl]
    have hH : Hp x (nA M 15 u.toNatClampNeg) H1 := by
      refine a2.new (by omega) z1 o1 ⟨fun q hq => ?_, fun hq => ?_⟩
      · rw [hK0] at hq
        have := vwCl_lt hq
        omega
      · rw [hK0, hio, e1, mL_nA, if_pos rfl]
        congr 2
        funext j
        exact dfl (by constructor <;> (intro q; cases q)) (by rw [mI_nA, if_pos rfl]) (by rw [mJ_nA, if_pos rfl]) (by rw [mR_nA, if_pos rfl])
    have := k (some (mN M)) _ v0 M0 h ls H1 locs a1 hH a3
    rw [show rv x (some (mN M)) = .ref H.size from congrArg Value.ref hio] at this
    exact W.widen (k := cells + 1) (n := slots + b) (by omega) (by omega) this
  · simp only [nwA, bd, if_neg hu] at h
    cases h
theorem r_newarrayJ (E : EE p s m args meth c x cc y nL ret) {u : Int32} {b : Nat} {K : Option Nat → Mem → Option (ρ × Mem)} (hw : Cond.arrayClass .long ∈ AL) (d : decode cc pc = .ok (.newarray .long, 2)) (hb : b ≤ 60000000) (h1 : cells + 1 ≤ R.cells) (h2 : slots + b ≤ R.slots) (k : ∀ q N1, RT p l e R s m args below meth c x nL Q (cells + 1) (slots + b) (K q N1) (pc + 2) li ll lr (rv x q :: st) N1) : RT p l e R s m args below meth c x nL Q cells slots (bd (nwA M 16 u b) K) pc li ll lr (.int u :: st) M :=
  by
  intro v0 M0 h ls H locs a1 a2 a3
  by_cases hu : ¬ u < 0 ∧ u.toNatClampNeg ≤ b
  · simp only [nwA, bd, if_pos hu] at h
    have hio := io_new a2
    refine W.widen (k := cells + 0) (n := slots + 0) (by omega) (by omega) ?_
    refine va_newaK (atype := .long) (N := u.toNatClampNeg) E.1 E.2.1 (E.2.2.2.1 _ hw) rfl d rfl hu.1 rfl (by show _ * 8 ≤ _; omega) h1 (by omega) rfl fun H1 cA e1 z1 o1 hAr hNm => ?_
    have hcA : cA = x.2.2.1 16 := Option.some.inj (hNm.symm.trans (E.2.2.2.2.2.1.2.1 16 (by omega) (by omega)).2)
    subst hcA
    have hK0 : mK (nA M 16 u.toNatClampNeg) (mN M) = 16 := by rw [mK_nA, if_pos rfl]
    have hH : Hp x (nA M 16 u.toNatClampNeg) H1 := by
      refine a2.new (by omega) z1 o1 ⟨fun q hq => ?_, fun hq => ?_⟩
      · rw [hK0] at hq
        have := vwCl_lt hq
        omega
      · rw [hK0, hio, e1, mL_nA, if_pos rfl]
        congr 2
        funext j
        exact dfl (by constructor <;> (intro q; cases q)) (by rw [mI_nA, if_pos rfl]) (by rw [mJ_nA, if_pos rfl]) (by rw [mR_nA, if_pos rfl])
    have := k (some (mN M)) _ v0 M0 h ls H1 locs a1 hH a3
    rw [show rv x (some (mN M)) = .ref H.size from congrArg Value.ref hio] at this
    exact W.widen (k := cells + 1) (n := slots + b) (by omega) (by omega) this
  · simp only [nwA, bd, if_neg hu] at h
    cases h
theorem r_newarrayS (E : EE p s m args meth c x cc y nL ret) {u : Int32} {b : Nat} {K : Option Nat → Mem → Option (ρ × Mem)} (hw : Cond.arrayClass .short ∈ AL) (d : decode cc pc = .ok (.newarray .short, 2)) (hb : b ≤ 60000000) (h1 : cells + 1 ≤ R.cells) (h2 : slots + b ≤ R.slots) (k : ∀ q N1, RT p l e R s m args below meth c x nL Q (cells + 1) (slots + b) (K q N1) (pc + 2) li ll lr (rv x q :: st) N1) : RT p l e R s m args below meth c x nL Q cells slots (bd (nwA M 17 u b) K) pc li ll lr (.int u :: st) M :=
  by
  intro v0 M0 h ls H locs a1 a2 a3
  by_cases hu : ¬ u < 0 ∧ u.toNatClampNeg ≤ b
  · simp only [nwA, bd, if_pos hu] at h
    have hio := io_new a2
    refine W.widen (k := cells + 0) (n := slots + 0) (by omega) (by omega) ?_
    refine va_newaK (atype := .short) (N := u.toNatClampNeg) E.1 E.2.1 (E.2.2.2.1 _ hw) rfl d rfl hu.1 rfl (by show _ * 2 ≤ _; omega) h1 (by omega) rfl fun H1 cA e1 z1 o1 hAr hNm => ?_
    have hcA : cA = x.2.2.1 17 := Option.some.inj (hNm.symm.trans (E.2.2.2.2.2.1.2.1 17 (by omega) (by omega)).2)
    subst hcA
    have hK0 : mK (nA M 17 u.toNatClampNeg) (mN M) = 17 := by rw [mK_nA, if_pos rfl]
    have hH : Hp x (nA M 17 u.toNatClampNeg) H1 := by
      refine a2.new (by omega) z1 o1 ⟨fun q hq => ?_, fun hq => ?_⟩
      · rw [hK0] at hq
        have := vwCl_lt hq
        omega
      · rw [hK0, hio, e1, mL_nA, if_pos rfl]
        congr 2
        funext j
        exact dfl (by constructor <;> (intro q; cases q)) (by rw [mI_nA, if_pos rfl]) (by rw [mJ_nA, if_pos rfl]) (by rw [mR_nA, if_pos rfl])
    have := k (some (mN M)) _ v0 M0 h ls H1 locs a1 hH a3
    rw [show rv x (some (mN M)) = .ref H.size from congrArg Value.ref hio] at this
    exact W.widen (k := cells + 1) (n := slots + b) (by omega) (by omega) this
  · simp only [nwA, bd, if_neg hu] at h
    cases h
theorem r_newarrayZ (E : EE p s m args meth c x cc y nL ret) {u : Int32} {b : Nat} {K : Option Nat → Mem → Option (ρ × Mem)} (hw : Cond.arrayClass .boolean ∈ AL) (d : decode cc pc = .ok (.newarray .boolean, 2)) (hb : b ≤ 60000000) (h1 : cells + 1 ≤ R.cells) (h2 : slots + b ≤ R.slots) (k : ∀ q N1, RT p l e R s m args below meth c x nL Q (cells + 1) (slots + b) (K q N1) (pc + 2) li ll lr (rv x q :: st) N1) : RT p l e R s m args below meth c x nL Q cells slots (bd (nwA M 18 u b) K) pc li ll lr (.int u :: st) M :=
  by
  intro v0 M0 h ls H locs a1 a2 a3
  by_cases hu : ¬ u < 0 ∧ u.toNatClampNeg ≤ b
  · simp only [nwA, bd, if_pos hu] at h
    have hio := io_new a2
    refine W.widen (k := cells + 0) (n := slots + 0) (by omega) (by omega) ?_
    refine va_newaK (atype := .boolean) (N := u.toNatClampNeg) E.1 E.2.1 (E.2.2.2.1 _ hw) rfl d rfl hu.1 rfl (by show _ * 1 ≤ _; omega) h1 (by omega) rfl fun H1 cA e1 z1 o1 hAr hNm => ?_
    have hcA : cA = x.2.2.1 18 := Option.some.inj (hNm.symm.trans (E.2.2.2.2.2.1.2.1 18 (by omega) (by omega)).2)
    subst hcA
    have hK0 : mK (nA M 18 u.toNatClampNeg) (mN M) = 18 := by rw [mK_nA, if_pos rfl]
    have hH : Hp x (nA M 18 u.toNatClampNeg) H1 := by
      refine a2.new (by omega) z1 o1 ⟨fun q hq => ?_, fun hq => ?_⟩
      · rw [hK0] at hq
        have := vwCl_lt hq
        omega
      · rw [hK0, hio, e1, mL_nA, if_pos rfl]
        congr 2
        funext j
        exact dfl (by constructor <;> (intro q; cases q)) (by rw [mI_nA, if_pos rfl]) (by rw [mJ_nA, if_pos rfl]) (by rw [mR_nA, if_pos rfl])
    have := k (some (mN M)) _ v0 M0 h ls H1 locs a1 hH a3
    rw [show rv x (some (mN M)) = .ref H.size from congrArg Value.ref hio] at this
    exact W.widen (k := cells + 1) (n := slots + b) (by omega) (by omega) this
  · simp only [nwA, bd, if_neg hu] at h
    cases h
theorem r_anew19 (E : EE p s m args meth c x cc y nL ret) {u : Int32} {b idx : Nat} {K : Option Nat → Mem → Option (ρ × Mem)} (hl : Cond.classLink y.cls idx "TabledFrames$Dictionary" ∈ AL) (d : decode cc pc = .ok (.anewarray idx, 3)) (hb : b ≤ 60000000) (h1 : cells + 1 ≤ R.cells) (h2 : slots + b ≤ R.slots) (k : ∀ q N1, RT p l e R s m args below meth c x nL Q (cells + 1) (slots + b) (K q N1) (pc + 3) li ll lr (rv x q :: st) N1) : RT p l e R s m args below meth c x nL Q cells slots (bd (nwA M 19 u b) K) pc li ll lr (.int u :: st) M :=
  by
  intro v0 M0 h ls H locs a1 a2 a3
  by_cases hu : ¬ u < 0 ∧ u.toNatClampNeg ≤ b
  · simp only [nwA, bd, if_pos hu] at h
    have hio := io_new a2
    refine W.anew E.1 E.2.1 E.2.2.1 (E.2.2.2.1 _ hl) (va_AO.use E.2.2.2.2.2.1.2.2.2.2.2.2.1) rfl d rfl hu.1 (by omega) h1 (by omega) fun cA kA comp f1 f2 f3 f4 => ?_
    generalize hH1 : H.push ({ cls := cA, slots := Array.replicate u.toNatClampNeg .null, vm := .none } : Cell) = H1
    have z1 : H1.size = H.size + 1 := by rw [← hH1, Array.size_push]
    have e1 : H1[H.size]? = some (arrV cA u.toNatClampNeg (fun _ => .null)) := by rw [← hH1, Array.getElem?_push_size, ← arrV_new]
    have o1 : ∀ q : Nat, q < H.size → H1[q]? = H[q]? := fun q hq => by rw [← hH1, Array.getElem?_push, if_neg (Nat.ne_of_lt hq)]
    obtain ⟨kA2, comp2, g1, g2, g3, g4⟩ := (E.2.2.2.2.2.1.2.1 19 (by omega) (by omega)).2
    have hcA : cA = x.2.2.1 19 := Option.some.inj (f1.symm.trans g4)
    subst hcA
    have hK0 : mK (nA M 19 u.toNatClampNeg) (mN M) = 19 := by rw [mK_nA, if_pos rfl]
    have hH : Hp x (nA M 19 u.toNatClampNeg) H1 := by
      refine a2.new (by omega) z1 o1 ⟨fun q hq => ?_, fun hq => ?_⟩
      · rw [hK0] at hq
        have := vwCl_lt hq
        omega
      · rw [hK0, hio, e1, mL_nA, if_pos rfl]
        congr 2
        funext j
        exact dfl (ty := ety 19) (by constructor <;> (intro q; cases q)) (by rw [mI_nA, if_pos rfl]) (by rw [mJ_nA, if_pos rfl]) (by rw [mR_nA, if_pos rfl])
    have := k (some (mN M)) _ v0 M0 h ls H1 locs a1 hH a3
    rw [show rv x (some (mN M)) = .ref H.size from congrArg Value.ref hio] at this
    exact W.widen (k := cells + 1) (n := slots + b) (by omega) (by omega) this
  · simp only [nwA, bd, if_neg hu] at h
    cases h
theorem r_anew20 (E : EE p s m args meth c x cc y nL ret) {u : Int32} {b idx : Nat} {K : Option Nat → Mem → Option (ρ × Mem)} (hl : Cond.classLink y.cls idx "TabledFrames$Table" ∈ AL) (d : decode cc pc = .ok (.anewarray idx, 3)) (hb : b ≤ 60000000) (h1 : cells + 1 ≤ R.cells) (h2 : slots + b ≤ R.slots) (k : ∀ q N1, RT p l e R s m args below meth c x nL Q (cells + 1) (slots + b) (K q N1) (pc + 3) li ll lr (rv x q :: st) N1) : RT p l e R s m args below meth c x nL Q cells slots (bd (nwA M 20 u b) K) pc li ll lr (.int u :: st) M :=
  by
  intro v0 M0 h ls H locs a1 a2 a3
  by_cases hu : ¬ u < 0 ∧ u.toNatClampNeg ≤ b
  · simp only [nwA, bd, if_pos hu] at h
    have hio := io_new a2
    refine W.anew E.1 E.2.1 E.2.2.1 (E.2.2.2.1 _ hl) (va_AO.use E.2.2.2.2.2.1.2.2.2.2.2.2.2) rfl d rfl hu.1 (by omega) h1 (by omega) fun cA kA comp f1 f2 f3 f4 => ?_
    generalize hH1 : H.push ({ cls := cA, slots := Array.replicate u.toNatClampNeg .null, vm := .none } : Cell) = H1
    have z1 : H1.size = H.size + 1 := by rw [← hH1, Array.size_push]
    have e1 : H1[H.size]? = some (arrV cA u.toNatClampNeg (fun _ => .null)) := by rw [← hH1, Array.getElem?_push_size, ← arrV_new]
    have o1 : ∀ q : Nat, q < H.size → H1[q]? = H[q]? := fun q hq => by rw [← hH1, Array.getElem?_push, if_neg (Nat.ne_of_lt hq)]
    obtain ⟨kA2, comp2, g1, g2, g3, g4⟩ := (E.2.2.2.2.2.1.2.1 20 (by omega) (by omega)).2
    have hcA : cA = x.2.2.1 20 := Option.some.inj (f1.symm.trans g4)
    subst hcA
    have hK0 : mK (nA M 20 u.toNatClampNeg) (mN M) = 20 := by rw [mK_nA, if_pos rfl]
    have hH : Hp x (nA M 20 u.toNatClampNeg) H1 := by
      refine a2.new (by omega) z1 o1 ⟨fun q hq => ?_, fun hq => ?_⟩
      · rw [hK0] at hq
        have := vwCl_lt hq
        omega
      · rw [hK0, hio, e1, mL_nA, if_pos rfl]
        congr 2
        funext j
        exact dfl (ty := ety 20) (by constructor <;> (intro q; cases q)) (by rw [mI_nA, if_pos rfl]) (by rw [mJ_nA, if_pos rfl]) (by rw [mR_nA, if_pos rfl])
    have := k (some (mN M)) _ v0 M0 h ls H1 locs a1 hH a3
    rw [show rv x (some (mN M)) = .ref H.size from congrArg Value.ref hio] at this
    exact W.widen (k := cells + 1) (n := slots + b) (by omega) (by omega) this
  · simp only [nwA, bd, if_neg hu] at h
    cases h
end RTA
