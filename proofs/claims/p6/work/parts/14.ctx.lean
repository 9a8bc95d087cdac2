def stLit (a : Nat) : List Int32 := match a with
  | 0 => [35, 31, 52]
  | 1 => [9, 8, 9]
  | 2 => [6, 5, 6]
  | 3 => [4, 3, 2, 2, 2, 2, 2, 2, 2, 2, 2, 2, 2, 1, 1, 1, 2, 2, 2, 2, 2, 2, 2, 2, 2, 3, 2, 1, 1, 1, 1, 1, -1, -1, -1, -1]
  | 4 => [1, 1, 1, 1, 1, 1, 2, 2, 2, 1, 1, 1, 1, 1, 1, 1, 1, 1, 1, 1, 1, 1, 1, 1, -1, -1, -1, -1, -1]
  | 5 => [1, 4, 3, 2, 2, 2, 2, 2, 2, 1, 1, 1, 1, 1, 1, 1, 1, 1, 1, 1, 1, 1, 1, 1, 1, 1, 1, 1, 1, 1, 1, 1, 1, 1, 1, 1, 1, 1, 1, 1, 1, 1, 1, 1, 1, 1, -1, -1, -1, -1, -1, -1, -1]
  | 6 => [0, 1, 2, 3, 4, 5, 6, 7, 8, 9, 10, 11, 12, 13, 14, 15, 16, 18, 20, 22, 24, 28, 32, 40, 48, 64, 128, 256, 512, 1024, 2048, 4096, 8192, 16384, 32768, 65536]
  | 7 => [0, 0, 0, 0, 0, 0, 0, 0, 0, 0, 0, 0, 0, 0, 0, 0, 1, 1, 1, 1, 2, 2, 3, 3, 4, 6, 7, 8, 9, 10, 11, 12, 13, 14, 15, 16]
  | 8 => [3, 4, 5, 6, 7, 8, 9, 10, 11, 12, 13, 14, 15, 16, 17, 18, 19, 20, 21, 22, 23, 24, 25, 26, 27, 28, 29, 30, 31, 32, 33, 34, 35, 37, 39, 41, 43, 47, 51, 59, 67, 83, 99, 131, 259, 515, 1027, 2051, 4099, 8195, 16387, 32771, 65539]
  | _ => [0, 0, 0, 0, 0, 0, 0, 0, 0, 0, 0, 0, 0, 0, 0, 0, 0, 0, 0, 0, 0, 0, 0, 0, 0, 0, 0, 0, 0, 0, 0, 0, 1, 1, 1, 1, 2, 2, 3, 3, 4, 4, 5, 7, 8, 9, 10, 11, 12, 13, 14, 15, 16]
def sLn (L a : Nat) : Nat := if a = 10 then L else (stLit a).length
def sIx (xs : Nat → Int32) (a j : Nat) : Int32 := if a = 10 then xs j else (stLit a).getD j 0
/-- the memory before the law's first instruction: the static arrays; cell 10 stands for the script -/
def m0 : Mem := (11, fun a => if a < 11 then (if a = 10 then 22 else 21) else 99, fun a => (stLit a).length, fun a j => (stLit a).getD j 0, fun _ _ => 0, fun _ _ => none)
set_option maxRecDepth 100000 in
theorem st_arr : ∀ a, a < 10 → Cond.arrayOf (.static "TabledFrames" (snm a) "[I") .int ∈ flatC (Jvm.Cond.and given_1 narrow_1) := by decide +kernel
set_option maxRecDepth 100000 in
theorem st_len : ∀ a, a < 10 → Cond.eq (.length (.static "TabledFrames" (snm a) "[I")) (.int (Int32.ofNat (stLit a).length)) ∈ flatC (Jvm.Cond.and given_1 narrow_1) := by decide +kernel
theorem st_elA {a o : Nat} (h : ((flatC (Jvm.Cond.and given_1 narrow_1)).drop o).take (stLit a).length = (List.range (stLit a).length).map (fun j => Cond.eq (.elem (.static "TabledFrames" (snm a) "[I") (.int (Int32.ofNat j))) (.int ((stLit a).getD j 0)))) : ∀ j, j < (stLit a).length → Cond.eq (.elem (.static "TabledFrames" (snm a) "[I") (.int (Int32.ofNat j))) (.int ((stLit a).getD j 0)) ∈ flatC (Jvm.Cond.and given_1 narrow_1) := by
  intro j hj
  refine List.mem_of_mem_drop (i := o) (List.mem_of_mem_take (i := (stLit a).length) ?_)
  rw [h]
  exact List.mem_map.mpr ⟨j, List.mem_range.mpr hj, rfl⟩
set_option maxRecDepth 100000 in
theorem st_el0 : ((flatC (Jvm.Cond.and given_1 narrow_1)).drop 140).take (stLit 0).length = (List.range (stLit 0).length).map (fun j => Cond.eq (.elem (.static "TabledFrames" (snm 0) "[I") (.int (Int32.ofNat j))) (.int ((stLit 0).getD j 0))) := by decide +kernel
set_option maxRecDepth 100000 in
theorem st_el1 : ((flatC (Jvm.Cond.and given_1 narrow_1)).drop 146).take (stLit 1).length = (List.range (stLit 1).length).map (fun j => Cond.eq (.elem (.static "TabledFrames" (snm 1) "[I") (.int (Int32.ofNat j))) (.int ((stLit 1).getD j 0))) := by decide +kernel
set_option maxRecDepth 100000 in
theorem st_el2 : ((flatC (Jvm.Cond.and given_1 narrow_1)).drop 134).take (stLit 2).length = (List.range (stLit 2).length).map (fun j => Cond.eq (.elem (.static "TabledFrames" (snm 2) "[I") (.int (Int32.ofNat j))) (.int ((stLit 2).getD j 0))) := by decide +kernel
set_option maxRecDepth 100000 in
theorem st_el3 : ((flatC (Jvm.Cond.and given_1 narrow_1)).drop 7).take (stLit 3).length = (List.range (stLit 3).length).map (fun j => Cond.eq (.elem (.static "TabledFrames" (snm 3) "[I") (.int (Int32.ofNat j))) (.int ((stLit 3).getD j 0))) := by decide +kernel
set_option maxRecDepth 100000 in
theorem st_el4 : ((flatC (Jvm.Cond.and given_1 narrow_1)).drop 46).take (stLit 4).length = (List.range (stLit 4).length).map (fun j => Cond.eq (.elem (.static "TabledFrames" (snm 4) "[I") (.int (Int32.ofNat j))) (.int ((stLit 4).getD j 0))) := by decide +kernel
set_option maxRecDepth 100000 in
theorem st_el5 : ((flatC (Jvm.Cond.and given_1 narrow_1)).drop 78).take (stLit 5).length = (List.range (stLit 5).length).map (fun j => Cond.eq (.elem (.static "TabledFrames" (snm 5) "[I") (.int (Int32.ofNat j))) (.int ((stLit 5).getD j 0))) := by decide +kernel
set_option maxRecDepth 100000 in
theorem st_el6 : ((flatC (Jvm.Cond.and given_1 narrow_1)).drop 152).take (stLit 6).length = (List.range (stLit 6).length).map (fun j => Cond.eq (.elem (.static "TabledFrames" (snm 6) "[I") (.int (Int32.ofNat j))) (.int ((stLit 6).getD j 0))) := by decide +kernel
set_option maxRecDepth 100000 in
theorem st_el7 : ((flatC (Jvm.Cond.and given_1 narrow_1)).drop 247).take (stLit 7).length = (List.range (stLit 7).length).map (fun j => Cond.eq (.elem (.static "TabledFrames" (snm 7) "[I") (.int (Int32.ofNat j))) (.int ((stLit 7).getD j 0))) := by decide +kernel
set_option maxRecDepth 100000 in
theorem st_el8 : ((flatC (Jvm.Cond.and given_1 narrow_1)).drop 191).take (stLit 8).length = (List.range (stLit 8).length).map (fun j => Cond.eq (.elem (.static "TabledFrames" (snm 8) "[I") (.int (Int32.ofNat j))) (.int ((stLit 8).getD j 0))) := by decide +kernel
set_option maxRecDepth 100000 in
theorem st_el9 : ((flatC (Jvm.Cond.and given_1 narrow_1)).drop 286).take (stLit 9).length = (List.range (stLit 9).length).map (fun j => Cond.eq (.elem (.static "TabledFrames" (snm 9) "[I") (.int (Int32.ofNat j))) (.int ((stLit 9).getD j 0))) := by decide +kernel
theorem st_el : ∀ a, a < 10 → ∀ j, j < (stLit a).length → Cond.eq (.elem (.static "TabledFrames" (snm a) "[I") (.int (Int32.ofNat j))) (.int ((stLit a).getD j 0)) ∈ flatC (Jvm.Cond.and given_1 narrow_1) := by
  intro a ha
  have h : a = 0 ∨ a = 1 ∨ a = 2 ∨ a = 3 ∨ a = 4 ∨ a = 5 ∨ a = 6 ∨ a = 7 ∨ a = 8 ∨ a = 9 := by omega
  rcases h with rfl | rfl | rfl | rfl | rfl | rfl | rfl | rfl | rfl | rfl
  · exact st_elA st_el0
  · exact st_elA st_el1
  · exact st_elA st_el2
  · exact st_elA st_el3
  · exact st_elA st_el4
  · exact st_elA st_el5
  · exact st_elA st_el6
  · exact st_elA st_el7
  · exact st_elA st_el8
  · exact st_elA st_el9
set_option maxRecDepth 100000 in
theorem st_lay : ∀ a, a < 10 → Cond.laysStatic "TabledFrames" (snm a) "[I" ∈ lw_tbl := by decide +kernel
theorem st_small : ∀ a, a < 10 → (stLit a).length < 2 ^ 31 := by decide +kernel
theorem st_ini : Cond.initialized "TabledFrames" ∈ lw_tbl := by decide +kernel
set_option maxRecDepth 100000 in
theorem ne_M : ∀ q ∈ nestM, Cond.methodLinkNest q.1 q.2.1 q.2.2.1 q.2.2.2 ∈ lw_tbl := by decide +kernel
set_option maxRecDepth 100000 in
theorem ne_F : ∀ q ∈ nestF, Cond.fieldLinkNest q.1 q.2.1 q.2.2.1 q.2.2.2.1 q.2.2.2.2.1 q.2.2.2.2.2 ∈ lw_tbl := by decide +kernel
theorem ar_cl : ∀ k, 14 ≤ k → k < 19 → Cond.arrayClass (ety k) ∈ lw_tbl := by
  intro k h1 h2
  have h : k = 14 ∨ k = 15 ∨ k = 16 ∨ k = 17 ∨ k = 18 := by omega
  rcases h with rfl | rfl | rfl | rfl | rfl <;> decide +kernel
theorem ar_od : Cond.arrayOver (.object "TabledFrames$Dictionary") ∈ lw_tbl := by decide +kernel
theorem ar_ot : Cond.arrayOver (.object "TabledFrames$Table") ∈ lw_tbl := by decide +kernel
theorem AL_tbl {w : Cond} (h : w ∈ AL) : w ∈ lw_tbl := (List.mem_filter.mp h).1
theorem cl_all : ∀ (c : Nat) (q : vw_C), vwCl[c]? = some q → (∀ w ∈ u_ws q.1 q.2.1 q.2.2, w ∈ AL) ∧ Cond.instantiable q.1 q.2.2 ∈ AL := by
  have key : ∀ {ci N : Nat} {C : String} (F : CD ci N C) (q : vw_C), vwCl[ci]? = some q → (∀ w ∈ u_ws q.1 q.2.1 q.2.2, w ∈ AL) ∧ Cond.instantiable q.1 q.2.2 ∈ AL := by
    intro ci N C F q hq
    obtain ⟨T, h1, h2, -, h3, -⟩ := F
    cases h1.symm.trans hq
    exact ⟨h2, h3⟩
  intro c q hq
  have h := vwCl_lt hq
  have hc : c = 0 ∨ c = 1 ∨ c = 2 ∨ c = 3 ∨ c = 4 ∨ c = 5 ∨ c = 6 ∨ c = 7 ∨ c = 8 ∨ c = 9 ∨ c = 10 ∨ c = 11 ∨ c = 12 ∨ c = 13 := by omega
  rcases hc with rfl | rfl | rfl | rfl | rfl | rfl | rfl | rfl | rfl | rfl | rfl | rfl | rfl | rfl
  · exact key cd_0 q hq
  · exact key cd_1 q hq
  · exact key cd_2 q hq
  · exact key cd_3 q hq
  · exact key cd_4 q hq
  · exact key cd_5 q hq
  · exact key cd_6 q hq
  · exact key cd_7 q hq
  · exact key cd_8 q hq
  · exact key cd_9 q hq
  · exact key cd_10 q hq
  · exact key cd_11 q hq
  · exact key cd_12 q hq
  · exact key cd_13 q hq
theorem start_ctx {p : Program} {s : State} {m : MethodId} {meth : Method} {c : Code} {b L : Nat} {xs : Nat → Int32} (hL : L < 2 ^ 31) (C0 : lw_At p s m meth c b L xs) : ∃ x : Cx, EE p s m #[Value.ref b] meth c x cL_law yL_law 4 ret ∧ xb x = s.heap.size ∧ io x 10 = b ∧ (xL x 10 = L ∧ ∀ j, xI x 10 j = xs j) ∧ Hp x m0 s.heap := by
  obtain ⟨e1, e2, e3, e4, e5, hts, hX, hbl, e8, hgv⟩ := C0
  have hs := flat_of_before _ hgv
  have hlt : ∀ q : Nat, q < s.heap.size → ¬ s.heap.size ≤ q := fun q h => by omega
  have k1 : ∀ c : Nat, ∃ z : ClassId × (Nat → Nat), ∀ q : vw_C, vwCl[c]? = some q → u_Kn s q.1 q.2.1 q.2.2 z.1 z.2 := by
    intro c
    cases hq : vwCl[c]? with
    | none => exact ⟨(0, fun _ => 0), fun q h => by cases h⟩
    | some q =>
      obtain ⟨w1, w2⟩ := cl_all c q hq
      obtain ⟨cC, iS, h⟩ := u_known hts (fun w hw => AL_tbl (w1 w hw)) (hts _ (AL_tbl w2))
      exact ⟨(cC, iS), fun q' h' => by cases h'; exact h⟩
  have k2 : ∀ k : Nat, ∃ z : ClassId, 14 ≤ k → k < 21 → ArrOfT s z (ety k) ∧ va_RA s z (ety k) := by
    intro k
    by_cases h14 : 14 ≤ k ∧ k < 21
    · by_cases h19 : k < 19
      · obtain ⟨c, kA, comp, f1, f2, f3⟩ := Cond.arrayClass_spec (hts _ (ar_cl k h14.1 h19))
        refine ⟨c, fun _ _ => ⟨fun n z => ⟨fun k h => (by cases h), kA, f2, comp, f3⟩, ?_⟩⟩
        have h : k = 14 ∨ k = 15 ∨ k = 16 ∨ k = 17 ∨ k = 18 := by omega
        rcases h with rfl | rfl | rfl | rfl | rfl <;> exact f1
      · by_cases h : k = 19
        · subst h
          obtain ⟨comp, c, kA, f1, -, f3, f4, f5⟩ := Cond.arrayOver_spec (hts _ ar_od)
          exact ⟨c, fun _ _ => ⟨fun n z => ⟨fun k h => (by cases h), kA, f3, comp, f4⟩, kA, comp, f3, f4, f1, f5⟩⟩
        · have h : k = 20 := by omega
          subst h
          obtain ⟨comp, c, kA, f1, -, f3, f4, f5⟩ := Cond.arrayOver_spec (hts _ ar_ot)
          exact ⟨c, fun _ _ => ⟨fun n z => ⟨fun k h => (by cases h), kA, f3, comp, f4⟩, kA, comp, f3, f4, f1, f5⟩⟩
    · exact ⟨0, fun h1 h2 => absurd ⟨h1, h2⟩ h14⟩
  have k3 : ∀ a : Nat, ∃ t : Nat, (a < 10 → va_T .int t (stLit a).length (fun j => .int ((stLit a).getD j 0)) (fun q => s.heap.size ≤ q) s s.heap ∧ va_Z "TabledFrames" (snm a) "[I" (.ref t) (fun q => s.heap.size ≤ q) s s.heap) ∧ (a = 10 → t = b) := by
    intro a
    by_cases ha : a < 10
    · obtain ⟨t, t1, t2⟩ := va_Tof (A := fun q => s.heap.size ≤ q) (f := fun j => .int ((stLit a).getD j 0)) (st_small a ha) (hs _ (st_arr a ha)) (va_eqt (hs _ (st_len a ha))) (fun j hj => va_eqt (hs _ (st_el a ha j hj))) hlt
      exact ⟨t, fun _ => ⟨t2, va_Zref (hts _ (st_lay a ha)) (hts _ st_ini) t1 hlt⟩, fun h => by omega⟩
    · exact ⟨b, fun h => absurd h ha, fun _ => rfl⟩
  obtain ⟨F1, h1⟩ := Classical.axiomOfChoice k1
  obtain ⟨F2, h2⟩ := Classical.axiomOfChoice k2
  obtain ⟨F3, h3⟩ := Classical.axiomOfChoice k3
  have hK : Kn (fun c => (F1 c).1, fun c => (F1 c).2, F2, F3, s.heap.size, s.heap, sLn L, sIx xs) s := by
    refine ⟨fun c q hq => h1 c q hq, h2, fun a ha => ?_, fun a ha => ((h3 a).1 ha).2, fun q hq => va_Nw.of rfl (hts _ (ne_M q hq)), fun q hq => va_Nw.of rfl (hts _ (ne_F q hq)), va_AO.of (hts _ ar_od), va_AO.of (hts _ ar_ot)⟩
    by_cases ha2 : a < 10
    · have := ((h3 a).1 ha2).1
      show va_T .int (F3 a) (sLn L a) (fun j => .int (sIx xs a j)) (fun q => s.heap.size ≤ q) s s.heap
      simp only [sLn, sIx, if_neg (show ¬ a = 10 by omega)]
      exact this
    · have ha3 : a = 10 := by omega
      subst ha3
      show va_T .int (F3 10) (sLn L 10) (fun j => .int (sIx xs 10 j)) (fun q => s.heap.size ≤ q) s s.heap
      rw [(h3 10).2 rfl]
      obtain ⟨scr, g1, g2, g3, g4, g5⟩ := hX
      exact ⟨scr, g1, g2, g3, by rw [g4]; exact Nat.le_refl _, by rw [g4]; rfl, g5, hlt b hbl⟩
  refine ⟨_, ⟨e1, e2, e5, fun w hw => hts w (AL_tbl hw), e4, hK, e3, e8, fun h => absurd h (by decide)⟩, rfl, ?_, ⟨rfl, fun j => rfl⟩, ?_⟩
  · show (if 10 < 11 then F3 10 else _) = b
    rw [if_pos (by decide), (h3 10).2 rfl]
  · refine ⟨Nat.le_refl _, rfl, fun q _ => rfl, fun a ha => ?_, fun a ha => ⟨if_pos ha, fun h9 => ⟨(if_neg (by omega) : sLn L a = _).symm, fun j => (if_neg (by omega) : sIx xs a j = _).symm⟩⟩, fun a h1 h2 => ?_⟩
    · exact if_neg (Nat.not_lt.mpr ha)
    · have : a < 11 := h2
      omega
/-- the law's end out of the plain function of the law -/
theorem whole_from (hf : ∀ (L : Nat) (xs : Nat → Int32), L ≤ 2048 → ∃ M, fL_law xs L (some 10) m0 = some (1, M)) {p : Program} {e : Env} {s : State} {m : MethodId} {below : List Frame} {meth : Method} {c : Code} (l : Launch) {b L : Nat} {xs : Nat → Int32} (hL : L ≤ 2048) (C0 : lw_At p s m meth c b L xs) : W p l e room_1 s m #[Value.ref b] below meth c s.heap [] 0 0 (lw_Z below #[Value.ref b] s) (entryFrame m ([Value.ref b] : List Value).toArray 4) := by
  obtain ⟨x, E, hsz, hio, hxs, hH⟩ := start_ctx (by omega) C0
  obtain ⟨M, hM⟩ := hf L xs hL
  have hl := lv_entry [Value.ref b] (n := 4) (Nat.le_of_ble_eq_true rfl)
  rw [lg_entry_eq]
  have hrv : rv x (some 10) = .ref b := congrArg Value.ref hio
  have k := rtL_law (p := p) (l := l) (e := e) (below := below) E hsz hxs (some 10) m0 1 M hM _ s.heap [] ⟨hl.1, hl.2.1, fun q hq => hl.2.2 q (by simpa [flat, lv_args, hrv] using hq)⟩ hH (fun q hq => by cases hq)
  intro T hT X
  obtain ⟨t, q1, q2⟩ := k T hT X
  exact ⟨t, q1, q2 rfl⟩
