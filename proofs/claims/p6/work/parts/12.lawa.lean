-- ===== end of PART A; then your names; then what follows =====
/-! THE CLAIM OUT OF ONE WALK OF THE LAW'S BODY. Your part is whole_start (and what it stands on); all else here is the same for every law, but numbers. -/
def R_law : String := "TabledFramesLaw"
def lw_P (b : Addr) (xs : List Int32) (args : Array Value) (s : State) : Prop := args = #[.ref b] ∧ s.IntsAt b xs ∧ xs.length ≤ 2048 ∧ (Jvm.Cond.and given_1 narrow_1).before args s = true
def lw_Q (_ : Array Value) (s : State) (o : Outcome) (t : State) : Prop := o = .returned (some (.int 1)) ∧ Framed s o t [] 600000 7302250
def lw_Z (below : List Frame) (a : Array Value) (s : State) : State → Prop := fun t => ∃ o, t.status = .running ∧ Ended t below o ∧ lw_Q a s o t
/-- the law's own end, with 1 on the stack, nothing written that was there before, its room as the claim has it -/
theorem lw_ret {p : Program} {l : Launch} {e : Env} {s : State} {m : MethodId} {below : List Frame} {meth : Method} {c : Code} {b : Nat} (hx : p.tables.exec = Jvm.exec) (hb : c.code = code) (hr : meth.sig.returnType = ret) (hlocks : meth.locks = false) {pc : Nat} {H : Heap} {ls : Array Slot} (hdg : decode code pc = .ok (.ireturn, 1)) : W p l e room_1 s m #[Value.ref b] below meth c H [] 600000 7302250 (lw_Z below #[Value.ref b] s) (F0 m pc ls [.int 1]) := by
  intro T hT X
  obtain ⟨fs, hret, hrun, hended, hW, hframe⟩ := X.leave (v := some (.int 1)) (hlocks := hlocks) (fun h => by rw [hr] at h; cases h)
  have hmeth' : T.vm.method? m = some meth := X.method'
  refine ⟨T.setFrames fs, ?_, .returned (some (.int 1)), hrun, hended, rfl, ⟨_, rfl⟩, hW, hframe⟩
  jvm_step X.here [X.here.top, hx, hb, hdg, hmeth', hr, ret, narrow_b1]
  (try refine ⟨rfl, ?_⟩); (try refine ⟨rfl, ?_⟩)
  first | (intro acts; rw [hret _ acts rfl rfl rfl]) | rw [hret _ _ rfl rfl rfl]
  exact Steps.refl _
/-- what holds at the law's entry: the machine, the code, the tables' words (any of lw_tbl by 'hts w (by decide +kernel)'), the script of L ints xs at the cell b, what the Statement gives of the start (any of its parts by flat_of_before) -/
def lw_At (p : Program) (s : State) (m : MethodId) (meth : Method) (c : Code) (b L : Nat) (xs : Nat → Int32) : Prop :=
  p.tables.exec = Jvm.exec ∧ c.code = code ∧ meth.sig.returnType = ret ∧ c.maxLocals = 4 ∧ s.vm.findClass R_law = some m.cls ∧ (∀ w ∈ lw_tbl, w.before #[Value.ref b] s = true) ∧ va_X b L xs s s.heap ∧ b < s.heap.size ∧ meth.locks = false ∧ (Jvm.Cond.and given_1 narrow_1).before #[Value.ref b] s = true
def LQ (below : List Frame) (b : Nat) (s : State) : Int32 → Mem → State → Prop := fun v _ t => v = 1 → lw_Z below #[Value.ref b] s t
def swi {β : Type} (u : Int32) (A : Nat → Option β) (D : Option β) : Option β := if u.toInt < 0 ∨ 17 < u.toInt then D else A u.toInt.toNat
theorem r_lawret {p : Program} {l : Launch} {e : Env} {s : State} {m : MethodId} {below : List Frame} {meth : Method} {c : Code} {x : Cx} {b nL cells slots pc : Nat} {li : List (Nat × Int32)} {ll : List (Nat × Int64)} {lr : List (Nat × Option Nat)} {M : Mem} {y : MethodName} (E : EE p s m #[Value.ref b] meth c x cL_law y nL ret) (hsz : xb x = s.heap.size) {v : Int32} (d : decode cL_law pc = .ok (.ireturn, 1)) (h1 : cells ≤ 600000) (h2 : slots ≤ 7302250) : RT p l e room_1 s m #[Value.ref b] below meth c x nL (LQ below b s) cells slots (some (v, M)) pc li ll lr [.int v] M := by
  intro v0 M0 h ls H locs a1 a2 a3
  cases h
  by_cases hv : v = 1
  · subst hv
    have hW : W p l e room_1 s m #[Value.ref b] below meth c H [] 600000 7302250 (lw_Z below #[Value.ref b] s) (F0 m pc ls [.int 1]) := lw_ret E.1 E.2.1 E.2.2.2.2.2.2.1 E.2.2.2.2.2.2.2.1 d
    intro T hT X
    obtain ⟨t, q1, q2⟩ := W.widen h1 h2 (va_forget (fun q hq => by rw [← hsz]; exact a3 q hq) hW) T hT X
    exact ⟨t, q1, fun _ => q2⟩
  · intro T hT X
    exact ⟨_, Steps.refl _, fun e => absurd e hv⟩
theorem r_tsw {ρ : Type} {p : Program} {l : Launch} {e : Env} {R : Room} {s : State} {m : MethodId} {args : Array Value} {below : List Frame} {meth : Method} {c : Code} {x : Cx} {cc : ByteArray} {y : MethodName} {ret : Option FieldType} {nL cells slots pc : Nat} {Q : ρ → Mem → State → Prop} {li : List (Nat × Int32)} {ll : List (Nat × Int64)} {lr : List (Nat × Option Nat)} {st : List Value} {M : Mem} {dflt : Int} {offs : Array Int} {len : Nat} {u : Int32} {A : Nat → Option (ρ × Mem)} {D : Option (ρ × Mem)} {tg : Nat → Nat} {tD : Nat} (E : EE p s m args meth c x cc y nL ret) (d : decode cc pc = .ok (.tableswitch dflt 0 17 offs, len)) (ho : ∀ i, i < 18 → ∃ off, offs[i]? = some off ∧ (pc : Int) + off = (tg i : Int)) (hD : (pc : Int) + dflt = (tD : Int))
    (k : ∀ i, i < 18 → RT p l e R s m args below meth c x nL Q cells slots (A i) (tg i) li ll lr st M) (kD : RT p l e R s m args below meth c x nL Q cells slots D tD li ll lr st M) : RT p l e R s m args below meth c x nL Q cells slots (swi u A D) pc li ll lr (.int u :: st) M := by
  intro v0 M0 h ls H locs a1 a2 a3
  unfold swi at h
  by_cases hu : u.toInt < 0 ∨ 17 < u.toInt
  · rw [if_pos hu] at h
    exact lv_tableOut E.1 E.2.1 d hu hD (kD v0 M0 h ls H locs a1 a2 a3)
  · rw [if_neg hu] at h
    have h18 : u.toInt.toNat < 18 := by omega
    obtain ⟨off, o1, o2⟩ := ho _ h18
    exact lv_tableIn E.1 E.2.1 d (fun q => hu (Or.inl q)) (fun q => hu (Or.inr q)) (by simpa using o1) o2 (k _ h18 v0 M0 h ls H locs a1 a2 a3)
def sx (xs : Nat → Int32) (L : Nat) (w : Option Nat) (i : Int32) : Option Int32 := if w = some 10 ∧ ¬ (i < 0 ∨ L ≤ i.toNatClampNeg) then some (xs i.toNatClampNeg) else none
def sxl (L : Nat) (w : Option Nat) : Option Int32 := if w = some 10 then some (Int32.ofNat L) else none
theorem scr_view {x : Cx} {s : State} {M : Mem} {H : Heap} {xs : Nat → Int32} {L : Nat} (hK : Kn x s) (h : Hp x M H) (hxs : xL x 10 = L ∧ ∀ j, xI x 10 j = xs j) : ∃ cell : Cell, H[io x 10]? = some cell ∧ s.isArrayOf cell .int ∧ cell.vm ≠ .unknown ∧ L ≤ cell.slots.size ∧ cell.slots.size.toInt32 = Int32.ofNat L ∧ ∀ j, j < L → cell.slots[j]? = some (.int (xs j)) := by
  obtain ⟨cell, t1, t2, t3, t4, t5, t6, t7⟩ := hK.2.2.1 10 (by omega)
  obtain ⟨e1, e2⟩ := hxs
  have hio : io x 10 = xst x 10 := if_pos (by omega)
  refine ⟨cell, ?_, t2, t3, by rw [← e1]; exact t4, by rw [← e1]; exact t5, fun j hj => by rw [← e2]; exact t6 j (by rw [e1]; exact hj)⟩
  rw [hio, h.2.2.1 _ (Nat.not_le.mp t7)]
  exact t1
theorem r_sld {ρ : Type} {p : Program} {l : Launch} {e : Env} {R : Room} {s : State} {m : MethodId} {args : Array Value} {below : List Frame} {meth : Method} {c : Code} {x : Cx} {cc : ByteArray} {y : MethodName} {ret : Option FieldType} {nL cells slots pc : Nat} {Q : ρ → Mem → State → Prop} {li : List (Nat × Int32)} {ll : List (Nat × Int64)} {lr : List (Nat × Option Nat)} {st : List Value} {M : Mem} {xs : Nat → Int32} {L : Nat} {w : Option Nat} {i : Int32} {K : Int32 → Option (ρ × Mem)} (E : EE p s m args meth c x cc y nL ret) (hxs : xL x 10 = L ∧ ∀ j, xI x 10 j = xs j) (d : decode cc pc = .ok (.iaload, 1))
    (k : ∀ v, RT p l e R s m args below meth c x nL Q cells slots (K v) (pc + 1) li ll lr (.int v :: st) M) : RT p l e R s m args below meth c x nL Q cells slots (bo (sx xs L w i) K) pc li ll lr (.int i :: rv x w :: st) M := by
  intro v0 M0 h ls H locs a1 a2 a3
  by_cases hk : w = some 10 ∧ ¬ (i < 0 ∨ L ≤ i.toNatClampNeg)
  · simp only [sx, bo, if_pos hk] at h
    obtain ⟨rfl, hi⟩ := hk
    obtain ⟨cell, t1, t2, t3, t4, t5, t6⟩ := scr_view E.2.2.2.2.2.1 a2 hxs
    have hlt : i.toNatClampNeg < L := Nat.not_le.mp fun q => hi (Or.inr q)
    exact W.iald E.1 E.2.1 t1 t2 t3 (fun q => q.elim (fun q => hi (Or.inl q)) (fun q => hi (Or.inr (Nat.le_trans t4 q)))) (t6 _ hlt) rfl rfl d (k _ v0 M0 h ls H locs a1 a2 a3)
  · simp only [sx, bo, if_neg hk] at h
    cases h
theorem r_slen {ρ : Type} {p : Program} {l : Launch} {e : Env} {R : Room} {s : State} {m : MethodId} {args : Array Value} {below : List Frame} {meth : Method} {c : Code} {x : Cx} {cc : ByteArray} {y : MethodName} {ret : Option FieldType} {nL cells slots pc : Nat} {Q : ρ → Mem → State → Prop} {li : List (Nat × Int32)} {ll : List (Nat × Int64)} {lr : List (Nat × Option Nat)} {st : List Value} {M : Mem} {xs : Nat → Int32} {L : Nat} {w : Option Nat} {K : Int32 → Option (ρ × Mem)} (E : EE p s m args meth c x cc y nL ret) (hxs : xL x 10 = L ∧ ∀ j, xI x 10 j = xs j) (d : decode cc pc = .ok (.arraylength, 1))
    (k : ∀ v, RT p l e R s m args below meth c x nL Q cells slots (K v) (pc + 1) li ll lr (.int v :: st) M) : RT p l e R s m args below meth c x nL Q cells slots (bo (sxl L w) K) pc li ll lr (rv x w :: st) M := by
  intro v0 M0 h ls H locs a1 a2 a3
  by_cases hk : w = some 10
  · simp only [sxl, bo, if_pos hk] at h
    subst hk
    obtain ⟨cell, t1, t2, t3, t4, t5, t6⟩ := scr_view E.2.2.2.2.2.1 a2 hxs
    exact W.alen E.1 E.2.1 t1 t2 t5 rfl rfl d (k _ v0 M0 h ls H locs a1 a2 a3)
  · simp only [sxl, bo, if_neg hk] at h
    cases h
