/-! the memory of the system, by numbers of its cells: how many, kinds, lengths, int, long and reference places -/
abbrev Mem : Type := Nat × (Nat → Nat) × (Nat → Nat) × (Nat → Nat → Int32) × (Nat → Nat → Int64) × (Nat → Nat → Option Nat)
def mN (M : Mem) : Nat := M.1
def mK (M : Mem) (a : Nat) : Nat := M.2.1 a
def mL (M : Mem) (a : Nat) : Nat := M.2.2.1 a
def mI (M : Mem) (a j : Nat) : Int32 := M.2.2.2.1 a j
def mJ (M : Mem) (a j : Nat) : Int64 := M.2.2.2.2.1 a j
def mR (M : Mem) (a j : Nat) : Option Nat := M.2.2.2.2.2 a j
def sI (M : Mem) (a j : Nat) (v : Int32) : Mem := (M.1, M.2.1, M.2.2.1, fun b i => if b = a ∧ i = j then v else M.2.2.2.1 b i, M.2.2.2.2.1, M.2.2.2.2.2)
def sJ (M : Mem) (a j : Nat) (v : Int64) : Mem := (M.1, M.2.1, M.2.2.1, M.2.2.2.1, fun b i => if b = a ∧ i = j then v else M.2.2.2.2.1 b i, M.2.2.2.2.2)
def sR (M : Mem) (a j : Nat) (v : Option Nat) : Mem := (M.1, M.2.1, M.2.2.1, M.2.2.2.1, M.2.2.2.2.1, fun b i => if b = a ∧ i = j then v else M.2.2.2.2.2 b i)
def nA (M : Mem) (k n : Nat) : Mem := (M.1 + 1, fun b => if b = M.1 then k else M.2.1 b, fun b => if b = M.1 then n else M.2.2.1 b, fun b i => if b = M.1 then 0 else M.2.2.2.1 b i, fun b i => if b = M.1 then 0 else M.2.2.2.2.1 b i, fun b i => if b = M.1 then none else M.2.2.2.2.2 b i)
def cpI (M : Mem) (a sp b dp n : Nat) : Mem := (M.1, M.2.1, M.2.2.1, fun c i => if c = b ∧ dp ≤ i ∧ i < dp + n then M.2.2.2.1 a (sp + (i - dp)) else M.2.2.2.1 c i, M.2.2.2.2.1, M.2.2.2.2.2)
theorem mN_sI (M : Mem) (a j : Nat) (v : Int32) : mN (sI M a j v) = mN M := rfl
theorem mK_sI (M : Mem) (a j : Nat) (v : Int32) (b : Nat) : mK (sI M a j v) b = mK M b := rfl
theorem mL_sI (M : Mem) (a j : Nat) (v : Int32) (b : Nat) : mL (sI M a j v) b = mL M b := rfl
theorem mI_sI (M : Mem) (a j : Nat) (v : Int32) (b i : Nat) : mI (sI M a j v) b i = if b = a ∧ i = j then v else mI M b i := rfl
theorem mJ_sI (M : Mem) (a j : Nat) (v : Int32) (b i : Nat) : mJ (sI M a j v) b i = mJ M b i := rfl
theorem mR_sI (M : Mem) (a j : Nat) (v : Int32) (b i : Nat) : mR (sI M a j v) b i = mR M b i := rfl
theorem mN_sJ (M : Mem) (a j : Nat) (v : Int64) : mN (sJ M a j v) = mN M := rfl
theorem mK_sJ (M : Mem) (a j : Nat) (v : Int64) (b : Nat) : mK (sJ M a j v) b = mK M b := rfl
theorem mL_sJ (M : Mem) (a j : Nat) (v : Int64) (b : Nat) : mL (sJ M a j v) b = mL M b := rfl
theorem mI_sJ (M : Mem) (a j : Nat) (v : Int64) (b i : Nat) : mI (sJ M a j v) b i = mI M b i := rfl
theorem mJ_sJ (M : Mem) (a j : Nat) (v : Int64) (b i : Nat) : mJ (sJ M a j v) b i = if b = a ∧ i = j then v else mJ M b i := rfl
theorem mR_sJ (M : Mem) (a j : Nat) (v : Int64) (b i : Nat) : mR (sJ M a j v) b i = mR M b i := rfl
theorem mN_sR (M : Mem) (a j : Nat) (v : Option Nat) : mN (sR M a j v) = mN M := rfl
theorem mK_sR (M : Mem) (a j : Nat) (v : Option Nat) (b : Nat) : mK (sR M a j v) b = mK M b := rfl
theorem mL_sR (M : Mem) (a j : Nat) (v : Option Nat) (b : Nat) : mL (sR M a j v) b = mL M b := rfl
theorem mI_sR (M : Mem) (a j : Nat) (v : Option Nat) (b i : Nat) : mI (sR M a j v) b i = mI M b i := rfl
theorem mJ_sR (M : Mem) (a j : Nat) (v : Option Nat) (b i : Nat) : mJ (sR M a j v) b i = mJ M b i := rfl
theorem mR_sR (M : Mem) (a j : Nat) (v : Option Nat) (b i : Nat) : mR (sR M a j v) b i = if b = a ∧ i = j then v else mR M b i := rfl
theorem mN_nA (M : Mem) (k n : Nat) : mN (nA M k n) = mN M + 1 := rfl
theorem mK_nA (M : Mem) (k n b : Nat) : mK (nA M k n) b = if b = mN M then k else mK M b := rfl
theorem mL_nA (M : Mem) (k n b : Nat) : mL (nA M k n) b = if b = mN M then n else mL M b := rfl
theorem mI_nA (M : Mem) (k n b i : Nat) : mI (nA M k n) b i = if b = mN M then 0 else mI M b i := rfl
theorem mJ_nA (M : Mem) (k n b i : Nat) : mJ (nA M k n) b i = if b = mN M then 0 else mJ M b i := rfl
theorem mR_nA (M : Mem) (k n b i : Nat) : mR (nA M k n) b i = if b = mN M then none else mR M b i := rfl
theorem mN_cpI (M : Mem) (a sp b dp n : Nat) : mN (cpI M a sp b dp n) = mN M := rfl
theorem mK_cpI (M : Mem) (a sp b dp n c : Nat) : mK (cpI M a sp b dp n) c = mK M c := rfl
theorem mL_cpI (M : Mem) (a sp b dp n c : Nat) : mL (cpI M a sp b dp n) c = mL M c := rfl
theorem mI_cpI (M : Mem) (a sp b dp n c i : Nat) : mI (cpI M a sp b dp n) c i = if c = b ∧ dp ≤ i ∧ i < dp + n then mI M a (sp + (i - dp)) else mI M c i := rfl
theorem mJ_cpI (M : Mem) (a sp b dp n c i : Nat) : mJ (cpI M a sp b dp n) c i = mJ M c i := rfl
theorem mR_cpI (M : Mem) (a sp b dp n c i : Nat) : mR (cpI M a sp b dp n) c i = mR M c i := rfl
/-! the steps that touch the memory; 'none' where the machine would throw, or where a kind is another one -/
def bo {α β : Type} (o : Option α) (K : α → Option β) : Option β := match o with
  | none => none
  | some a => K a
def bd {α β : Type} (o : Option (α × Mem)) (K : α → Mem → Option β) : Option β := match o with
  | none => none
  | some q => K q.1 q.2
def bn {α β : Type} (a : α) (K : α → β) : β := K a
def gI (M : Mem) (r : Option Nat) (k j : Nat) : Option Int32 := match r with
  | none => none
  | some a => if mK M a = k then some (mI M a j) else none
def gJ (M : Mem) (r : Option Nat) (k j : Nat) : Option Int64 := match r with
  | none => none
  | some a => if mK M a = k then some (mJ M a j) else none
def gR (M : Mem) (r : Option Nat) (k j : Nat) : Option (Option Nat) := match r with
  | none => none
  | some a => if mK M a = k then some (mR M a j) else none
def pI (M : Mem) (r : Option Nat) (k j : Nat) (v : Int32) : Option Mem := match r with
  | none => none
  | some a => if mK M a = k then some (sI M a j v) else none
def pZ (M : Mem) (r : Option Nat) (k j : Nat) (v : Int32) : Option Mem := match r with
  | none => none
  | some a => if mK M a = k ∧ (v = 0 ∨ v = 1) then some (sI M a j v) else none
def pJ (M : Mem) (r : Option Nat) (k j : Nat) (v : Int64) : Option Mem := match r with
  | none => none
  | some a => if mK M a = k then some (sJ M a j v) else none
def pR (M : Mem) (r : Option Nat) (k j : Nat) (v : Option Nat) : Option Mem := match r with
  | none => none
  | some a => if mK M a = k then some (sR M a j v) else none
def aI (M : Mem) (r : Option Nat) (k : Nat) (i : Int32) : Option Int32 := match r with
  | none => none
  | some a => if (mK M a = k ∨ (k = 15 ∧ mK M a = 21)) ∧ ¬ (i < 0 ∨ mL M a ≤ i.toNatClampNeg) then some (mI M a i.toNatClampNeg) else none
def aJ (M : Mem) (r : Option Nat) (i : Int32) : Option Int64 := match r with
  | none => none
  | some a => if mK M a = 16 ∧ ¬ (i < 0 ∨ mL M a ≤ i.toNatClampNeg) then some (mJ M a i.toNatClampNeg) else none
def aR (M : Mem) (r : Option Nat) (k : Nat) (i : Int32) : Option (Option Nat) := match r with
  | none => none
  | some a => if mK M a = k ∧ ¬ (i < 0 ∨ mL M a ≤ i.toNatClampNeg) then some (mR M a i.toNatClampNeg) else none
def wI (M : Mem) (r : Option Nat) (i v : Int32) : Option Mem := match r with
  | none => none
  | some a => if mK M a = 15 ∧ ¬ (i < 0 ∨ mL M a ≤ i.toNatClampNeg) then some (sI M a i.toNatClampNeg v) else none
def wB (M : Mem) (r : Option Nat) (i v : Int32) : Option Mem := match r with
  | none => none
  | some a => if mK M a = 14 ∧ ¬ (i < 0 ∨ mL M a ≤ i.toNatClampNeg) then some (sI M a i.toNatClampNeg v.toInt8.toInt32) else none
def wS (M : Mem) (r : Option Nat) (i v : Int32) : Option Mem := match r with
  | none => none
  | some a => if mK M a = 17 ∧ ¬ (i < 0 ∨ mL M a ≤ i.toNatClampNeg) then some (sI M a i.toNatClampNeg v.toInt16.toInt32) else none
def wZ (M : Mem) (r : Option Nat) (i v : Int32) : Option Mem := match r with
  | none => none
  | some a => if mK M a = 18 ∧ ¬ (i < 0 ∨ mL M a ≤ i.toNatClampNeg) then some (sI M a i.toNatClampNeg (v &&& 1)) else none
def wJ (M : Mem) (r : Option Nat) (i : Int32) (v : Int64) : Option Mem := match r with
  | none => none
  | some a => if mK M a = 16 ∧ ¬ (i < 0 ∨ mL M a ≤ i.toNatClampNeg) then some (sJ M a i.toNatClampNeg v) else none
def wR (M : Mem) (r : Option Nat) (k ek : Nat) (i : Int32) (v : Option Nat) : Option Mem := match r with
  | none => none
  | some a => match v with
    | none => none
    | some b => if mK M a = k ∧ mK M b = ek ∧ ¬ (i < 0 ∨ mL M a ≤ i.toNatClampNeg) then some (sR M a i.toNatClampNeg (some b)) else none
def aL (M : Mem) (r : Option Nat) : Option Int32 := match r with
  | none => none
  | some a => if 14 ≤ mK M a ∧ mK M a ≤ 21 then some (Int32.ofNat (mL M a)) else none
def cI (M : Mem) (rs : Option Nat) (sp : Int32) (rd : Option Nat) (dp n : Int32) : Option Mem := match rs with
  | none => none
  | some a => match rd with
    | none => none
    | some b => if (mK M a = 15 ∨ mK M a = 21) ∧ mK M b = 15 ∧ ¬ sp < 0 ∧ ¬ dp < 0 ∧ ¬ n < 0 ∧ sp.toNatClampNeg + n.toNatClampNeg ≤ mL M a ∧ dp.toNatClampNeg + n.toNatClampNeg ≤ mL M b then some (cpI M a sp.toNatClampNeg b dp.toNatClampNeg n.toNatClampNeg) else none
def nwA (M : Mem) (k : Nat) (n : Int32) (bd : Nat) : Option (Option Nat × Mem) := if ¬ n < 0 ∧ n.toNatClampNeg ≤ bd then some (some (mN M), nA M k n.toNatClampNeg) else none
def chk (M : Mem) (r : Option Nat) (k : Nat) : Option Unit := match r with
  | none => none
  | some a => if mK M a = k then some () else none
def chN (M : Mem) (r : Option Nat) (k : Nat) : Option Unit := match r with
  | none => some ()
  | some a => if mK M a = k then some () else none
def rtZ (v : Int32) (M : Mem) : Option (Int32 × Mem) := if v = 0 ∨ v = 1 then some (v, M) else none
def lp {α ρ : Type} (body : (α → Mem → Option ρ) → α → Mem → Option ρ) : Nat → α → Mem → Option ρ
  | 0 => fun _ _ => none
  | n + 1 => body (lp body n)
def FU : Nat := 1000000
def dv (x y : Int32) : Option Int32 := if y = 0 then none else some (x / y)
def rm (x y : Int32) : Option Int32 := if y = 0 then none else some (x - x / y * y)
def dvL (x y : Int64) : Option Int64 := if y = 0 then none else some (x / y)
def nestM : List (String × Nat × MethodName × String) := [("TabledFrames$Table", 85, ⟨"TabledFrames", "logOf", "(J)I"⟩, "TabledFrames"), ("TabledFrames$Dictionary", 38, ⟨"TabledFrames", "rememberFirst", "([ILTabledFrames$Dictionary;)V"⟩, "TabledFrames"), ("TabledFrames$Back", 31, ⟨"TabledFrames", "logOf", "(J)I"⟩, "TabledFrames"), ("TabledFrames$Weights", 100, ⟨"TabledFrames", "logOf", "(J)I"⟩, "TabledFrames"), ("TabledFrames$Sequences", 97, ⟨"TabledFrames", "rememberFirst", "([ILTabledFrames$Dictionary;)V"⟩, "TabledFrames"), ("TabledFrames$Sequences", 222, ⟨"TabledFrames", "baseOf", "(I)[I"⟩, "TabledFrames"), ("TabledFrames$Sequences", 226, ⟨"TabledFrames", "extraOf", "(I)[I"⟩, "TabledFrames"), ("TabledFrames$Sequences", 193, ⟨"TabledFrames", "offsetOf", "([IJI)J"⟩, "TabledFrames"), ("TabledFrames$Sequences", 205, ⟨"TabledFrames", "whichOf", "(JI)I"⟩, "TabledFrames"), ("TabledFrames$Sequences", 209, ⟨"TabledFrames", "remember", "([III)V"⟩, "TabledFrames"), ("TabledFrames$Row", 56, ⟨"TabledFrames", "round", "(JJ)J"⟩, "TabledFrames"), ("TabledFrames$Row", 60, ⟨"TabledFrames", "turn", "(JI)J"⟩, "TabledFrames"), ("TabledFrames$Packer", 130, ⟨"TabledFrames", "logOf", "(J)I"⟩, "TabledFrames"), ("TabledFrames$Packer", 89, ⟨"TabledFrames", "rememberFirst", "([ILTabledFrames$Dictionary;)V"⟩, "TabledFrames"), ("TabledFrames$Packer", 173, ⟨"TabledFrames", "offsetOf", "([IJI)J"⟩, "TabledFrames"), ("TabledFrames$Packer", 159, ⟨"TabledFrames", "whichOf", "(JI)I"⟩, "TabledFrames"), ("TabledFrames$Packer", 163, ⟨"TabledFrames", "remember", "([III)V"⟩, "TabledFrames"), ("TabledFrames$Packer", 281, ⟨"TabledFrames", "baseOf", "(I)[I"⟩, "TabledFrames"), ("TabledFrames$Packer", 285, ⟨"TabledFrames", "extraOf", "(I)[I"⟩, "TabledFrames")]
def nestF : List (String × Nat × String × String × String × String) := [("TabledFrames$Table", 25, "TabledFrames", "DEFAULT_LETTERS", "[I", "TabledFrames"), ("TabledFrames$Table", 28, "TabledFrames", "DEFAULT_OFFSETS", "[I", "TabledFrames"), ("TabledFrames$Table", 31, "TabledFrames", "DEFAULT_COPIES", "[I", "TabledFrames"), ("TabledFrames$Table", 50, "TabledFrames", "DEFAULT_LOG", "[I", "TabledFrames"), ("TabledFrames$Dictionary", 78, "TabledFrames", "GREATEST", "[I", "TabledFrames"), ("TabledFrames$Dictionary", 81, "TabledFrames", "MOST_LOG", "[I", "TabledFrames"), ("TabledFrames$Sequences", 129, "TabledFrames", "GREATEST", "[I", "TabledFrames"), ("TabledFrames$Sequences", 135, "TabledFrames", "MOST_LOG", "[I", "TabledFrames")]
def shlI (x y : Int32) : Int32 := x <<< (y &&& 31)
def shrI (x y : Int32) : Int32 := x >>> (y &&& 31)
def ushI (x y : Int32) : Int32 := (x.toUInt32 >>> (y.toUInt32 &&& Int32.toUInt32 31)).toInt32
def shlJ (x : Int64) (y : Int32) : Int64 := x <<< (y.toInt64 &&& 63)
def shrJ (x : Int64) (y : Int32) : Int64 := x >>> (y.toInt64 &&& 63)
def ushJ (x : Int64) (y : Int32) : Int64 := (x.toUInt64 >>> (y.toInt64.toUInt64 &&& Int64.toUInt64 63)).toInt64
def i2b (x : Int32) : Int32 := x.toInt8.toInt32
def i2s (x : Int32) : Int32 := x.toInt16.toInt32
/-! the words, the tables -/
def AL : List Cond := lw_tbl.filter goodWord
theorem AL_good : GoodIn AL AL := fun w h => ⟨h, good_of_word (List.mem_filter.mp h).2⟩
theorem AL_in {w : Cond} (h : w ∈ lw_tbl) (g : goodWord w = true) : w ∈ AL := List.mem_filter.mpr ⟨h, g⟩
theorem AL_call {w : Cond} (h : w ∈ AL) : GoodIn AL (w :: AL) := fun v hv => (List.mem_cons.mp hv).elim (fun e => e ▸ AL_good w h) (AL_good v)
def tyC (ci : Nat) : Nat → FieldType := match ci with
  | 0 => tyX0
  | 1 => tyX1
  | 2 => tyX2
  | 3 => tyX3
  | 4 => tyX4
  | 5 => tyX5
  | 6 => tyX6
  | 7 => tyX7
  | 8 => tyX8
  | 9 => tyX9
  | 10 => tyX10
  | 11 => tyX11
  | 12 => tyX12
  | _ => tyX13
def ety (k : Nat) : FieldType := match k with
  | 14 => .byte
  | 15 => .int
  | 16 => .long
  | 17 => .short
  | 18 => .boolean
  | 19 => .object "TabledFrames$Dictionary"
  | _ => .object "TabledFrames$Table"
def snm (a : Nat) : String := match a with
  | 0 => "GREATEST"
  | 1 => "MOST_LOG"
  | 2 => "DEFAULT_LOG"
  | 3 => "DEFAULT_LETTERS"
  | 4 => "DEFAULT_OFFSETS"
  | 5 => "DEFAULT_COPIES"
  | 6 => "LETTERS_BASE"
  | 7 => "LETTERS_BITS"
  | 8 => "COPIES_BASE"
  | _ => "COPIES_BITS"
/-- of a run: the classes' numbers, their slots, the array classes, where the static arrays and the script lie, where the new cells begin, the heap before, the script -/
abbrev Cx : Type := (Nat → ClassId) × (Nat → Nat → Nat) × (Nat → ClassId) × (Nat → Nat) × Nat × Heap × (Nat → Nat) × (Nat → Nat → Int32)
def xst (x : Cx) : Nat → Nat := x.2.2.2.1
def xb (x : Cx) : Nat := x.2.2.2.2.1
def xH (x : Cx) : Heap := x.2.2.2.2.2.1
def xL (x : Cx) : Nat → Nat := x.2.2.2.2.2.2.1
def xI (x : Cx) : Nat → Nat → Int32 := x.2.2.2.2.2.2.2
def io (x : Cx) (a : Nat) : Nat := if a < 11 then xst x a else xb x + (a - 11)
def rv (x : Cx) (r : Option Nat) : Value := match r with
  | none => .null
  | some a => .ref (io x a)
theorem rv_cat (x : Cx) (r : Option Nat) : (rv x r).category = 1 := by cases r <;> rfl
def vl (x : Cx) (M : Mem) (ty : FieldType) (a j : Nat) : Value := match ty with
  | .long => .long (mJ M a j)
  | .object _ => rv x (mR M a j)
  | .array _ => rv x (mR M a j)
  | _ => .int (mI M a j)
def cOK (x : Cx) (M : Mem) (a : Nat) (H : Heap) : Prop :=
  (∀ q : vw_C, vwCl[mK M a]? = some q → t_OB (io x a) (x.1 (mK M a)) q.2.2 (x.2.1 (mK M a)) H (fun j => vl x M (tyC (mK M a) j) a j)) ∧
  (14 ≤ mK M a → H[io x a]? = some (arrV (x.2.2.1 (mK M a)) (mL M a) (vl x M (ety (mK M a)) a)))
def Hp (x : Cx) (M : Mem) (H : Heap) : Prop :=
  11 ≤ mN M ∧ H.size + 11 = xb x + mN M ∧ (∀ q : Nat, q < xb x → H[q]? = (xH x)[q]?) ∧ (∀ a, mN M ≤ a → mK M a = 99) ∧
  (∀ a, a < 11 → mK M a = (if a = 10 then 22 else 21) ∧ (a < 10 → mL M a = xL x a ∧ ∀ j, mI M a j = xI x a j)) ∧ (∀ a, 11 ≤ a → a < mN M → mK M a < 21 ∧ cOK x M a H)
def Kn (x : Cx) (s : State) : Prop :=
  (∀ (c : Nat) (q : vw_C), vwCl[c]? = some q → u_Kn s q.1 q.2.1 q.2.2 (x.1 c) (x.2.1 c)) ∧
  (∀ k, 14 ≤ k → k < 21 → ArrOfT s (x.2.2.1 k) (ety k) ∧ va_RA s (x.2.2.1 k) (ety k)) ∧
  (∀ a, a < 11 → va_T .int (xst x a) (xL x a) (fun j => .int (xI x a j)) (fun q => xb x ≤ q) s (xH x)) ∧
  (∀ a, a < 10 → va_Z "TabledFrames" (snm a) "[I" (.ref (xst x a)) (fun q => xb x ≤ q) s (xH x)) ∧
  (∀ q ∈ nestM, va_Nw (.methodLinkNest q.1 q.2.1 q.2.2.1 q.2.2.2) s) ∧ (∀ q ∈ nestF, va_Nw (.fieldLinkNest q.1 q.2.1 q.2.2.1 q.2.2.2.1 q.2.2.2.2.1 q.2.2.2.2.2) s) ∧
  va_AO "TabledFrames$Dictionary" s ∧ va_AO "TabledFrames$Table" s
theorem Kn.alike {x : Cx} {s U : State} (hvm : s.vm.Alike U.vm) (h1 : ∀ q ∈ nestM, va_Nw (.methodLinkNest q.1 q.2.1 q.2.2.1 q.2.2.2) U) (h2 : ∀ q ∈ nestF, va_Nw (.fieldLinkNest q.1 q.2.1 q.2.2.1 q.2.2.2.1 q.2.2.2.2.1 q.2.2.2.2.2) U) (h : Kn x s) : Kn x U :=
  ⟨fun c q hq => u_Kn_moved hvm (h.1 c q hq), fun k ha hb => ⟨arrOfT_moved hvm (h.2.1 k ha hb).1, (h.2.1 k ha hb).2.moved hvm⟩, fun a ha => (h.2.2.1 a ha).moved hvm, fun a ha => (h.2.2.2.1 a ha).moved hvm, h1, h2, h.2.2.2.2.2.2.1.moved hvm, h.2.2.2.2.2.2.2.moved hvm⟩
theorem Kn.warm {x : Cx} {s U : State} (hW : s.WarmedH U.vm) (h : Kn x s) : Kn x U :=
  h.alike hW.alike (fun q hq => va_Nw.warmM hW (h.2.2.2.2.1 q hq)) (fun q hq => va_Nw.warmF hW (h.2.2.2.2.2.1 q hq))
theorem Kn.same {x : Cx} {s U : State} (hv : s.vm = U.vm) (h : Kn x s) : Kn x U :=
  h.alike (hv ▸ Vm.Alike.refl s.vm) (fun q hq => va_Nw.same rfl hv (h.2.2.2.2.1 q hq)) (fun q hq => va_Nw.same rfl hv (h.2.2.2.2.2.1 q hq))
def flat (x : Cx) (li : List (Nat × Int32)) (ll : List (Nat × Int64)) (lr : List (Nat × Option Nat)) : List (Nat × Value) :=
  li.map (fun q => (q.1, Value.int q.2)) ++ (ll.map (fun q => (q.1, Value.long q.2)) ++ lr.map (fun q => (q.1, rv x q.2)))
def QQ (x : Cx) (ov : Option Value) (M : Mem) : Array Value → State → Outcome → State → Prop := fun _ _ o t => o = .returned ov ∧ Hp x M t.heap
def EE (p : Program) (s : State) (m : MethodId) (args : Array Value) (meth : Method) (c : Code) (x : Cx) (cc : ByteArray) (y : MethodName) (nL : Nat) (ret : Option FieldType) : Prop :=
  p.tables.exec = Jvm.exec ∧ c.code = cc ∧ s.vm.findClass y.cls = some m.cls ∧ (∀ w ∈ AL, w.before args s = true) ∧ c.maxLocals = nL ∧ Kn x s ∧ meth.sig.returnType = ret ∧ meth.locks = false ∧ (y.name = "<init>" → meth.name = "<init>")
def RT {ρ : Type} (p : Program) (l : Launch) (e : Env) (R : Room) (s : State) (m : MethodId) (args : Array Value) (below : List Frame) (meth : Method) (c : Code) (x : Cx) (nL : Nat) (Q : ρ → Mem → State → Prop) (cells slots : Nat) (r : Option (ρ × Mem)) (pc : Nat) (li : List (Nat × Int32)) (ll : List (Nat × Int64)) (lr : List (Nat × Option Nat)) (st : List Value) (M : Mem) : Prop :=
  ∀ v M', r = some (v, M') → ∀ (ls : Array Slot) (H : Heap) (locs : List Loc), lv_has ls nL (flat x li ll lr) → Hp x M H → (∀ q ∈ locs, xb x ≤ q.base) → W p l e R s m args below meth c H locs cells slots (Q v M') (F0 m pc ls st)
def QM {ρ : Type} (below : List Frame) (args : Array Value) (s : State) (x : Cx) (enc : ρ → Option Value) (mc ms : Nat) : ρ → Mem → State → Prop := fun v M' => MQ below (QQ x (enc v) M') args s mc ms (fun q => xb x ≤ q)
section RTR
variable {ρ : Type} {p : Program} {l : Launch} {e : Env} {R : Room} {s : State} {m : MethodId} {args : Array Value} {below : List Frame} {meth : Method} {c : Code} {x : Cx} {cc : ByteArray} {y : MethodName} {ret : Option FieldType} {nL cells slots pc : Nat} {Q : ρ → Mem → State → Prop} {r : Option (ρ × Mem)} {li : List (Nat × Int32)} {ll : List (Nat × Int64)} {lr : List (Nat × Option Nat)} {st : List Value} {M : Mem}
/-! what touches neither memory nor locals -/
theorem r_none : RT p l e R s m args below meth c x nL Q cells slots (none : Option (ρ × Mem)) pc li ll lr st M := fun _ _ h => by cases h
theorem r_iconst (E : EE p s m args meth c x cc y nL ret) {n : Int} {v : Int32} (d : decode cc pc = .ok (.iconst n, 1)) (hv : Int32.ofInt n = v) (k : RT p l e R s m args below meth c x nL Q cells slots r (pc + 1) li ll lr (.int v :: st) M) : RT p l e R s m args below meth c x nL Q cells slots r pc li ll lr st M :=
  fun v M' h ls H locs a1 a2 a3 => lv_iconst E.1 E.2.1 d hv (k v M' h ls H locs a1 a2 a3)
theorem r_bipush (E : EE p s m args meth c x cc y nL ret) {n : Int} {v : Int32} (d : decode cc pc = .ok (.bipush n, 2)) (hv : (Int8.ofInt n).toInt32 = v) (k : RT p l e R s m args below meth c x nL Q cells slots r (pc + 2) li ll lr (.int v :: st) M) : RT p l e R s m args below meth c x nL Q cells slots r pc li ll lr st M :=
  fun v M' h ls H locs a1 a2 a3 => lv_bipush E.1 E.2.1 d hv (k v M' h ls H locs a1 a2 a3)
theorem r_sipush (E : EE p s m args meth c x cc y nL ret) {n : Int} {v : Int32} (d : decode cc pc = .ok (.sipush n, 3)) (hv : (Int16.ofInt n).toInt32 = v) (k : RT p l e R s m args below meth c x nL Q cells slots r (pc + 3) li ll lr (.int v :: st) M) : RT p l e R s m args below meth c x nL Q cells slots r pc li ll lr st M :=
  fun v M' h ls H locs a1 a2 a3 => lv_sipush E.1 E.2.1 d hv (k v M' h ls H locs a1 a2 a3)
theorem r_lconst (E : EE p s m args meth c x cc y nL ret) {n : Fin 2} {v : Int64} (d : decode cc pc = .ok (.lconst n, 1)) (hv : Int64.ofNat (n : Nat) = v) (k : RT p l e R s m args below meth c x nL Q cells slots r (pc + 1) li ll lr (.long v :: st) M) : RT p l e R s m args below meth c x nL Q cells slots r pc li ll lr st M :=
  fun v M' h ls H locs a1 a2 a3 => lv_lconst E.1 E.2.1 d hv (k v M' h ls H locs a1 a2 a3)
theorem r_ldc (E : EE p s m args meth c x cc y nL ret) {i : Nat} {v : Int32} (w : Cond.constant y.cls i v ∈ AL) (d : decode cc pc = .ok (.ldc i, 2)) (k : RT p l e R s m args below meth c x nL Q cells slots r (pc + 2) li ll lr (.int v :: st) M) : RT p l e R s m args below meth c x nL Q cells slots r pc li ll lr st M :=
  fun v M' h ls H locs a1 a2 a3 => lv_ldc E.1 E.2.1 E.2.2.1 (E.2.2.2.1 _ w) d (k v M' h ls H locs a1 a2 a3)
theorem r_ldc_w (E : EE p s m args meth c x cc y nL ret) {i : Nat} {v : Int32} (w : Cond.constant y.cls i v ∈ AL) (d : decode cc pc = .ok (.ldc_w i, 3)) (k : RT p l e R s m args below meth c x nL Q cells slots r (pc + 3) li ll lr (.int v :: st) M) : RT p l e R s m args below meth c x nL Q cells slots r pc li ll lr st M :=
  fun v M' h ls H locs a1 a2 a3 => lv_ldcw E.1 E.2.1 E.2.2.1 (E.2.2.2.1 _ w) d (k v M' h ls H locs a1 a2 a3)
theorem r_ldc2 (E : EE p s m args meth c x cc y nL ret) {i : Nat} {v : Int64} (w : Cond.constantLong y.cls i v ∈ AL) (d : decode cc pc = .ok (.ldc2_w i, 3)) (k : RT p l e R s m args below meth c x nL Q cells slots r (pc + 3) li ll lr (.long v :: st) M) : RT p l e R s m args below meth c x nL Q cells slots r pc li ll lr st M :=
  fun v M' h ls H locs a1 a2 a3 => lv_ldc2 E.1 E.2.1 E.2.2.1 (E.2.2.2.1 _ w) d (k v M' h ls H locs a1 a2 a3)
theorem r_iadd (E : EE p s m args meth c x cc y nL ret) {u v : Int32} (d : decode cc pc = .ok (.iadd, 1)) (k : RT p l e R s m args below meth c x nL Q cells slots r (pc + 1) li ll lr (.int (u + v) :: st) M) : RT p l e R s m args below meth c x nL Q cells slots r pc li ll lr (.int v :: .int u :: st) M :=
  fun v0 M0 h ls H locs a1 a2 a3 => lv_iadd E.1 E.2.1 d (k v0 M0 h ls H locs a1 a2 a3)
theorem r_isub (E : EE p s m args meth c x cc y nL ret) {u v : Int32} (d : decode cc pc = .ok (.isub, 1)) (k : RT p l e R s m args below meth c x nL Q cells slots r (pc + 1) li ll lr (.int (u - v) :: st) M) : RT p l e R s m args below meth c x nL Q cells slots r pc li ll lr (.int v :: .int u :: st) M :=
  fun v0 M0 h ls H locs a1 a2 a3 => lv_isub E.1 E.2.1 d (k v0 M0 h ls H locs a1 a2 a3)
theorem r_imul (E : EE p s m args meth c x cc y nL ret) {u v : Int32} (d : decode cc pc = .ok (.imul, 1)) (k : RT p l e R s m args below meth c x nL Q cells slots r (pc + 1) li ll lr (.int (u * v) :: st) M) : RT p l e R s m args below meth c x nL Q cells slots r pc li ll lr (.int v :: .int u :: st) M :=
  fun v0 M0 h ls H locs a1 a2 a3 => lv_imul E.1 E.2.1 d (k v0 M0 h ls H locs a1 a2 a3)
theorem r_iand (E : EE p s m args meth c x cc y nL ret) {u v : Int32} (d : decode cc pc = .ok (.iand, 1)) (k : RT p l e R s m args below meth c x nL Q cells slots r (pc + 1) li ll lr (.int (u &&& v) :: st) M) : RT p l e R s m args below meth c x nL Q cells slots r pc li ll lr (.int v :: .int u :: st) M :=
  fun v0 M0 h ls H locs a1 a2 a3 => lv_iand E.1 E.2.1 d (k v0 M0 h ls H locs a1 a2 a3)
theorem r_ior (E : EE p s m args meth c x cc y nL ret) {u v : Int32} (d : decode cc pc = .ok (.ior, 1)) (k : RT p l e R s m args below meth c x nL Q cells slots r (pc + 1) li ll lr (.int (u ||| v) :: st) M) : RT p l e R s m args below meth c x nL Q cells slots r pc li ll lr (.int v :: .int u :: st) M :=
  fun v0 M0 h ls H locs a1 a2 a3 => lv_ior E.1 E.2.1 d (k v0 M0 h ls H locs a1 a2 a3)
theorem r_ixor (E : EE p s m args meth c x cc y nL ret) {u v : Int32} (d : decode cc pc = .ok (.ixor, 1)) (k : RT p l e R s m args below meth c x nL Q cells slots r (pc + 1) li ll lr (.int (u ^^^ v) :: st) M) : RT p l e R s m args below meth c x nL Q cells slots r pc li ll lr (.int v :: .int u :: st) M :=
  fun v0 M0 h ls H locs a1 a2 a3 => lv_ixor E.1 E.2.1 d (k v0 M0 h ls H locs a1 a2 a3)
theorem r_ishl (E : EE p s m args meth c x cc y nL ret) {u v : Int32} (d : decode cc pc = .ok (.ishl, 1)) (k : RT p l e R s m args below meth c x nL Q cells slots r (pc + 1) li ll lr (.int (shlI u v) :: st) M) : RT p l e R s m args below meth c x nL Q cells slots r pc li ll lr (.int v :: .int u :: st) M :=
  fun v0 M0 h ls H locs a1 a2 a3 => lv_ishl E.1 E.2.1 d (k v0 M0 h ls H locs a1 a2 a3)
theorem r_ishr (E : EE p s m args meth c x cc y nL ret) {u v : Int32} (d : decode cc pc = .ok (.ishr, 1)) (k : RT p l e R s m args below meth c x nL Q cells slots r (pc + 1) li ll lr (.int (shrI u v) :: st) M) : RT p l e R s m args below meth c x nL Q cells slots r pc li ll lr (.int v :: .int u :: st) M :=
  fun v0 M0 h ls H locs a1 a2 a3 => lv_ishr E.1 E.2.1 d (k v0 M0 h ls H locs a1 a2 a3)
theorem r_iushr (E : EE p s m args meth c x cc y nL ret) {u v : Int32} (d : decode cc pc = .ok (.iushr, 1)) (k : RT p l e R s m args below meth c x nL Q cells slots r (pc + 1) li ll lr (.int (ushI u v) :: st) M) : RT p l e R s m args below meth c x nL Q cells slots r pc li ll lr (.int v :: .int u :: st) M :=
  fun v0 M0 h ls H locs a1 a2 a3 => lv_iushr E.1 E.2.1 d rfl (k v0 M0 h ls H locs a1 a2 a3)
theorem r_ladd (E : EE p s m args meth c x cc y nL ret) {u v : Int64} (d : decode cc pc = .ok (.ladd, 1)) (k : RT p l e R s m args below meth c x nL Q cells slots r (pc + 1) li ll lr (.long (u + v) :: st) M) : RT p l e R s m args below meth c x nL Q cells slots r pc li ll lr (.long v :: .long u :: st) M :=
  fun v0 M0 h ls H locs a1 a2 a3 => lv_ladd E.1 E.2.1 d (k v0 M0 h ls H locs a1 a2 a3)
theorem r_lsub (E : EE p s m args meth c x cc y nL ret) {u v : Int64} (d : decode cc pc = .ok (.lsub, 1)) (k : RT p l e R s m args below meth c x nL Q cells slots r (pc + 1) li ll lr (.long (u - v) :: st) M) : RT p l e R s m args below meth c x nL Q cells slots r pc li ll lr (.long v :: .long u :: st) M :=
  fun v0 M0 h ls H locs a1 a2 a3 => lv_lsub E.1 E.2.1 d (k v0 M0 h ls H locs a1 a2 a3)
theorem r_lmul (E : EE p s m args meth c x cc y nL ret) {u v : Int64} (d : decode cc pc = .ok (.lmul, 1)) (k : RT p l e R s m args below meth c x nL Q cells slots r (pc + 1) li ll lr (.long (u * v) :: st) M) : RT p l e R s m args below meth c x nL Q cells slots r pc li ll lr (.long v :: .long u :: st) M :=
  fun v0 M0 h ls H locs a1 a2 a3 => lv_lmul E.1 E.2.1 d (k v0 M0 h ls H locs a1 a2 a3)
theorem r_land (E : EE p s m args meth c x cc y nL ret) {u v : Int64} (d : decode cc pc = .ok (.land, 1)) (k : RT p l e R s m args below meth c x nL Q cells slots r (pc + 1) li ll lr (.long (u &&& v) :: st) M) : RT p l e R s m args below meth c x nL Q cells slots r pc li ll lr (.long v :: .long u :: st) M :=
  fun v0 M0 h ls H locs a1 a2 a3 => lv_land E.1 E.2.1 d (k v0 M0 h ls H locs a1 a2 a3)
theorem r_lor (E : EE p s m args meth c x cc y nL ret) {u v : Int64} (d : decode cc pc = .ok (.lor, 1)) (k : RT p l e R s m args below meth c x nL Q cells slots r (pc + 1) li ll lr (.long (u ||| v) :: st) M) : RT p l e R s m args below meth c x nL Q cells slots r pc li ll lr (.long v :: .long u :: st) M :=
  fun v0 M0 h ls H locs a1 a2 a3 => lv_lor E.1 E.2.1 d (k v0 M0 h ls H locs a1 a2 a3)
theorem r_lxor (E : EE p s m args meth c x cc y nL ret) {u v : Int64} (d : decode cc pc = .ok (.lxor, 1)) (k : RT p l e R s m args below meth c x nL Q cells slots r (pc + 1) li ll lr (.long (u ^^^ v) :: st) M) : RT p l e R s m args below meth c x nL Q cells slots r pc li ll lr (.long v :: .long u :: st) M :=
  fun v0 M0 h ls H locs a1 a2 a3 => lv_lxor E.1 E.2.1 d (k v0 M0 h ls H locs a1 a2 a3)
theorem r_lshl (E : EE p s m args meth c x cc y nL ret) {u : Int64} {v : Int32} (d : decode cc pc = .ok (.lshl, 1)) (k : RT p l e R s m args below meth c x nL Q cells slots r (pc + 1) li ll lr (.long (shlJ u v) :: st) M) : RT p l e R s m args below meth c x nL Q cells slots r pc li ll lr (.int v :: .long u :: st) M :=
  fun v0 M0 h ls H locs a1 a2 a3 => lv_lshl E.1 E.2.1 d rfl (k v0 M0 h ls H locs a1 a2 a3)
theorem r_lshr (E : EE p s m args meth c x cc y nL ret) {u : Int64} {v : Int32} (d : decode cc pc = .ok (.lshr, 1)) (k : RT p l e R s m args below meth c x nL Q cells slots r (pc + 1) li ll lr (.long (shrJ u v) :: st) M) : RT p l e R s m args below meth c x nL Q cells slots r pc li ll lr (.int v :: .long u :: st) M :=
  fun v0 M0 h ls H locs a1 a2 a3 => lv_lshr E.1 E.2.1 d rfl (k v0 M0 h ls H locs a1 a2 a3)
theorem r_lushr (E : EE p s m args meth c x cc y nL ret) {u : Int64} {v : Int32} (d : decode cc pc = .ok (.lushr, 1)) (k : RT p l e R s m args below meth c x nL Q cells slots r (pc + 1) li ll lr (.long (ushJ u v) :: st) M) : RT p l e R s m args below meth c x nL Q cells slots r pc li ll lr (.int v :: .long u :: st) M :=
  fun v0 M0 h ls H locs a1 a2 a3 => lv_lushr E.1 E.2.1 d rfl (k v0 M0 h ls H locs a1 a2 a3)
theorem r_lcmp (E : EE p s m args meth c x cc y nL ret) {u v : Int64} (d : decode cc pc = .ok (.lcmp, 1)) (k : RT p l e R s m args below meth c x nL Q cells slots r (pc + 1) li ll lr (.int (lg_cmp u v) :: st) M) : RT p l e R s m args below meth c x nL Q cells slots r pc li ll lr (.long v :: .long u :: st) M :=
  fun v0 M0 h ls H locs a1 a2 a3 => W.lcmp E.1 E.2.1 d (k v0 M0 h ls H locs a1 a2 a3)
theorem r_ineg (E : EE p s m args meth c x cc y nL ret) {u : Int32} (d : decode cc pc = .ok (.ineg, 1)) (k : RT p l e R s m args below meth c x nL Q cells slots r (pc + 1) li ll lr (.int (-u) :: st) M) : RT p l e R s m args below meth c x nL Q cells slots r pc li ll lr (.int u :: st) M :=
  fun v0 M0 h ls H locs a1 a2 a3 => lv_ineg E.1 E.2.1 d (k v0 M0 h ls H locs a1 a2 a3)
theorem r_i2l (E : EE p s m args meth c x cc y nL ret) {u : Int32} (d : decode cc pc = .ok (.i2l, 1)) (k : RT p l e R s m args below meth c x nL Q cells slots r (pc + 1) li ll lr (.long (u.toInt64) :: st) M) : RT p l e R s m args below meth c x nL Q cells slots r pc li ll lr (.int u :: st) M :=
  fun v0 M0 h ls H locs a1 a2 a3 => lv_i2l E.1 E.2.1 d rfl (k v0 M0 h ls H locs a1 a2 a3)
theorem r_l2i (E : EE p s m args meth c x cc y nL ret) {u : Int64} (d : decode cc pc = .ok (.l2i, 1)) (k : RT p l e R s m args below meth c x nL Q cells slots r (pc + 1) li ll lr (.int (u.toInt32) :: st) M) : RT p l e R s m args below meth c x nL Q cells slots r pc li ll lr (.long u :: st) M :=
  fun v0 M0 h ls H locs a1 a2 a3 => lv_l2i E.1 E.2.1 d rfl (k v0 M0 h ls H locs a1 a2 a3)
theorem r_i2b (E : EE p s m args meth c x cc y nL ret) {u : Int32} (d : decode cc pc = .ok (.i2b, 1)) (k : RT p l e R s m args below meth c x nL Q cells slots r (pc + 1) li ll lr (.int (i2b u) :: st) M) : RT p l e R s m args below meth c x nL Q cells slots r pc li ll lr (.int u :: st) M :=
  fun v0 M0 h ls H locs a1 a2 a3 => lv_i2b E.1 E.2.1 d rfl (k v0 M0 h ls H locs a1 a2 a3)
theorem r_i2s (E : EE p s m args meth c x cc y nL ret) {u : Int32} (d : decode cc pc = .ok (.i2s, 1)) (k : RT p l e R s m args below meth c x nL Q cells slots r (pc + 1) li ll lr (.int (i2s u) :: st) M) : RT p l e R s m args below meth c x nL Q cells slots r pc li ll lr (.int u :: st) M :=
  fun v0 M0 h ls H locs a1 a2 a3 => lv_i2s E.1 E.2.1 d rfl (k v0 M0 h ls H locs a1 a2 a3)
theorem r_idiv (E : EE p s m args meth c x cc y nL ret) {u v : Int32} {K : Int32 → Option (ρ × Mem)} (d : decode cc pc = .ok (.idiv, 1)) (k : ∀ z, RT p l e R s m args below meth c x nL Q cells slots (K z) (pc + 1) li ll lr (.int z :: st) M) : RT p l e R s m args below meth c x nL Q cells slots (bo (dv u v) K) pc li ll lr (.int v :: .int u :: st) M :=
  by
  intro v0 M0 h ls H locs a1 a2 a3
  unfold dv at h
  by_cases hz : v = 0
  · rw [if_pos hz] at h; cases h
  · rw [if_neg hz] at h
    exact lv_idiv E.1 E.2.1 d hz (k _ v0 M0 h ls H locs a1 a2 a3)
theorem r_irem (E : EE p s m args meth c x cc y nL ret) {u v : Int32} {K : Int32 → Option (ρ × Mem)} (d : decode cc pc = .ok (.irem, 1)) (k : ∀ z, RT p l e R s m args below meth c x nL Q cells slots (K z) (pc + 1) li ll lr (.int z :: st) M) : RT p l e R s m args below meth c x nL Q cells slots (bo (rm u v) K) pc li ll lr (.int v :: .int u :: st) M :=
  by
  intro v0 M0 h ls H locs a1 a2 a3
  unfold rm at h
  by_cases hz : v = 0
  · rw [if_pos hz] at h; cases h
  · rw [if_neg hz] at h
    exact lv_irem E.1 E.2.1 d hz (k _ v0 M0 h ls H locs a1 a2 a3)
theorem r_ldiv (E : EE p s m args meth c x cc y nL ret) {u v : Int64} {K : Int64 → Option (ρ × Mem)} (d : decode cc pc = .ok (.ldiv, 1)) (k : ∀ z, RT p l e R s m args below meth c x nL Q cells slots (K z) (pc + 1) li ll lr (.long z :: st) M) : RT p l e R s m args below meth c x nL Q cells slots (bo (dvL u v) K) pc li ll lr (.long v :: .long u :: st) M :=
  by
  intro v0 M0 h ls H locs a1 a2 a3
  unfold dvL at h
  by_cases hz : v = 0
  · rw [if_pos hz] at h; cases h
  · rw [if_neg hz] at h
    exact lv_ldiv E.1 E.2.1 d hz (k _ v0 M0 h ls H locs a1 a2 a3)
theorem r_null (E : EE p s m args meth c x cc y nL ret) (d : decode cc pc = .ok (.aconst_null, 1)) (k : RT p l e R s m args below meth c x nL Q cells slots r (pc + 1) li ll lr (rv x none :: st) M) : RT p l e R s m args below meth c x nL Q cells slots r pc li ll lr st M :=
  fun v0 M0 h ls H locs a1 a2 a3 => lv_null E.1 E.2.1 d (k v0 M0 h ls H locs a1 a2 a3)
theorem r_dup (E : EE p s m args meth c x cc y nL ret) {va : Value} (d : decode cc pc = .ok (.dup, 1)) (h1 : va.category = 1) (k : RT p l e R s m args below meth c x nL Q cells slots r (pc + 1) li ll lr (va :: va :: st) M) : RT p l e R s m args below meth c x nL Q cells slots r pc li ll lr (va :: st) M :=
  fun v0 M0 h ls H locs a1 a2 a3 => lv_dup E.1 E.2.1 d h1 (k v0 M0 h ls H locs a1 a2 a3)
theorem r_pop (E : EE p s m args meth c x cc y nL ret) {va : Value} (d : decode cc pc = .ok (.pop, 1)) (h1 : va.category = 1) (k : RT p l e R s m args below meth c x nL Q cells slots r (pc + 1) li ll lr st M) : RT p l e R s m args below meth c x nL Q cells slots r pc li ll lr (va :: st) M :=
  fun v0 M0 h ls H locs a1 a2 a3 => lv_pop E.1 E.2.1 d h1 (k v0 M0 h ls H locs a1 a2 a3)
theorem r_dup2 (E : EE p s m args meth c x cc y nL ret) {va vb : Value} (d : decode cc pc = .ok (.dup2, 1)) (h1 : va.category = 1) (h2 : vb.category = 1) (k : RT p l e R s m args below meth c x nL Q cells slots r (pc + 1) li ll lr (va :: vb :: va :: vb :: st) M) : RT p l e R s m args below meth c x nL Q cells slots r pc li ll lr (va :: vb :: st) M :=
  fun v0 M0 h ls H locs a1 a2 a3 => lv_dup2_11 E.1 E.2.1 d h1 h2 (k v0 M0 h ls H locs a1 a2 a3)
theorem r_iload_n (E : EE p s m args meth c x cc y nL ret) {n : Fin 4} {i : Nat} {v : Int32} (d : decode cc pc = .ok (.iload_n n, 1)) (hi : (n : Nat) = i) (q : Nat) (hk : li[q]? = some (i, v)) (k : RT p l e R s m args below meth c x nL Q cells slots r (pc + 1) li ll lr (.int v :: st) M) : RT p l e R s m args below meth c x nL Q cells slots r pc li ll lr st M :=
  fun v0 M0 h ls H locs a1 a2 a3 => lv_iload_n E.1 E.2.1 d hi (a1.2.2 (i, .int v) (List.mem_append_left _ (List.mem_map.mpr ⟨_, List.mem_of_getElem? hk, rfl⟩))) (k v0 M0 h ls H locs a1 a2 a3)
theorem r_iload (E : EE p s m args meth c x cc y nL ret) {i : Nat} {v : Int32} (d : decode cc pc = .ok (.iload i, 2)) (q : Nat) (hk : li[q]? = some (i, v)) (k : RT p l e R s m args below meth c x nL Q cells slots r (pc + 2) li ll lr (.int v :: st) M) : RT p l e R s m args below meth c x nL Q cells slots r pc li ll lr st M :=
  fun v0 M0 h ls H locs a1 a2 a3 => lv_iload E.1 E.2.1 d (a1.2.2 (i, .int v) (List.mem_append_left _ (List.mem_map.mpr ⟨_, List.mem_of_getElem? hk, rfl⟩))) (k v0 M0 h ls H locs a1 a2 a3)
theorem r_lload_n (E : EE p s m args meth c x cc y nL ret) {n : Fin 4} {i : Nat} {v : Int64} (d : decode cc pc = .ok (.lload_n n, 1)) (hi : (n : Nat) = i) (q : Nat) (hk : ll[q]? = some (i, v)) (k : RT p l e R s m args below meth c x nL Q cells slots r (pc + 1) li ll lr (.long v :: st) M) : RT p l e R s m args below meth c x nL Q cells slots r pc li ll lr st M :=
  fun v0 M0 h ls H locs a1 a2 a3 => lv_lload_n E.1 E.2.1 d hi (a1.2.2 (i, .long v) (List.mem_append_right _ (List.mem_append_left _ (List.mem_map.mpr ⟨_, List.mem_of_getElem? hk, rfl⟩)))) (k v0 M0 h ls H locs a1 a2 a3)
theorem r_lload (E : EE p s m args meth c x cc y nL ret) {i : Nat} {v : Int64} (d : decode cc pc = .ok (.lload i, 2)) (q : Nat) (hk : ll[q]? = some (i, v)) (k : RT p l e R s m args below meth c x nL Q cells slots r (pc + 2) li ll lr (.long v :: st) M) : RT p l e R s m args below meth c x nL Q cells slots r pc li ll lr st M :=
  fun v0 M0 h ls H locs a1 a2 a3 => lv_lload E.1 E.2.1 d (a1.2.2 (i, .long v) (List.mem_append_right _ (List.mem_append_left _ (List.mem_map.mpr ⟨_, List.mem_of_getElem? hk, rfl⟩)))) (k v0 M0 h ls H locs a1 a2 a3)
theorem r_aload_n (E : EE p s m args meth c x cc y nL ret) {n : Fin 4} {i : Nat} {v : Option Nat} (d : decode cc pc = .ok (.aload_n n, 1)) (hi : (n : Nat) = i) (q : Nat) (hk : lr[q]? = some (i, v)) (k : RT p l e R s m args below meth c x nL Q cells slots r (pc + 1) li ll lr (rv x v :: st) M) : RT p l e R s m args below meth c x nL Q cells slots r pc li ll lr st M :=
  by
  intro v0 M0 h ls H locs a1 a2 a3
  have hm : ls[i]? = some (.val (rv x v)) := a1.2.2 (i, rv x v) (List.mem_append_right _ (List.mem_append_right _ (List.mem_map.mpr ⟨_, List.mem_of_getElem? hk, rfl⟩)))
  have kk := k v0 M0 h ls H locs a1 a2 a3
  cases v with
  | none => exact lv_aload_nN E.1 E.2.1 d hi hm kk
  | some a => exact lv_aload_n E.1 E.2.1 d hi hm kk
theorem r_aload (E : EE p s m args meth c x cc y nL ret) {i : Nat} {v : Option Nat} (d : decode cc pc = .ok (.aload i, 2)) (q : Nat) (hk : lr[q]? = some (i, v)) (k : RT p l e R s m args below meth c x nL Q cells slots r (pc + 2) li ll lr (rv x v :: st) M) : RT p l e R s m args below meth c x nL Q cells slots r pc li ll lr st M :=
  by
  intro v0 M0 h ls H locs a1 a2 a3
  have hm : ls[i]? = some (.val (rv x v)) := a1.2.2 (i, rv x v) (List.mem_append_right _ (List.mem_append_right _ (List.mem_map.mpr ⟨_, List.mem_of_getElem? hk, rfl⟩)))
  have kk := k v0 M0 h ls H locs a1 a2 a3
  cases v with
  | none => exact lv_aloadN E.1 E.2.1 d hm kk
  | some a => exact lv_aload E.1 E.2.1 d hm kk
theorem flat_st1 {ls : Array Slot} {i : Nat} {v : Value} {li' : List (Nat × Int32)} {ll' : List (Nat × Int64)} {lr' : List (Nat × Option Nat)} (h : lv_has ls nL ((i, v) :: (flat x li ll lr).filter (fun q => !(q.1 == i) && !(q.1 + 1 == i && q.2.category == 2))))
    (h1 : ∀ q ∈ li', (q.1 = i ∧ v = .int q.2) ∨ (q ∈ li ∧ ¬ q.1 = i)) (h2 : ∀ q ∈ ll', (q ∈ ll ∧ ¬ q.1 = i ∧ ¬ q.1 + 1 = i)) (h3 : ∀ q ∈ lr', (q.1 = i ∧ v = rv x q.2) ∨ (q ∈ lr ∧ ¬ q.1 = i)) : lv_has ls nL (flat x li' ll' lr') := by
  refine ⟨h.1, h.2.1, fun q hq => h.2.2 q ?_⟩
  unfold flat at hq
  rcases List.mem_append.mp hq with hq | hq
  · obtain ⟨z, hz, rfl⟩ := List.mem_map.mp hq
    rcases h1 z hz with ⟨e1, e2⟩ | ⟨e1, e2⟩
    · rw [e2, ← e1]; exact List.mem_cons_self
    · refine List.mem_cons_of_mem _ (List.mem_filter.mpr ⟨List.mem_append_left _ (List.mem_map.mpr ⟨z, e1, rfl⟩), ?_⟩)
      simp [e2, Value.category]
  · rcases List.mem_append.mp hq with hq | hq
    · obtain ⟨z, hz, rfl⟩ := List.mem_map.mp hq
      obtain ⟨e1, e2, e3⟩ := h2 z hz
      refine List.mem_cons_of_mem _ (List.mem_filter.mpr ⟨List.mem_append_right _ (List.mem_append_left _ (List.mem_map.mpr ⟨z, e1, rfl⟩)), ?_⟩)
      simp [e2, e3]
    · obtain ⟨z, hz, rfl⟩ := List.mem_map.mp hq
      rcases h3 z hz with ⟨e1, e2⟩ | ⟨e1, e2⟩
      · rw [e2, ← e1]; exact List.mem_cons_self
      · refine List.mem_cons_of_mem _ (List.mem_filter.mpr ⟨List.mem_append_right _ (List.mem_append_right _ (List.mem_map.mpr ⟨z, e1, rfl⟩)), ?_⟩)
        simp [e2, rv_cat]
theorem flat_st2 {ls : Array Slot} {i : Nat} {v : Int64} {li' : List (Nat × Int32)} {ll' : List (Nat × Int64)} {lr' : List (Nat × Option Nat)} (h : lv_has ls nL ((i, .long v) :: (flat x li ll lr).filter (fun q => !(q.1 == i) && (!(q.1 == i + 1) && !(q.1 + 1 == i && q.2.category == 2)))))
    (h1 : ∀ q ∈ li', (q ∈ li ∧ ¬ q.1 = i ∧ ¬ q.1 = i + 1)) (h2 : ∀ q ∈ ll', (q.1 = i ∧ v = q.2) ∨ (q ∈ ll ∧ ¬ q.1 = i ∧ ¬ q.1 = i + 1 ∧ ¬ q.1 + 1 = i)) (h3 : ∀ q ∈ lr', (q ∈ lr ∧ ¬ q.1 = i ∧ ¬ q.1 = i + 1)) : lv_has ls nL (flat x li' ll' lr') := by
  refine ⟨h.1, h.2.1, fun q hq => h.2.2 q ?_⟩
  unfold flat at hq
  rcases List.mem_append.mp hq with hq | hq
  · obtain ⟨z, hz, rfl⟩ := List.mem_map.mp hq
    obtain ⟨e1, e2, e3⟩ := h1 z hz
    refine List.mem_cons_of_mem _ (List.mem_filter.mpr ⟨List.mem_append_left _ (List.mem_map.mpr ⟨z, e1, rfl⟩), ?_⟩)
    simp [e2, e3, Value.category]
  · rcases List.mem_append.mp hq with hq | hq
    · obtain ⟨z, hz, rfl⟩ := List.mem_map.mp hq
      rcases h2 z hz with ⟨e1, e2⟩ | ⟨e1, e2, e3, e4⟩
      · rw [e2, ← e1]; exact List.mem_cons_self
      · refine List.mem_cons_of_mem _ (List.mem_filter.mpr ⟨List.mem_append_right _ (List.mem_append_left _ (List.mem_map.mpr ⟨z, e1, rfl⟩)), ?_⟩)
        simp [e2, e3, e4]
    · obtain ⟨z, hz, rfl⟩ := List.mem_map.mp hq
      obtain ⟨e1, e2, e3⟩ := h3 z hz
      refine List.mem_cons_of_mem _ (List.mem_filter.mpr ⟨List.mem_append_right _ (List.mem_append_right _ (List.mem_map.mpr ⟨z, e1, rfl⟩)), ?_⟩)
      simp [e2, e3, rv_cat]
def dr {α : Type} (i : Nat) (l : List (Nat × α)) : List (Nat × α) := l.filter (fun q => !(Nat.beq q.1 i))
def dp1 {α : Type} (i : Nat) (l : List (Nat × α)) : List (Nat × α) := l.filter (fun q => !(Nat.beq q.1 i) && !(Nat.beq (q.1 + 1) i))
def dp2 {α : Type} (i : Nat) (l : List (Nat × α)) : List (Nat × α) := l.filter (fun q => !(Nat.beq q.1 i) && !(Nat.beq q.1 (i + 1)))
def dp3 {α : Type} (i : Nat) (l : List (Nat × α)) : List (Nat × α) := l.filter (fun q => !(Nat.beq q.1 i) && (!(Nat.beq q.1 (i + 1)) && !(Nat.beq (q.1 + 1) i)))
theorem nb_ne {a b : Nat} (h : (!(Nat.beq a b)) = true) : ¬ a = b := by
  intro e; subst e; simp at h
theorem dr_in {α : Type} {i : Nat} {l : List (Nat × α)} {q : Nat × α} (h : q ∈ dr i l) : q ∈ l ∧ ¬ q.1 = i := ⟨(List.mem_filter.mp h).1, nb_ne (List.mem_filter.mp h).2⟩
theorem dp1_in {α : Type} {i : Nat} {l : List (Nat × α)} {q : Nat × α} (h : q ∈ dp1 i l) : q ∈ l ∧ ¬ q.1 = i ∧ ¬ q.1 + 1 = i := by
  have h2 := (List.mem_filter.mp h).2
  rw [Bool.and_eq_true] at h2
  exact ⟨(List.mem_filter.mp h).1, nb_ne h2.1, nb_ne h2.2⟩
theorem dp2_in {α : Type} {i : Nat} {l : List (Nat × α)} {q : Nat × α} (h : q ∈ dp2 i l) : q ∈ l ∧ ¬ q.1 = i ∧ ¬ q.1 = i + 1 := by
  have h2 := (List.mem_filter.mp h).2
  rw [Bool.and_eq_true] at h2
  exact ⟨(List.mem_filter.mp h).1, nb_ne h2.1, nb_ne h2.2⟩
theorem dp3_in {α : Type} {i : Nat} {l : List (Nat × α)} {q : Nat × α} (h : q ∈ dp3 i l) : q ∈ l ∧ ¬ q.1 = i ∧ ¬ q.1 = i + 1 ∧ ¬ q.1 + 1 = i := by
  have h2 := (List.mem_filter.mp h).2
  rw [Bool.and_eq_true, Bool.and_eq_true] at h2
  exact ⟨(List.mem_filter.mp h).1, nb_ne h2.1, nb_ne h2.2.1, nb_ne h2.2.2⟩
theorem r_istore_n (E : EE p s m args meth c x cc y nL ret) {n : Fin 4} {i : Nat} {u : Int32} {lf : Int32 → List (Nat × Int32)} {lg : Int32 → List (Nat × Int64)} {lk : Int32 → List (Nat × Option Nat)} {K : Int32 → Option (ρ × Mem)} (d : decode cc pc = .ok (.istore_n n, 1)) (hi : (n : Nat) = i) (hn : i < nL) (g1 : ∀ u : Int32, (i, u) :: dr i li = lf u) (g2 : ∀ u : Int32, dp1 i ll = lg u) (g3 : ∀ u : Int32, dr i lr = lk u) (k : ∀ z : Int32, RT p l e R s m args below meth c x nL Q cells slots (K z) (pc + 1) (lf z) (lg z) (lk z) st M) : RT p l e R s m args below meth c x nL Q cells slots (bn u K) pc li ll lr (.int u :: st) M :=
  fun v0 M0 h ls H locs a1 a2 a3 => lv_istore_n E.1 E.2.1 d hi a1 hn rfl (fun ls2 h9 => k _ v0 M0 h ls2 H locs (by rw [← g1 u, ← g2 u, ← g3 u]; exact flat_st1 h9 (fun q hq => (List.mem_cons.mp hq).elim (fun e => Or.inl (by rw [e]; exact ⟨rfl, rfl⟩)) (fun e => Or.inr (dr_in e))) (fun q hq => dp1_in hq) (fun q hq => Or.inr (dr_in hq))) a2 a3)
theorem r_istore (E : EE p s m args meth c x cc y nL ret) {i : Nat} {u : Int32} {lf : Int32 → List (Nat × Int32)} {lg : Int32 → List (Nat × Int64)} {lk : Int32 → List (Nat × Option Nat)} {K : Int32 → Option (ρ × Mem)} (d : decode cc pc = .ok (.istore i, 2)) (hn : i < nL) (g1 : ∀ u : Int32, (i, u) :: dr i li = lf u) (g2 : ∀ u : Int32, dp1 i ll = lg u) (g3 : ∀ u : Int32, dr i lr = lk u) (k : ∀ z : Int32, RT p l e R s m args below meth c x nL Q cells slots (K z) (pc + 2) (lf z) (lg z) (lk z) st M) : RT p l e R s m args below meth c x nL Q cells slots (bn u K) pc li ll lr (.int u :: st) M :=
  fun v0 M0 h ls H locs a1 a2 a3 => lv_istore E.1 E.2.1 d a1 hn rfl (fun ls2 h9 => k _ v0 M0 h ls2 H locs (by rw [← g1 u, ← g2 u, ← g3 u]; exact flat_st1 h9 (fun q hq => (List.mem_cons.mp hq).elim (fun e => Or.inl (by rw [e]; exact ⟨rfl, rfl⟩)) (fun e => Or.inr (dr_in e))) (fun q hq => dp1_in hq) (fun q hq => Or.inr (dr_in hq))) a2 a3)
theorem r_lstore_n (E : EE p s m args meth c x cc y nL ret) {n : Fin 4} {i : Nat} {u : Int64} {lf : Int64 → List (Nat × Int32)} {lg : Int64 → List (Nat × Int64)} {lk : Int64 → List (Nat × Option Nat)} {K : Int64 → Option (ρ × Mem)} (d : decode cc pc = .ok (.lstore_n n, 1)) (hi : (n : Nat) = i) (hn : i + 1 < nL) (g1 : ∀ u : Int64, dp2 i li = lf u) (g2 : ∀ u : Int64, (i, u) :: dp3 i ll = lg u) (g3 : ∀ u : Int64, dp2 i lr = lk u) (k : ∀ z : Int64, RT p l e R s m args below meth c x nL Q cells slots (K z) (pc + 1) (lf z) (lg z) (lk z) st M) : RT p l e R s m args below meth c x nL Q cells slots (bn u K) pc li ll lr (.long u :: st) M :=
  fun v0 M0 h ls H locs a1 a2 a3 => lv_lstore_n E.1 E.2.1 d hi a1 hn rfl (fun ls2 h9 => k _ v0 M0 h ls2 H locs (by rw [← g1 u, ← g2 u, ← g3 u]; exact flat_st2 h9 (fun q hq => dp2_in hq) (fun q hq => (List.mem_cons.mp hq).elim (fun e => Or.inl (by rw [e]; exact ⟨rfl, rfl⟩)) (fun e => Or.inr (dp3_in e))) (fun q hq => dp2_in hq)) a2 a3)
theorem r_lstore (E : EE p s m args meth c x cc y nL ret) {i : Nat} {u : Int64} {lf : Int64 → List (Nat × Int32)} {lg : Int64 → List (Nat × Int64)} {lk : Int64 → List (Nat × Option Nat)} {K : Int64 → Option (ρ × Mem)} (d : decode cc pc = .ok (.lstore i, 2)) (hn : i + 1 < nL) (g1 : ∀ u : Int64, dp2 i li = lf u) (g2 : ∀ u : Int64, (i, u) :: dp3 i ll = lg u) (g3 : ∀ u : Int64, dp2 i lr = lk u) (k : ∀ z : Int64, RT p l e R s m args below meth c x nL Q cells slots (K z) (pc + 2) (lf z) (lg z) (lk z) st M) : RT p l e R s m args below meth c x nL Q cells slots (bn u K) pc li ll lr (.long u :: st) M :=
  fun v0 M0 h ls H locs a1 a2 a3 => lv_lstore E.1 E.2.1 d a1 hn rfl (fun ls2 h9 => k _ v0 M0 h ls2 H locs (by rw [← g1 u, ← g2 u, ← g3 u]; exact flat_st2 h9 (fun q hq => dp2_in hq) (fun q hq => (List.mem_cons.mp hq).elim (fun e => Or.inl (by rw [e]; exact ⟨rfl, rfl⟩)) (fun e => Or.inr (dp3_in e))) (fun q hq => dp2_in hq)) a2 a3)
theorem r_astore_n (E : EE p s m args meth c x cc y nL ret) {n : Fin 4} {i : Nat} {u : Option Nat} {lf : Option Nat → List (Nat × Int32)} {lg : Option Nat → List (Nat × Int64)} {lk : Option Nat → List (Nat × Option Nat)} {K : Option Nat → Option (ρ × Mem)} (d : decode cc pc = .ok (.astore_n n, 1)) (hi : (n : Nat) = i) (hn : i < nL) (g1 : ∀ u : Option Nat, dr i li = lf u) (g2 : ∀ u : Option Nat, dp1 i ll = lg u) (g3 : ∀ u : Option Nat, (i, u) :: dr i lr = lk u) (k : ∀ z : Option Nat, RT p l e R s m args below meth c x nL Q cells slots (K z) (pc + 1) (lf z) (lg z) (lk z) st M) : RT p l e R s m args below meth c x nL Q cells slots (bn u K) pc li ll lr (rv x u :: st) M :=
  by
  intro v0 M0 h ls H locs a1 a2 a3
  cases u with
  | none => exact lv_astore_nN E.1 E.2.1 d hi a1 hn rfl (fun ls2 h9 => k _ v0 M0 h ls2 H locs (by rw [← g1 none, ← g2 none, ← g3 none]; exact flat_st1 h9 (fun q hq => Or.inr (dr_in hq)) (fun q hq => dp1_in hq) (fun q hq => (List.mem_cons.mp hq).elim (fun e => Or.inl (by rw [e]; exact ⟨rfl, rfl⟩)) (fun e => Or.inr (dr_in e)))) a2 a3)
  | some a => exact lv_astore_n E.1 E.2.1 d hi a1 hn rfl (fun ls2 h9 => k _ v0 M0 h ls2 H locs (by rw [← g1 (some a), ← g2 (some a), ← g3 (some a)]; exact flat_st1 h9 (fun q hq => Or.inr (dr_in hq)) (fun q hq => dp1_in hq) (fun q hq => (List.mem_cons.mp hq).elim (fun e => Or.inl (by rw [e]; exact ⟨rfl, rfl⟩)) (fun e => Or.inr (dr_in e)))) a2 a3)
theorem r_astore (E : EE p s m args meth c x cc y nL ret) {i : Nat} {u : Option Nat} {lf : Option Nat → List (Nat × Int32)} {lg : Option Nat → List (Nat × Int64)} {lk : Option Nat → List (Nat × Option Nat)} {K : Option Nat → Option (ρ × Mem)} (d : decode cc pc = .ok (.astore i, 2)) (hn : i < nL) (g1 : ∀ u : Option Nat, dr i li = lf u) (g2 : ∀ u : Option Nat, dp1 i ll = lg u) (g3 : ∀ u : Option Nat, (i, u) :: dr i lr = lk u) (k : ∀ z : Option Nat, RT p l e R s m args below meth c x nL Q cells slots (K z) (pc + 2) (lf z) (lg z) (lk z) st M) : RT p l e R s m args below meth c x nL Q cells slots (bn u K) pc li ll lr (rv x u :: st) M :=
  by
  intro v0 M0 h ls H locs a1 a2 a3
  cases u with
  | none => exact lv_astoreN E.1 E.2.1 d a1 hn rfl (fun ls2 h9 => k _ v0 M0 h ls2 H locs (by rw [← g1 none, ← g2 none, ← g3 none]; exact flat_st1 h9 (fun q hq => Or.inr (dr_in hq)) (fun q hq => dp1_in hq) (fun q hq => (List.mem_cons.mp hq).elim (fun e => Or.inl (by rw [e]; exact ⟨rfl, rfl⟩)) (fun e => Or.inr (dr_in e)))) a2 a3)
  | some a => exact lv_astore E.1 E.2.1 d a1 hn rfl (fun ls2 h9 => k _ v0 M0 h ls2 H locs (by rw [← g1 (some a), ← g2 (some a), ← g3 (some a)]; exact flat_st1 h9 (fun q hq => Or.inr (dr_in hq)) (fun q hq => dp1_in hq) (fun q hq => (List.mem_cons.mp hq).elim (fun e => Or.inl (by rw [e]; exact ⟨rfl, rfl⟩)) (fun e => Or.inr (dr_in e)))) a2 a3)
theorem r_iinc (E : EE p s m args meth c x cc y nL ret) {i : Nat} {n : Int} {u w : Int32} {lf : Int32 → List (Nat × Int32)} {K : Int32 → Option (ρ × Mem)} {ll' : List (Nat × Int64)} {lr' : List (Nat × Option Nat)} (d : decode cc pc = .ok (.iinc i n, 3)) (q : Nat) (hk : li[q]? = some (i, u)) (hw : Int32.ofInt n = w) (hn : i < nL) (g1 : ∀ u, (i, u) :: dr i li = lf u) (g2 : dp1 i ll = ll') (g3 : dr i lr = lr') (k : ∀ z : Int32, RT p l e R s m args below meth c x nL Q cells slots (K z) (pc + 3) (lf z) (ll') (lr') st M) : RT p l e R s m args below meth c x nL Q cells slots (bn (u + w) K) pc li ll lr st M :=
  by
  intro v0 M0 h ls H locs a1 a2 a3
  obtain ⟨j, hj, hj2⟩ : ∃ j, j < (flat x li ll lr).length ∧ (flat x li ll lr)[j]? = some (i, .int u) := by
    obtain ⟨j, hj⟩ := List.getElem?_of_mem (show (i, Value.int u) ∈ flat x li ll lr from List.mem_append_left _ (List.mem_map.mpr ⟨_, List.mem_of_getElem? hk, rfl⟩))
    exact ⟨j, (List.getElem?_eq_some_iff.mp hj).1, hj⟩
  refine lv_iinc (k := j) E.1 E.2.1 d a1 hj2 (v := u + w) (by rw [hw]) hn rfl (fun ls2 h9 => k _ v0 M0 h ls2 H locs ?_ a2 a3)
  rw [← g1 (u + w), ← g2, ← g3]
  exact flat_st1 h9 (fun q hq => (List.mem_cons.mp hq).elim (fun e => Or.inl (by rw [e]; exact ⟨rfl, rfl⟩)) (fun e => Or.inr (dr_in e))) (fun q hq => dp1_in hq) (fun q hq => Or.inr (dr_in hq))
theorem r_icmp_eq (E : EE p s m args meth c x cc y nL ret) {u v : Int32} {off : Int} {tgt : Nat} {A B : Option (ρ × Mem)} (d : decode cc pc = .ok (.if_icmp .eq off, 3)) (ht : (pc : Int) + off = (tgt : Int)) (kt : RT p l e R s m args below meth c x nL Q cells slots A tgt li ll lr st M) (kf : RT p l e R s m args below meth c x nL Q cells slots B (pc + 3) li ll lr st M) : RT p l e R s m args below meth c x nL Q cells slots (if u = v then A else B) pc li ll lr (.int v :: .int u :: st) M :=
  by
  intro v0 M0 h ls H locs a1 a2 a3
  exact lv_icmp_eq E.1 E.2.1 d ht (fun q => kt v0 M0 (by rw [if_pos q] at h; exact h) ls H locs a1 a2 a3) (fun q => kf v0 M0 (by rw [if_neg q] at h; exact h) ls H locs a1 a2 a3)
theorem r_if_eq (E : EE p s m args meth c x cc y nL ret) {u : Int32} {off : Int} {tgt : Nat} {A B : Option (ρ × Mem)} (d : decode cc pc = .ok (.ifCond .eq off, 3)) (ht : (pc : Int) + off = (tgt : Int)) (kt : RT p l e R s m args below meth c x nL Q cells slots A tgt li ll lr st M) (kf : RT p l e R s m args below meth c x nL Q cells slots B (pc + 3) li ll lr st M) : RT p l e R s m args below meth c x nL Q cells slots (if u = 0 then A else B) pc li ll lr (.int u :: st) M :=
  by
  intro v0 M0 h ls H locs a1 a2 a3
  exact lv_if_eq E.1 E.2.1 d ht (fun q => kt v0 M0 (by rw [if_pos q] at h; exact h) ls H locs a1 a2 a3) (fun q => kf v0 M0 (by rw [if_neg q] at h; exact h) ls H locs a1 a2 a3)
theorem r_icmp_ne (E : EE p s m args meth c x cc y nL ret) {u v : Int32} {off : Int} {tgt : Nat} {A B : Option (ρ × Mem)} (d : decode cc pc = .ok (.if_icmp .ne off, 3)) (ht : (pc : Int) + off = (tgt : Int)) (kt : RT p l e R s m args below meth c x nL Q cells slots A tgt li ll lr st M) (kf : RT p l e R s m args below meth c x nL Q cells slots B (pc + 3) li ll lr st M) : RT p l e R s m args below meth c x nL Q cells slots (if u = v then B else A) pc li ll lr (.int v :: .int u :: st) M :=
  by
  intro v0 M0 h ls H locs a1 a2 a3
  exact lv_icmp_ne E.1 E.2.1 d ht (fun q => kt v0 M0 (by rw [if_neg q] at h; exact h) ls H locs a1 a2 a3) (fun q => kf v0 M0 (by rw [if_pos q] at h; exact h) ls H locs a1 a2 a3)
theorem r_if_ne (E : EE p s m args meth c x cc y nL ret) {u : Int32} {off : Int} {tgt : Nat} {A B : Option (ρ × Mem)} (d : decode cc pc = .ok (.ifCond .ne off, 3)) (ht : (pc : Int) + off = (tgt : Int)) (kt : RT p l e R s m args below meth c x nL Q cells slots A tgt li ll lr st M) (kf : RT p l e R s m args below meth c x nL Q cells slots B (pc + 3) li ll lr st M) : RT p l e R s m args below meth c x nL Q cells slots (if u = 0 then B else A) pc li ll lr (.int u :: st) M :=
  by
  intro v0 M0 h ls H locs a1 a2 a3
  exact lv_if_ne E.1 E.2.1 d ht (fun q => kt v0 M0 (by rw [if_neg q] at h; exact h) ls H locs a1 a2 a3) (fun q => kf v0 M0 (by rw [if_pos q] at h; exact h) ls H locs a1 a2 a3)
theorem r_icmp_lt (E : EE p s m args meth c x cc y nL ret) {u v : Int32} {off : Int} {tgt : Nat} {A B : Option (ρ × Mem)} (d : decode cc pc = .ok (.if_icmp .lt off, 3)) (ht : (pc : Int) + off = (tgt : Int)) (kt : RT p l e R s m args below meth c x nL Q cells slots A tgt li ll lr st M) (kf : RT p l e R s m args below meth c x nL Q cells slots B (pc + 3) li ll lr st M) : RT p l e R s m args below meth c x nL Q cells slots (if u < v then A else B) pc li ll lr (.int v :: .int u :: st) M :=
  by
  intro v0 M0 h ls H locs a1 a2 a3
  exact lv_icmp_lt E.1 E.2.1 d ht (fun q => kt v0 M0 (by rw [if_pos q] at h; exact h) ls H locs a1 a2 a3) (fun q => kf v0 M0 (by rw [if_neg q] at h; exact h) ls H locs a1 a2 a3)
theorem r_if_lt (E : EE p s m args meth c x cc y nL ret) {u : Int32} {off : Int} {tgt : Nat} {A B : Option (ρ × Mem)} (d : decode cc pc = .ok (.ifCond .lt off, 3)) (ht : (pc : Int) + off = (tgt : Int)) (kt : RT p l e R s m args below meth c x nL Q cells slots A tgt li ll lr st M) (kf : RT p l e R s m args below meth c x nL Q cells slots B (pc + 3) li ll lr st M) : RT p l e R s m args below meth c x nL Q cells slots (if u < 0 then A else B) pc li ll lr (.int u :: st) M :=
  by
  intro v0 M0 h ls H locs a1 a2 a3
  exact lv_if_lt E.1 E.2.1 d ht (fun q => kt v0 M0 (by rw [if_pos q] at h; exact h) ls H locs a1 a2 a3) (fun q => kf v0 M0 (by rw [if_neg q] at h; exact h) ls H locs a1 a2 a3)
theorem r_icmp_ge (E : EE p s m args meth c x cc y nL ret) {u v : Int32} {off : Int} {tgt : Nat} {A B : Option (ρ × Mem)} (d : decode cc pc = .ok (.if_icmp .ge off, 3)) (ht : (pc : Int) + off = (tgt : Int)) (kt : RT p l e R s m args below meth c x nL Q cells slots A tgt li ll lr st M) (kf : RT p l e R s m args below meth c x nL Q cells slots B (pc + 3) li ll lr st M) : RT p l e R s m args below meth c x nL Q cells slots (if v ≤ u then A else B) pc li ll lr (.int v :: .int u :: st) M :=
  by
  intro v0 M0 h ls H locs a1 a2 a3
  exact lv_icmp_ge E.1 E.2.1 d ht (fun q => kt v0 M0 (by rw [if_pos q] at h; exact h) ls H locs a1 a2 a3) (fun q => kf v0 M0 (by rw [if_neg q] at h; exact h) ls H locs a1 a2 a3)
theorem r_if_ge (E : EE p s m args meth c x cc y nL ret) {u : Int32} {off : Int} {tgt : Nat} {A B : Option (ρ × Mem)} (d : decode cc pc = .ok (.ifCond .ge off, 3)) (ht : (pc : Int) + off = (tgt : Int)) (kt : RT p l e R s m args below meth c x nL Q cells slots A tgt li ll lr st M) (kf : RT p l e R s m args below meth c x nL Q cells slots B (pc + 3) li ll lr st M) : RT p l e R s m args below meth c x nL Q cells slots (if 0 ≤ u then A else B) pc li ll lr (.int u :: st) M :=
  by
  intro v0 M0 h ls H locs a1 a2 a3
  exact lv_if_ge E.1 E.2.1 d ht (fun q => kt v0 M0 (by rw [if_pos q] at h; exact h) ls H locs a1 a2 a3) (fun q => kf v0 M0 (by rw [if_neg q] at h; exact h) ls H locs a1 a2 a3)
theorem r_icmp_gt (E : EE p s m args meth c x cc y nL ret) {u v : Int32} {off : Int} {tgt : Nat} {A B : Option (ρ × Mem)} (d : decode cc pc = .ok (.if_icmp .gt off, 3)) (ht : (pc : Int) + off = (tgt : Int)) (kt : RT p l e R s m args below meth c x nL Q cells slots A tgt li ll lr st M) (kf : RT p l e R s m args below meth c x nL Q cells slots B (pc + 3) li ll lr st M) : RT p l e R s m args below meth c x nL Q cells slots (if v < u then A else B) pc li ll lr (.int v :: .int u :: st) M :=
  by
  intro v0 M0 h ls H locs a1 a2 a3
  exact lv_icmp_gt E.1 E.2.1 d ht (fun q => kt v0 M0 (by rw [if_pos q] at h; exact h) ls H locs a1 a2 a3) (fun q => kf v0 M0 (by rw [if_neg q] at h; exact h) ls H locs a1 a2 a3)
theorem r_if_gt (E : EE p s m args meth c x cc y nL ret) {u : Int32} {off : Int} {tgt : Nat} {A B : Option (ρ × Mem)} (d : decode cc pc = .ok (.ifCond .gt off, 3)) (ht : (pc : Int) + off = (tgt : Int)) (kt : RT p l e R s m args below meth c x nL Q cells slots A tgt li ll lr st M) (kf : RT p l e R s m args below meth c x nL Q cells slots B (pc + 3) li ll lr st M) : RT p l e R s m args below meth c x nL Q cells slots (if 0 < u then A else B) pc li ll lr (.int u :: st) M :=
  by
  intro v0 M0 h ls H locs a1 a2 a3
  exact lv_if_gt E.1 E.2.1 d ht (fun q => kt v0 M0 (by rw [if_pos q] at h; exact h) ls H locs a1 a2 a3) (fun q => kf v0 M0 (by rw [if_neg q] at h; exact h) ls H locs a1 a2 a3)
theorem r_icmp_le (E : EE p s m args meth c x cc y nL ret) {u v : Int32} {off : Int} {tgt : Nat} {A B : Option (ρ × Mem)} (d : decode cc pc = .ok (.if_icmp .le off, 3)) (ht : (pc : Int) + off = (tgt : Int)) (kt : RT p l e R s m args below meth c x nL Q cells slots A tgt li ll lr st M) (kf : RT p l e R s m args below meth c x nL Q cells slots B (pc + 3) li ll lr st M) : RT p l e R s m args below meth c x nL Q cells slots (if u ≤ v then A else B) pc li ll lr (.int v :: .int u :: st) M :=
  by
  intro v0 M0 h ls H locs a1 a2 a3
  exact lv_icmp_le E.1 E.2.1 d ht (fun q => kt v0 M0 (by rw [if_pos q] at h; exact h) ls H locs a1 a2 a3) (fun q => kf v0 M0 (by rw [if_neg q] at h; exact h) ls H locs a1 a2 a3)
theorem r_if_le (E : EE p s m args meth c x cc y nL ret) {u : Int32} {off : Int} {tgt : Nat} {A B : Option (ρ × Mem)} (d : decode cc pc = .ok (.ifCond .le off, 3)) (ht : (pc : Int) + off = (tgt : Int)) (kt : RT p l e R s m args below meth c x nL Q cells slots A tgt li ll lr st M) (kf : RT p l e R s m args below meth c x nL Q cells slots B (pc + 3) li ll lr st M) : RT p l e R s m args below meth c x nL Q cells slots (if u ≤ 0 then A else B) pc li ll lr (.int u :: st) M :=
  by
  intro v0 M0 h ls H locs a1 a2 a3
  exact lv_if_le E.1 E.2.1 d ht (fun q => kt v0 M0 (by rw [if_pos q] at h; exact h) ls H locs a1 a2 a3) (fun q => kf v0 M0 (by rw [if_neg q] at h; exact h) ls H locs a1 a2 a3)
theorem r_goto (E : EE p s m args meth c x cc y nL ret) {off : Int} {tgt : Nat} (d : decode cc pc = .ok (.goto off, 3)) (ht : (pc : Int) + off = (tgt : Int)) (k : RT p l e R s m args below meth c x nL Q cells slots r tgt li ll lr st M) : RT p l e R s m args below meth c x nL Q cells slots r pc li ll lr st M :=
  fun v0 M0 h ls H locs a1 a2 a3 => lv_goto E.1 E.2.1 d ht (k v0 M0 h ls H locs a1 a2 a3)
theorem r_ifnull (E : EE p s m args meth c x cc y nL ret) {w : Option Nat} {off : Int} {tgt : Nat} {A B : Option (ρ × Mem)} (d : decode cc pc = .ok (.ifnull off, 3)) (ht : (pc : Int) + off = (tgt : Int)) (kt : RT p l e R s m args below meth c x nL Q cells slots A tgt li ll lr st M) (kf : RT p l e R s m args below meth c x nL Q cells slots B (pc + 3) li ll lr st M) : RT p l e R s m args below meth c x nL Q cells slots (if w = none then A else B) pc li ll lr (rv x w :: st) M :=
  by
  intro v0 M0 h ls H locs a1 a2 a3
  cases w with
  | none => exact lv_ifnullN E.1 E.2.1 d ht (kt v0 M0 (by rw [if_pos rfl] at h; exact h) ls H locs a1 a2 a3)
  | some a => exact lv_ifnull E.1 E.2.1 d (kf v0 M0 (by rw [if_neg (fun q => by cases q)] at h; exact h) ls H locs a1 a2 a3)
theorem r_ifnonnull (E : EE p s m args meth c x cc y nL ret) {w : Option Nat} {off : Int} {tgt : Nat} {A B : Option (ρ × Mem)} (d : decode cc pc = .ok (.ifnonnull off, 3)) (ht : (pc : Int) + off = (tgt : Int)) (kt : RT p l e R s m args below meth c x nL Q cells slots A tgt li ll lr st M) (kf : RT p l e R s m args below meth c x nL Q cells slots B (pc + 3) li ll lr st M) : RT p l e R s m args below meth c x nL Q cells slots (if w = none then B else A) pc li ll lr (rv x w :: st) M :=
  by
  intro v0 M0 h ls H locs a1 a2 a3
  cases w with
  | none => exact lv_ifnonnullN E.1 E.2.1 d (kf v0 M0 (by rw [if_pos rfl] at h; exact h) ls H locs a1 a2 a3)
  | some a => exact lv_ifnonnull E.1 E.2.1 d ht (kt v0 M0 (by rw [if_neg (fun q => by cases q)] at h; exact h) ls H locs a1 a2 a3)
theorem r_sub {li' : List (Nat × Int32)} {ll' : List (Nat × Int64)} {lr' : List (Nat × Option Nat)} (pi pl pr : List Nat) (h1 : pi.filterMap (fun k => li[k]?) = li') (h2 : pl.filterMap (fun k => ll[k]?) = ll') (h3 : pr.filterMap (fun k => lr[k]?) = lr') (k : RT p l e R s m args below meth c x nL Q cells slots r pc (li') (ll') (lr') st M) : RT p l e R s m args below meth c x nL Q cells slots r pc li ll lr st M := by
  intro v0 M0 h ls H locs a1 a2 a3
  refine k v0 M0 h ls H locs ⟨a1.1, a1.2.1, fun q hq => a1.2.2 q ?_⟩ a2 a3
  subst h1; subst h2; subst h3
  have key : ∀ {α : Type} {ps : List Nat} {z : List (Nat × α)} {q : Nat × α}, q ∈ ps.filterMap (fun k => z[k]?) → q ∈ z := fun hq => by
    obtain ⟨k, -, hk⟩ := List.mem_filterMap.mp hq
    exact List.mem_of_getElem? hk
  unfold flat at hq ⊢
  rcases List.mem_append.mp hq with hq | hq
  · obtain ⟨z, hz, e⟩ := List.mem_map.mp hq
    exact List.mem_append_left _ (List.mem_map.mpr ⟨z, key hz, e⟩)
  · rcases List.mem_append.mp hq with hq | hq
    · obtain ⟨z, hz, e⟩ := List.mem_map.mp hq
      exact List.mem_append_right _ (List.mem_append_left _ (List.mem_map.mpr ⟨z, key hz, e⟩))
    · obtain ⟨z, hz, e⟩ := List.mem_map.mp hq
      exact List.mem_append_right _ (List.mem_append_right _ (List.mem_map.mpr ⟨z, key hz, e⟩))
theorem r_lp {α : Type} {body : (α → Mem → Option (ρ × Mem)) → α → Mem → Option (ρ × Mem)} {fi : α → List (Nat × Int32)} {fl : α → List (Nat × Int64)} {fr : α → List (Nat × Option Nat)} {fs : α → List Value} (hb : ∀ k : α → Mem → Option (ρ × Mem), (∀ a M, RT p l e R s m args below meth c x nL Q cells slots (k a M) pc (fi a) (fl a) (fr a) (fs a) M) → ∀ a M, RT p l e R s m args below meth c x nL Q cells slots (body k a M) pc (fi a) (fl a) (fr a) (fs a) M) : ∀ n a M, RT p l e R s m args below meth c x nL Q cells slots (lp body n a M) pc (fi a) (fl a) (fr a) (fs a) M := by
  intro n
  induction n with
  | zero => exact fun a M => r_none
  | succ n ih => exact hb (lp body n) ih
end RTR
