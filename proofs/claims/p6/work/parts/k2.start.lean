/-! the memory behind both constructors: closed, so the kernel computes what it holds -/
def mA : Mem := ((fX12_init (some 11) (nA m0 12 0)).getD ((), m0)).2
def mB : Mem := ((fX13_init (some 198) (nA mA 13 0)).getD ((), m0)).2
theorem some_get {o : Option (Unit × Mem)} {d : Unit × Mem} (h : o.isSome = true) : o = some ((), (o.getD d).2) := by
  cases o with
  | none => cases h
  | some q => rfl
set_option maxRecDepth 1000000 in
theorem hA : fX12_init (some 11) (nA m0 12 0) = some ((), mA) := some_get (by decide +kernel)
set_option maxRecDepth 1000000 in
theorem hAn : mN mA = 198 := by decide +kernel
set_option maxRecDepth 1000000 in
theorem hB : fX13_init (some 198) (nA mA 13 0) = some ((), mB) := some_get (by decide +kernel)
def fxB (a j : Nat) : Bool := (Nat.beq j 0 && Nat.beq (zC a) 1) || (Nat.ble (loC a) j && Nat.ble j (hiC a))
def okC (M : Mem) : Bool := (List.range 187).all (fun i => Nat.beq (mK M (11 + i)) (KC (11 + i)) && (Nat.beq (mL M (11 + i)) (LC (11 + i)) && (List.range 12).all fun j => ! fxB (11 + i) j || mR M (11 + i) j == some (RC (11 + i) j)))
def okS (M : Mem) : Bool := (List.range 10).all fun a => Nat.beq (mK M a) 21 && Nat.beq (mL M a) (stLit a).length
def okM (M : Mem) : Bool := (List.range 43).all (fun i => Nat.beq (mK M (198 + i)) (K0 (198 + i)) && Nat.beq (mL M (198 + i)) (L0 (198 + i))) && (List.range 100).all fun j => mR M 198 j == R0 j
def okZ (M : Mem) : Bool := [(12, 1), (14, 1), (142, 1), (170, 3), (125, 2), (136, 0), (136, 1), (136, 2), (209, 0), (206, 0), (206, 1), (206, 2), (198, 1), (198, 3), (198, 46), (198, 27), (198, 28), (198, 29), (31, 0), (31, 1), (31, 2), (31, 3), (31, 4), (31, 5), (31, 6), (31, 7), (31, 8), (31, 9), (31, 10), (31, 11), (221, 0), (221, 1), (221, 2), (221, 3), (221, 4), (221, 5), (221, 6), (221, 7), (221, 8), (221, 9), (221, 10), (221, 11)].all (fun q => mI M q.1 q.2 == iI 0) && ((mJ M 170 2 == iJ 0) && ((mJ M 220 0 == iJ 0) && ((mJ M 220 1 == iJ 0) && ((mJ M 220 2 == iJ 0) && ((mR M 11 0 == some 12) && ((mR M 11 1 == some 14) && ((mR M 11 2 == some 16) && ((mR M 11 8 == none) && (mR M 11 9 == none)))))))))
set_option maxRecDepth 1000000 in
theorem okAll : (okC mB && (okS mB && (okM mB && okZ mB))) = true := by decide +kernel
