set_option maxRecDepth 1000000 in
theorem cPackb1 : (eqOp (fX12_pack (some 11) 1 0) (fX13_pack (some 198) 1 0) mB && (eqOp (fX12_pack (some 11) 1 1) (fX13_pack (some 198) 1 1) mB && (eqOp (fX12_pack (some 11) 1 2) (fX13_pack (some 198) 1 2) mB && eqOp (fX12_pack (some 11) 1 3) (fX13_pack (some 198) 1 3) mB))) = true := by decide +kernel
theorem cPack1 : ((eqOp (fX12_pack (some 11) 1 0) (fX13_pack (some 198) 1 0) mB) = true ∧ (eqOp (fX12_pack (some 11) 1 1) (fX13_pack (some 198) 1 1) mB) = true ∧ (eqOp (fX12_pack (some 11) 1 2) (fX13_pack (some 198) 1 2) mB) = true ∧ (eqOp (fX12_pack (some 11) 1 3) (fX13_pack (some 198) 1 3) mB) = true) := by
  have h := cPackb1
  simp only [Bool.and_eq_true] at h
  exact h
