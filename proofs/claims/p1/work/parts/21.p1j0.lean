set_option maxRecDepth 1000000 in
theorem cPackb0 : (eqOp (fX12_pack (some 11) 0 0) (fX13_pack (some 198) 0 0) mB && (eqOp (fX12_pack (some 11) 0 1) (fX13_pack (some 198) 0 1) mB && (eqOp (fX12_pack (some 11) 0 2) (fX13_pack (some 198) 0 2) mB && eqOp (fX12_pack (some 11) 0 3) (fX13_pack (some 198) 0 3) mB))) = true := by decide +kernel
theorem cPack0 : ((eqOp (fX12_pack (some 11) 0 0) (fX13_pack (some 198) 0 0) mB) = true ∧ (eqOp (fX12_pack (some 11) 0 1) (fX13_pack (some 198) 0 1) mB) = true ∧ (eqOp (fX12_pack (some 11) 0 2) (fX13_pack (some 198) 0 2) mB) = true ∧ (eqOp (fX12_pack (some 11) 0 3) (fX13_pack (some 198) 0 3) mB) = true) := by
  have h := cPackb0
  simp only [Bool.and_eq_true] at h
  exact h
