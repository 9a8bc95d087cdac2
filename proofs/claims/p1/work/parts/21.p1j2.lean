set_option maxRecDepth 1000000 in
theorem cPackb2 : (eqOp (fX12_pack (some 11) 2 0) (fX13_pack (some 198) 2 0) mB && (eqOp (fX12_pack (some 11) 2 1) (fX13_pack (some 198) 2 1) mB && (eqOp (fX12_pack (some 11) 2 2) (fX13_pack (some 198) 2 2) mB && eqOp (fX12_pack (some 11) 2 3) (fX13_pack (some 198) 2 3) mB))) = true := by decide +kernel
theorem cPack2 : ((eqOp (fX12_pack (some 11) 2 0) (fX13_pack (some 198) 2 0) mB) = true ∧ (eqOp (fX12_pack (some 11) 2 1) (fX13_pack (some 198) 2 1) mB) = true ∧ (eqOp (fX12_pack (some 11) 2 2) (fX13_pack (some 198) 2 2) mB) = true ∧ (eqOp (fX12_pack (some 11) 2 3) (fX13_pack (some 198) 2 3) mB) = true) := by
  have h := cPackb2
  simp only [Bool.and_eq_true] at h
  exact h
