def wkX10_writeCount : List Nat := [801, 802, 803, 1400]
set_option maxRecDepth 100000 in
set_option maxHeartbeats 4000000 in
theorem frX10_writeCount {G : Nat → Prop} {MM : Mem} (a0 : Option Nat) (a1 : Option Nat) (a2 : Int32) (a3 : Int32) (hst : ∀ k, k < 10 → G k) (hc : Cl G MM) (g_a0 : inG G a0) (g_a1 : inG G a1) : okv (fun _ : Unit => True) MM G wkX10_writeCount (fX10_writeCount a0 a1 a2 a3 MM) := by
  have hMM : FrG G wkX10_writeCount MM MM := FrG.rf hc
  have hL76 : ∀ (M : Mem) (hM : FrG G wkX10_writeCount MM M), okv (fun _ : Unit => True) MM G wkX10_writeCount (fX10_writeCount_L76 M) := by
    intro M hM
    unfold fX10_writeCount_L76
    exact k_ret hM trivial
  have hL71 : ∀ (p4 : Int32) (q0 : Option Nat) (q1 : Int64) (M : Mem) (g_q0 : inG G q0) (hM : FrG G wkX10_writeCount MM M), okv (fun _ : Unit => True) MM G wkX10_writeCount (fX10_writeCount_L71 p4 q0 q1 M) := by
    intro p4 q0 q1 M g_q0 hM
    unfold fX10_writeCount_L71
    refine k_bo fun _ => ?_
    refine k_call (by decide) hM (fun hc => frX8_addBits _ _ _ hst hc g_q0) fun v73 M73 _ hM73 => ?_
    exact hL76 _ hM73
  unfold fX10_writeCount
  refine k_call (by decide) hMM (fun hc => frX12_logOf _ hst hc) fun v4 M4 _ hM4 => ?_
  refine k_bn fun v9 => ?_
  refine k_bn fun v19 => ?_
  refine k_bn fun v24 => ?_
  refine k_if ?_ ?_
  · refine k_if ?_ ?_
    · exact hL71 v9 a1 ((v24 + v19).toInt64) _ g_a1 hM4
    · exact hL71 v9 a1 v24.toInt64 _ g_a1 hM4
  · refine k_bo fun _ => ?_
    refine k_call (by decide) hM4 (fun hc => frX8_addBits _ _ _ hst hc g_a1) fun v41 M41 _ hM41 => ?_
    exact hL76 _ hM41
def wkX10_writeZeros : List Nat := [801, 802, 803, 1400]
set_option maxRecDepth 100000 in
set_option maxHeartbeats 4000000 in
theorem frX10_writeZeros {G : Nat → Prop} {MM : Mem} (a0 : Option Nat) (a1 : Option Nat) (a2 : Int32) (hst : ∀ k, k < 10 → G k) (hc : Cl G MM) (g_a0 : inG G a0) (g_a1 : inG G a1) : okv (fun _ : Unit => True) MM G wkX10_writeZeros (fX10_writeZeros a0 a1 a2 MM) := by
  have hMM : FrG G wkX10_writeZeros MM MM := FrG.rf hc
  have hL2 : ∀ (p1 : Option Nat) (p3 : Int32) (M : Mem) (g_p1 : inG G p1) (hM : FrG G wkX10_writeZeros MM M), okv (fun _ : Unit => True) MM G wkX10_writeZeros (fX10_writeZeros_L2 p1 p3 M) := by
    intro p1 p3 M g_p1 hM
    refine k_lp (T := fun a : Option Nat × Int32 => inG G (a.1)) ?_ FU ((p1, p3)) M g_p1 hM
    intro k2 hk2 a M T hM
    obtain ⟨p1, p3⟩ := a
    have g_p1 := T
    show okv (fun _ : Unit => True) MM G wkX10_writeZeros (fX10_writeZeros_B2 k2 p1 p3 M)
    unfold fX10_writeZeros_B2
    refine k_if ?_ ?_
    · refine k_bo fun _ => ?_
      refine k_call (by decide) hM (fun hc => frX8_addBits _ _ _ hst hc g_p1) fun v25 M25 _ hM25 => ?_
      exact k_ret hM25 trivial
    · refine k_bo fun _ => ?_
      refine k_call (by decide) hM (fun hc => frX8_addBits _ _ _ hst hc g_p1) fun v12 M12 _ hM12 => ?_
      refine k_bn fun v15 => ?_
      exact hk2 ((p1, v15)) _ g_p1 hM12
  unfold fX10_writeZeros
  refine k_bn fun v1 => ?_
  exact hL2 a1 v1 _ g_a1 hMM
def wkX10_write : List Nat := [801, 802, 803, 1400]
set_option maxRecDepth 100000 in
set_option maxHeartbeats 4000000 in
theorem frX10_write {G : Nat → Prop} {MM : Mem} (a0 : Option Nat) (a1 : Option Nat) (hst : ∀ k, k < 10 → G k) (hc : Cl G MM) (g_a0 : inG G a0) (g_a1 : inG G a1) : okv (fun _ : Unit => True) MM G wkX10_write (fX10_write a0 a1 MM) := by
  have hMM : FrG G wkX10_write MM MM := FrG.rf hc
  have hL97 : ∀ (k24 : Option Nat × Option Nat × Int32 × Int32 × Int32 → Mem → Option (Unit × Mem)) (hk24 : ∀ a M, (inG G (a.1) ∧ inG G (a.2.1)) → FrG G wkX10_write MM M → okv (fun _ : Unit => True) MM G wkX10_write (k24 a M)) (p0 : Option Nat) (p1 : Option Nat) (p2 : Int32) (p3 : Int32) (p4 : Int32) (M : Mem) (g_p0 : inG G p0) (g_p1 : inG G p1) (hM : FrG G wkX10_write MM M), okv (fun _ : Unit => True) MM G wkX10_write (fX10_write_L97 k24 p0 p1 p2 p3 p4 M) := by
    intro k24 hk24 p0 p1 p2 p3 p4 M g_p0 g_p1 hM
    unfold fX10_write_L97
    refine k_bn fun v97 => ?_
    exact hk24 ((p0, p1, p2, p3, v97)) _ ⟨g_p0, g_p1⟩ hM
  have hL74 : ∀ (k24 : Option Nat × Option Nat × Int32 × Int32 × Int32 → Mem → Option (Unit × Mem)) (hk24 : ∀ a M, (inG G (a.1) ∧ inG G (a.2.1)) → FrG G wkX10_write MM M → okv (fun _ : Unit => True) MM G wkX10_write (k24 a M)) (p0 : Option Nat) (p1 : Option Nat) (p2 : Int32) (p3 : Int32) (p4 : Int32) (M : Mem) (g_p0 : inG G p0) (g_p1 : inG G p1) (hM : FrG G wkX10_write MM M), okv (fun _ : Unit => True) MM G wkX10_write (fX10_write_L74 k24 p0 p1 p2 p3 p4 M) := by
    intro k24 hk24 p0 p1 p2 p3 p4 M g_p0 g_p1 hM
    unfold fX10_write_L74
    refine k_gR hM g_p0 fun v77 g_v77 => ?_
    refine k_bo fun v82 => ?_
    refine k_bo fun _ => ?_
    refine k_call (by decide) hM (fun hc => frX10_writeCount _ _ _ _ hst hc g_p0 g_p1) fun v84 M84 _ hM84 => ?_
    refine k_gR hM84 g_p0 fun v89 g_v89 => ?_
    refine k_bo fun v94 => ?_
    refine k_bn fun v96 => ?_
    exact hL97 k24 hk24 p0 p1 v96 p3 p4 _ g_p0 g_p1 hM84
  have hL54 : ∀ (k24 : Option Nat × Option Nat × Int32 × Int32 × Int32 → Mem → Option (Unit × Mem)) (hk24 : ∀ a M, (inG G (a.1) ∧ inG G (a.2.1)) → FrG G wkX10_write MM M → okv (fun _ : Unit => True) MM G wkX10_write (k24 a M)) (p0 : Option Nat) (p1 : Option Nat) (p2 : Int32) (p3 : Int32) (p4 : Int32) (M : Mem) (g_p0 : inG G p0) (g_p1 : inG G p1) (hM : FrG G wkX10_write MM M), okv (fun _ : Unit => True) MM G wkX10_write (fX10_write_L54 k24 p0 p1 p2 p3 p4 M) := by
    intro k24 hk24 p0 p1 p2 p3 p4 M g_p0 g_p1 hM
    unfold fX10_write_L54
    refine k_bn fun v54 => ?_
    exact hL97 k24 hk24 p0 p1 p2 v54 p4 _ g_p0 g_p1 hM
  have hL24 : ∀ (p0 : Option Nat) (p1 : Option Nat) (p2 : Int32) (p3 : Int32) (p4 : Int32) (M : Mem) (g_p0 : inG G p0) (g_p1 : inG G p1) (hM : FrG G wkX10_write MM M), okv (fun _ : Unit => True) MM G wkX10_write (fX10_write_L24 p0 p1 p2 p3 p4 M) := by
    intro p0 p1 p2 p3 p4 M g_p0 g_p1 hM
    refine k_lp (T := fun a : Option Nat × Option Nat × Int32 × Int32 × Int32 => inG G (a.1) ∧ inG G (a.2.1)) ?_ FU ((p0, p1, p2, p3, p4)) M ⟨g_p0, g_p1⟩ hM
    intro k24 hk24 a M T hM
    obtain ⟨p0, p1, p2, p3, p4⟩ := a
    obtain ⟨g_p0, g_p1⟩ := T
    show okv (fun _ : Unit => True) MM G wkX10_write (fX10_write_B24 k24 p0 p1 p2 p3 p4 M)
    unfold fX10_write_B24
    refine k_bo fun v27 => ?_
    refine k_if ?_ ?_
    · refine k_bo fun _ => ?_
      refine k_call (by decide) hM (fun hc => frX8_endBits _ hst hc g_p1) fun v104 M104 _ hM104 => ?_
      exact k_ret hM104 trivial
    · refine k_gR hM g_p0 fun v34 g_v34 => ?_
      refine k_bo fun v39 => ?_
      refine k_if ?_ ?_
      · refine k_if ?_ ?_
        · refine k_bo fun _ => ?_
          refine k_call (by decide) hM (fun hc => frX10_writeCount _ _ _ _ hst hc g_p0 g_p1) fun v51 M51 _ hM51 => ?_
          exact hL54 k24 hk24 p0 p1 p2 p3 p4 _ g_p0 g_p1 hM51
        · exact hL54 k24 hk24 p0 p1 p2 p3 p4 _ g_p0 g_p1 hM
      · refine k_if ?_ ?_
        · exact hL74 k24 hk24 p0 p1 p2 p3 p4 _ g_p0 g_p1 hM
        · refine k_bo fun _ => ?_
          refine k_call (by decide) hM (fun hc => frX10_writeZeros _ _ _ hst hc g_p0 g_p1) fun v69 M69 _ hM69 => ?_
          refine k_bn fun v73 => ?_
          exact hL74 k24 hk24 p0 p1 p2 v73 p4 _ g_p0 g_p1 hM69
  unfold fX10_write
  refine k_bo fun v2 => ?_
  refine k_bo fun _ => ?_
  refine k_call (by decide) hMM (fun hc => frX8_addBits _ _ _ hst hc g_a1) fun v9 M9 _ hM9 => ?_
  refine k_bo fun v14 => ?_
  refine k_bn fun v18 => ?_
  refine k_bn fun v20 => ?_
  refine k_bn fun v22 => ?_
  exact hL24 a0 a1 v18 v20 v22 _ g_a0 g_a1 hM9
def wkX6_writeTable : List Nat := [801, 802, 803, 1000, 1004, 1400, 1500, 2000]
set_option maxRecDepth 100000 in
set_option maxHeartbeats 4000000 in
theorem frX6_writeTable {G : Nat → Prop} {MM : Mem} (a0 : Option Nat) (a1 : Int32) (a2 : Int32) (hst : ∀ k, k < 10 → G k) (hc : Cl G MM) (g_a0 : inG G a0) : okv (fun _ : Int32 => True) MM G wkX6_writeTable (fX6_writeTable a0 a1 a2 MM) := by
  have hMM : FrG G wkX6_writeTable MM MM := FrG.rf hc
  have hL14 : ∀ (p0 : Option Nat) (p1 : Int32) (M : Mem) (g_p0 : inG G p0) (hM : FrG G wkX6_writeTable MM M), okv (fun _ : Int32 => True) MM G wkX6_writeTable (fX6_writeTable_L14 p0 p1 M) := by
    intro p0 p1 M g_p0 hM
    unfold fX6_writeTable_L14
    refine k_gR hM g_p0 fun v15 g_v15 => ?_
    refine k_gR hM g_p0 fun v20 g_v20 => ?_
    refine k_aR hM g_v20 fun v24 g_v24 => ?_
    refine k_wR (by decide) (by decide) hM g_v15 g_v24 fun M25 hM25 => ?_
    exact k_ret hM25 trivial
  have hL53 : ∀ (p0 : Option Nat) (p1 : Int32) (p2 : Int32) (p3 : Int32) (p4 : Int32) (M : Mem) (g_p0 : inG G p0) (hM : FrG G wkX6_writeTable MM M), okv (fun _ : Int32 => True) MM G wkX6_writeTable (fX6_writeTable_L53 p0 p1 p2 p3 p4 M) := by
    intro p0 p1 p2 p3 p4 M g_p0 hM
    refine k_lp (T := fun a : Option Nat × Int32 × Int32 × Int32 × Int32 => inG G (a.1)) ?_ FU ((p0, p1, p2, p3, p4)) M g_p0 hM
    intro k53 hk53 a M T hM
    obtain ⟨p0, p1, p2, p3, p4⟩ := a
    have g_p0 := T
    show okv (fun _ : Int32 => True) MM G wkX6_writeTable (fX6_writeTable_B53 k53 p0 p1 p2 p3 p4 M)
    unfold fX6_writeTable_B53
    refine k_if ?_ ?_
    · refine k_gR hM g_p0 fun v93 g_v93 => ?_
      refine k_bo fun v97 => ?_
      refine k_if ?_ ?_
      · refine k_gR hM g_p0 fun v103 g_v103 => ?_
        refine k_aR hM g_v103 fun v107 g_v107 => ?_
        refine k_bo fun _ => ?_
        refine k_call (by decide) hM (fun hc => frX10_buildOnly _ _ hst hc g_v107) fun v109 M109 _ hM109 => ?_
        refine k_gR hM109 g_p0 fun v113 g_v113 => ?_
        refine k_bo fun _ => ?_
        refine k_call (by decide) hM109 (fun hc => frX8_add _ _ hst hc g_v113) fun v117 M117 _ hM117 => ?_
        exact k_ret hM117 trivial
      · refine k_gR hM g_p0 fun v123 g_v123 => ?_
        refine k_aR hM g_v123 fun v127 g_v127 => ?_
        refine k_gR hM g_p0 fun v129 g_v129 => ?_
        refine k_bo fun _ => ?_
        refine k_call (by decide) hM (fun hc => frX10_buildFor _ _ _ _ hst hc g_v127 g_v129) fun v134 M134 _ hM134 => ?_
        refine k_gR hM134 g_p0 fun v138 g_v138 => ?_
        refine k_aR hM134 g_v138 fun v142 g_v142 => ?_
        refine k_gR hM134 g_p0 fun v144 g_v144 => ?_
        refine k_bo fun _ => ?_
        refine k_call (by decide) hM134 (fun hc => frX10_write _ _ hst hc g_v142 g_v144) fun v147 M147 _ hM147 => ?_
        exact k_ret hM147 trivial
    · refine k_bo fun _ => ?_
      refine k_call (by decide) hM (fun hc => frX6_symbolOf _ _ _ hst hc g_p0) fun v63 M63 _ hM63 => ?_
      refine k_bn fun v66 => ?_
      refine k_gR hM63 g_p0 fun v69 g_v69 => ?_
      refine k_bo fun v75 => ?_
      refine k_wI (by decide) hM63 g_v69 fun M78 hM78 => ?_
      refine k_bn fun v85 => ?_
      refine k_bn fun v86 => ?_
      exact hk53 ((p0, p1, p2, v85, v86)) _ g_p0 hM78
  unfold fX6_writeTable
  refine k_bo fun v1 => ?_
  refine k_if ?_ ?_
  · exact hL14 a0 a1 _ g_a0 hMM
  · refine k_if ?_ ?_
    · refine k_gR hMM g_a0 fun v29 g_v29 => ?_
      refine k_gR hMM g_a0 fun v34 g_v34 => ?_
      refine k_aR hMM g_v34 fun v38 g_v38 => ?_
      refine k_wR (by decide) (by decide) hMM g_v29 g_v38 fun M39 hM39 => ?_
      refine k_gR hM39 g_a0 fun v41 g_v41 => ?_
      refine k_call (by decide) hM39 (fun hc => frJ7_fill_53178 _ _ hst hc g_v41) fun v45 M45 _ hM45 => ?_
      refine k_bn fun v49 => ?_
      refine k_bn fun v51 => ?_
      exact hL53 a0 a1 a2 v49 v51 _ g_a0 hM45
    · exact hL14 a0 a1 _ g_a0 hMM
def wkX8_put : List Nat := [1400]
set_option maxRecDepth 100000 in
set_option maxHeartbeats 4000000 in
theorem frX8_put {G : Nat → Prop} {MM : Mem} (a0 : Option Nat) (a1 : Int32) (a2 : Int32) (hst : ∀ k, k < 10 → G k) (hc : Cl G MM) (g_a0 : inG G a0) : okv (fun _ : Unit => True) MM G wkX8_put (fX8_put a0 a1 a2 MM) := by
  have hMM : FrG G wkX8_put MM MM := FrG.rf hc
  have hL21 : ∀ (M : Mem) (hM : FrG G wkX8_put MM M), okv (fun _ : Unit => True) MM G wkX8_put (fX8_put_L21 M) := by
    intro M hM
    unfold fX8_put_L21
    exact k_ret hM trivial
  unfold fX8_put
  refine k_if ?_ ?_
  · exact hL21 _ hMM
  · refine k_gR hMM g_a0 fun v6 g_v6 => ?_
    refine k_bo fun v9 => ?_
    refine k_if ?_ ?_
    · exact hL21 _ hMM
    · refine k_gR hMM g_a0 fun v14 g_v14 => ?_
      refine k_wB (by decide) hMM g_v14 fun M20 hM20 => ?_
      exact hL21 _ hM20
def wkX10_firstPlace : List Nat := []
set_option maxRecDepth 100000 in
set_option maxHeartbeats 4000000 in
theorem frX10_firstPlace {G : Nat → Prop} {MM : Mem} (a0 : Option Nat) (a1 : Int32) (hst : ∀ k, k < 10 → G k) (hc : Cl G MM) (g_a0 : inG G a0) : okv (fun _ : Int32 => True) MM G wkX10_firstPlace (fX10_firstPlace a0 a1 MM) := by
  have hMM : FrG G wkX10_firstPlace MM MM := FrG.rf hc
  have hL2 : ∀ (p0 : Option Nat) (p1 : Int32) (p2 : Int32) (M : Mem) (g_p0 : inG G p0) (hM : FrG G wkX10_firstPlace MM M), okv (fun _ : Int32 => True) MM G wkX10_firstPlace (fX10_firstPlace_L2 p0 p1 p2 M) := by
    intro p0 p1 p2 M g_p0 hM
    refine k_lp (T := fun a : Option Nat × Int32 × Int32 => inG G (a.1)) ?_ FU ((p0, p1, p2)) M g_p0 hM
    intro k2 hk2 a M T hM
    obtain ⟨p0, p1, p2⟩ := a
    have g_p0 := T
    show okv (fun _ : Int32 => True) MM G wkX10_firstPlace (fX10_firstPlace_B2 k2 p0 p1 p2 M)
    unfold fX10_firstPlace_B2
    refine k_bo fun v5 => ?_
    refine k_if ?_ ?_
    · exact k_ret hM trivial
    · refine k_bo fun _ => ?_
      refine k_call (by decide) hM (fun hc => frX10_symbolAt _ _ hst hc g_p0) fun v14 M14 _ hM14 => ?_
      refine k_if ?_ ?_
      · exact k_ret hM14 trivial
      · refine k_bn fun v23 => ?_
        exact hk2 ((p0, p1, v23)) _ g_p0 hM14
  unfold fX10_firstPlace
  refine k_bn fun v1 => ?_
  exact hL2 a0 a1 v1 _ g_a0 hMM
def wkX10_placeBefore : List Nat := []
set_option maxRecDepth 100000 in
set_option maxHeartbeats 4000000 in
theorem frX10_placeBefore {G : Nat → Prop} {MM : Mem} (a0 : Option Nat) (a1 : Int32) (a2 : Int32) (hst : ∀ k, k < 10 → G k) (hc : Cl G MM) (g_a0 : inG G a0) : okv (fun _ : Int32 => True) MM G wkX10_placeBefore (fX10_placeBefore a0 a1 a2 MM) := by
  have hMM : FrG G wkX10_placeBefore MM MM := FrG.rf hc
  have hL49 : ∀ (k2 : Option Nat × Int32 × Int32 × Int32 → Mem → Option (Int32 × Mem)) (hk2 : ∀ a M, (inG G (a.1)) → FrG G wkX10_placeBefore MM M → okv (fun _ : Int32 => True) MM G wkX10_placeBefore (k2 a M)) (p0 : Option Nat) (p1 : Int32) (p2 : Int32) (p3 : Int32) (M : Mem) (g_p0 : inG G p0) (hM : FrG G wkX10_placeBefore MM M), okv (fun _ : Int32 => True) MM G wkX10_placeBefore (fX10_placeBefore_L49 k2 p0 p1 p2 p3 M) := by
    intro k2 hk2 p0 p1 p2 p3 M g_p0 hM
    unfold fX10_placeBefore_L49
    refine k_bn fun v49 => ?_
    exact hk2 ((p0, p1, p2, v49)) _ g_p0 hM
  have hL2 : ∀ (p0 : Option Nat) (p1 : Int32) (p2 : Int32) (p3 : Int32) (M : Mem) (g_p0 : inG G p0) (hM : FrG G wkX10_placeBefore MM M), okv (fun _ : Int32 => True) MM G wkX10_placeBefore (fX10_placeBefore_L2 p0 p1 p2 p3 M) := by
    intro p0 p1 p2 p3 M g_p0 hM
    refine k_lp (T := fun a : Option Nat × Int32 × Int32 × Int32 => inG G (a.1)) ?_ FU ((p0, p1, p2, p3)) M g_p0 hM
    intro k2 hk2 a M T hM
    obtain ⟨p0, p1, p2, p3⟩ := a
    have g_p0 := T
    show okv (fun _ : Int32 => True) MM G wkX10_placeBefore (fX10_placeBefore_B2 k2 p0 p1 p2 p3 M)
    unfold fX10_placeBefore_B2
    refine k_bo fun v5 => ?_
    refine k_if ?_ ?_
    · exact k_ret hM trivial
    · refine k_bo fun _ => ?_
      refine k_call (by decide) hM (fun hc => frX10_baseAt _ _ hst hc g_p0) fun v15 M15 _ hM15 => ?_
      refine k_bn fun v19 => ?_
      refine k_bo fun _ => ?_
      refine k_call (by decide) hM15 (fun hc => frX10_symbolAt _ _ hst hc g_p0) fun v23 M23 _ hM23 => ?_
      refine k_if ?_ ?_
      · refine k_if ?_ ?_
        · exact hL49 k2 hk2 p0 p1 p2 p3 _ g_p0 hM23
        · refine k_bo fun _ => ?_
          refine k_call (by decide) hM23 (fun hc => frX10_bitsAt _ _ hst hc g_p0) fun v40 M40 _ hM40 => ?_
          refine k_if ?_ ?_
          · exact hL49 k2 hk2 p0 p1 p2 p3 _ g_p0 hM40
          · exact k_ret hM40 trivial
      · exact hL49 k2 hk2 p0 p1 p2 p3 _ g_p0 hM23
  unfold fX10_placeBefore
  refine k_bn fun v1 => ?_
  exact hL2 a0 a1 a2 v1 _ g_a0 hMM
def wkX6_goBack : List Nat := [801, 802, 803, 1400, 1500]
set_option maxRecDepth 100000 in
set_option maxHeartbeats 4000000 in
theorem frX6_goBack {G : Nat → Prop} {MM : Mem} (a0 : Option Nat) (a1 : Int32) (a2 : Int32) (hst : ∀ k, k < 10 → G k) (hc : Cl G MM) (g_a0 : inG G a0) : okv (fun _ : Unit => True) MM G wkX6_goBack (fX6_goBack a0 a1 a2 MM) := by
  have hMM : FrG G wkX6_goBack MM MM := FrG.rf hc
  unfold fX6_goBack
  refine k_gR hMM g_a0 fun v1 g_v1 => ?_
  refine k_aR hMM g_v1 fun v5 g_v5 => ?_
  refine k_bnR g_v5 fun v6 g_v6 => ?_
  refine k_bo fun _ => ?_
  refine k_call (by decide) hMM (fun hc => frX6_symbolOf _ _ _ hst hc g_a0) fun v11 M11 _ hM11 => ?_
  refine k_gR hM11 g_a0 fun v15 g_v15 => ?_
  refine k_bo fun v19 => ?_
  refine k_bo fun _ => ?_
  refine k_call (by decide) hM11 (fun hc => frX10_placeBefore _ _ _ hst hc g_v6) fun v20 M20 _ hM20 => ?_
  refine k_bn fun v23 => ?_
  refine k_gR hM20 g_a0 fun v26 g_v26 => ?_
  refine k_gR hM20 g_a0 fun v30 g_v30 => ?_
  refine k_bo fun v34 => ?_
  refine k_bo fun _ => ?_
  refine k_call (by decide) hM20 (fun hc => frX10_baseAt _ _ hst hc g_v6) fun v38 M38 _ hM38 => ?_
  refine k_bo fun _ => ?_
  refine k_call (by decide) hM38 (fun hc => frX10_bitsAt _ _ hst hc g_v6) fun v46 M46 _ hM46 => ?_
  refine k_bo fun _ => ?_
  refine k_call (by decide) hM46 (fun hc => frX8_addBits _ _ _ hst hc g_v26) fun v49 M49 _ hM49 => ?_
  refine k_gR hM49 g_a0 fun v53 g_v53 => ?_
  refine k_wI (by decide) hM49 g_v53 fun M59 hM59 => ?_
  exact k_ret hM59 trivial
def wkX6_writeExtra : List Nat := [801, 802, 803, 1400]
set_option maxRecDepth 100000 in
set_option maxHeartbeats 4000000 in
theorem frX6_writeExtra {G : Nat → Prop} {MM : Mem} (a0 : Option Nat) (a1 : Int32) (a2 : Int32) (a3 : Int32) (hst : ∀ k, k < 10 → G k) (hc : Cl G MM) (g_a0 : inG G a0) : okv (fun _ : Unit => True) MM G wkX6_writeExtra (fX6_writeExtra a0 a1 a2 a3 MM) := by
  have hMM : FrG G wkX6_writeExtra MM MM := FrG.rf hc
  unfold fX6_writeExtra
  refine k_bo fun _ => ?_
  refine k_call (by decide) hMM (fun hc => frX6_symbolOf _ _ _ hst hc g_a0) fun v3 M3 _ hM3 => ?_
  refine k_bn fun v6 => ?_
  refine k_gR hM3 g_a0 fun v9 g_v9 => ?_
  refine k_call (by decide) hM3 (fun hc => frX12_baseOf _ hst hc) fun v14 M14 g_v14 hM14 => ?_
  refine k_bo fun v19 => ?_
  refine k_call (by decide) hM14 (fun hc => frX12_extraOf _ hst hc) fun v23 M23 g_v23 hM23 => ?_
  refine k_bo fun v28 => ?_
  refine k_bo fun _ => ?_
  refine k_call (by decide) hM23 (fun hc => frX8_addBits _ _ _ hst hc g_v9) fun v29 M29 _ hM29 => ?_
  exact k_ret hM29 trivial
def wkX6_writeStates : List Nat := [801, 802, 803, 1400, 1500]
set_option maxRecDepth 100000 in
set_option maxHeartbeats 4000000 in
theorem frX6_writeStates {G : Nat → Prop} {MM : Mem} (a0 : Option Nat) (a1 : Int32) (hst : ∀ k, k < 10 → G k) (hc : Cl G MM) (g_a0 : inG G a0) : okv (fun _ : Unit => True) MM G wkX6_writeStates (fX6_writeStates a0 a1 MM) := by
  have hMM : FrG G wkX6_writeStates MM MM := FrG.rf hc
  have hL70 : ∀ (k4 : Option Nat × Int32 × Int32 → Mem → Option (Unit × Mem)) (hk4 : ∀ a M, (inG G (a.1)) → FrG G wkX6_writeStates MM M → okv (fun _ : Unit => True) MM G wkX6_writeStates (k4 a M)) (p0 : Option Nat) (p1 : Int32) (p2 : Int32) (M : Mem) (g_p0 : inG G p0) (hM : FrG G wkX6_writeStates MM M), okv (fun _ : Unit => True) MM G wkX6_writeStates (fX6_writeStates_L70 k4 p0 p1 p2 M) := by
    intro k4 hk4 p0 p1 p2 M g_p0 hM
    unfold fX6_writeStates_L70
    refine k_gR hM g_p0 fun v74 g_v74 => ?_
    refine k_gR hM g_v74 fun v77 g_v77 => ?_
    refine k_bo fun v81 => ?_
    refine k_bo fun _ => ?_
    refine k_call (by decide) hM (fun hc => frX6_writeExtra _ _ _ _ hst hc g_p0) fun v82 M82 _ hM82 => ?_
    refine k_gR hM82 g_p0 fun v89 g_v89 => ?_
    refine k_gR hM82 g_v89 fun v92 g_v92 => ?_
    refine k_bo fun v96 => ?_
    refine k_bo fun _ => ?_
    refine k_call (by decide) hM82 (fun hc => frX6_writeExtra _ _ _ _ hst hc g_p0) fun v97 M97 _ hM97 => ?_
    refine k_gR hM97 g_p0 fun v101 g_v101 => ?_
    refine k_gR hM97 g_p0 fun v105 g_v105 => ?_
    refine k_bo fun v109 => ?_
    refine k_bo fun _ => ?_
    refine k_call (by decide) hM97 (fun hc => frX6_symbolOf _ _ _ hst hc g_p0) fun v114 M114 _ hM114 => ?_
    refine k_bo fun _ => ?_
    refine k_call (by decide) hM114 (fun hc => frX8_addBits _ _ _ hst hc g_v101) fun v117 M117 _ hM117 => ?_
    refine k_bn fun v120 => ?_
    exact hk4 ((p0, p1, v120)) _ g_p0 hM117
  have hL17 : ∀ (k4 : Option Nat × Int32 × Int32 → Mem → Option (Unit × Mem)) (hk4 : ∀ a M, (inG G (a.1)) → FrG G wkX6_writeStates MM M → okv (fun _ : Unit => True) MM G wkX6_writeStates (k4 a M)) (p0 : Option Nat) (p1 : Int32) (p2 : Int32) (p3 : Int32) (M : Mem) (g_p0 : inG G p0) (hM : FrG G wkX6_writeStates MM M), okv (fun _ : Unit => True) MM G wkX6_writeStates (fX6_writeStates_L17 k4 p0 p1 p2 p3 M) := by
    intro k4 hk4 p0 p1 p2 p3 M g_p0 hM
    refine k_lp (T := fun a : Option Nat × Int32 × Int32 × Int32 => inG G (a.1)) ?_ FU ((p0, p1, p2, p3)) M g_p0 hM
    intro k17 hk17 a M T hM
    obtain ⟨p0, p1, p2, p3⟩ := a
    have g_p0 := T
    show okv (fun _ : Unit => True) MM G wkX6_writeStates (fX6_writeStates_B17 k4 k17 p0 p1 p2 p3 M)
    unfold fX6_writeStates_B17
    refine k_if ?_ ?_
    · exact hL70 k4 hk4 p0 p1 p2 _ g_p0 hM
    · refine k_gR hM g_p0 fun v23 g_v23 => ?_
      refine k_gR hM g_p0 fun v28 g_v28 => ?_
      refine k_aR hM g_v28 fun v32 g_v32 => ?_
      refine k_bo fun _ => ?_
      refine k_call (by decide) hM (fun hc => frX6_symbolOf _ _ _ hst hc g_p0) fun v36 M36 _ hM36 => ?_
      refine k_bo fun _ => ?_
      refine k_call (by decide) hM36 (fun hc => frX10_firstPlace _ _ hst hc g_v32) fun v39 M39 _ hM39 => ?_
      refine k_wI (by decide) hM39 g_v23 fun M42 hM42 => ?_
      refine k_bn fun v43 => ?_
      exact hk17 ((p0, p1, p2, v43)) _ g_p0 hM42
  have hL4 : ∀ (p0 : Option Nat) (p1 : Int32) (p2 : Int32) (M : Mem) (g_p0 : inG G p0) (hM : FrG G wkX6_writeStates MM M), okv (fun _ : Unit => True) MM G wkX6_writeStates (fX6_writeStates_L4 p0 p1 p2 M) := by
    intro p0 p1 p2 M g_p0 hM
    refine k_lp (T := fun a : Option Nat × Int32 × Int32 => inG G (a.1)) ?_ FU ((p0, p1, p2)) M g_p0 hM
    intro k4 hk4 a M T hM
    obtain ⟨p0, p1, p2⟩ := a
    have g_p0 := T
    show okv (fun _ : Unit => True) MM G wkX6_writeStates (fX6_writeStates_B4 k4 p0 p1 p2 M)
    unfold fX6_writeStates_B4
    refine k_if ?_ ?_
    · refine k_gR hM g_p0 fun v127 g_v127 => ?_
      refine k_gR hM g_p0 fun v131 g_v131 => ?_
      refine k_bo fun v135 => ?_
      refine k_gR hM g_p0 fun v138 g_v138 => ?_
      refine k_aR hM g_v138 fun v142 g_v142 => ?_
      refine k_bo fun v143 => ?_
      refine k_bo fun _ => ?_
      refine k_call (by decide) hM (fun hc => frX8_addBits _ _ _ hst hc g_v127) fun v146 M146 _ hM146 => ?_
      refine k_gR hM146 g_p0 fun v150 g_v150 => ?_
      refine k_gR hM146 g_p0 fun v154 g_v154 => ?_
      refine k_bo fun v158 => ?_
      refine k_gR hM146 g_p0 fun v161 g_v161 => ?_
      refine k_aR hM146 g_v161 fun v165 g_v165 => ?_
      refine k_bo fun v166 => ?_
      refine k_bo fun _ => ?_
      refine k_call (by decide) hM146 (fun hc => frX8_addBits _ _ _ hst hc g_v150) fun v169 M169 _ hM169 => ?_
      refine k_gR hM169 g_p0 fun v173 g_v173 => ?_
      refine k_gR hM169 g_p0 fun v177 g_v177 => ?_
      refine k_bo fun v181 => ?_
      refine k_gR hM169 g_p0 fun v184 g_v184 => ?_
      refine k_aR hM169 g_v184 fun v188 g_v188 => ?_
      refine k_bo fun v189 => ?_
      refine k_bo fun _ => ?_
      refine k_call (by decide) hM169 (fun hc => frX8_addBits _ _ _ hst hc g_v173) fun v192 M192 _ hM192 => ?_
      refine k_gR hM192 g_p0 fun v196 g_v196 => ?_
      refine k_bo fun _ => ?_
      refine k_call (by decide) hM192 (fun hc => frX8_addBits _ _ _ hst hc g_v196) fun v201 M201 _ hM201 => ?_
      refine k_gR hM201 g_p0 fun v205 g_v205 => ?_
      refine k_bo fun _ => ?_
      refine k_call (by decide) hM201 (fun hc => frX8_endBits _ hst hc g_v205) fun v208 M208 _ hM208 => ?_
      exact k_ret hM208 trivial
    · refine k_if ?_ ?_
      · refine k_bn fun v16 => ?_
        exact hL17 k4 hk4 p0 p1 p2 v16 _ g_p0 hM
      · refine k_bo fun _ => ?_
        refine k_call (by decide) hM (fun hc => frX6_goBack _ _ _ hst hc g_p0) fun v55 M55 _ hM55 => ?_
        refine k_bo fun _ => ?_
        refine k_call (by decide) hM55 (fun hc => frX6_goBack _ _ _ hst hc g_p0) fun v61 M61 _ hM61 => ?_
        refine k_bo fun _ => ?_
        refine k_call (by decide) hM61 (fun hc => frX6_goBack _ _ _ hst hc g_p0) fun v67 M67 _ hM67 => ?_
        exact hL70 k4 hk4 p0 p1 p2 _ g_p0 hM67
  unfold fX6_writeStates
  refine k_bn fun v3 => ?_
  exact hL4 a0 a1 v3 _ g_a0 hMM
def wkX6_writeSequences : List Nat := [801, 802, 803, 1000, 1004, 1400, 1500, 2000]
set_option maxRecDepth 100000 in
set_option maxHeartbeats 4000000 in
theorem frX6_writeSequences {G : Nat → Prop} {MM : Mem} (a0 : Option Nat) (hst : ∀ k, k < 10 → G k) (hc : Cl G MM) (g_a0 : inG G a0) : okv (fun _ : Unit => True) MM G wkX6_writeSequences (fX6_writeSequences a0 MM) := by
  have hMM : FrG G wkX6_writeSequences MM MM := FrG.rf hc
  have hL75 : ∀ (p0 : Option Nat) (p1 : Int32) (p2 : Int32) (p3 : Int32) (p4 : Int32) (M : Mem) (g_p0 : inG G p0) (hM : FrG G wkX6_writeSequences MM M), okv (fun _ : Unit => True) MM G wkX6_writeSequences (fX6_writeSequences_L75 p0 p1 p2 p3 p4 M) := by
    intro p0 p1 p2 p3 p4 M g_p0 hM
    refine k_lp (T := fun a : Option Nat × Int32 × Int32 × Int32 × Int32 => inG G (a.1)) ?_ FU ((p0, p1, p2, p3, p4)) M g_p0 hM
    intro k75 hk75 a M T hM
    obtain ⟨p0, p1, p2, p3, p4⟩ := a
    have g_p0 := T
    show okv (fun _ : Unit => True) MM G wkX6_writeSequences (fX6_writeSequences_B75 k75 p0 p1 p2 p3 p4 M)
    unfold fX6_writeSequences_B75
    refine k_if ?_ ?_
    · refine k_gR hM g_p0 fun v106 g_v106 => ?_
      refine k_bo fun _ => ?_
      refine k_call (by decide) hM (fun hc => frX8_put _ _ _ hst hc g_v106) fun v111 M111 _ hM111 => ?_
      refine k_bo fun _ => ?_
      refine k_call (by decide) hM111 (fun hc => frX6_writeStates _ _ hst hc g_p0) fun v116 M116 _ hM116 => ?_
      exact k_ret hM116 trivial
    · refine k_bo fun _ => ?_
      refine k_call (by decide) hM (fun hc => frX6_writeTable _ _ _ hst hc g_p0) fun v86 M86 _ hM86 => ?_
      refine k_bn fun v98 => ?_
      refine k_bn fun v99 => ?_
      exact hk75 ((p0, p1, p2, v98, v99)) _ g_p0 hM86
  have hL49 : ∀ (p0 : Option Nat) (p1 : Int32) (M : Mem) (g_p0 : inG G p0) (hM : FrG G wkX6_writeSequences MM M), okv (fun _ : Unit => True) MM G wkX6_writeSequences (fX6_writeSequences_L49 p0 p1 M) := by
    intro p0 p1 M g_p0 hM
    unfold fX6_writeSequences_L49
    refine k_if ?_ ?_
    · exact k_ret hM trivial
    · refine k_gR hM g_p0 fun v55 g_v55 => ?_
      refine k_bo fun v58 => ?_
      refine k_bn fun v61 => ?_
      refine k_bn fun v63 => ?_
      refine k_gR hM g_p0 fun v65 g_v65 => ?_
      refine k_bo fun _ => ?_
      refine k_call (by decide) hM (fun hc => frX8_add _ _ hst hc g_v65) fun v69 M69 _ hM69 => ?_
      refine k_bn fun v73 => ?_
      exact hL75 p0 p1 v61 v63 v73 _ g_p0 hM69
  unfold fX6_writeSequences
  refine k_gR hMM g_a0 fun v1 g_v1 => ?_
  refine k_bo fun v4 => ?_
  refine k_bn fun v7 => ?_
  refine k_if ?_ ?_
  · refine k_gR hMM g_a0 fun v27 g_v27 => ?_
    refine k_bo fun _ => ?_
    refine k_call (by decide) hMM (fun hc => frX8_add _ _ hst hc g_v27) fun v38 M38 _ hM38 => ?_
    refine k_gR hM38 g_a0 fun v42 g_v42 => ?_
    refine k_bo fun _ => ?_
    refine k_call (by decide) hM38 (fun hc => frX8_add _ _ hst hc g_v42) fun v46 M46 _ hM46 => ?_
    exact hL49 a0 v7 _ g_a0 hM46
  · refine k_gR hMM g_a0 fun v16 g_v16 => ?_
    refine k_bo fun _ => ?_
    refine k_call (by decide) hMM (fun hc => frX8_add _ _ hst hc g_v16) fun v20 M20 _ hM20 => ?_
    exact hL49 a0 v7 _ g_a0 hM20
def wkX6_writeBody : List Nat := [100, 301, 309, 310, 311, 801, 802, 803, 1000, 1004, 1101, 1102, 1400, 1500, 2000]
set_option maxRecDepth 100000 in
set_option maxHeartbeats 4000000 in
theorem frX6_writeBody {G : Nat → Prop} {MM : Mem} (a0 : Option Nat) (a1 : Int32) (a2 : Int32) (hst : ∀ k, k < 10 → G k) (hc : Cl G MM) (g_a0 : inG G a0) : okv z01 MM G wkX6_writeBody (fX6_writeBody a0 a1 a2 MM) := by
  have hMM : FrG G wkX6_writeBody MM MM := FrG.rf hc
  have hL33 : ∀ (p0 : Option Nat) (p1 : Int32) (p2 : Int32) (p3 : Int32) (M : Mem) (g_p0 : inG G p0) (hM : FrG G wkX6_writeBody MM M), okv z01 MM G wkX6_writeBody (fX6_writeBody_L33 p0 p1 p2 p3 M) := by
    intro p0 p1 p2 p3 M g_p0 hM
    refine k_lp (T := fun a : Option Nat × Int32 × Int32 × Int32 => inG G (a.1)) ?_ FU ((p0, p1, p2, p3)) M g_p0 hM
    intro k33 hk33 a M T hM
    obtain ⟨p0, p1, p2, p3⟩ := a
    have g_p0 := T
    show okv z01 MM G wkX6_writeBody (fX6_writeBody_B33 k33 p0 p1 p2 p3 M)
    unfold fX6_writeBody_B33
    refine k_gR hM g_p0 fun v35 g_v35 => ?_
    refine k_bo fun v38 => ?_
    refine k_if ?_ ?_
    · refine k_bo fun _ => ?_
      refine k_call (by decide) hM (fun hc => frX6_writeLetters _ hst hc g_p0) fun v114 M114 _ hM114 => ?_
      refine k_bo fun _ => ?_
      refine k_call (by decide) hM114 (fun hc => frX6_writeSequences _ hst hc g_p0) fun v118 M118 _ hM118 => ?_
      refine k_gR hM118 g_p0 fun v122 g_v122 => ?_
      refine k_bo fun v125 => ?_
      refine k_if ?_ ?_
      · refine k_gR hM118 g_p0 fun v137 g_v137 => ?_
        refine k_gR hM118 g_p0 fun v142 g_v142 => ?_
        refine k_cI (by decide) hM118 g_v142 fun M147 hM147 => ?_
        exact k_retZ hM147
      · exact k_retZ hM118
    · refine k_gR hM g_p0 fun v45 g_v45 => ?_
      refine k_gR hM g_p0 fun v51 g_v51 => ?_
      refine k_gR hM g_v51 fun v54 g_v54 => ?_
      refine k_bo fun v58 => ?_
      refine k_gR hM g_p0 fun v60 g_v60 => ?_
      refine k_gR hM g_v60 fun v63 g_v63 => ?_
      refine k_bo fun v67 => ?_
      refine k_bo fun _ => ?_
      refine k_call (by decide) hM (fun hc => frX6_valueOf _ _ _ hst hc g_p0) fun v68 M68 _ hM68 => ?_
      refine k_wI (by decide) hM68 g_v45 fun M71 hM71 => ?_
      refine k_gR hM71 g_p0 fun v73 g_v73 => ?_
      refine k_gR hM71 g_p0 fun v77 g_v77 => ?_
      refine k_bo fun v81 => ?_
      refine k_gR hM71 g_p0 fun v84 g_v84 => ?_
      refine k_gR hM71 g_v84 fun v87 g_v87 => ?_
      refine k_bo fun v91 => ?_
      refine k_call (by decide) hM71 (fun hc => frX12_whichOf _ _ hst hc) fun v92 M92 _ hM92 => ?_
      refine k_gR hM92 g_p0 fun v96 g_v96 => ?_
      refine k_gR hM92 g_v96 fun v99 g_v99 => ?_
      refine k_bo fun v103 => ?_
      refine k_call (by decide) hM92 (fun hc => frX12_remember _ _ _ hst hc g_v73) fun v104 M104 _ hM104 => ?_
      refine k_bn fun v107 => ?_
      exact hk33 ((p0, p1, p2, v107)) _ g_p0 hM104
  unfold fX6_writeBody
  refine k_gR hMM g_a0 fun v1 g_v1 => ?_
  refine k_pI (by decide) (by decide) (by decide) hMM g_v1 fun M5 hM5 => ?_
  refine k_gR hM5 g_a0 fun v9 g_v9 => ?_
  refine k_bo fun _ => ?_
  refine k_call (by decide) hM5 (fun hc => frX3_find _ _ _ hst hc g_v9) fun v14 M14 _ hM14 => ?_
  refine k_gR hM14 g_a0 fun v18 g_v18 => ?_
  refine k_gR hM14 g_a0 fun v23 g_v23 => ?_
  refine k_cI (by decide) hM14 g_v23 fun M28 hM28 => ?_
  refine k_bn fun v32 => ?_
  exact hL33 a0 a1 a2 v32 _ g_a0 hM28
def wkX6_writeBlock : List Nat := [801, 1400]
set_option maxRecDepth 100000 in
set_option maxHeartbeats 4000000 in
theorem frX6_writeBlock {G : Nat → Prop} {MM : Mem} (a0 : Option Nat) (a1 : Int32) (a2 : Int32) (a3 : Int32) (hst : ∀ k, k < 10 → G k) (hc : Cl G MM) (g_a0 : inG G a0) : okv (fun _ : Unit => True) MM G wkX6_writeBlock (fX6_writeBlock a0 a1 a2 a3 MM) := by
  have hMM : FrG G wkX6_writeBlock MM MM := FrG.rf hc
  have hL108 : ∀ (M : Mem) (hM : FrG G wkX6_writeBlock MM M), okv (fun _ : Unit => True) MM G wkX6_writeBlock (fX6_writeBlock_L108 M) := by
    intro M hM
    unfold fX6_writeBlock_L108
    exact k_ret hM trivial
  have hL105 : ∀ (q0 : Option Nat) (q1 : Option Nat) (q2 : Int32) (q3 : Int32) (M : Mem) (g_q0 : inG G q0) (g_q1 : inG G q1) (hM : FrG G wkX6_writeBlock MM M), okv (fun _ : Unit => True) MM G wkX6_writeBlock (fX6_writeBlock_L105 q0 q1 q2 q3 M) := by
    intro q0 q1 q2 q3 M g_q0 g_q1 hM
    unfold fX6_writeBlock_L105
    refine k_bo fun _ => ?_
    refine k_call (by decide) hM (fun hc => frX8_addFrom _ _ _ _ hst hc g_q0 g_q1) fun v105 M105 _ hM105 => ?_
    exact hL108 _ hM105
  have hL50 : ∀ (p0 : Option Nat) (p1 : Int32) (p3 : Int32) (p4 : Int32) (q0 : Option Nat) (q1 : Int32) (q2 : Int32) (M : Mem) (g_p0 : inG G p0) (g_q0 : inG G q0) (hM : FrG G wkX6_writeBlock MM M), okv (fun _ : Unit => True) MM G wkX6_writeBlock (fX6_writeBlock_L50 p0 p1 p3 p4 q0 q1 q2 M) := by
    intro p0 p1 p3 p4 q0 q1 q2 M g_p0 g_q0 hM
    unfold fX6_writeBlock_L50
    refine k_bo fun _ => ?_
    refine k_call (by decide) hM (fun hc => frX8_addNumber _ _ _ hst hc g_q0) fun v55 M55 _ hM55 => ?_
    refine k_if ?_ ?_
    · refine k_gR hM55 g_p0 fun v64 g_v64 => ?_
      refine k_gR hM55 g_p0 fun v68 g_v68 => ?_
      refine k_gR hM55 g_p0 fun v73 g_v73 => ?_
      refine k_bo fun v76 => ?_
      refine k_bo fun _ => ?_
      refine k_call (by decide) hM55 (fun hc => frX8_addFrom _ _ _ _ hst hc g_v64 g_v68) fun v79 M79 _ hM79 => ?_
      exact hL108 _ hM79
    · refine k_gR hM55 g_p0 fun v86 g_v86 => ?_
      refine k_gR hM55 g_p0 fun v90 g_v90 => ?_
      refine k_if ?_ ?_
      · exact hL105 v86 v90 p1 1 _ g_v86 g_v90 hM55
      · exact hL105 v86 v90 p1 p4 _ g_v86 g_v90 hM55
  have hL21 : ∀ (p0 : Option Nat) (p1 : Int32) (p3 : Int32) (p4 : Int32) (q0 : Int32) (M : Mem) (g_p0 : inG G p0) (hM : FrG G wkX6_writeBlock MM M), okv (fun _ : Unit => True) MM G wkX6_writeBlock (fX6_writeBlock_L21 p0 p1 p3 p4 q0 M) := by
    intro p0 p1 p3 p4 q0 M g_p0 hM
    unfold fX6_writeBlock_L21
    refine k_bn fun v21 => ?_
    refine k_gR hM g_p0 fun v24 g_v24 => ?_
    refine k_if ?_ ?_
    · refine k_gR hM g_p0 fun v39 g_v39 => ?_
      refine k_bo fun v42 => ?_
      exact hL50 p0 p1 p3 p4 v24 (v21 ||| (shlI p3 1)) v42 _ g_p0 g_v24 hM
    · exact hL50 p0 p1 p3 p4 v24 (v21 ||| (shlI p3 1)) p4 _ g_p0 g_v24 hM
  unfold fX6_writeBlock
  refine k_bn fun v3 => ?_
  refine k_gR hMM g_a0 fun v7 g_v7 => ?_
  refine k_bo fun v10 => ?_
  refine k_if ?_ ?_
  · exact hL21 a0 a1 a3 v3 1 _ g_a0 hMM
  · exact hL21 a0 a1 a3 v3 0 _ g_a0 hMM
def wkX6_packRow : List Nat := [100, 301, 308, 309, 310, 311, 612, 613, 614, 801, 802, 803, 1000, 1004, 1101, 1102, 1400, 1500, 2000]
set_option maxRecDepth 100000 in
set_option maxHeartbeats 4000000 in
theorem frX6_packRow {G : Nat → Prop} {MM : Mem} (a0 : Option Nat) (a1 : Option Nat) (a2 : Option Nat) (a3 : Option Nat) (a4 : Int32) (a5 : Int32) (hst : ∀ k, k < 10 → G k) (hc : Cl G MM) (g_a0 : inG G a0) (g_a1 : inG G a1) (g_a2 : inG G a2) (g_a3 : inG G a3) : okv (fun _ : Unit => True) MM G wkX6_packRow (fX6_packRow a0 a1 a2 a3 a4 a5 MM) := by
  have hMM : FrG G wkX6_packRow MM MM := FrG.rf hc
  have hL221 : ∀ (k79 : Option Nat × Int32 × Int32 × Int32 → Mem → Option (Unit × Mem)) (hk79 : ∀ a M, (inG G (a.1)) → FrG G wkX6_packRow MM M → okv (fun _ : Unit => True) MM G wkX6_packRow (k79 a M)) (p0 : Option Nat) (p5 : Int32) (p7 : Int32) (p8 : Int32) (q0 : Option Nat) (q1 : Int32) (q2 : Int32) (q3 : Int32) (M : Mem) (g_p0 : inG G p0) (g_q0 : inG G q0) (hM : FrG G wkX6_packRow MM M), okv (fun _ : Unit => True) MM G wkX6_packRow (fX6_packRow_L221 k79 p0 p5 p7 p8 q0 q1 q2 q3 M) := by
    intro k79 hk79 p0 p5 p7 p8 q0 q1 q2 q3 M g_p0 g_q0 hM
    unfold fX6_packRow_L221
    refine k_bo fun _ => ?_
    refine k_call (by decide) hM (fun hc => frX6_writeBlock _ _ _ _ hst hc g_q0) fun v221 M221 _ hM221 => ?_
    refine k_bn fun v226 => ?_
    refine k_bn fun v228 => ?_
    exact hk79 ((p0, p5, v226, v228)) _ g_p0 hM221
  have hL195 : ∀ (k79 : Option Nat × Int32 × Int32 × Int32 → Mem → Option (Unit × Mem)) (hk79 : ∀ a M, (inG G (a.1)) → FrG G wkX6_packRow MM M → okv (fun _ : Unit => True) MM G wkX6_packRow (k79 a M)) (p0 : Option Nat) (p5 : Int32) (p6 : Int32) (p7 : Int32) (p8 : Int32) (p10 : Int32) (q0 : Int32) (M : Mem) (g_p0 : inG G p0) (hM : FrG G wkX6_packRow MM M), okv (fun _ : Unit => True) MM G wkX6_packRow (fX6_packRow_L195 k79 p0 p5 p6 p7 p8 p10 q0 M) := by
    intro k79 hk79 p0 p5 p6 p7 p8 p10 q0 M g_p0 hM
    unfold fX6_packRow_L195
    refine k_bn fun v195 => ?_
    refine k_if ?_ ?_
    · refine k_if ?_ ?_
      · exact hL221 k79 hk79 p0 p5 p7 p8 p0 p6 p8 0 _ g_p0 g_p0 hM
      · exact hL221 k79 hk79 p0 p5 p7 p8 p0 p6 p8 2 _ g_p0 g_p0 hM
    · exact hL221 k79 hk79 p0 p5 p7 p8 p0 p6 p8 1 _ g_p0 g_p0 hM
  have hL194 : ∀ (k79 : Option Nat × Int32 × Int32 × Int32 → Mem → Option (Unit × Mem)) (hk79 : ∀ a M, (inG G (a.1)) → FrG G wkX6_packRow MM M → okv (fun _ : Unit => True) MM G wkX6_packRow (k79 a M)) (p0 : Option Nat) (p5 : Int32) (p6 : Int32) (p7 : Int32) (p8 : Int32) (p10 : Int32) (M : Mem) (g_p0 : inG G p0) (hM : FrG G wkX6_packRow MM M), okv (fun _ : Unit => True) MM G wkX6_packRow (fX6_packRow_L194 k79 p0 p5 p6 p7 p8 p10 M) := by
    intro k79 hk79 p0 p5 p6 p7 p8 p10 M g_p0 hM
    unfold fX6_packRow_L194
    exact hL195 k79 hk79 p0 p5 p6 p7 p8 p10 0 _ g_p0 hM
  have hL167 : ∀ (k79 : Option Nat × Int32 × Int32 × Int32 → Mem → Option (Unit × Mem)) (hk79 : ∀ a M, (inG G (a.1)) → FrG G wkX6_packRow MM M → okv (fun _ : Unit => True) MM G wkX6_packRow (k79 a M)) (p0 : Option Nat) (p5 : Int32) (p6 : Int32) (p7 : Int32) (p8 : Int32) (p9 : Int32) (q0 : Int32) (M : Mem) (g_p0 : inG G p0) (hM : FrG G wkX6_packRow MM M), okv (fun _ : Unit => True) MM G wkX6_packRow (fX6_packRow_L167 k79 p0 p5 p6 p7 p8 p9 q0 M) := by
    intro k79 hk79 p0 p5 p6 p7 p8 p9 q0 M g_p0 hM
    unfold fX6_packRow_L167
    refine k_bn fun v167 => ?_
    refine k_if ?_ ?_
    · exact hL194 k79 hk79 p0 p5 p6 p7 p8 v167 _ g_p0 hM
    · refine k_if ?_ ?_
      · refine k_bo fun _ => ?_
        refine k_call (by decide) hM (fun hc => frX6_writeBody _ _ _ hst hc g_p0) fun v184 M184 _ hM184 => ?_
        refine k_if ?_ ?_
        · exact hL194 k79 hk79 p0 p5 p6 p7 p8 v167 _ g_p0 hM184
        · exact hL195 k79 hk79 p0 p5 p6 p7 p8 v167 1 _ g_p0 hM184
      · exact hL194 k79 hk79 p0 p5 p6 p7 p8 v167 _ g_p0 hM
  have hL166 : ∀ (k79 : Option Nat × Int32 × Int32 × Int32 → Mem → Option (Unit × Mem)) (hk79 : ∀ a M, (inG G (a.1)) → FrG G wkX6_packRow MM M → okv (fun _ : Unit => True) MM G wkX6_packRow (k79 a M)) (p0 : Option Nat) (p5 : Int32) (p6 : Int32) (p7 : Int32) (p8 : Int32) (p9 : Int32) (M : Mem) (g_p0 : inG G p0) (hM : FrG G wkX6_packRow MM M), okv (fun _ : Unit => True) MM G wkX6_packRow (fX6_packRow_L166 k79 p0 p5 p6 p7 p8 p9 M) := by
    intro k79 hk79 p0 p5 p6 p7 p8 p9 M g_p0 hM
    unfold fX6_packRow_L166
    exact hL167 k79 hk79 p0 p5 p6 p7 p8 p9 0 _ g_p0 hM
  have hL141 : ∀ (k79 : Option Nat × Int32 × Int32 × Int32 → Mem → Option (Unit × Mem)) (hk79 : ∀ a M, (inG G (a.1)) → FrG G wkX6_packRow MM M → okv (fun _ : Unit => True) MM G wkX6_packRow (k79 a M)) (p0 : Option Nat) (p5 : Int32) (p6 : Int32) (p7 : Int32) (p8 : Int32) (q0 : Int32) (M : Mem) (g_p0 : inG G p0) (hM : FrG G wkX6_packRow MM M), okv (fun _ : Unit => True) MM G wkX6_packRow (fX6_packRow_L141 k79 p0 p5 p6 p7 p8 q0 M) := by
    intro k79 hk79 p0 p5 p6 p7 p8 q0 M g_p0 hM
    unfold fX6_packRow_L141
    refine k_bn fun v141 => ?_
    refine k_if ?_ ?_
    · exact hL166 k79 hk79 p0 p5 p6 p7 p8 v141 _ g_p0 hM
    · refine k_gR hM g_p0 fun v149 g_v149 => ?_
      refine k_bo fun _ => ?_
      refine k_call (by decide) hM (fun hc => frX8_same _ _ _ hst hc g_v149) fun v156 M156 _ hM156 => ?_
      refine k_if ?_ ?_
      · exact hL166 k79 hk79 p0 p5 p6 p7 p8 v141 _ g_p0 hM156
      · exact hL167 k79 hk79 p0 p5 p6 p7 p8 v141 1 _ g_p0 hM156
  have hL140 : ∀ (k79 : Option Nat × Int32 × Int32 × Int32 → Mem → Option (Unit × Mem)) (hk79 : ∀ a M, (inG G (a.1)) → FrG G wkX6_packRow MM M → okv (fun _ : Unit => True) MM G wkX6_packRow (k79 a M)) (p0 : Option Nat) (p5 : Int32) (p6 : Int32) (p7 : Int32) (p8 : Int32) (M : Mem) (g_p0 : inG G p0) (hM : FrG G wkX6_packRow MM M), okv (fun _ : Unit => True) MM G wkX6_packRow (fX6_packRow_L140 k79 p0 p5 p6 p7 p8 M) := by
    intro k79 hk79 p0 p5 p6 p7 p8 M g_p0 hM
    unfold fX6_packRow_L140
    exact hL141 k79 hk79 p0 p5 p6 p7 p8 0 _ g_p0 hM
  have hL104 : ∀ (k79 : Option Nat × Int32 × Int32 × Int32 → Mem → Option (Unit × Mem)) (hk79 : ∀ a M, (inG G (a.1)) → FrG G wkX6_packRow MM M → okv (fun _ : Unit => True) MM G wkX6_packRow (k79 a M)) (p0 : Option Nat) (p5 : Int32) (p6 : Int32) (p7 : Int32) (M : Mem) (g_p0 : inG G p0) (hM : FrG G wkX6_packRow MM M), okv (fun _ : Unit => True) MM G wkX6_packRow (fX6_packRow_L104 k79 p0 p5 p6 p7 M) := by
    intro k79 hk79 p0 p5 p6 p7 M g_p0 hM
    unfold fX6_packRow_L104
    refine k_gR hM g_p0 fun v111 g_v111 => ?_
    refine k_bo fun v114 => ?_
    refine k_bn fun v120 => ?_
    refine k_bo fun v123 => ?_
    refine k_if ?_ ?_
    · exact hL140 k79 hk79 p0 p5 p6 p7 v120 _ g_p0 hM
    · refine k_if ?_ ?_
      · exact hL140 k79 hk79 p0 p5 p6 p7 v120 _ g_p0 hM
      · exact hL141 k79 hk79 p0 p5 p6 p7 v120 1 _ g_p0 hM
  have hL257 : ∀ (M : Mem) (hM : FrG G wkX6_packRow MM M), okv (fun _ : Unit => True) MM G wkX6_packRow (fX6_packRow_L257 M) := by
    intro M hM
    unfold fX6_packRow_L257
    exact k_ret hM trivial
  have hL234 : ∀ (p0 : Option Nat) (p5 : Int32) (M : Mem) (g_p0 : inG G p0) (hM : FrG G wkX6_packRow MM M), okv (fun _ : Unit => True) MM G wkX6_packRow (fX6_packRow_L234 p0 p5 M) := by
    intro p0 p5 M g_p0 hM
    unfold fX6_packRow_L234
    refine k_if ?_ ?_
    · exact hL257 _ hM
    · refine k_gR hM g_p0 fun v242 g_v242 => ?_
      refine k_gR hM g_p0 fun v246 g_v246 => ?_
      refine k_bo fun _ => ?_
      refine k_call (by decide) hM (fun hc => frX8_sumFrom _ _ hst hc g_v246) fun v250 M250 _ hM250 => ?_
      refine k_bo fun _ => ?_
      refine k_call (by decide) hM250 (fun hc => frX8_addNumber _ _ _ hst hc g_v242) fun v254 M254 _ hM254 => ?_
      exact hL257 _ hM254
  have hL79 : ∀ (p0 : Option Nat) (p5 : Int32) (p6 : Int32) (p7 : Int32) (M : Mem) (g_p0 : inG G p0) (hM : FrG G wkX6_packRow MM M), okv (fun _ : Unit => True) MM G wkX6_packRow (fX6_packRow_L79 p0 p5 p6 p7 M) := by
    intro p0 p5 p6 p7 M g_p0 hM
    refine k_lp (T := fun a : Option Nat × Int32 × Int32 × Int32 => inG G (a.1)) ?_ FU ((p0, p5, p6, p7)) M g_p0 hM
    intro k79 hk79 a M T hM
    obtain ⟨p0, p5, p6, p7⟩ := a
    have g_p0 := T
    show okv (fun _ : Unit => True) MM G wkX6_packRow (fX6_packRow_B79 k79 p0 p5 p6 p7 M)
    unfold fX6_packRow_B79
    refine k_if ?_ ?_
    · exact hL104 k79 hk79 p0 p5 p6 p7 _ g_p0 hM
    · refine k_if ?_ ?_
      · exact hL234 p0 p5 _ g_p0 hM
      · refine k_gR hM g_p0 fun v95 g_v95 => ?_
        refine k_bo fun v98 => ?_
        refine k_if ?_ ?_
        · exact hL234 p0 p5 _ g_p0 hM
        · exact hL104 k79 hk79 p0 p5 p6 p7 _ g_p0 hM
  have hL70 : ∀ (p0 : Option Nat) (p5 : Int32) (q0 : Option Nat) (q1 : Option Nat) (q2 : Option Nat) (M : Mem) (g_p0 : inG G p0) (g_q0 : inG G q0) (g_q1 : inG G q1) (g_q2 : inG G q2) (hM : FrG G wkX6_packRow MM M), okv (fun _ : Unit => True) MM G wkX6_packRow (fX6_packRow_L70 p0 p5 q0 q1 q2 M) := by
    intro p0 p5 q0 q1 q2 M g_p0 g_q0 g_q1 g_q2 hM
    unfold fX6_packRow_L70
    refine k_bo fun _ => ?_
    refine k_call (by decide) hM (fun hc => frX3_begin _ _ _ hst hc g_q0 g_q1 g_q2) fun v70 M70 _ hM70 => ?_
    refine k_bn fun v74 => ?_
    refine k_bn fun v77 => ?_
    exact hL79 p0 p5 v74 v77 _ g_p0 hM70
  have hL37 : ∀ (p0 : Option Nat) (p3 : Option Nat) (p5 : Int32) (q0 : Option Nat) (q1 : Int32) (M : Mem) (g_p0 : inG G p0) (g_p3 : inG G p3) (g_q0 : inG G q0) (hM : FrG G wkX6_packRow MM M), okv (fun _ : Unit => True) MM G wkX6_packRow (fX6_packRow_L37 p0 p3 p5 q0 q1 M) := by
    intro p0 p3 p5 q0 q1 M g_p0 g_p3 g_q0 hM
    unfold fX6_packRow_L37
    refine k_bo fun _ => ?_
    refine k_call (by decide) hM (fun hc => frX6_writeHead _ _ _ hst hc g_q0) fun v39 M39 _ hM39 => ?_
    refine k_gR hM39 g_p0 fun v43 g_v43 => ?_
    refine k_call (by decide) hM39 (fun hc => frX12_rememberFirst _ _ hst hc g_v43 g_p3) fun v47 M47 _ hM47 => ?_
    refine k_gR hM47 g_p0 fun v51 g_v51 => ?_
    refine k_gR hM47 g_p0 fun v55 g_v55 => ?_
    refine k_if ?_ ?_
    · exact hL70 p0 p5 v51 v55 none _ g_p0 g_v51 g_v55 inG_none hM47
    · refine k_gR hM47 g_p3 fun v67 g_v67 => ?_
      exact hL70 p0 p5 v51 v55 v67 _ g_p0 g_v51 g_v55 g_v67 hM47
  unfold fX6_packRow
  refine k_pR (by decide) (by decide) hMM g_a0 g_a1 fun M2 hM2 => ?_
  refine k_pR (by decide) (by decide) hM2 g_a0 g_a2 fun M7 hM7 => ?_
  refine k_pI (by decide) (by decide) (by decide) hM7 g_a0 fun M13 hM13 => ?_
  refine k_gR hM13 g_a0 fun v17 g_v17 => ?_
  refine k_pI (by decide) (by decide) (by decide) hM13 g_v17 fun M21 hM21 => ?_
  refine k_if ?_ ?_
  · exact hL37 a0 a3 a5 a0 0 _ g_a0 g_a3 g_a0 hM21
  · refine k_bo fun v34 => ?_
    exact hL37 a0 a3 a5 a0 v34 _ g_a0 g_a3 g_a0 hM21
def wkX10_buildDefault : List Nat := [1000, 1004, 1500]
set_option maxRecDepth 100000 in
set_option maxHeartbeats 4000000 in
theorem frX10_buildDefault {G : Nat → Prop} {MM : Mem} (a0 : Option Nat) (a1 : Int32) (hst : ∀ k, k < 10 → G k) (hc : Cl G MM) (g_a0 : inG G a0) : okv (fun _ : Unit => True) MM G wkX10_buildDefault (fX10_buildDefault a0 a1 MM) := by
  have hMM : FrG G wkX10_buildDefault MM MM := FrG.rf hc
  have hL70 : ∀ (q0 : Option Nat) (q1 : Int32) (M : Mem) (g_q0 : inG G q0) (hM : FrG G wkX10_buildDefault MM M), okv (fun _ : Unit => True) MM G wkX10_buildDefault (fX10_buildDefault_L70 q0 q1 M) := by
    intro q0 q1 M g_q0 hM
    unfold fX10_buildDefault_L70
    refine k_bo fun _ => ?_
    refine k_call (by decide) hM (fun hc => frX10_build _ _ hst hc g_q0) fun v70 M70 _ hM70 => ?_
    exact k_ret hM70 trivial
  have hL69 : ∀ (q0 : Option Nat) (M : Mem) (g_q0 : inG G q0) (hM : FrG G wkX10_buildDefault MM M), okv (fun _ : Unit => True) MM G wkX10_buildDefault (fX10_buildDefault_L69 q0 M) := by
    intro q0 M g_q0 hM
    unfold fX10_buildDefault_L69
    exact hL70 q0 0 _ g_q0 hM
  have hL24 : ∀ (p0 : Option Nat) (p1 : Int32) (q0 : Option Nat) (M : Mem) (g_p0 : inG G p0) (g_q0 : inG G q0) (hM : FrG G wkX10_buildDefault MM M), okv (fun _ : Unit => True) MM G wkX10_buildDefault (fX10_buildDefault_L24 p0 p1 q0 M) := by
    intro p0 p1 q0 M g_p0 g_q0 hM
    unfold fX10_buildDefault_L24
    refine k_bnR g_q0 fun v24 g_v24 => ?_
    refine k_bo fun v27 => ?_
    refine k_pI (by decide) (by decide) (by decide) hM g_p0 fun M34 hM34 => ?_
    refine k_gR hM34 g_p0 fun v40 g_v40 => ?_
    refine k_bo fun v45 => ?_
    refine k_cI (by decide) hM34 g_v40 fun M48 hM48 => ?_
    refine k_if ?_ ?_
    · exact hL69 p0 _ g_p0 hM48
    · refine k_if ?_ ?_
      · exact hL69 p0 _ g_p0 hM48
      · refine k_bo fun v65 => ?_
        exact hL70 p0 v65 _ g_p0 hM48
  unfold fX10_buildDefault
  refine k_if ?_ ?_
  · exact hL24 a0 a1 ((some 3)) _ g_a0 (inG_some (hst 3 (by decide))) hMM
  · refine k_if ?_ ?_
    · exact hL24 a0 a1 ((some 4)) _ g_a0 (inG_some (hst 4 (by decide))) hMM
    · exact hL24 a0 a1 ((some 5)) _ g_a0 (inG_some (hst 5 (by decide))) hMM
def wkX12_feed : List Nat := [801, 1400]
set_option maxRecDepth 100000 in
set_option maxHeartbeats 4000000 in
theorem frX12_feed {G : Nat → Prop} {MM : Mem} (a0 : Option Nat) (a1 : Int64) (a3 : Int32) (hst : ∀ k, k < 10 → G k) (hc : Cl G MM) (g_a0 : inG G a0) : okv (fun _ : Int32 => True) MM G wkX12_feed (fX12_feed a0 a1 a3 MM) := by
  have hMM : FrG G wkX12_feed MM MM := FrG.rf hc
  have hL10 : ∀ (M : Mem) (hM : FrG G wkX12_feed MM M), okv (fun _ : Int32 => True) MM G wkX12_feed (fX12_feed_L10 M) := by
    intro M hM
    unfold fX12_feed_L10
    exact k_ret hM trivial
  have hL48 : ∀ (p0 : Option Nat) (p1 : Int64) (p4 : Int32) (M : Mem) (g_p0 : inG G p0) (hM : FrG G wkX12_feed MM M), okv (fun _ : Int32 => True) MM G wkX12_feed (fX12_feed_L48 p0 p1 p4 M) := by
    intro p0 p1 p4 M g_p0 hM
    refine k_lp (T := fun a : Option Nat × Int64 × Int32 => inG G (a.1)) ?_ FU ((p0, p1, p4)) M g_p0 hM
    intro k48 hk48 a M T hM
    obtain ⟨p0, p1, p4⟩ := a
    have g_p0 := T
    show okv (fun _ : Int32 => True) MM G wkX12_feed (fX12_feed_B48 k48 p0 p1 p4 M)
    unfold fX12_feed_B48
    refine k_if ?_ ?_
    · refine k_gR hM g_p0 fun v75 g_v75 => ?_
      refine k_bo fun v78 => ?_
      exact k_ret hM trivial
    · refine k_gR hM g_p0 fun v54 g_v54 => ?_
      refine k_bo fun _ => ?_
      refine k_call (by decide) hM (fun hc => frX8_add _ _ hst hc g_v54) fun v65 M65 _ hM65 => ?_
      refine k_bn fun v68 => ?_
      exact hk48 ((p0, p1, v68)) _ g_p0 hM65
  have hL43 : ∀ (p0 : Option Nat) (p1 : Int64) (p3 : Int32) (M : Mem) (g_p0 : inG G p0) (hM : FrG G wkX12_feed MM M), okv (fun _ : Int32 => True) MM G wkX12_feed (fX12_feed_L43 p0 p1 p3 M) := by
    intro p0 p1 p3 M g_p0 hM
    unfold fX12_feed_L43
    refine k_bn fun v46 => ?_
    exact hL48 p0 p1 v46 _ g_p0 hM
  unfold fX12_feed
  refine k_if ?_ ?_
  · exact hL10 _ hMM
  · refine k_if ?_ ?_
    · refine k_gR hMM g_a0 fun v18 g_v18 => ?_
      refine k_bo fun v21 => ?_
      refine k_if ?_ ?_
      · refine k_if ?_ ?_
        · refine k_gR hMM g_a0 fun v36 g_v36 => ?_
          refine k_pI (by decide) (by decide) (by decide) hMM g_v36 fun M40 hM40 => ?_
          exact hL43 a0 a1 a3 _ g_a0 hM40
        · exact hL43 a0 a1 a3 _ g_a0 hMM
      · exact k_ret hMM trivial
    · exact hL10 _ hMM
def wkX12_fill : List Nat := [801, 1400]
set_option maxRecDepth 100000 in
set_option maxHeartbeats 4000000 in
theorem frX12_fill {G : Nat → Prop} {MM : Mem} (a0 : Option Nat) (a1 : Int32) (a2 : Int32) (a3 : Int32) (hst : ∀ k, k < 10 → G k) (hc : Cl G MM) (g_a0 : inG G a0) : okv (fun _ : Int32 => True) MM G wkX12_fill (fX12_fill a0 a1 a2 a3 MM) := by
  have hMM : FrG G wkX12_fill MM MM := FrG.rf hc
  have hL14 : ∀ (M : Mem) (hM : FrG G wkX12_fill MM M), okv (fun _ : Int32 => True) MM G wkX12_fill (fX12_fill_L14 M) := by
    intro M hM
    unfold fX12_fill_L14
    exact k_ret hM trivial
  have hL41 : ∀ (p0 : Option Nat) (p1 : Int32) (p3 : Int32) (p4 : Int32) (p5 : Int32) (M : Mem) (g_p0 : inG G p0) (hM : FrG G wkX12_fill MM M), okv (fun _ : Int32 => True) MM G wkX12_fill (fX12_fill_L41 p0 p1 p3 p4 p5 M) := by
    intro p0 p1 p3 p4 p5 M g_p0 hM
    refine k_lp (T := fun a : Option Nat × Int32 × Int32 × Int32 × Int32 => inG G (a.1)) ?_ FU ((p0, p1, p3, p4, p5)) M g_p0 hM
    intro k41 hk41 a M T hM
    obtain ⟨p0, p1, p3, p4, p5⟩ := a
    have g_p0 := T
    show okv (fun _ : Int32 => True) MM G wkX12_fill (fX12_fill_B41 k41 p0 p1 p3 p4 p5 M)
    unfold fX12_fill_B41
    refine k_if ?_ ?_
    · refine k_gR hM g_p0 fun v78 g_v78 => ?_
      refine k_bo fun v81 => ?_
      exact k_ret hM trivial
    · refine k_bn fun v55 => ?_
      refine k_gR hM g_p0 fun v58 g_v58 => ?_
      refine k_bo fun _ => ?_
      refine k_call (by decide) hM (fun hc => frX8_add _ _ hst hc g_v58) fun v68 M68 _ hM68 => ?_
      refine k_bn fun v71 => ?_
      exact hk41 ((p0, p1, p3, v55, v71)) _ g_p0 hM68
  unfold fX12_fill
  refine k_if ?_ ?_
  · exact hL14 _ hMM
  · refine k_if ?_ ?_
    · exact hL14 _ hMM
    · refine k_if ?_ ?_
      · refine k_gR hMM g_a0 fun v22 g_v22 => ?_
        refine k_bo fun v25 => ?_
        refine k_if ?_ ?_
        · refine k_bn fun v36 => ?_
          refine k_bn fun v39 => ?_
          exact hL41 a0 a1 a3 v36 v39 _ g_a0 hMM
        · exact k_ret hMM trivial
      · exact hL14 _ hMM
def wkX12_size : List Nat := []
set_option maxRecDepth 100000 in
set_option maxHeartbeats 4000000 in
theorem frX12_size {G : Nat → Prop} {MM : Mem} (a0 : Option Nat) (hst : ∀ k, k < 10 → G k) (hc : Cl G MM) (g_a0 : inG G a0) : okv (fun _ : Int32 => True) MM G wkX12_size (fX12_size a0 MM) := by
  have hMM : FrG G wkX12_size MM MM := FrG.rf hc
  unfold fX12_size
  refine k_gR hMM g_a0 fun v1 g_v1 => ?_
  refine k_bo fun v4 => ?_
  exact k_ret hMM trivial
def wkX12_set : List Nat := [1400]
set_option maxRecDepth 100000 in
set_option maxHeartbeats 4000000 in
theorem frX12_set {G : Nat → Prop} {MM : Mem} (a0 : Option Nat) (a1 : Int32) (a2 : Int32) (hst : ∀ k, k < 10 → G k) (hc : Cl G MM) (g_a0 : inG G a0) : okv (fun _ : Int32 => True) MM G wkX12_set (fX12_set a0 a1 a2 MM) := by
  have hMM : FrG G wkX12_set MM MM := FrG.rf hc
  have hL26 : ∀ (M : Mem) (hM : FrG G wkX12_set MM M), okv (fun _ : Int32 => True) MM G wkX12_set (fX12_set_L26 M) := by
    intro M hM
    unfold fX12_set_L26
    exact k_ret hM trivial
  unfold fX12_set
  refine k_if ?_ ?_
  · exact hL26 _ hMM
  · refine k_gR hMM g_a0 fun v6 g_v6 => ?_
    refine k_bo fun v9 => ?_
    refine k_if ?_ ?_
    · exact hL26 _ hMM
    · refine k_if ?_ ?_
      · exact hL26 _ hMM
      · refine k_if ?_ ?_
        · refine k_gR hMM g_a0 fun v30 g_v30 => ?_
          refine k_bo fun _ => ?_
          refine k_call (by decide) hMM (fun hc => frX8_get _ _ hst hc g_v30) fun v34 M34 _ hM34 => ?_
          refine k_bn fun v37 => ?_
          refine k_gR hM34 g_a0 fun v39 g_v39 => ?_
          refine k_bo fun _ => ?_
          refine k_call (by decide) hM34 (fun hc => frX8_put _ _ _ hst hc g_v39) fun v44 M44 _ hM44 => ?_
          exact k_ret hM44 trivial
        · exact hL26 _ hMM
def wkX12_cut : List Nat := [801]
set_option maxRecDepth 100000 in
set_option maxHeartbeats 4000000 in
theorem frX12_cut {G : Nat → Prop} {MM : Mem} (a0 : Option Nat) (a1 : Int32) (hst : ∀ k, k < 10 → G k) (hc : Cl G MM) (g_a0 : inG G a0) : okv (fun _ : Int32 => True) MM G wkX12_cut (fX12_cut a0 a1 MM) := by
  have hMM : FrG G wkX12_cut MM MM := FrG.rf hc
  have hL15 : ∀ (M : Mem) (hM : FrG G wkX12_cut MM M), okv (fun _ : Int32 => True) MM G wkX12_cut (fX12_cut_L15 M) := by
    intro M hM
    unfold fX12_cut_L15
    exact k_ret hM trivial
  unfold fX12_cut
  refine k_if ?_ ?_
  · exact hL15 _ hMM
  · refine k_gR hMM g_a0 fun v6 g_v6 => ?_
    refine k_bo fun v9 => ?_
    refine k_if ?_ ?_
    · refine k_gR hMM g_a0 fun v19 g_v19 => ?_
      refine k_bo fun v22 => ?_
      refine k_bn fun v25 => ?_
      refine k_gR hMM g_a0 fun v27 g_v27 => ?_
      refine k_pI (by decide) (by decide) (by decide) hMM g_v27 fun M31 hM31 => ?_
      exact k_ret hM31 trivial
    · exact hL15 _ hMM
def wkX12_again : List Nat := [801, 1400]
set_option maxRecDepth 100000 in
set_option maxHeartbeats 4000000 in
theorem frX12_again {G : Nat → Prop} {MM : Mem} (a0 : Option Nat) (a1 : Int32) (a2 : Int32) (hst : ∀ k, k < 10 → G k) (hc : Cl G MM) (g_a0 : inG G a0) : okv (fun _ : Int32 => True) MM G wkX12_again (fX12_again a0 a1 a2 MM) := by
  have hMM : FrG G wkX12_again MM MM := FrG.rf hc
  have hL32 : ∀ (M : Mem) (hM : FrG G wkX12_again MM M), okv (fun _ : Int32 => True) MM G wkX12_again (fX12_again_L32 M) := by
    intro M hM
    unfold fX12_again_L32
    exact k_ret hM trivial
  unfold fX12_again
  refine k_if ?_ ?_
  · exact hL32 _ hMM
  · refine k_if ?_ ?_
    · exact hL32 _ hMM
    · refine k_gR hMM g_a0 fun v10 g_v10 => ?_
      refine k_bo fun v13 => ?_
      refine k_if ?_ ?_
      · exact hL32 _ hMM
      · refine k_gR hMM g_a0 fun v21 g_v21 => ?_
        refine k_bo fun v24 => ?_
        refine k_if ?_ ?_
        · refine k_gR hMM g_a0 fun v40 g_v40 => ?_
          refine k_bo fun v43 => ?_
          refine k_if ?_ ?_
          · refine k_gR hMM g_a0 fun v54 g_v54 => ?_
            refine k_gR hMM g_a0 fun v58 g_v58 => ?_
            refine k_bo fun _ => ?_
            refine k_call (by decide) hMM (fun hc => frX8_addFrom _ _ _ _ hst hc g_v54 g_v58) fun v63 M63 _ hM63 => ?_
            refine k_gR hM63 g_a0 fun v67 g_v67 => ?_
            refine k_bo fun v70 => ?_
            exact k_ret hM63 trivial
          · exact k_ret hMM trivial
        · exact hL32 _ hMM
def wkX12_swap : List Nat := [1200, 1201]
set_option maxRecDepth 100000 in
set_option maxHeartbeats 4000000 in
theorem frX12_swap {G : Nat → Prop} {MM : Mem} (a0 : Option Nat) (hst : ∀ k, k < 10 → G k) (hc : Cl G MM) (g_a0 : inG G a0) : okv (fun _ : Int32 => True) MM G wkX12_swap (fX12_swap a0 MM) := by
  have hMM : FrG G wkX12_swap MM MM := FrG.rf hc
  unfold fX12_swap
  refine k_gR hMM g_a0 fun v1 g_v1 => ?_
  refine k_bnR g_v1 fun v4 g_v4 => ?_
  refine k_gR hMM g_a0 fun v7 g_v7 => ?_
  refine k_pR (by decide) (by decide) hMM g_a0 g_v7 fun M10 hM10 => ?_
  refine k_pR (by decide) (by decide) hM10 g_a0 g_v4 fun M15 hM15 => ?_
  refine k_gR hM15 g_a0 fun v19 g_v19 => ?_
  refine k_bo fun v22 => ?_
  exact k_ret hM15 trivial
def wkX12_differ : List Nat := []
set_option maxRecDepth 100000 in
set_option maxHeartbeats 4000000 in
theorem frX12_differ {G : Nat → Prop} {MM : Mem} (a0 : Option Nat) (hst : ∀ k, k < 10 → G k) (hc : Cl G MM) (g_a0 : inG G a0) : okv (fun _ : Int32 => True) MM G wkX12_differ (fX12_differ a0 MM) := by
  have hMM : FrG G wkX12_differ MM MM := FrG.rf hc
  have hL66 : ∀ (p2 : Int32) (M : Mem) (hM : FrG G wkX12_differ MM M), okv (fun _ : Int32 => True) MM G wkX12_differ (fX12_differ_L66 p2 M) := by
    intro p2 M hM
    unfold fX12_differ_L66
    exact k_ret hM trivial
  have hL20 : ∀ (p0 : Option Nat) (p1 : Int32) (p2 : Int32) (M : Mem) (g_p0 : inG G p0) (hM : FrG G wkX12_differ MM M), okv (fun _ : Int32 => True) MM G wkX12_differ (fX12_differ_L20 p0 p1 p2 M) := by
    intro p0 p1 p2 M g_p0 hM
    refine k_lp (T := fun a : Option Nat × Int32 × Int32 => inG G (a.1)) ?_ FU ((p0, p1, p2)) M g_p0 hM
    intro k20 hk20 a M T hM
    obtain ⟨p0, p1, p2⟩ := a
    have g_p0 := T
    show okv (fun _ : Int32 => True) MM G wkX12_differ (fX12_differ_B20 k20 p0 p1 p2 M)
    unfold fX12_differ_B20
    refine k_if ?_ ?_
    · exact k_ret hM trivial
    · refine k_gR hM g_p0 fun v27 g_v27 => ?_
      refine k_bo fun v30 => ?_
      refine k_if ?_ ?_
      · exact hL66 p2 _ hM
      · refine k_gR hM g_p0 fun v38 g_v38 => ?_
        refine k_bo fun v41 => ?_
        refine k_if ?_ ?_
        · exact hL66 p2 _ hM
        · refine k_gR hM g_p0 fun v48 g_v48 => ?_
          refine k_bo fun _ => ?_
          refine k_call (by decide) hM (fun hc => frX8_get _ _ hst hc g_v48) fun v52 M52 _ hM52 => ?_
          refine k_gR hM52 g_p0 fun v56 g_v56 => ?_
          refine k_bo fun _ => ?_
          refine k_call (by decide) hM52 (fun hc => frX8_get _ _ hst hc g_v56) fun v60 M60 _ hM60 => ?_
          refine k_if ?_ ?_
          · refine k_bn fun v68 => ?_
            exact hk20 ((p0, p1, v68)) _ g_p0 hM60
          · exact hL66 p2 _ hM60
  unfold fX12_differ
  refine k_gR hMM g_a0 fun v1 g_v1 => ?_
  refine k_bo fun v4 => ?_
  refine k_gR hMM g_a0 fun v8 g_v8 => ?_
  refine k_bo fun v11 => ?_
  refine k_bn fun v17 => ?_
  refine k_bn fun v19 => ?_
  exact hL20 a0 v17 v19 _ g_a0 hMM
def wkX12_unusedDictionary : List Nat := []
set_option maxRecDepth 100000 in
set_option maxHeartbeats 4000000 in
theorem frX12_unusedDictionary {G : Nat → Prop} {MM : Mem} (a0 : Option Nat) (hst : ∀ k, k < 10 → G k) (hc : Cl G MM) (g_a0 : inG G a0) : okv (inG G) MM G wkX12_unusedDictionary (fX12_unusedDictionary a0 MM) := by
  have hMM : FrG G wkX12_unusedDictionary MM MM := FrG.rf hc
  have hL44 : ∀ (k2 : Option Nat × Int32 → Mem → Option (Option Nat × Mem)) (hk2 : ∀ a M, (inG G (a.1)) → FrG G wkX12_unusedDictionary MM M → okv (inG G) MM G wkX12_unusedDictionary (k2 a M)) (p0 : Option Nat) (p1 : Int32) (M : Mem) (g_p0 : inG G p0) (hM : FrG G wkX12_unusedDictionary MM M), okv (inG G) MM G wkX12_unusedDictionary (fX12_unusedDictionary_L44 k2 p0 p1 M) := by
    intro k2 hk2 p0 p1 M g_p0 hM
    unfold fX12_unusedDictionary_L44
    refine k_bn fun v44 => ?_
    exact hk2 ((p0, v44)) _ g_p0 hM
  have hL2 : ∀ (p0 : Option Nat) (p1 : Int32) (M : Mem) (g_p0 : inG G p0) (hM : FrG G wkX12_unusedDictionary MM M), okv (inG G) MM G wkX12_unusedDictionary (fX12_unusedDictionary_L2 p0 p1 M) := by
    intro p0 p1 M g_p0 hM
    refine k_lp (T := fun a : Option Nat × Int32 => inG G (a.1)) ?_ FU ((p0, p1)) M g_p0 hM
    intro k2 hk2 a M T hM
    obtain ⟨p0, p1⟩ := a
    have g_p0 := T
    show okv (inG G) MM G wkX12_unusedDictionary (fX12_unusedDictionary_B2 k2 p0 p1 M)
    unfold fX12_unusedDictionary_B2
    refine k_gR hM g_p0 fun v4 g_v4 => ?_
    refine k_bo fun v7 => ?_
    refine k_if ?_ ?_
    · refine k_gR hM g_p0 fun v51 g_v51 => ?_
      refine k_aR hM g_v51 fun v55 g_v55 => ?_
      exact k_ret hM g_v55
    · refine k_gR hM g_p0 fun v12 g_v12 => ?_
      refine k_aR hM g_v12 fun v16 g_v16 => ?_
      refine k_gR hM g_p0 fun v18 g_v18 => ?_
      refine k_bo fun _ => k_bo fun _ => ?_
      refine k_if ?_ ?_
      · exact hL44 k2 hk2 p0 p1 _ g_p0 hM
      · refine k_gR hM g_p0 fun v25 g_v25 => ?_
        refine k_aR hM g_v25 fun v29 g_v29 => ?_
        refine k_gR hM g_p0 fun v31 g_v31 => ?_
        refine k_bo fun _ => k_bo fun _ => ?_
        refine k_if ?_ ?_
        · exact hL44 k2 hk2 p0 p1 _ g_p0 hM
        · refine k_gR hM g_p0 fun v38 g_v38 => ?_
          refine k_aR hM g_v38 fun v42 g_v42 => ?_
          exact k_ret hM g_v42
  unfold fX12_unusedDictionary
  refine k_bn fun v1 => ?_
  exact hL2 a0 v1 _ g_a0 hMM
def wkX12_keep : List Nat := [0, 1, 2, 3, 100, 200, 201, 206, 801, 1000, 1004, 1005, 1006, 1007, 1008, 1101, 1102, 1208, 1210, 1400, 1500]
set_option maxRecDepth 100000 in
set_option maxHeartbeats 4000000 in
theorem frX12_keep {G : Nat → Prop} {MM : Mem} (a0 : Option Nat) (hst : ∀ k, k < 10 → G k) (hc : Cl G MM) (g_a0 : inG G a0) : okv (fun _ : Int32 => True) MM G wkX12_keep (fX12_keep a0 MM) := by
  have hMM : FrG G wkX12_keep MM MM := FrG.rf hc
  unfold fX12_keep
  refine k_bo fun _ => ?_
  refine k_call (by decide) hMM (fun hc => frX12_unusedDictionary _ hst hc g_a0) fun v1 M1 g_v1 hM1 => ?_
  refine k_bnR g_v1 fun v4 g_v4 => ?_
  refine k_gR hM1 g_a0 fun v7 g_v7 => ?_
  refine k_gR hM1 g_a0 fun v11 g_v11 => ?_
  refine k_bo fun _ => ?_
  refine k_call (by decide) hM1 (fun hc => frX2_read _ _ _ hst hc g_v4 g_v7 g_v11) fun v14 M14 _ hM14 => ?_
  refine k_if ?_ ?_
  · refine k_pI (by decide) (by decide) (by decide) hM14 g_a0 fun M22 hM22 => ?_
    exact k_ret hM22 trivial
  · refine k_gR hM14 g_a0 fun v29 g_v29 => ?_
    refine k_bo fun v32 => ?_
    refine k_if ?_ ?_
    · refine k_pI (by decide) (by decide) (by decide) hM14 g_a0 fun M46 hM46 => ?_
      refine k_gR hM46 g_a0 fun v50 g_v50 => ?_
      refine k_bo fun v53 => ?_
      refine k_if ?_ ?_
      · refine k_pR (by decide) (by decide) hM46 g_a0 inG_none fun M61 hM61 => ?_
        exact k_ret hM61 trivial
      · refine k_gR hM46 g_a0 fun v68 g_v68 => ?_
        refine k_bo fun _ => ?_
        refine k_call (by decide) hM46 (fun hc => frX2_takeContent _ _ hst hc g_v4 g_v68) fun v71 M71 _ hM71 => ?_
        refine k_pR (by decide) (by decide) hM71 g_a0 g_v4 fun M76 hM76 => ?_
        refine k_bo fun v80 => ?_
        exact k_ret hM76 trivial
    · exact k_ret hM14 trivial
def wkX12_spareCameOut : List Nat := [1201, 1202]
set_option maxRecDepth 100000 in
set_option maxHeartbeats 4000000 in
theorem frX12_spareCameOut {G : Nat → Prop} {MM : Mem} (a0 : Option Nat) (hst : ∀ k, k < 10 → G k) (hc : Cl G MM) (g_a0 : inG G a0) : okv (fun _ : Unit => True) MM G wkX12_spareCameOut (fX12_spareCameOut a0 MM) := by
  have hMM : FrG G wkX12_spareCameOut MM MM := FrG.rf hc
  unfold fX12_spareCameOut
  refine k_gR hMM g_a0 fun v1 g_v1 => ?_
  refine k_bnR g_v1 fun v4 g_v4 => ?_
  refine k_gR hMM g_a0 fun v7 g_v7 => ?_
  refine k_pR (by decide) (by decide) hMM g_a0 g_v7 fun M10 hM10 => ?_
  refine k_pR (by decide) (by decide) hM10 g_a0 g_v4 fun M15 hM15 => ?_
  exact k_ret hM15 trivial
def wkX12_open : List Nat := [0, 1, 2, 3, 100, 401, 402, 403, 408, 409, 410, 411, 412, 503, 504, 505, 506, 507, 508, 509, 510, 511, 512, 513, 514, 515, 516, 517, 518, 700, 701, 801, 910, 911, 912, 913, 914, 915, 916, 917, 918, 1000, 1004, 1005, 1006, 1007, 1008, 1101, 1102, 1201, 1202, 1209, 1210, 1400, 1500, 1800, 2000]
set_option maxRecDepth 100000 in
set_option maxHeartbeats 4000000 in
theorem frX12_open {G : Nat → Prop} {MM : Mem} (a0 : Option Nat) (a1 : Int64) (hst : ∀ k, k < 10 → G k) (hc : Cl G MM) (g_a0 : inG G a0) : okv (fun _ : Int32 => True) MM G wkX12_open (fX12_open a0 a1 MM) := by
  have hMM : FrG G wkX12_open MM MM := FrG.rf hc
  unfold fX12_open
  refine k_if ?_ ?_
  · refine k_gR hMM g_a0 fun v11 g_v11 => ?_
    refine k_pR (by decide) (by decide) hMM g_a0 g_v11 fun M14 hM14 => ?_
    refine k_gR hM14 g_a0 fun v18 g_v18 => ?_
    refine k_gR hM14 g_a0 fun v22 g_v22 => ?_
    refine k_gR hM14 g_a0 fun v26 g_v26 => ?_
    refine k_gR hM14 g_a0 fun v30 g_v30 => ?_
    refine k_bo fun _ => ?_
    refine k_call (by decide) hM14 (fun hc => frX5_openAll _ _ _ _ _ hst hc g_v18 g_v22 g_v26 g_v30) fun v34 M34 _ hM34 => ?_
    refine k_if ?_ ?_
    · refine k_gR hM34 g_a0 fun v42 g_v42 => ?_
      refine k_bo fun v45 => ?_
      refine k_pI (by decide) (by decide) (by decide) hM34 g_a0 fun M48 hM48 => ?_
      refine k_gR hM48 g_a0 fun v54 g_v54 => ?_
      refine k_bo fun v57 => ?_
      exact k_ret hM48 trivial
    · refine k_pI (by decide) (by decide) (by decide) hM34 g_a0 fun M64 hM64 => ?_
      refine k_bo fun _ => ?_
      refine k_call (by decide) hM64 (fun hc => frX12_spareCameOut _ hst hc g_a0) fun v68 M68 _ hM68 => ?_
      refine k_gR hM68 g_a0 fun v72 g_v72 => ?_
      refine k_bo fun v75 => ?_
      exact k_ret hM68 trivial
  · exact k_ret hMM trivial
def wkX12_place : List Nat := []
set_option maxRecDepth 100000 in
set_option maxHeartbeats 4000000 in
theorem frX12_place {G : Nat → Prop} {MM : Mem} (a0 : Option Nat) (hst : ∀ k, k < 10 → G k) (hc : Cl G MM) (g_a0 : inG G a0) : okv (fun _ : Int32 => True) MM G wkX12_place (fX12_place a0 MM) := by
  have hMM : FrG G wkX12_place MM MM := FrG.rf hc
  unfold fX12_place
  refine k_bo fun v1 => ?_
  exact k_ret hMM trivial
def wkX12_pack : List Nat := [100, 301, 308, 309, 310, 311, 612, 613, 614, 801, 802, 803, 1000, 1004, 1101, 1102, 1201, 1202, 1400, 1500, 2000]
set_option maxRecDepth 100000 in
set_option maxHeartbeats 4000000 in
theorem frX12_pack {G : Nat → Prop} {MM : Mem} (a0 : Option Nat) (a1 : Int32) (a2 : Int32) (hst : ∀ k, k < 10 → G k) (hc : Cl G MM) (g_a0 : inG G a0) : okv (fun _ : Int32 => True) MM G wkX12_pack (fX12_pack a0 a1 a2 MM) := by
  have hMM : FrG G wkX12_pack MM MM := FrG.rf hc
  have hL19 : ∀ (M : Mem) (hM : FrG G wkX12_pack MM M), okv (fun _ : Int32 => True) MM G wkX12_pack (fX12_pack_L19 M) := by
    intro M hM
    unfold fX12_pack_L19
    exact k_ret hM trivial
  have hL88 : ∀ (p0 : Option Nat) (p1 : Int32) (p2 : Int32) (q0 : Option Nat) (q1 : Option Nat) (q2 : Option Nat) (q3 : Option Nat) (M : Mem) (g_p0 : inG G p0) (g_q0 : inG G q0) (g_q1 : inG G q1) (g_q2 : inG G q2) (g_q3 : inG G q3) (hM : FrG G wkX12_pack MM M), okv (fun _ : Int32 => True) MM G wkX12_pack (fX12_pack_L88 p0 p1 p2 q0 q1 q2 q3 M) := by
    intro p0 p1 p2 q0 q1 q2 q3 M g_p0 g_q0 g_q1 g_q2 g_q3 hM
    unfold fX12_pack_L88
    refine k_bo fun _ => ?_
    refine k_call (by decide) hM (fun hc => frX6_packRow _ _ _ _ _ _ hst hc g_q0 g_q1 g_q2 g_q3) fun v90 M90 _ hM90 => ?_
    refine k_bo fun _ => ?_
    refine k_call (by decide) hM90 (fun hc => frX12_spareCameOut _ hst hc g_p0) fun v94 M94 _ hM94 => ?_
    refine k_gR hM94 g_p0 fun v98 g_v98 => ?_
    refine k_bo fun v101 => ?_
    exact k_ret hM94 trivial
  have hL48 : ∀ (p0 : Option Nat) (p1 : Int32) (p2 : Int32) (p3 : Int32) (M : Mem) (g_p0 : inG G p0) (hM : FrG G wkX12_pack MM M), okv (fun _ : Int32 => True) MM G wkX12_pack (fX12_pack_L48 p0 p1 p2 p3 M) := by
    intro p0 p1 p2 p3 M g_p0 hM
    unfold fX12_pack_L48
    refine k_gR hM g_p0 fun v49 g_v49 => ?_
    refine k_bo fun v52 => ?_
    refine k_if ?_ ?_
    · refine k_gR hM g_p0 fun v65 g_v65 => ?_
      refine k_gR hM g_p0 fun v69 g_v69 => ?_
      refine k_gR hM g_p0 fun v73 g_v73 => ?_
      refine k_if ?_ ?_
      · exact hL88 p0 p1 p2 v65 v69 v73 none _ g_p0 g_v65 g_v69 g_v73 inG_none hM
      · refine k_gR hM g_p0 fun v81 g_v81 => ?_
        exact hL88 p0 p1 p2 v65 v69 v73 v81 _ g_p0 g_v65 g_v69 g_v73 g_v81 hM
    · exact k_ret hM trivial
  have hL33 : ∀ (p0 : Option Nat) (p1 : Int32) (p2 : Int32) (q0 : Int32) (M : Mem) (g_p0 : inG G p0) (hM : FrG G wkX12_pack MM M), okv (fun _ : Int32 => True) MM G wkX12_pack (fX12_pack_L33 p0 p1 p2 q0 M) := by
    intro p0 p1 p2 q0 M g_p0 hM
    unfold fX12_pack_L33
    refine k_bn fun v33 => ?_
    refine k_if ?_ ?_
    · exact hL48 p0 p1 p2 v33 _ g_p0 hM
    · refine k_gR hM g_p0 fun v39 g_v39 => ?_
      refine k_if ?_ ?_
      · exact k_ret hM trivial
      · exact hL48 p0 p1 p2 v33 _ g_p0 hM
  unfold fX12_pack
  refine k_if ?_ ?_
  · exact hL19 _ hMM
  · refine k_if ?_ ?_
    · exact hL19 _ hMM
    · refine k_if ?_ ?_
      · exact hL19 _ hMM
      · refine k_if ?_ ?_
        · refine k_if ?_ ?_
          · exact hL33 a0 a1 a2 0 _ g_a0 hMM
          · exact hL33 a0 a1 a2 1 _ g_a0 hMM
        · exact hL19 _ hMM
def wkX12_out : List Nat := []
set_option maxRecDepth 100000 in
set_option maxHeartbeats 4000000 in
theorem frX12_out {G : Nat → Prop} {MM : Mem} (a0 : Option Nat) (a1 : Int32) (hst : ∀ k, k < 10 → G k) (hc : Cl G MM) (g_a0 : inG G a0) : okv (fun _ : Int32 => True) MM G wkX12_out (fX12_out a0 a1 MM) := by
  have hMM : FrG G wkX12_out MM MM := FrG.rf hc
  have hL28 : ∀ (q0 : Int32) (M : Mem) (hM : FrG G wkX12_out MM M), okv (fun _ : Int32 => True) MM G wkX12_out (fX12_out_L28 q0 M) := by
    intro q0 M hM
    unfold fX12_out_L28
    exact k_ret hM trivial
  have hL15 : ∀ (M : Mem) (hM : FrG G wkX12_out MM M), okv (fun _ : Int32 => True) MM G wkX12_out (fX12_out_L15 M) := by
    intro M hM
    unfold fX12_out_L15
    exact hL28 ((-2)) _ hM
  unfold fX12_out
  refine k_if ?_ ?_
  · exact hL15 _ hMM
  · refine k_gR hMM g_a0 fun v6 g_v6 => ?_
    refine k_bo fun v9 => ?_
    refine k_if ?_ ?_
    · refine k_gR hMM g_a0 fun v21 g_v21 => ?_
      refine k_bo fun _ => ?_
      refine k_call (by decide) hMM (fun hc => frX8_get _ _ hst hc g_v21) fun v25 M25 _ hM25 => ?_
      exact hL28 v25 _ hM25
    · exact hL15 _ hMM
def wkX12_sum : List Nat := []
set_option maxRecDepth 100000 in
set_option maxHeartbeats 4000000 in
theorem frX12_sum {G : Nat → Prop} {MM : Mem} (a0 : Option Nat) (a1 : Int32) (hst : ∀ k, k < 10 → G k) (hc : Cl G MM) (g_a0 : inG G a0) : okv (fun _ : Int32 => True) MM G wkX12_sum (fX12_sum a0 a1 MM) := by
  have hMM : FrG G wkX12_sum MM MM := FrG.rf hc
  have hL21 : ∀ (q0 : Int64) (M : Mem) (hM : FrG G wkX12_sum MM M), okv (fun _ : Int32 => True) MM G wkX12_sum (fX12_sum_L21 q0 M) := by
    intro q0 M hM
    unfold fX12_sum_L21
    exact k_ret hM trivial
  unfold fX12_sum
  refine k_gR hMM g_a0 fun v1 g_v1 => ?_
  refine k_bo fun _ => ?_
  refine k_call (by decide) hMM (fun hc => frX8_sumFrom _ _ hst hc g_v1) fun v5 M5 _ hM5 => ?_
  refine k_bn fun v8 => ?_
  refine k_if ?_ ?_
  · exact hL21 v8 _ hM5
  · exact hL21 (ushJ v8 32) _ hM5
def wkX12_told : List Nat := []
set_option maxRecDepth 100000 in
set_option maxHeartbeats 4000000 in
theorem frX12_told {G : Nat → Prop} {MM : Mem} (a0 : Option Nat) (a1 : Int32) (hst : ∀ k, k < 10 → G k) (hc : Cl G MM) (g_a0 : inG G a0) : okv (fun _ : Int32 => True) MM G wkX12_told (fX12_told a0 a1 MM) := by
  have hMM : FrG G wkX12_told MM MM := FrG.rf hc
  have hL30 : ∀ (q0 : Int32) (M : Mem) (hM : FrG G wkX12_told MM M), okv (fun _ : Int32 => True) MM G wkX12_told (fX12_told_L30 q0 M) := by
    intro q0 M hM
    unfold fX12_told_L30
    exact k_ret hM trivial
  have hL16 : ∀ (M : Mem) (hM : FrG G wkX12_told MM M), okv (fun _ : Int32 => True) MM G wkX12_told (fX12_told_L16 M) := by
    intro M hM
    unfold fX12_told_L16
    exact hL30 ((-2)) _ hM
  unfold fX12_told
  refine k_if ?_ ?_
  · exact hL16 _ hMM
  · refine k_gR hMM g_a0 fun v6 g_v6 => ?_
    refine k_gR hMM g_v6 fun v9 g_v9 => ?_
    refine k_bo fun v12 => ?_
    refine k_if ?_ ?_
    · refine k_gR hMM g_a0 fun v22 g_v22 => ?_
      refine k_gR hMM g_v22 fun v25 g_v25 => ?_
      refine k_bo fun v29 => ?_
      exact hL30 v29 _ hMM
    · exact hL16 _ hMM
def wkX12_sequence : List Nat := []
set_option maxRecDepth 100000 in
set_option maxHeartbeats 4000000 in
theorem frX12_sequence {G : Nat → Prop} {MM : Mem} (a0 : Option Nat) (a1 : Int32) (a2 : Int32) (hst : ∀ k, k < 10 → G k) (hc : Cl G MM) (g_a0 : inG G a0) : okv (fun _ : Int32 => True) MM G wkX12_sequence (fX12_sequence a0 a1 a2 MM) := by
  have hMM : FrG G wkX12_sequence MM MM := FrG.rf hc
  have hL33 : ∀ (M : Mem) (hM : FrG G wkX12_sequence MM M), okv (fun _ : Int32 => True) MM G wkX12_sequence (fX12_sequence_L33 M) := by
    intro M hM
    unfold fX12_sequence_L33
    exact k_ret hM trivial
  unfold fX12_sequence
  refine k_if ?_ ?_
  · exact hL33 _ hMM
  · refine k_if ?_ ?_
    · exact hL33 _ hMM
    · refine k_gR hMM g_a0 fun v13 g_v13 => ?_
      refine k_gR hMM g_v13 fun v16 g_v16 => ?_
      refine k_bo fun v20 => ?_
      refine k_if ?_ ?_
      · exact hL33 _ hMM
      · refine k_if ?_ ?_
        · exact hL33 _ hMM
        · refine k_if ?_ ?_
          · refine k_gR hMM g_a0 fun v37 g_v37 => ?_
            refine k_gR hMM g_v37 fun v40 g_v40 => ?_
            refine k_bo fun v48 => ?_
            exact k_ret hMM trivial
          · exact hL33 _ hMM
def wkX12_table : List Nat := []
set_option maxRecDepth 100000 in
set_option maxHeartbeats 4000000 in
theorem frX12_table {G : Nat → Prop} {MM : Mem} (a0 : Option Nat) (a1 : Int32) (a2 : Int32) (a3 : Int32) (hst : ∀ k, k < 10 → G k) (hc : Cl G MM) (g_a0 : inG G a0) : okv (fun _ : Int32 => True) MM G wkX12_table (fX12_table a0 a1 a2 a3 MM) := by
  have hMM : FrG G wkX12_table MM MM := FrG.rf hc
  have hL18 : ∀ (M : Mem) (hM : FrG G wkX12_table MM M), okv (fun _ : Int32 => True) MM G wkX12_table (fX12_table_L18 M) := by
    intro M hM
    unfold fX12_table_L18
    exact k_ret hM trivial
  have hL79 : ∀ (M : Mem) (hM : FrG G wkX12_table MM M), okv (fun _ : Int32 => True) MM G wkX12_table (fX12_table_L79 M) := by
    intro M hM
    unfold fX12_table_L79
    exact k_ret hM trivial
  have hL115 : ∀ (q0 : Int32) (M : Mem) (hM : FrG G wkX12_table MM M), okv (fun _ : Int32 => True) MM G wkX12_table (fX12_table_L115 q0 M) := by
    intro q0 M hM
    unfold fX12_table_L115
    exact k_ret hM trivial
  unfold fX12_table
  refine k_if ?_ ?_
  · exact hL18 _ hMM
  · refine k_if ?_ ?_
    · exact hL18 _ hMM
    · refine k_if ?_ ?_
      · exact hL18 _ hMM
      · refine k_if ?_ ?_
        · refine k_gR hMM g_a0 fun v22 g_v22 => ?_
          refine k_gR hMM g_v22 fun v25 g_v25 => ?_
          refine k_gR hMM g_v25 fun v28 g_v28 => ?_
          refine k_bo fun v32 => ?_
          refine k_if ?_ ?_
          · exact k_ret hMM trivial
          · refine k_gR hMM g_a0 fun v40 g_v40 => ?_
            refine k_gR hMM g_v40 fun v43 g_v43 => ?_
            refine k_gR hMM g_v43 fun v46 g_v46 => ?_
            refine k_aR hMM g_v46 fun v50 g_v50 => ?_
            refine k_bnR g_v50 fun v51 g_v51 => ?_
            refine k_if ?_ ?_
            · refine k_bo fun v60 => ?_
              exact k_ret hMM trivial
            · refine k_if ?_ ?_
              · exact hL79 _ hMM
              · refine k_bo fun v72 => ?_
                refine k_if ?_ ?_
                · refine k_if ?_ ?_
                  · refine k_bo fun _ => ?_
                    refine k_call (by decide) hMM (fun hc => frX10_symbolAt _ _ hst hc g_v51) fun v89 M89 _ hM89 => ?_
                    exact hL115 v89 _ hM89
                  · refine k_if ?_ ?_
                    · refine k_bo fun _ => ?_
                      refine k_call (by decide) hMM (fun hc => frX10_bitsAt _ _ hst hc g_v51) fun v103 M103 _ hM103 => ?_
                      exact hL115 v103 _ hM103
                    · refine k_bo fun _ => ?_
                      refine k_call (by decide) hMM (fun hc => frX10_baseAt _ _ hst hc g_v51) fun v112 M112 _ hM112 => ?_
                      exact hL115 v112 _ hM112
                · exact hL79 _ hMM
        · exact hL18 _ hMM
def wkX12_bits : List Nat := []
set_option maxRecDepth 100000 in
set_option maxHeartbeats 4000000 in
theorem frX12_bits {G : Nat → Prop} {MM : Mem} (a0 : Option Nat) (a1 : Int32) (hst : ∀ k, k < 10 → G k) (hc : Cl G MM) (g_a0 : inG G a0) : okv (fun _ : Int32 => True) MM G wkX12_bits (fX12_bits a0 a1 MM) := by
  have hMM : FrG G wkX12_bits MM MM := FrG.rf hc
  have hL11 : ∀ (M : Mem) (hM : FrG G wkX12_bits MM M), okv (fun _ : Int32 => True) MM G wkX12_bits (fX12_bits_L11 M) := by
    intro M hM
    unfold fX12_bits_L11
    exact k_ret hM trivial
  have hL47 : ∀ (q0 : Int32) (M : Mem) (hM : FrG G wkX12_bits MM M), okv (fun _ : Int32 => True) MM G wkX12_bits (fX12_bits_L47 q0 M) := by
    intro q0 M hM
    unfold fX12_bits_L47
    exact k_ret hM trivial
  unfold fX12_bits
  refine k_if ?_ ?_
  · exact hL11 _ hMM
  · refine k_if ?_ ?_
    · refine k_gR hMM g_a0 fun v15 g_v15 => ?_
      refine k_gR hMM g_v15 fun v18 g_v18 => ?_
      refine k_bo fun v21 => ?_
      refine k_if ?_ ?_
      · exact hL47 ((-3)) _ hMM
      · refine k_gR hMM g_a0 fun v28 g_v28 => ?_
        refine k_gR hMM g_v28 fun v31 g_v31 => ?_
        refine k_gR hMM g_v31 fun v34 g_v34 => ?_
        refine k_gR hMM g_v34 fun v37 g_v37 => ?_
        refine k_bo fun v41 => ?_
        exact hL47 v41 _ hMM
    · exact hL11 _ hMM
def wkX13_feed : List Nat := [1301, 1400]
set_option maxRecDepth 100000 in
set_option maxHeartbeats 4000000 in
theorem frX13_feed {G : Nat → Prop} {MM : Mem} (a0 : Option Nat) (a1 : Int64) (a3 : Int32) (hst : ∀ k, k < 10 → G k) (hc : Cl G MM) (g_a0 : inG G a0) : okv (fun _ : Int32 => True) MM G wkX13_feed (fX13_feed a0 a1 a3 MM) := by
  have hMM : FrG G wkX13_feed MM MM := FrG.rf hc
  have hL10 : ∀ (M : Mem) (hM : FrG G wkX13_feed MM M), okv (fun _ : Int32 => True) MM G wkX13_feed (fX13_feed_L10 M) := by
    intro M hM
    unfold fX13_feed_L10
    exact k_ret hM trivial
  have hL44 : ∀ (p0 : Option Nat) (p1 : Int64) (p4 : Int32) (M : Mem) (g_p0 : inG G p0) (hM : FrG G wkX13_feed MM M), okv (fun _ : Int32 => True) MM G wkX13_feed (fX13_feed_L44 p0 p1 p4 M) := by
    intro p0 p1 p4 M g_p0 hM
    refine k_lp (T := fun a : Option Nat × Int64 × Int32 => inG G (a.1)) ?_ FU ((p0, p1, p4)) M g_p0 hM
    intro k44 hk44 a M T hM
    obtain ⟨p0, p1, p4⟩ := a
    have g_p0 := T
    show okv (fun _ : Int32 => True) MM G wkX13_feed (fX13_feed_B44 k44 p0 p1 p4 M)
    unfold fX13_feed_B44
    refine k_if ?_ ?_
    · refine k_bo fun v84 => ?_
      exact k_ret hM trivial
    · refine k_gR hM g_p0 fun v50 g_v50 => ?_
      refine k_bo fun v54 => ?_
      refine k_wB (by decide) hM g_v50 fun M66 hM66 => ?_
      refine k_bo fun v69 => ?_
      refine k_pI (by decide) (by decide) (by decide) hM66 g_p0 fun M74 hM74 => ?_
      refine k_bn fun v77 => ?_
      exact hk44 ((p0, p1, v77)) _ g_p0 hM74
  unfold fX13_feed
  refine k_if ?_ ?_
  · exact hL10 _ hMM
  · refine k_if ?_ ?_
    · refine k_if ?_ ?_
      · refine k_pI (by decide) (by decide) (by decide) hMM g_a0 fun M19 hM19 => ?_
        exact k_ret hM19 trivial
      · refine k_bo fun v25 => ?_
        refine k_if ?_ ?_
        · refine k_bn fun v42 => ?_
          exact hL44 a0 a1 v42 _ g_a0 hMM
        · exact k_ret hMM trivial
    · exact hL10 _ hMM
def wkX13_fill : List Nat := [1301, 1400]
set_option maxRecDepth 100000 in
set_option maxHeartbeats 4000000 in
theorem frX13_fill {G : Nat → Prop} {MM : Mem} (a0 : Option Nat) (a1 : Int32) (a2 : Int32) (a3 : Int32) (hst : ∀ k, k < 10 → G k) (hc : Cl G MM) (g_a0 : inG G a0) : okv (fun _ : Int32 => True) MM G wkX13_fill (fX13_fill a0 a1 a2 a3 MM) := by
  have hMM : FrG G wkX13_fill MM MM := FrG.rf hc
  have hL14 : ∀ (M : Mem) (hM : FrG G wkX13_fill MM M), okv (fun _ : Int32 => True) MM G wkX13_fill (fX13_fill_L14 M) := by
    intro M hM
    unfold fX13_fill_L14
    exact k_ret hM trivial
  have hL38 : ∀ (p0 : Option Nat) (p1 : Int32) (p3 : Int32) (p4 : Int32) (p5 : Int32) (M : Mem) (g_p0 : inG G p0) (hM : FrG G wkX13_fill MM M), okv (fun _ : Int32 => True) MM G wkX13_fill (fX13_fill_L38 p0 p1 p3 p4 p5 M) := by
    intro p0 p1 p3 p4 p5 M g_p0 hM
    refine k_lp (T := fun a : Option Nat × Int32 × Int32 × Int32 × Int32 => inG G (a.1)) ?_ FU ((p0, p1, p3, p4, p5)) M g_p0 hM
    intro k38 hk38 a M T hM
    obtain ⟨p0, p1, p3, p4, p5⟩ := a
    have g_p0 := T
    show okv (fun _ : Int32 => True) MM G wkX13_fill (fX13_fill_B38 k38 p0 p1 p3 p4 p5 M)
    unfold fX13_fill_B38
    refine k_if ?_ ?_
    · refine k_bo fun v88 => ?_
      exact k_ret hM trivial
    · refine k_bn fun v52 => ?_
      refine k_gR hM g_p0 fun v55 g_v55 => ?_
      refine k_bo fun v59 => ?_
      refine k_wB (by decide) hM g_v55 fun M70 hM70 => ?_
      refine k_bo fun v73 => ?_
      refine k_pI (by decide) (by decide) (by decide) hM70 g_p0 fun M78 hM78 => ?_
      refine k_bn fun v81 => ?_
      exact hk38 ((p0, p1, p3, v52, v81)) _ g_p0 hM78
  unfold fX13_fill
  refine k_if ?_ ?_
  · exact hL14 _ hMM
  · refine k_if ?_ ?_
    · exact hL14 _ hMM
    · refine k_if ?_ ?_
      · refine k_bo fun v22 => ?_
        refine k_if ?_ ?_
        · refine k_bn fun v33 => ?_
          refine k_bn fun v36 => ?_
          exact hL38 a0 a1 a3 v33 v36 _ g_a0 hMM
        · exact k_ret hMM trivial
      · exact hL14 _ hMM
def wkX13_size : List Nat := []
set_option maxRecDepth 100000 in
set_option maxHeartbeats 4000000 in
theorem frX13_size {G : Nat → Prop} {MM : Mem} (a0 : Option Nat) (hst : ∀ k, k < 10 → G k) (hc : Cl G MM) (g_a0 : inG G a0) : okv (fun _ : Int32 => True) MM G wkX13_size (fX13_size a0 MM) := by
  have hMM : FrG G wkX13_size MM MM := FrG.rf hc
  unfold fX13_size
  refine k_bo fun v1 => ?_
  exact k_ret hMM trivial
def wkX13_set : List Nat := [1400]
set_option maxRecDepth 100000 in
set_option maxHeartbeats 4000000 in
theorem frX13_set {G : Nat → Prop} {MM : Mem} (a0 : Option Nat) (a1 : Int32) (a2 : Int32) (hst : ∀ k, k < 10 → G k) (hc : Cl G MM) (g_a0 : inG G a0) : okv (fun _ : Int32 => True) MM G wkX13_set (fX13_set a0 a1 a2 MM) := by
  have hMM : FrG G wkX13_set MM MM := FrG.rf hc
  have hL23 : ∀ (M : Mem) (hM : FrG G wkX13_set MM M), okv (fun _ : Int32 => True) MM G wkX13_set (fX13_set_L23 M) := by
    intro M hM
    unfold fX13_set_L23
    exact k_ret hM trivial
  unfold fX13_set
  refine k_if ?_ ?_
  · exact hL23 _ hMM
  · refine k_bo fun v6 => ?_
    refine k_if ?_ ?_
    · exact hL23 _ hMM
    · refine k_if ?_ ?_
      · exact hL23 _ hMM
      · refine k_if ?_ ?_
        · refine k_gR hMM g_a0 fun v27 g_v27 => ?_
          refine k_bo fun v31 => ?_
          refine k_bn fun v36 => ?_
          refine k_gR hMM g_a0 fun v38 g_v38 => ?_
          refine k_wB (by decide) hMM g_v38 fun M44 hM44 => ?_
          exact k_ret hM44 trivial
        · exact hL23 _ hMM
def wkX13_cut : List Nat := [1301]
set_option maxRecDepth 100000 in
set_option maxHeartbeats 4000000 in
theorem frX13_cut {G : Nat → Prop} {MM : Mem} (a0 : Option Nat) (a1 : Int32) (hst : ∀ k, k < 10 → G k) (hc : Cl G MM) (g_a0 : inG G a0) : okv (fun _ : Int32 => True) MM G wkX13_cut (fX13_cut a0 a1 MM) := by
  have hMM : FrG G wkX13_cut MM MM := FrG.rf hc
  have hL12 : ∀ (M : Mem) (hM : FrG G wkX13_cut MM M), okv (fun _ : Int32 => True) MM G wkX13_cut (fX13_cut_L12 M) := by
    intro M hM
    unfold fX13_cut_L12
    exact k_ret hM trivial
  unfold fX13_cut
  refine k_if ?_ ?_
  · exact hL12 _ hMM
  · refine k_bo fun v6 => ?_
    refine k_if ?_ ?_
    · refine k_bo fun v16 => ?_
      refine k_bn fun v19 => ?_
      refine k_pI (by decide) (by decide) (by decide) hMM g_a0 fun M22 hM22 => ?_
      exact k_ret hM22 trivial
    · exact hL12 _ hMM
def wkX13_again : List Nat := [1301, 1400]
set_option maxRecDepth 100000 in
set_option maxHeartbeats 4000000 in
theorem frX13_again {G : Nat → Prop} {MM : Mem} (a0 : Option Nat) (a1 : Int32) (a2 : Int32) (hst : ∀ k, k < 10 → G k) (hc : Cl G MM) (g_a0 : inG G a0) : okv (fun _ : Int32 => True) MM G wkX13_again (fX13_again a0 a1 a2 MM) := by
  have hMM : FrG G wkX13_again MM MM := FrG.rf hc
  have hL26 : ∀ (M : Mem) (hM : FrG G wkX13_again MM M), okv (fun _ : Int32 => True) MM G wkX13_again (fX13_again_L26 M) := by
    intro M hM
    unfold fX13_again_L26
    exact k_ret hM trivial
  have hL46 : ∀ (p0 : Option Nat) (p1 : Int32) (p2 : Int32) (p3 : Int32) (M : Mem) (g_p0 : inG G p0) (hM : FrG G wkX13_again MM M), okv (fun _ : Int32 => True) MM G wkX13_again (fX13_again_L46 p0 p1 p2 p3 M) := by
    intro p0 p1 p2 p3 M g_p0 hM
    refine k_lp (T := fun a : Option Nat × Int32 × Int32 × Int32 => inG G (a.1)) ?_ FU ((p0, p1, p2, p3)) M g_p0 hM
    intro k46 hk46 a M T hM
    obtain ⟨p0, p1, p2, p3⟩ := a
    have g_p0 := T
    show okv (fun _ : Int32 => True) MM G wkX13_again (fX13_again_B46 k46 p0 p1 p2 p3 M)
    unfold fX13_again_B46
    refine k_if ?_ ?_
    · refine k_bo fun v85 => ?_
      exact k_ret hM trivial
    · refine k_gR hM g_p0 fun v52 g_v52 => ?_
      refine k_bo fun v56 => ?_
      refine k_gR hM g_p0 fun v60 g_v60 => ?_
      refine k_bo fun v66 => ?_
      refine k_wB (by decide) hM g_v52 fun M67 hM67 => ?_
      refine k_bo fun v70 => ?_
      refine k_pI (by decide) (by decide) (by decide) hM67 g_p0 fun M75 hM75 => ?_
      refine k_bn fun v78 => ?_
      exact hk46 ((p0, p1, p2, v78)) _ g_p0 hM75
  unfold fX13_again
  refine k_if ?_ ?_
  · exact hL26 _ hMM
  · refine k_if ?_ ?_
    · exact hL26 _ hMM
    · refine k_bo fun v10 => ?_
      refine k_if ?_ ?_
      · exact hL26 _ hMM
      · refine k_bo fun v18 => ?_
        refine k_if ?_ ?_
        · refine k_bo fun v34 => ?_
          refine k_if ?_ ?_
          · refine k_bn fun v45 => ?_
            exact hL46 a0 a1 a2 v45 _ g_a0 hMM
          · exact k_ret hMM trivial
        · exact hL26 _ hMM
def wkX13_swap : List Nat := [1301, 1303, 1400]
set_option maxRecDepth 100000 in
set_option maxHeartbeats 4000000 in
theorem frX13_swap {G : Nat → Prop} {MM : Mem} (a0 : Option Nat) (hst : ∀ k, k < 10 → G k) (hc : Cl G MM) (g_a0 : inG G a0) : okv (fun _ : Int32 => True) MM G wkX13_swap (fX13_swap a0 MM) := by
  have hMM : FrG G wkX13_swap MM MM := FrG.rf hc
  have hL25 : ∀ (p0 : Option Nat) (p1 : Int32) (p2 : Int32) (M : Mem) (g_p0 : inG G p0) (hM : FrG G wkX13_swap MM M), okv (fun _ : Int32 => True) MM G wkX13_swap (fX13_swap_L25 p0 p1 p2 M) := by
    intro p0 p1 p2 M g_p0 hM
    refine k_lp (T := fun a : Option Nat × Int32 × Int32 => inG G (a.1)) ?_ FU ((p0, p1, p2)) M g_p0 hM
    intro k25 hk25 a M T hM
    obtain ⟨p0, p1, p2⟩ := a
    have g_p0 := T
    show okv (fun _ : Int32 => True) MM G wkX13_swap (fX13_swap_B25 k25 p0 p1 p2 M)
    unfold fX13_swap_B25
    refine k_if ?_ ?_
    · refine k_bo fun v63 => ?_
      refine k_bn fun v66 => ?_
      refine k_bo fun v69 => ?_
      refine k_pI (by decide) (by decide) (by decide) hM g_p0 fun M72 hM72 => ?_
      refine k_pI (by decide) (by decide) (by decide) hM72 g_p0 fun M77 hM77 => ?_
      refine k_bo fun v81 => ?_
      exact k_ret hM77 trivial
    · refine k_gR hM g_p0 fun v31 g_v31 => ?_
      refine k_bo fun v35 => ?_
      refine k_bn fun v36 => ?_
      refine k_gR hM g_p0 fun v38 g_v38 => ?_
      refine k_gR hM g_p0 fun v43 g_v43 => ?_
      refine k_bo fun v47 => ?_
      refine k_wB (by decide) hM g_v38 fun M48 hM48 => ?_
      refine k_gR hM48 g_p0 fun v50 g_v50 => ?_
      refine k_wB (by decide) hM48 g_v50 fun M55 hM55 => ?_
      refine k_bn fun v56 => ?_
      exact hk25 ((p0, p1, v56)) _ g_p0 hM55
  have hL22 : ∀ (p0 : Option Nat) (q0 : Int32) (M : Mem) (g_p0 : inG G p0) (hM : FrG G wkX13_swap MM M), okv (fun _ : Int32 => True) MM G wkX13_swap (fX13_swap_L22 p0 q0 M) := by
    intro p0 q0 M g_p0 hM
    unfold fX13_swap_L22
    refine k_bn fun v22 => ?_
    refine k_bn fun v24 => ?_
    exact hL25 p0 v22 v24 _ g_p0 hM
  unfold fX13_swap
  refine k_bo fun v1 => ?_
  refine k_bo fun v5 => ?_
  refine k_if ?_ ?_
  · refine k_bo fun v19 => ?_
    exact hL22 a0 v19 _ g_a0 hMM
  · refine k_bo fun v12 => ?_
    exact hL22 a0 v12 _ g_a0 hMM
def wkX13_differ : List Nat := []
set_option maxRecDepth 100000 in
set_option maxHeartbeats 4000000 in
theorem frX13_differ {G : Nat → Prop} {MM : Mem} (a0 : Option Nat) (hst : ∀ k, k < 10 → G k) (hc : Cl G MM) (g_a0 : inG G a0) : okv (fun _ : Int32 => True) MM G wkX13_differ (fX13_differ a0 MM) := by
  have hMM : FrG G wkX13_differ MM MM := FrG.rf hc
  have hL70 : ∀ (q0 : Int32) (M : Mem) (hM : FrG G wkX13_differ MM M), okv (fun _ : Int32 => True) MM G wkX13_differ (fX13_differ_L70 q0 M) := by
    intro q0 M hM
    unfold fX13_differ_L70
    exact k_ret hM trivial
  have hL25 : ∀ (p0 : Option Nat) (p1 : Int32) (p2 : Int32) (M : Mem) (g_p0 : inG G p0) (hM : FrG G wkX13_differ MM M), okv (fun _ : Int32 => True) MM G wkX13_differ (fX13_differ_L25 p0 p1 p2 M) := by
    intro p0 p1 p2 M g_p0 hM
    refine k_lp (T := fun a : Option Nat × Int32 × Int32 => inG G (a.1)) ?_ FU ((p0, p1, p2)) M g_p0 hM
    intro k25 hk25 a M T hM
    obtain ⟨p0, p1, p2⟩ := a
    have g_p0 := T
    show okv (fun _ : Int32 => True) MM G wkX13_differ (fX13_differ_B25 k25 p0 p1 p2 M)
    unfold fX13_differ_B25
    refine k_if ?_ ?_
    · refine k_bo fun v54 => ?_
      refine k_bo fun v58 => ?_
      refine k_if ?_ ?_
      · exact hL70 ((-3)) _ hM
      · exact hL70 p1 _ hM
    · refine k_gR hM g_p0 fun v31 g_v31 => ?_
      refine k_bo fun v35 => ?_
      refine k_gR hM g_p0 fun v37 g_v37 => ?_
      refine k_bo fun v41 => ?_
      refine k_if ?_ ?_
      · refine k_bn fun v47 => ?_
        exact hk25 ((p0, p1, v47)) _ g_p0 hM
      · exact k_ret hM trivial
  have hL22 : ∀ (p0 : Option Nat) (q0 : Int32) (M : Mem) (g_p0 : inG G p0) (hM : FrG G wkX13_differ MM M), okv (fun _ : Int32 => True) MM G wkX13_differ (fX13_differ_L22 p0 q0 M) := by
    intro p0 q0 M g_p0 hM
    unfold fX13_differ_L22
    refine k_bn fun v22 => ?_
    refine k_bn fun v24 => ?_
    exact hL25 p0 v22 v24 _ g_p0 hM
  unfold fX13_differ
  refine k_bo fun v1 => ?_
  refine k_bo fun v5 => ?_
  refine k_if ?_ ?_
  · refine k_bo fun v19 => ?_
    exact hL22 a0 v19 _ g_a0 hMM
  · refine k_bo fun v12 => ?_
    exact hL22 a0 v12 _ g_a0 hMM
def wkX13_out : List Nat := []
set_option maxRecDepth 100000 in
set_option maxHeartbeats 4000000 in
theorem frX13_out {G : Nat → Prop} {MM : Mem} (a0 : Option Nat) (a1 : Int32) (hst : ∀ k, k < 10 → G k) (hc : Cl G MM) (g_a0 : inG G a0) : okv (fun _ : Int32 => True) MM G wkX13_out (fX13_out a0 a1 MM) := by
  have hMM : FrG G wkX13_out MM MM := FrG.rf hc
  have hL27 : ∀ (q0 : Int32) (M : Mem) (hM : FrG G wkX13_out MM M), okv (fun _ : Int32 => True) MM G wkX13_out (fX13_out_L27 q0 M) := by
    intro q0 M hM
    unfold fX13_out_L27
    exact k_ret hM trivial
  have hL12 : ∀ (M : Mem) (hM : FrG G wkX13_out MM M), okv (fun _ : Int32 => True) MM G wkX13_out (fX13_out_L12 M) := by
    intro M hM
    unfold fX13_out_L12
    exact hL27 ((-2)) _ hM
  unfold fX13_out
  refine k_if ?_ ?_
  · exact hL12 _ hMM
  · refine k_bo fun v6 => ?_
    refine k_if ?_ ?_
    · refine k_gR hMM g_a0 fun v18 g_v18 => ?_
      refine k_bo fun v22 => ?_
      exact hL27 (v22 &&& 255) _ hMM
    · exact hL12 _ hMM
def wkX13_place : List Nat := []
set_option maxRecDepth 100000 in
set_option maxHeartbeats 4000000 in
theorem frX13_place {G : Nat → Prop} {MM : Mem} (a0 : Option Nat) (hst : ∀ k, k < 10 → G k) (hc : Cl G MM) (g_a0 : inG G a0) : okv (fun _ : Int32 => True) MM G wkX13_place (fX13_place a0 MM) := by
  have hMM : FrG G wkX13_place MM MM := FrG.rf hc
  unfold fX13_place
  refine k_bo fun v1 => ?_
  exact k_ret hMM trivial
def wkX13_fails : List Nat := [1304, 1305]
set_option maxRecDepth 100000 in
set_option maxHeartbeats 4000000 in
theorem frX13_fails {G : Nat → Prop} {MM : Mem} (a0 : Option Nat) (a1 : Int32) (a2 : Int32) (hst : ∀ k, k < 10 → G k) (hc : Cl G MM) (g_a0 : inG G a0) : okv z01 MM G wkX13_fails (fX13_fails a0 a1 a2 MM) := by
  have hMM : FrG G wkX13_fails MM MM := FrG.rf hc
  have hL17 : ∀ (M : Mem) (hM : FrG G wkX13_fails MM M), okv z01 MM G wkX13_fails (fX13_fails_L17 M) := by
    intro M hM
    unfold fX13_fails_L17
    exact k_retZ hM
  unfold fX13_fails
  refine k_bo fun v1 => ?_
  refine k_if ?_ ?_
  · refine k_pI (by decide) (by decide) (by decide) hMM g_a0 fun M9 hM9 => ?_
    refine k_pI (by decide) (by decide) (by decide) hM9 g_a0 fun M14 hM14 => ?_
    exact hL17 _ hM14
  · exact hL17 _ hMM
def wkX13_turn : List Nat := []
set_option maxRecDepth 100000 in
set_option maxHeartbeats 4000000 in
theorem frX13_turn {G : Nat → Prop} {MM : Mem} (a0 : Int64) (a2 : Int32) (hst : ∀ k, k < 10 → G k) (hc : Cl G MM) : okv (fun _ : Int64 => True) MM G wkX13_turn (fX13_turn a0 a2 MM) := by
  have hMM : FrG G wkX13_turn MM MM := FrG.rf hc
  unfold fX13_turn
  exact k_ret hMM trivial
def wkX13_round : List Nat := []
set_option maxRecDepth 100000 in
set_option maxHeartbeats 4000000 in
theorem frX13_round {G : Nat → Prop} {MM : Mem} (a0 : Int64) (a2 : Int64) (hst : ∀ k, k < 10 → G k) (hc : Cl G MM) : okv (fun _ : Int64 => True) MM G wkX13_round (fX13_round a0 a2 MM) := by
  have hMM : FrG G wkX13_round MM MM := FrG.rf hc
  unfold fX13_round
  refine k_call (by decide) hMM (fun hc => frX13_turn _ _ hst hc) fun v9 M9 _ hM9 => ?_
  exact k_ret hM9 trivial
def wkX13_eight : List Nat := []
set_option maxRecDepth 100000 in
set_option maxHeartbeats 4000000 in
theorem frX13_eight {G : Nat → Prop} {MM : Mem} (a0 : Option Nat) (a1 : Int32) (a2 : Int32) (hst : ∀ k, k < 10 → G k) (hc : Cl G MM) (g_a0 : inG G a0) : okv (fun _ : Int64 => True) MM G wkX13_eight (fX13_eight a0 a1 a2 MM) := by
  have hMM : FrG G wkX13_eight MM MM := FrG.rf hc
  have hL7 : ∀ (p0 : Option Nat) (p1 : Int32) (p3 : Int64) (p5 : Int32) (M : Mem) (g_p0 : inG G p0) (hM : FrG G wkX13_eight MM M), okv (fun _ : Int64 => True) MM G wkX13_eight (fX13_eight_L7 p0 p1 p3 p5 M) := by
    intro p0 p1 p3 p5 M g_p0 hM
    refine k_lp (T := fun a : Option Nat × Int32 × Int64 × Int32 => inG G (a.1)) ?_ FU ((p0, p1, p3, p5)) M g_p0 hM
    intro k7 hk7 a M T hM
    obtain ⟨p0, p1, p3, p5⟩ := a
    have g_p0 := T
    show okv (fun _ : Int64 => True) MM G wkX13_eight (fX13_eight_B7 k7 p0 p1 p3 p5 M)
    unfold fX13_eight_B7
    refine k_if ?_ ?_
    · exact k_ret hM trivial
    · refine k_bo fun v21 => ?_
      refine k_bn fun v28 => ?_
      refine k_bn fun v29 => ?_
      exact hk7 ((p0, p1, v28, v29)) _ g_p0 hM
  unfold fX13_eight
  refine k_bn fun v1 => ?_
  refine k_bn fun v5 => ?_
  exact hL7 a0 a1 v1 v5 _ g_a0 hMM
def wkX13_sumOf : List Nat := []
set_option maxRecDepth 100000 in
set_option maxHeartbeats 4000000 in
theorem frX13_sumOf {G : Nat → Prop} {MM : Mem} (a0 : Option Nat) (a1 : Int32) (a2 : Int32) (hst : ∀ k, k < 10 → G k) (hc : Cl G MM) (g_a0 : inG G a0) : okv (fun _ : Int64 => True) MM G wkX13_sumOf (fX13_sumOf a0 a1 a2 MM) := by
  have hMM : FrG G wkX13_sumOf MM MM := FrG.rf hc
  have hL314 : ∀ (p0 : Option Nat) (p3 : Int32) (p4 : Int32) (p5 : Int64) (M : Mem) (g_p0 : inG G p0) (hM : FrG G wkX13_sumOf MM M), okv (fun _ : Int64 => True) MM G wkX13_sumOf (fX13_sumOf_L314 p0 p3 p4 p5 M) := by
    intro p0 p3 p4 p5 M g_p0 hM
    refine k_lp (T := fun a : Option Nat × Int32 × Int32 × Int64 => inG G (a.1)) ?_ FU ((p0, p3, p4, p5)) M g_p0 hM
    intro k314 hk314 a M T hM
    obtain ⟨p0, p3, p4, p5⟩ := a
    have g_p0 := T
    show okv (fun _ : Int64 => True) MM G wkX13_sumOf (fX13_sumOf_B314 k314 p0 p3 p4 p5 M)
    unfold fX13_sumOf_B314
    refine k_if ?_ ?_
    · refine k_bn fun v364 => ?_
      refine k_bn fun v378 => ?_
      exact k_ret hM trivial
    · refine k_bo fun v324 => ?_
      refine k_call (by decide) hM (fun hc => frX13_turn _ _ hst hc) fun v337 M337 _ hM337 => ?_
      refine k_bn fun v344 => ?_
      refine k_bn fun v346 => ?_
      exact hk314 ((p0, v346, p4, v344)) _ g_p0 hM337
  have hL231 : ∀ (p0 : Option Nat) (p3 : Int32) (p4 : Int32) (p5 : Int64) (M : Mem) (g_p0 : inG G p0) (hM : FrG G wkX13_sumOf MM M), okv (fun _ : Int64 => True) MM G wkX13_sumOf (fX13_sumOf_L231 p0 p3 p4 p5 M) := by
    intro p0 p3 p4 p5 M g_p0 hM
    refine k_lp (T := fun a : Option Nat × Int32 × Int32 × Int64 => inG G (a.1)) ?_ FU ((p0, p3, p4, p5)) M g_p0 hM
    intro k231 hk231 a M T hM
    obtain ⟨p0, p3, p4, p5⟩ := a
    have g_p0 := T
    show okv (fun _ : Int64 => True) MM G wkX13_sumOf (fX13_sumOf_B231 k231 p0 p3 p4 p5 M)
    unfold fX13_sumOf_B231
    refine k_if ?_ ?_
    · refine k_if ?_ ?_
      · exact hL314 p0 p3 p4 p5 _ g_p0 hM
      · refine k_call (by decide) hM (fun hc => frX13_eight _ _ _ hst hc g_p0) fun v288 M288 _ hM288 => ?_
        refine k_call (by decide) hM288 (fun hc => frX13_turn _ _ hst hc) fun v298 M298 _ hM298 => ?_
        refine k_bn fun v309 => ?_
        refine k_bn fun v311 => ?_
        exact hL314 p0 v311 p4 v309 _ g_p0 hM298
    · refine k_call (by decide) hM (fun hc => frX13_eight _ _ _ hst hc g_p0) fun v247 M247 _ hM247 => ?_
      refine k_call (by decide) hM247 (fun hc => frX13_round _ _ hst hc) fun v250 M250 _ hM250 => ?_
      refine k_call (by decide) hM250 (fun hc => frX13_turn _ _ hst hc) fun v256 M256 _ hM256 => ?_
      refine k_bn fun v267 => ?_
      refine k_bn fun v269 => ?_
      exact hk231 ((p0, v269, p4, v267)) _ g_p0 hM256
  have hL224 : ∀ (p0 : Option Nat) (p2 : Int32) (p3 : Int32) (p4 : Int32) (p5 : Int64) (M : Mem) (g_p0 : inG G p0) (hM : FrG G wkX13_sumOf MM M), okv (fun _ : Int64 => True) MM G wkX13_sumOf (fX13_sumOf_L224 p0 p2 p3 p4 p5 M) := by
    intro p0 p2 p3 p4 p5 M g_p0 hM
    unfold fX13_sumOf_L224
    refine k_bn fun v229 => ?_
    exact hL231 p0 p3 p4 v229 _ g_p0 hM
  have hL36 : ∀ (p0 : Option Nat) (p2 : Int32) (p3 : Int32) (p4 : Int32) (p7 : Int64) (p9 : Int64) (p11 : Int64) (p13 : Int64) (M : Mem) (g_p0 : inG G p0) (hM : FrG G wkX13_sumOf MM M), okv (fun _ : Int64 => True) MM G wkX13_sumOf (fX13_sumOf_L36 p0 p2 p3 p4 p7 p9 p11 p13 M) := by
    intro p0 p2 p3 p4 p7 p9 p11 p13 M g_p0 hM
    refine k_lp (T := fun a : Option Nat × Int32 × Int32 × Int32 × Int64 × Int64 × Int64 × Int64 => inG G (a.1)) ?_ FU ((p0, p2, p3, p4, p7, p9, p11, p13)) M g_p0 hM
    intro k36 hk36 a M T hM
    obtain ⟨p0, p2, p3, p4, p7, p9, p11, p13⟩ := a
    have g_p0 := T
    show okv (fun _ : Int64 => True) MM G wkX13_sumOf (fX13_sumOf_B36 k36 p0 p2 p3 p4 p7 p9 p11 p13 M)
    unfold fX13_sumOf_B36
    refine k_if ?_ ?_
    · refine k_call (by decide) hM (fun hc => frX13_turn _ _ hst hc) fun v119 M119 _ hM119 => ?_
      refine k_call (by decide) hM119 (fun hc => frX13_turn _ _ hst hc) fun v126 M126 _ hM126 => ?_
      refine k_call (by decide) hM126 (fun hc => frX13_turn _ _ hst hc) fun v134 M134 _ hM134 => ?_
      refine k_call (by decide) hM134 (fun hc => frX13_turn _ _ hst hc) fun v142 M142 _ hM142 => ?_
      refine k_bn fun v146 => ?_
      refine k_call (by decide) hM142 (fun hc => frX13_round _ _ hst hc) fun v153 M153 _ hM153 => ?_
      refine k_bn fun v165 => ?_
      refine k_call (by decide) hM153 (fun hc => frX13_round _ _ hst hc) fun v172 M172 _ hM172 => ?_
      refine k_bn fun v184 => ?_
      refine k_call (by decide) hM172 (fun hc => frX13_round _ _ hst hc) fun v191 M191 _ hM191 => ?_
      refine k_bn fun v203 => ?_
      refine k_call (by decide) hM191 (fun hc => frX13_round _ _ hst hc) fun v210 M210 _ hM210 => ?_
      refine k_bn fun v222 => ?_
      exact hL224 p0 p2 p3 p4 v222 _ g_p0 hM210
    · refine k_call (by decide) hM (fun hc => frX13_eight _ _ _ hst hc g_p0) fun v51 M51 _ hM51 => ?_
      refine k_call (by decide) hM51 (fun hc => frX13_round _ _ hst hc) fun v54 M54 _ hM54 => ?_
      refine k_bn fun v57 => ?_
      refine k_call (by decide) hM54 (fun hc => frX13_eight _ _ _ hst hc g_p0) fun v68 M68 _ hM68 => ?_
      refine k_call (by decide) hM68 (fun hc => frX13_round _ _ hst hc) fun v71 M71 _ hM71 => ?_
      refine k_bn fun v74 => ?_
      refine k_call (by decide) hM71 (fun hc => frX13_eight _ _ _ hst hc g_p0) fun v85 M85 _ hM85 => ?_
      refine k_call (by decide) hM85 (fun hc => frX13_round _ _ hst hc) fun v88 M88 _ hM88 => ?_
      refine k_bn fun v91 => ?_
      refine k_call (by decide) hM88 (fun hc => frX13_eight _ _ _ hst hc g_p0) fun v102 M102 _ hM102 => ?_
      refine k_call (by decide) hM102 (fun hc => frX13_round _ _ hst hc) fun v105 M105 _ hM105 => ?_
      refine k_bn fun v108 => ?_
      refine k_bn fun v110 => ?_
      exact hk36 ((p0, p2, v110, p4, v57, v74, v91, v108)) _ g_p0 hM105
  unfold fX13_sumOf
  refine k_bn fun v1 => ?_
  refine k_bn fun v5 => ?_
  refine k_bn fun v10 => ?_
  refine k_if ?_ ?_
  · exact hL224 a0 a2 v1 v5 v10 _ g_a0 hMM
  · refine k_bn fun v21 => ?_
    refine k_bn fun v26 => ?_
    refine k_bn fun v29 => ?_
    refine k_bn fun v34 => ?_
    exact hL36 a0 a2 v1 v5 v21 v26 v29 v34 _ g_a0 hMM
def wkX13_sum : List Nat := []
set_option maxRecDepth 100000 in
set_option maxHeartbeats 4000000 in
theorem frX13_sum {G : Nat → Prop} {MM : Mem} (a0 : Option Nat) (a1 : Int32) (hst : ∀ k, k < 10 → G k) (hc : Cl G MM) (g_a0 : inG G a0) : okv (fun _ : Int32 => True) MM G wkX13_sum (fX13_sum a0 a1 MM) := by
  have hMM : FrG G wkX13_sum MM MM := FrG.rf hc
  have hL25 : ∀ (q0 : Int64) (M : Mem) (hM : FrG G wkX13_sum MM M), okv (fun _ : Int32 => True) MM G wkX13_sum (fX13_sum_L25 q0 M) := by
    intro q0 M hM
    unfold fX13_sum_L25
    exact k_ret hM trivial
  unfold fX13_sum
  refine k_gR hMM g_a0 fun v1 g_v1 => ?_
  refine k_bo fun v6 => ?_
  refine k_call (by decide) hMM (fun hc => frX13_sumOf _ _ _ hst hc g_v1) fun v9 M9 _ hM9 => ?_
  refine k_bn fun v12 => ?_
  refine k_if ?_ ?_
  · exact hL25 v12 _ hM9
  · exact hL25 (ushJ v12 32) _ hM9
def wkX13_forward : List Nat := [1307, 1309]
set_option maxRecDepth 100000 in
set_option maxHeartbeats 4000000 in
theorem frX13_forward {G : Nat → Prop} {MM : Mem} (a0 : Option Nat) (a1 : Int32) (hst : ∀ k, k < 10 → G k) (hc : Cl G MM) (g_a0 : inG G a0) : okv (fun _ : Int32 => True) MM G wkX13_forward (fX13_forward a0 a1 MM) := by
  have hMM : FrG G wkX13_forward MM MM := FrG.rf hc
  have hL24 : ∀ (p0 : Option Nat) (p1 : Int32) (p2 : Int32) (p3 : Int32) (M : Mem) (g_p0 : inG G p0) (hM : FrG G wkX13_forward MM M), okv (fun _ : Int32 => True) MM G wkX13_forward (fX13_forward_L24 p0 p1 p2 p3 M) := by
    intro p0 p1 p2 p3 M g_p0 hM
    refine k_lp (T := fun a : Option Nat × Int32 × Int32 × Int32 => inG G (a.1)) ?_ FU ((p0, p1, p2, p3)) M g_p0 hM
    intro k24 hk24 a M T hM
    obtain ⟨p0, p1, p2, p3⟩ := a
    have g_p0 := T
    show okv (fun _ : Int32 => True) MM G wkX13_forward (fX13_forward_B24 k24 p0 p1 p2 p3 M)
    unfold fX13_forward_B24
    refine k_if ?_ ?_
    · exact k_ret hM trivial
    · refine k_gR hM g_p0 fun v31 g_v31 => ?_
      refine k_bo fun v35 => ?_
      refine k_bo fun v40 => ?_
      refine k_bo fun v42 => ?_
      refine k_bn fun v54 => ?_
      refine k_bo fun v57 => ?_
      refine k_pI (by decide) (by decide) (by decide) hM g_p0 fun M62 hM62 => ?_
      refine k_bn fun v65 => ?_
      exact hk24 ((p0, p1, v54, v65)) _ g_p0 hM62
  unfold fX13_forward
  refine k_bo fun v1 => ?_
  refine k_bo fun v5 => ?_
  refine k_if ?_ ?_
  · refine k_bn fun v21 => ?_
    refine k_bn fun v23 => ?_
    exact hL24 a0 a1 v21 v23 _ g_a0 hMM
  · refine k_pZ (by decide) (by decide) hMM g_a0 fun M15 hM15 => ?_
    exact k_ret hM15 trivial
def wkX13_log : List Nat := []
set_option maxRecDepth 100000 in
set_option maxHeartbeats 4000000 in
theorem frX13_log {G : Nat → Prop} {MM : Mem} (a0 : Int32) (hst : ∀ k, k < 10 → G k) (hc : Cl G MM) : okv (fun _ : Int32 => True) MM G wkX13_log (fX13_log a0 MM) := by
  have hMM : FrG G wkX13_log MM MM := FrG.rf hc
  have hL2 : ∀ (p0 : Int32) (p1 : Int32) (M : Mem) (hM : FrG G wkX13_log MM M), okv (fun _ : Int32 => True) MM G wkX13_log (fX13_log_L2 p0 p1 M) := by
    intro p0 p1 M hM
    refine k_lp (T := fun a : Int32 × Int32 => True) ?_ FU ((p0, p1)) M trivial hM
    intro k2 hk2 a M T hM
    obtain ⟨p0, p1⟩ := a
    show okv (fun _ : Int32 => True) MM G wkX13_log (fX13_log_B2 k2 p0 p1 M)
    unfold fX13_log_B2
    refine k_if ?_ ?_
    · exact k_ret hM trivial
    · refine k_bn fun v9 => ?_
      exact hk2 ((p0, v9)) _ trivial hM
  unfold fX13_log
  refine k_bn fun v1 => ?_
  exact hL2 a0 v1 _ hMM
def wkX13_reversed : List Nat := [1309, 1310, 1311]
set_option maxRecDepth 100000 in
set_option maxHeartbeats 4000000 in
theorem frX13_reversed {G : Nat → Prop} {MM : Mem} (a0 : Option Nat) (a1 : Int32) (a2 : Int32) (hst : ∀ k, k < 10 → G k) (hc : Cl G MM) (g_a0 : inG G a0) : okv z01 MM G wkX13_reversed (fX13_reversed a0 a1 a2 MM) := by
  have hMM : FrG G wkX13_reversed MM MM := FrG.rf hc
  have hL26 : ∀ (M : Mem) (hM : FrG G wkX13_reversed MM M), okv z01 MM G wkX13_reversed (fX13_reversed_L26 M) := by
    intro M hM
    unfold fX13_reversed_L26
    exact k_retZ hM
  unfold fX13_reversed
  refine k_pI (by decide) (by decide) (by decide) hMM g_a0 fun M2 hM2 => ?_
  refine k_pI (by decide) (by decide) (by decide) hM2 g_a0 fun M7 hM7 => ?_
  refine k_if ?_ ?_
  · exact hL26 _ hM7
  · refine k_gR hM7 g_a0 fun v16 g_v16 => ?_
    refine k_bo fun v22 => ?_
    refine k_if ?_ ?_
    · exact hL26 _ hM7
    · refine k_gR hM7 g_a0 fun v38 g_v38 => ?_
      refine k_bo fun v44 => ?_
      refine k_call (by decide) hM7 (fun hc => frX13_log _ hst hc) fun v49 M49 _ hM49 => ?_
      refine k_pI (by decide) (by decide) (by decide) hM49 g_a0 fun M53 hM53 => ?_
      refine k_pZ (by decide) (by decide) hM53 g_a0 fun M58 hM58 => ?_
      exact k_retZ hM58
def wkX13_back : List Nat := [1309, 1311]
set_option maxRecDepth 100000 in
set_option maxHeartbeats 4000000 in
theorem frX13_back {G : Nat → Prop} {MM : Mem} (a0 : Option Nat) (a1 : Int32) (hst : ∀ k, k < 10 → G k) (hc : Cl G MM) (g_a0 : inG G a0) : okv (fun _ : Int64 => True) MM G wkX13_back (fX13_back a0 a1 MM) := by
  have hMM : FrG G wkX13_back MM MM := FrG.rf hc
  have hL20 : ∀ (p0 : Option Nat) (p1 : Int32) (p2 : Int64) (p4 : Int32) (M : Mem) (g_p0 : inG G p0) (hM : FrG G wkX13_back MM M), okv (fun _ : Int64 => True) MM G wkX13_back (fX13_back_L20 p0 p1 p2 p4 M) := by
    intro p0 p1 p2 p4 M g_p0 hM
    refine k_lp (T := fun a : Option Nat × Int32 × Int64 × Int32 => inG G (a.1)) ?_ FU ((p0, p1, p2, p4)) M g_p0 hM
    intro k20 hk20 a M T hM
    obtain ⟨p0, p1, p2, p4⟩ := a
    have g_p0 := T
    show okv (fun _ : Int64 => True) MM G wkX13_back (fX13_back_B20 k20 p0 p1 p2 p4 M)
    unfold fX13_back_B20
    refine k_if ?_ ?_
    · exact k_ret hM trivial
    · refine k_bo fun v28 => ?_
      refine k_pI (by decide) (by decide) (by decide) hM g_p0 fun M33 hM33 => ?_
      refine k_gR hM33 g_p0 fun v40 g_v40 => ?_
      refine k_bo fun v44 => ?_
      refine k_bo fun v48 => ?_
      refine k_bo fun v54 => ?_
      refine k_bo fun v56 => ?_
      refine k_bn fun v67 => ?_
      refine k_bn fun v68 => ?_
      exact hk20 ((p0, p1, v67, v68)) _ g_p0 hM33
  unfold fX13_back
  refine k_bo fun v1 => ?_
  refine k_if ?_ ?_
  · refine k_bn fun v16 => ?_
    refine k_bn fun v18 => ?_
    exact hL20 a0 a1 v16 v18 _ g_a0 hMM
  · refine k_pZ (by decide) (by decide) hMM g_a0 fun M10 hM10 => ?_
    exact k_ret hM10 trivial
def wkX13_table : List Nat := [1400, 1500, 1700, 1800]
set_option maxRecDepth 100000 in
set_option maxHeartbeats 4000000 in
theorem frX13_table {G : Nat → Prop} {MM : Mem} (a0 : Option Nat) (a1 : Int32) (hst : ∀ k, k < 10 → G k) (hc : Cl G MM) (g_a0 : inG G a0) : okv (fun _ : Unit => True) MM G wkX13_table (fX13_table a0 a1 MM) := by
  have hMM : FrG G wkX13_table MM MM := FrG.rf hc
  have hL188 : ∀ (p0 : Option Nat) (p2 : Int32) (p3 : Int32) (p4 : Int32) (p7 : Int32) (M : Mem) (g_p0 : inG G p0) (hM : FrG G wkX13_table MM M), okv (fun _ : Unit => True) MM G wkX13_table (fX13_table_L188 p0 p2 p3 p4 p7 M) := by
    intro p0 p2 p3 p4 p7 M g_p0 hM
    refine k_lp (T := fun a : Option Nat × Int32 × Int32 × Int32 × Int32 => inG G (a.1)) ?_ FU ((p0, p2, p3, p4, p7)) M g_p0 hM
    intro k188 hk188 a M T hM
    obtain ⟨p0, p2, p3, p4, p7⟩ := a
    have g_p0 := T
    show okv (fun _ : Unit => True) MM G wkX13_table (fX13_table_B188 k188 p0 p2 p3 p4 p7 M)
    unfold fX13_table_B188
    refine k_if ?_ ?_
    · exact k_ret hM trivial
    · refine k_gR hM g_p0 fun v195 g_v195 => ?_
      refine k_gR hM g_p0 fun v199 g_v199 => ?_
      refine k_bo fun v207 => ?_
      refine k_bo fun v208 => ?_
      refine k_bn fun v209 => ?_
      refine k_gR hM g_p0 fun v212 g_v212 => ?_
      refine k_gR hM g_p0 fun v216 g_v216 => ?_
      refine k_bo fun v224 => ?_
      refine k_bo fun v226 => ?_
      refine k_wI (by decide) hM g_v212 fun M229 hM229 => ?_
      refine k_gR hM229 g_p0 fun v231 g_v231 => ?_
      refine k_call (by decide) hM229 (fun hc => frX13_log _ hst hc) fun v242 M242 _ hM242 => ?_
      refine k_wB (by decide) hM242 g_v231 fun M247 hM247 => ?_
      refine k_gR hM247 g_p0 fun v249 g_v249 => ?_
      refine k_gR hM247 g_p0 fun v260 g_v260 => ?_
      refine k_bo fun v268 => ?_
      refine k_wI (by decide) hM247 g_v249 fun M272 hM272 => ?_
      refine k_bn fun v273 => ?_
      exact hk188 ((p0, p2, p3, p4, v273)) _ g_p0 hM272
  have hL148 : ∀ (k112 : Option Nat × Int32 × Int32 × Int32 × Int32 × Int32 × Int32 → Mem → Option (Unit × Mem)) (hk112 : ∀ a M, (inG G (a.1)) → FrG G wkX13_table MM M → okv (fun _ : Unit => True) MM G wkX13_table (k112 a M)) (k123 : Option Nat × Int32 × Int32 × Int32 × Int32 × Int32 × Int32 × Int32 → Mem → Option (Unit × Mem)) (hk123 : ∀ a M, (inG G (a.1)) → FrG G wkX13_table MM M → okv (fun _ : Unit => True) MM G wkX13_table (k123 a M)) (p0 : Option Nat) (p2 : Int32) (p3 : Int32) (p4 : Int32) (p5 : Int32) (p6 : Int32) (p7 : Int32) (p8 : Int32) (M : Mem) (g_p0 : inG G p0) (hM : FrG G wkX13_table MM M), okv (fun _ : Unit => True) MM G wkX13_table (fX13_table_L148 k112 k123 p0 p2 p3 p4 p5 p6 p7 p8 M) := by
    intro k112 hk112 k123 hk123 p0 p2 p3 p4 p5 p6 p7 p8 M g_p0 hM
    refine k_lp (T := fun a : Option Nat × Int32 × Int32 × Int32 × Int32 × Int32 × Int32 × Int32 => inG G (a.1)) ?_ FU ((p0, p2, p3, p4, p5, p6, p7, p8)) M g_p0 hM
    intro k148 hk148 a M T hM
    obtain ⟨p0, p2, p3, p4, p5, p6, p7, p8⟩ := a
    have g_p0 := T
    show okv (fun _ : Unit => True) MM G wkX13_table (fX13_table_B148 k112 k123 k148 p0 p2 p3 p4 p5 p6 p7 p8 M)
    unfold fX13_table_B148
    refine k_bn fun v164 => ?_
    refine k_if ?_ ?_
    · exact hk148 ((p0, p2, p3, p4, p5, v164, p7, p8)) _ g_p0 hM
    · refine k_bn fun v173 => ?_
      exact hk123 ((p0, p2, p3, p4, p5, v164, p7, v173)) _ g_p0 hM
  have hL123 : ∀ (k112 : Option Nat × Int32 × Int32 × Int32 × Int32 × Int32 × Int32 → Mem → Option (Unit × Mem)) (hk112 : ∀ a M, (inG G (a.1)) → FrG G wkX13_table MM M → okv (fun _ : Unit => True) MM G wkX13_table (k112 a M)) (p0 : Option Nat) (p2 : Int32) (p3 : Int32) (p4 : Int32) (p5 : Int32) (p6 : Int32) (p7 : Int32) (p8 : Int32) (M : Mem) (g_p0 : inG G p0) (hM : FrG G wkX13_table MM M), okv (fun _ : Unit => True) MM G wkX13_table (fX13_table_L123 k112 p0 p2 p3 p4 p5 p6 p7 p8 M) := by
    intro k112 hk112 p0 p2 p3 p4 p5 p6 p7 p8 M g_p0 hM
    refine k_lp (T := fun a : Option Nat × Int32 × Int32 × Int32 × Int32 × Int32 × Int32 × Int32 => inG G (a.1)) ?_ FU ((p0, p2, p3, p4, p5, p6, p7, p8)) M g_p0 hM
    intro k123 hk123 a M T hM
    obtain ⟨p0, p2, p3, p4, p5, p6, p7, p8⟩ := a
    have g_p0 := T
    show okv (fun _ : Unit => True) MM G wkX13_table (fX13_table_B123 k112 k123 p0 p2 p3 p4 p5 p6 p7 p8 M)
    unfold fX13_table_B123
    refine k_gR hM g_p0 fun v126 g_v126 => ?_
    refine k_bo fun v131 => ?_
    refine k_if ?_ ?_
    · refine k_bn fun v179 => ?_
      exact hk112 ((p0, p2, p3, p4, p5, p6, v179)) _ g_p0 hM
    · refine k_gR hM g_p0 fun v136 g_v136 => ?_
      refine k_wS (by decide) hM g_v136 fun M147 hM147 => ?_
      exact hL148 k112 hk112 k123 hk123 p0 p2 p3 p4 p5 p6 p7 p8 _ g_p0 hM147
  have hL112 : ∀ (p0 : Option Nat) (p2 : Int32) (p3 : Int32) (p4 : Int32) (p5 : Int32) (p6 : Int32) (p7 : Int32) (M : Mem) (g_p0 : inG G p0) (hM : FrG G wkX13_table MM M), okv (fun _ : Unit => True) MM G wkX13_table (fX13_table_L112 p0 p2 p3 p4 p5 p6 p7 M) := by
    intro p0 p2 p3 p4 p5 p6 p7 M g_p0 hM
    refine k_lp (T := fun a : Option Nat × Int32 × Int32 × Int32 × Int32 × Int32 × Int32 => inG G (a.1)) ?_ FU ((p0, p2, p3, p4, p5, p6, p7)) M g_p0 hM
    intro k112 hk112 a M T hM
    obtain ⟨p0, p2, p3, p4, p5, p6, p7⟩ := a
    have g_p0 := T
    show okv (fun _ : Unit => True) MM G wkX13_table (fX13_table_B112 k112 p0 p2 p3 p4 p5 p6 p7 M)
    unfold fX13_table_B112
    refine k_if ?_ ?_
    · refine k_bn fun v186 => ?_
      exact hL188 p0 p2 p3 p4 v186 _ g_p0 hM
    · refine k_bn fun v121 => ?_
      exact hL123 k112 hk112 p0 p2 p3 p4 p5 p6 p7 v121 _ g_p0 hM
  have hL99 : ∀ (k36 : Option Nat × Int32 × Int32 × Int32 × Int32 × Int32 → Mem → Option (Unit × Mem)) (hk36 : ∀ a M, (inG G (a.1)) → FrG G wkX13_table MM M → okv (fun _ : Unit => True) MM G wkX13_table (k36 a M)) (p0 : Option Nat) (p2 : Int32) (p3 : Int32) (p4 : Int32) (p5 : Int32) (p6 : Int32) (q0 : Option Nat) (q1 : Int32) (q2 : Int32) (M : Mem) (g_p0 : inG G p0) (g_q0 : inG G q0) (hM : FrG G wkX13_table MM M), okv (fun _ : Unit => True) MM G wkX13_table (fX13_table_L99 k36 p0 p2 p3 p4 p5 p6 q0 q1 q2 M) := by
    intro k36 hk36 p0 p2 p3 p4 p5 p6 q0 q1 q2 M g_p0 g_q0 hM
    unfold fX13_table_L99
    refine k_wI (by decide) hM g_q0 fun M99 hM99 => ?_
    refine k_bn fun v100 => ?_
    exact hk36 ((p0, p2, p3, p4, p5, v100)) _ g_p0 hM99
  have hL71 : ∀ (k36 : Option Nat × Int32 × Int32 × Int32 × Int32 × Int32 → Mem → Option (Unit × Mem)) (hk36 : ∀ a M, (inG G (a.1)) → FrG G wkX13_table MM M → okv (fun _ : Unit => True) MM G wkX13_table (k36 a M)) (p0 : Option Nat) (p2 : Int32) (p3 : Int32) (p4 : Int32) (p5 : Int32) (p6 : Int32) (M : Mem) (g_p0 : inG G p0) (hM : FrG G wkX13_table MM M), okv (fun _ : Unit => True) MM G wkX13_table (fX13_table_L71 k36 p0 p2 p3 p4 p5 p6 M) := by
    intro k36 hk36 p0 p2 p3 p4 p5 p6 M g_p0 hM
    unfold fX13_table_L71
    refine k_gR hM g_p0 fun v72 g_v72 => ?_
    refine k_gR hM g_p0 fun v78 g_v78 => ?_
    refine k_bo fun v83 => ?_
    refine k_if ?_ ?_
    · exact hL99 k36 hk36 p0 p2 p3 p4 p5 p6 v72 p6 1 _ g_p0 g_v72 hM
    · refine k_gR hM g_p0 fun v93 g_v93 => ?_
      refine k_bo fun v98 => ?_
      exact hL99 k36 hk36 p0 p2 p3 p4 p5 p6 v72 p6 v98 _ g_p0 g_v72 hM
  have hL36 : ∀ (p0 : Option Nat) (p2 : Int32) (p3 : Int32) (p4 : Int32) (p5 : Int32) (p6 : Int32) (M : Mem) (g_p0 : inG G p0) (hM : FrG G wkX13_table MM M), okv (fun _ : Unit => True) MM G wkX13_table (fX13_table_L36 p0 p2 p3 p4 p5 p6 M) := by
    intro p0 p2 p3 p4 p5 p6 M g_p0 hM
    refine k_lp (T := fun a : Option Nat × Int32 × Int32 × Int32 × Int32 × Int32 => inG G (a.1)) ?_ FU ((p0, p2, p3, p4, p5, p6)) M g_p0 hM
    intro k36 hk36 a M T hM
    obtain ⟨p0, p2, p3, p4, p5, p6⟩ := a
    have g_p0 := T
    show okv (fun _ : Unit => True) MM G wkX13_table (fX13_table_B36 k36 p0 p2 p3 p4 p5 p6 M)
    unfold fX13_table_B36
    refine k_if ?_ ?_
    · refine k_bn fun v107 => ?_
      refine k_bn fun v110 => ?_
      exact hL112 p0 p2 p3 p4 p5 v107 v110 _ g_p0 hM
    · refine k_gR hM g_p0 fun v45 g_v45 => ?_
      refine k_bo fun v50 => ?_
      refine k_if ?_ ?_
      · refine k_bn fun v55 => ?_
        refine k_gR hM g_p0 fun v59 g_v59 => ?_
        refine k_wS (by decide) hM g_v59 fun M70 hM70 => ?_
        exact hL71 k36 hk36 p0 p2 p3 p4 v55 p6 _ g_p0 hM70
      · exact hL71 k36 hk36 p0 p2 p3 p4 p5 p6 _ g_p0 hM
  unfold fX13_table
  refine k_bo fun v1 => ?_
  refine k_bn fun v4 => ?_
  refine k_bn fun v8 => ?_
  refine k_bn fun v14 => ?_
  refine k_bn fun v17 => ?_
  refine k_gR hMM g_a0 fun v20 g_v20 => ?_
  refine k_wI (by decide) hMM g_v20 fun M25 hM25 => ?_
  refine k_gR hM25 g_a0 fun v27 g_v27 => ?_
  refine k_wZ (by decide) hM25 g_v27 fun M32 hM32 => ?_
  refine k_bn fun v34 => ?_
  exact hL36 a0 v4 v8 v14 v17 v34 _ g_a0 hM32
def wkX13_alone : List Nat := [1400, 1500, 1700, 1800]
set_option maxRecDepth 100000 in
set_option maxHeartbeats 4000000 in
theorem frX13_alone {G : Nat → Prop} {MM : Mem} (a0 : Option Nat) (a1 : Int32) (a2 : Int32) (hst : ∀ k, k < 10 → G k) (hc : Cl G MM) (g_a0 : inG G a0) : okv (fun _ : Unit => True) MM G wkX13_alone (fX13_alone a0 a1 a2 MM) := by
  have hMM : FrG G wkX13_alone MM MM := FrG.rf hc
  unfold fX13_alone
  refine k_gR hMM g_a0 fun v1 g_v1 => ?_
  refine k_wI (by decide) hMM g_v1 fun M6 hM6 => ?_
  refine k_gR hM6 g_a0 fun v8 g_v8 => ?_
  refine k_wZ (by decide) hM6 g_v8 fun M13 hM13 => ?_
  refine k_gR hM13 g_a0 fun v15 g_v15 => ?_
  refine k_wS (by decide) hM13 g_v15 fun M25 hM25 => ?_
  refine k_gR hM25 g_a0 fun v27 g_v27 => ?_
  refine k_wB (by decide) hM25 g_v27 fun M36 hM36 => ?_
  refine k_gR hM36 g_a0 fun v38 g_v38 => ?_
  refine k_wI (by decide) hM36 g_v38 fun M47 hM47 => ?_
  exact k_ret hM47 trivial
def wkX13_copyTable : List Nat := [1400, 1500, 1700, 1800]
set_option maxRecDepth 100000 in
set_option maxHeartbeats 4000000 in
theorem frX13_copyTable {G : Nat → Prop} {MM : Mem} (a0 : Option Nat) (a1 : Int32) (a2 : Int32) (hst : ∀ k, k < 10 → G k) (hc : Cl G MM) (g_a0 : inG G a0) : okv (fun _ : Unit => True) MM G wkX13_copyTable (fX13_copyTable a0 a1 a2 MM) := by
  have hMM : FrG G wkX13_copyTable MM MM := FrG.rf hc
  have hL26 : ∀ (p0 : Option Nat) (p1 : Int32) (p2 : Int32) (p3 : Int32) (M : Mem) (g_p0 : inG G p0) (hM : FrG G wkX13_copyTable MM M), okv (fun _ : Unit => True) MM G wkX13_copyTable (fX13_copyTable_L26 p0 p1 p2 p3 M) := by
    intro p0 p1 p2 p3 M g_p0 hM
    refine k_lp (T := fun a : Option Nat × Int32 × Int32 × Int32 => inG G (a.1)) ?_ FU ((p0, p1, p2, p3)) M g_p0 hM
    intro k26 hk26 a M T hM
    obtain ⟨p0, p1, p2, p3⟩ := a
    have g_p0 := T
    show okv (fun _ : Unit => True) MM G wkX13_copyTable (fX13_copyTable_B26 k26 p0 p1 p2 p3 M)
    unfold fX13_copyTable_B26
    refine k_if ?_ ?_
    · exact k_ret hM trivial
    · refine k_gR hM g_p0 fun v34 g_v34 => ?_
      refine k_gR hM g_p0 fun v45 g_v45 => ?_
      refine k_bo fun v55 => ?_
      refine k_wS (by decide) hM g_v34 fun M56 hM56 => ?_
      refine k_gR hM56 g_p0 fun v58 g_v58 => ?_
      refine k_gR hM56 g_p0 fun v69 g_v69 => ?_
      refine k_bo fun v79 => ?_
      refine k_wB (by decide) hM56 g_v58 fun M80 hM80 => ?_
      refine k_gR hM80 g_p0 fun v82 g_v82 => ?_
      refine k_gR hM80 g_p0 fun v93 g_v93 => ?_
      refine k_bo fun v103 => ?_
      refine k_wI (by decide) hM80 g_v82 fun M104 hM104 => ?_
      refine k_bn fun v105 => ?_
      exact hk26 ((p0, p1, p2, v105)) _ g_p0 hM104
  unfold fX13_copyTable
  refine k_gR hMM g_a0 fun v1 g_v1 => ?_
  refine k_gR hMM g_a0 fun v6 g_v6 => ?_
  refine k_bo fun v10 => ?_
  refine k_wZ (by decide) hMM g_v1 fun M11 hM11 => ?_
  refine k_gR hM11 g_a0 fun v13 g_v13 => ?_
  refine k_gR hM11 g_a0 fun v18 g_v18 => ?_
  refine k_bo fun v22 => ?_
  refine k_wI (by decide) hM11 g_v13 fun M23 hM23 => ?_
  refine k_bn fun v25 => ?_
  exact hL26 a0 a1 a2 v25 _ g_a0 hM23
def wkX13_noCounts : List Nat := [1500]
set_option maxRecDepth 100000 in
set_option maxHeartbeats 4000000 in
theorem frX13_noCounts {G : Nat → Prop} {MM : Mem} (a0 : Option Nat) (hst : ∀ k, k < 10 → G k) (hc : Cl G MM) (g_a0 : inG G a0) : okv (fun _ : Unit => True) MM G wkX13_noCounts (fX13_noCounts a0 MM) := by
  have hMM : FrG G wkX13_noCounts MM MM := FrG.rf hc
  have hL2 : ∀ (p0 : Option Nat) (p1 : Int32) (M : Mem) (g_p0 : inG G p0) (hM : FrG G wkX13_noCounts MM M), okv (fun _ : Unit => True) MM G wkX13_noCounts (fX13_noCounts_L2 p0 p1 M) := by
    intro p0 p1 M g_p0 hM
    refine k_lp (T := fun a : Option Nat × Int32 => inG G (a.1)) ?_ FU ((p0, p1)) M g_p0 hM
    intro k2 hk2 a M T hM
    obtain ⟨p0, p1⟩ := a
    have g_p0 := T
    show okv (fun _ : Unit => True) MM G wkX13_noCounts (fX13_noCounts_B2 k2 p0 p1 M)
    unfold fX13_noCounts_B2
    refine k_if ?_ ?_
    · exact k_ret hM trivial
    · refine k_gR hM g_p0 fun v10 g_v10 => ?_
      refine k_wI (by decide) hM g_v10 fun M15 hM15 => ?_
      refine k_bn fun v16 => ?_
      exact hk2 ((p0, v16)) _ g_p0 hM15
  unfold fX13_noCounts
  refine k_bn fun v1 => ?_
  exact hL2 a0 v1 _ g_a0 hMM
def wkX13_toldCounts : List Nat := [1307, 1308, 1309, 1313, 1500]
set_option maxRecDepth 100000 in
set_option maxHeartbeats 4000000 in
theorem frX13_toldCounts {G : Nat → Prop} {MM : Mem} (a0 : Option Nat) (a1 : Int32) (a2 : Int32) (a3 : Int32) (a4 : Int32) (hst : ∀ k, k < 10 → G k) (hc : Cl G MM) (g_a0 : inG G a0) : okv (fun _ : Int32 => True) MM G wkX13_toldCounts (fX13_toldCounts a0 a1 a2 a3 a4 MM) := by
  have hMM : FrG G wkX13_toldCounts MM MM := FrG.rf hc
  have hL48 : ∀ (M : Mem) (hM : FrG G wkX13_toldCounts MM M), okv (fun _ : Int32 => True) MM G wkX13_toldCounts (fX13_toldCounts_L48 M) := by
    intro M hM
    unfold fX13_toldCounts_L48
    exact k_ret hM trivial
  have hL167 : ∀ (M : Mem) (hM : FrG G wkX13_toldCounts MM M), okv (fun _ : Int32 => True) MM G wkX13_toldCounts (fX13_toldCounts_L167 M) := by
    intro M hM
    unfold fX13_toldCounts_L167
    exact k_ret hM trivial
  have hL209 : ∀ (k65 : Option Nat × Int32 × Int32 × Int32 → Mem → Option (Int32 × Mem)) (hk65 : ∀ a M, (inG G (a.1)) → FrG G wkX13_toldCounts MM M → okv (fun _ : Int32 => True) MM G wkX13_toldCounts (k65 a M)) (p0 : Option Nat) (p3 : Int32) (p6 : Int32) (p7 : Int32) (p12 : Int32) (M : Mem) (g_p0 : inG G p0) (hM : FrG G wkX13_toldCounts MM M), okv (fun _ : Int32 => True) MM G wkX13_toldCounts (fX13_toldCounts_L209 k65 p0 p3 p6 p7 p12 M) := by
    intro k65 hk65 p0 p3 p6 p7 p12 M g_p0 hM
    refine k_lp (T := fun a : Option Nat × Int32 × Int32 × Int32 × Int32 => inG G (a.1)) ?_ FU ((p0, p3, p6, p7, p12)) M g_p0 hM
    intro k209 hk209 a M T hM
    obtain ⟨p0, p3, p6, p7, p12⟩ := a
    have g_p0 := T
    show okv (fun _ : Int32 => True) MM G wkX13_toldCounts (fX13_toldCounts_B209 k65 k209 p0 p3 p6 p7 p12 M)
    unfold fX13_toldCounts_B209
    refine k_if ?_ ?_
    · refine k_bo fun _ => ?_
      refine k_call (by decide) hM (fun hc => frX13_forward _ _ hst hc g_p0) fun v217 M217 _ hM217 => ?_
      refine k_bn fun v220 => ?_
      refine k_bo fun v223 => ?_
      refine k_if ?_ ?_
      · refine k_bn fun v236 => ?_
        exact hk209 ((p0, p3, p6, v236, v220)) _ g_p0 hM217
      · exact k_ret hM217 trivial
    · exact hk65 ((p0, p3, p6, p7)) _ g_p0 hM
  have hL207 : ∀ (k65 : Option Nat × Int32 × Int32 × Int32 → Mem → Option (Int32 × Mem)) (hk65 : ∀ a M, (inG G (a.1)) → FrG G wkX13_toldCounts MM M → okv (fun _ : Int32 => True) MM G wkX13_toldCounts (k65 a M)) (p0 : Option Nat) (p3 : Int32) (p6 : Int32) (p7 : Int32) (q0 : Int32) (M : Mem) (g_p0 : inG G p0) (hM : FrG G wkX13_toldCounts MM M), okv (fun _ : Int32 => True) MM G wkX13_toldCounts (fX13_toldCounts_L207 k65 p0 p3 p6 p7 q0 M) := by
    intro k65 hk65 p0 p3 p6 p7 q0 M g_p0 hM
    unfold fX13_toldCounts_L207
    refine k_bn fun v207 => ?_
    exact hL209 k65 hk65 p0 p3 p6 p7 v207 _ g_p0 hM
  have hL194 : ∀ (k65 : Option Nat × Int32 × Int32 × Int32 → Mem → Option (Int32 × Mem)) (hk65 : ∀ a M, (inG G (a.1)) → FrG G wkX13_toldCounts MM M → okv (fun _ : Int32 => True) MM G wkX13_toldCounts (k65 a M)) (p0 : Option Nat) (p3 : Int32) (p7 : Int32) (p11 : Int32) (q0 : Int32) (q1 : Int32) (M : Mem) (g_p0 : inG G p0) (hM : FrG G wkX13_toldCounts MM M), okv (fun _ : Int32 => True) MM G wkX13_toldCounts (fX13_toldCounts_L194 k65 p0 p3 p7 p11 q0 q1 M) := by
    intro k65 hk65 p0 p3 p7 p11 q0 q1 M g_p0 hM
    unfold fX13_toldCounts_L194
    refine k_bn fun v195 => ?_
    refine k_if ?_ ?_
    · exact hL207 k65 hk65 p0 p3 v195 p7 3 _ g_p0 hM
    · exact hL207 k65 hk65 p0 p3 v195 p7 0 _ g_p0 hM
  have hL147 : ∀ (k65 : Option Nat × Int32 × Int32 × Int32 → Mem → Option (Int32 × Mem)) (hk65 : ∀ a M, (inG G (a.1)) → FrG G wkX13_toldCounts MM M → okv (fun _ : Int32 => True) MM G wkX13_toldCounts (k65 a M)) (p0 : Option Nat) (p3 : Int32) (p6 : Int32) (p7 : Int32) (p10 : Int32) (M : Mem) (g_p0 : inG G p0) (hM : FrG G wkX13_toldCounts MM M), okv (fun _ : Int32 => True) MM G wkX13_toldCounts (fX13_toldCounts_L147 k65 p0 p3 p6 p7 p10 M) := by
    intro k65 hk65 p0 p3 p6 p7 p10 M g_p0 hM
    unfold fX13_toldCounts_L147
    refine k_bn fun v151 => ?_
    refine k_bo fun v154 => ?_
    refine k_if ?_ ?_
    · refine k_if ?_ ?_
      · refine k_gR hM g_p0 fun v170 g_v170 => ?_
        refine k_wI (by decide) hM g_v170 fun M177 hM177 => ?_
        refine k_bn fun v178 => ?_
        refine k_if ?_ ?_
        · exact hL194 k65 hk65 p0 p3 v178 v151 p6 v151 _ g_p0 hM177
        · exact hL194 k65 hk65 p0 p3 v178 v151 p6 1 _ g_p0 hM177
      · exact hL167 _ hM
    · exact hL167 _ hM
  have hL65 : ∀ (p0 : Option Nat) (p3 : Int32) (p6 : Int32) (p7 : Int32) (M : Mem) (g_p0 : inG G p0) (hM : FrG G wkX13_toldCounts MM M), okv (fun _ : Int32 => True) MM G wkX13_toldCounts (fX13_toldCounts_L65 p0 p3 p6 p7 M) := by
    intro p0 p3 p6 p7 M g_p0 hM
    refine k_lp (T := fun a : Option Nat × Int32 × Int32 × Int32 => inG G (a.1)) ?_ FU ((p0, p3, p6, p7)) M g_p0 hM
    intro k65 hk65 a M T hM
    obtain ⟨p0, p3, p6, p7⟩ := a
    have g_p0 := T
    show okv (fun _ : Int32 => True) MM G wkX13_toldCounts (fX13_toldCounts_B65 k65 p0 p3 p6 p7 M)
    unfold fX13_toldCounts_B65
    refine k_if ?_ ?_
    · refine k_bo fun v245 => ?_
      exact k_ret hM trivial
    · refine k_if ?_ ?_
      · refine k_call (by decide) hM (fun hc => frX13_log _ hst hc) fun v82 M82 _ hM82 => ?_
        refine k_bn fun v87 => ?_
        refine k_bn fun v98 => ?_
        refine k_bo fun _ => ?_
        refine k_call (by decide) hM82 (fun hc => frX13_forward _ _ hst hc g_p0) fun v105 M105 _ hM105 => ?_
        refine k_bn fun v108 => ?_
        refine k_bo fun v111 => ?_
        refine k_if ?_ ?_
        · refine k_if ?_ ?_
          · exact hL147 k65 hk65 p0 p3 p6 p7 v108 _ g_p0 hM105
          · refine k_bo fun _ => ?_
            refine k_call (by decide) hM105 (fun hc => frX13_forward _ _ hst hc g_p0) fun v126 M126 _ hM126 => ?_
            refine k_if ?_ ?_
            · refine k_bn fun v145 => ?_
              exact hL147 k65 hk65 p0 p3 p6 p7 v145 _ g_p0 hM126
            · exact hL147 k65 hk65 p0 p3 p6 p7 v108 _ g_p0 hM126
        · exact hL147 k65 hk65 p0 p3 p6 p7 v108 _ g_p0 hM105
      · exact k_ret hM trivial
  unfold fX13_toldCounts
  refine k_bo fun _ => ?_
  refine k_call (by decide) hMM (fun hc => frX13_noCounts _ hst hc g_a0) fun v1 M1 _ hM1 => ?_
  refine k_pI (by decide) (by decide) (by decide) hM1 g_a0 fun M9 hM9 => ?_
  refine k_pI (by decide) (by decide) (by decide) hM9 g_a0 fun M17 hM17 => ?_
  refine k_pZ (by decide) (by decide) hM17 g_a0 fun M22 hM22 => ?_
  refine k_bo fun _ => ?_
  refine k_call (by decide) hM22 (fun hc => frX13_forward _ _ hst hc g_a0) fun v28 M28 _ hM28 => ?_
  refine k_bn fun v32 => ?_
  refine k_bo fun v35 => ?_
  refine k_if ?_ ?_
  · refine k_if ?_ ?_
    · refine k_pI (by decide) (by decide) (by decide) hM28 g_a0 fun M53 hM53 => ?_
      refine k_bn fun v60 => ?_
      refine k_bn fun v63 => ?_
      exact hL65 a0 a3 v60 v63 _ g_a0 hM53
    · exact hL48 _ hM28
  · exact hL48 _ hM28
