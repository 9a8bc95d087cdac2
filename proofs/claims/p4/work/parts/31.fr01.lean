def wkX5_readHead : List Nat := [401, 402, 506, 508, 509, 510, 511, 512, 513, 700, 701, 910, 911, 912, 913, 914, 1500, 1800, 2000]
set_option maxRecDepth 100000 in
set_option maxHeartbeats 4000000 in
theorem frX5_readHead {G : Nat → Prop} {MM : Mem} (a0 : Option Nat) (hst : ∀ k, k < 10 → G k) (hc : Cl G MM) (g_a0 : inG G a0) : okv z01 MM G wkX5_readHead (fX5_readHead a0 MM) := by
  have hMM : FrG G wkX5_readHead MM MM := FrG.rf hc
  have hL118 : ∀ (M : Mem) (hM : FrG G wkX5_readHead MM M), okv z01 MM G wkX5_readHead (fX5_readHead_L118 M) := by
    intro M hM
    unfold fX5_readHead_L118
    exact k_retZ hM
  have hL96 : ∀ (p0 : Option Nat) (p1 : Int32) (p2 : Int32) (M : Mem) (g_p0 : inG G p0) (hM : FrG G wkX5_readHead MM M), okv z01 MM G wkX5_readHead (fX5_readHead_L96 p0 p1 p2 M) := by
    intro p0 p1 p2 M g_p0 hM
    unfold fX5_readHead_L96
    refine k_bo fun _ => ?_
    refine k_call (by decide) hM (fun hc => frX5_readNumber _ _ hst hc g_p0) fun v100 M100 _ hM100 => ?_
    refine k_if ?_ ?_
    · exact hL118 _ hM100
    · refine k_bo fun _ => ?_
      refine k_call (by decide) hM100 (fun hc => frX5_readSize _ _ _ hst hc g_p0) fun v112 M112 _ hM112 => ?_
      refine k_if ?_ ?_
      · exact hL118 _ hM112
      · refine k_bo fun _ => ?_
        refine k_call (by decide) hM112 (fun hc => frX5_beginFrame _ hst hc g_p0) fun v121 M121 _ hM121 => ?_
        exact k_retZ hM121
  have hL80 : ∀ (p0 : Option Nat) (p1 : Int32) (p2 : Int32) (q0 : Option Nat) (q1 : Int32) (M : Mem) (g_p0 : inG G p0) (g_q0 : inG G q0) (hM : FrG G wkX5_readHead MM M), okv z01 MM G wkX5_readHead (fX5_readHead_L80 p0 p1 p2 q0 q1 M) := by
    intro p0 p1 p2 q0 q1 M g_p0 g_q0 hM
    unfold fX5_readHead_L80
    refine k_pZ (by decide) (by decide) hM g_q0 fun M80 hM80 => ?_
    refine k_if ?_ ?_
    · refine k_bo fun _ => ?_
      refine k_call (by decide) hM80 (fun hc => frX5_readSpan _ hst hc g_p0) fun v88 M88 _ hM88 => ?_
      refine k_if ?_ ?_
      · exact k_retZ hM88
      · exact hL96 p0 p1 p2 _ g_p0 hM88
    · exact hL96 p0 p1 p2 _ g_p0 hM80
  have hL67 : ∀ (p0 : Option Nat) (p1 : Int32) (q0 : Int32) (M : Mem) (g_p0 : inG G p0) (hM : FrG G wkX5_readHead MM M), okv z01 MM G wkX5_readHead (fX5_readHead_L67 p0 p1 q0 M) := by
    intro p0 p1 q0 M g_p0 hM
    unfold fX5_readHead_L67
    refine k_bn fun v67 => ?_
    refine k_if ?_ ?_
    · exact hL80 p0 p1 v67 p0 0 _ g_p0 g_p0 hM
    · exact hL80 p0 p1 v67 p0 1 _ g_p0 g_p0 hM
  unfold fX5_readHead
  refine k_bo fun _ => ?_
  refine k_call (by decide) hMM (fun hc => frX5_there _ _ hst hc g_a0) fun v2 M2 _ hM2 => ?_
  refine k_if ?_ ?_
  · refine k_bo fun _ => ?_
    refine k_call (by decide) hM2 (fun hc => frX5_lacks _ hst hc g_a0) fun v9 M9 _ hM9 => ?_
    exact k_retZ hM9
  · refine k_gR hM2 g_a0 fun v14 g_v14 => ?_
    refine k_bo fun v18 => ?_
    refine k_bo fun _ => ?_
    refine k_call (by decide) hM2 (fun hc => frX8_get _ _ hst hc g_v14) fun v21 M21 _ hM21 => ?_
    refine k_bn fun v24 => ?_
    refine k_if ?_ ?_
    · refine k_bo fun v47 => ?_
      refine k_pI (by decide) (by decide) (by decide) hM21 g_a0 fun M52 hM52 => ?_
      refine k_if ?_ ?_
      · exact hL67 a0 v24 0 _ g_a0 hM52
      · exact hL67 a0 v24 1 _ g_a0 hM52
    · refine k_gR hM21 g_a0 fun v33 g_v33 => ?_
      refine k_bo fun v38 => ?_
      refine k_bo fun _ => ?_
      refine k_call (by decide) hM21 (fun hc => frX7_fail _ _ _ hst hc g_v33) fun v41 M41 _ hM41 => ?_
      exact k_retZ hM41
def wkX5_readMark : List Nat := [401, 402, 506, 508, 509, 510, 511, 512, 513, 517, 518, 700, 701, 910, 911, 912, 913, 914, 1500, 1800, 2000]
set_option maxRecDepth 100000 in
set_option maxHeartbeats 4000000 in
theorem frX5_readMark {G : Nat → Prop} {MM : Mem} (a0 : Option Nat) (hst : ∀ k, k < 10 → G k) (hc : Cl G MM) (g_a0 : inG G a0) : okv z01 MM G wkX5_readMark (fX5_readMark a0 MM) := by
  have hMM : FrG G wkX5_readMark MM MM := FrG.rf hc
  have hL117 : ∀ (q0 : Int32) (M : Mem) (hM : FrG G wkX5_readMark MM M), okv z01 MM G wkX5_readMark (fX5_readMark_L117 q0 M) := by
    intro q0 M hM
    unfold fX5_readMark_L117
    exact k_retZ hM
  have hL89 : ∀ (p0 : Option Nat) (M : Mem) (g_p0 : inG G p0) (hM : FrG G wkX5_readMark MM M), okv z01 MM G wkX5_readMark (fX5_readMark_L89 p0 M) := by
    intro p0 M g_p0 hM
    unfold fX5_readMark_L89
    refine k_bo fun v91 => ?_
    refine k_pI (by decide) (by decide) (by decide) hM g_p0 fun M96 hM96 => ?_
    refine k_bo fun v100 => ?_
    refine k_if ?_ ?_
    · refine k_bo fun _ => ?_
      refine k_call (by decide) hM96 (fun hc => frX5_readHead _ hst hc g_p0) fun v114 M114 _ hM114 => ?_
      exact hL117 v114 _ hM114
    · refine k_bo fun _ => ?_
      refine k_call (by decide) hM96 (fun hc => frX5_passOver _ hst hc g_p0) fun v107 M107 _ hM107 => ?_
      exact hL117 v107 _ hM107
  have hL50 : ∀ (p0 : Option Nat) (p1 : Int64) (q0 : Option Nat) (q1 : Int32) (M : Mem) (g_p0 : inG G p0) (g_q0 : inG G q0) (hM : FrG G wkX5_readMark MM M), okv z01 MM G wkX5_readMark (fX5_readMark_L50 p0 p1 q0 q1 M) := by
    intro p0 p1 q0 q1 M g_p0 g_q0 hM
    unfold fX5_readMark_L50
    refine k_pZ (by decide) (by decide) hM g_q0 fun M50 hM50 => ?_
    refine k_bo fun v55 => ?_
    refine k_pZ (by decide) (by decide) hM50 g_p0 fun M58 hM58 => ?_
    refine k_bo fun v62 => ?_
    refine k_if ?_ ?_
    · refine k_if ?_ ?_
      · exact hL89 p0 _ g_p0 hM58
      · refine k_gR hM58 g_p0 fun v77 g_v77 => ?_
        refine k_bo fun v82 => ?_
        refine k_bo fun _ => ?_
        refine k_call (by decide) hM58 (fun hc => frX7_fail _ _ _ hst hc g_v77) fun v85 M85 _ hM85 => ?_
        exact k_retZ hM85
    · exact hL89 p0 _ g_p0 hM58
  have hL49 : ∀ (p0 : Option Nat) (p1 : Int64) (q0 : Option Nat) (M : Mem) (g_p0 : inG G p0) (g_q0 : inG G q0) (hM : FrG G wkX5_readMark MM M), okv z01 MM G wkX5_readMark (fX5_readMark_L49 p0 p1 q0 M) := by
    intro p0 p1 q0 M g_p0 g_q0 hM
    unfold fX5_readMark_L49
    exact hL50 p0 p1 q0 0 _ g_p0 g_q0 hM
  unfold fX5_readMark
  refine k_bo fun _ => ?_
  refine k_call (by decide) hMM (fun hc => frX5_there _ _ hst hc g_a0) fun v4 M4 _ hM4 => ?_
  refine k_if ?_ ?_
  · refine k_bo fun _ => ?_
    refine k_call (by decide) hM4 (fun hc => frX5_lacks _ hst hc g_a0) fun v11 M11 _ hM11 => ?_
    exact k_retZ hM11
  · refine k_gR hM4 g_a0 fun v16 g_v16 => ?_
    refine k_bo fun v20 => ?_
    refine k_bo fun _ => ?_
    refine k_call (by decide) hM4 (fun hc => frX8_number _ _ _ hst hc g_v16) fun v24 M24 _ hM24 => ?_
    refine k_bn fun v27 => ?_
    refine k_if ?_ ?_
    · exact hL49 a0 v27 a0 _ g_a0 g_a0 hM24
    · refine k_if ?_ ?_
      · exact hL49 a0 v27 a0 _ g_a0 g_a0 hM24
      · exact hL50 a0 v27 a0 1 _ g_a0 g_a0 hM24
def wkX5_readBlockHead : List Nat := [508, 514, 515, 516, 517, 700, 701, 1500]
set_option maxRecDepth 100000 in
set_option maxHeartbeats 4000000 in
theorem frX5_readBlockHead {G : Nat → Prop} {MM : Mem} (a0 : Option Nat) (hst : ∀ k, k < 10 → G k) (hc : Cl G MM) (g_a0 : inG G a0) : okv z01 MM G wkX5_readBlockHead (fX5_readBlockHead a0 MM) := by
  have hMM : FrG G wkX5_readBlockHead MM MM := FrG.rf hc
  have hL103 : ∀ (p0 : Option Nat) (M : Mem) (g_p0 : inG G p0) (hM : FrG G wkX5_readBlockHead MM M), okv z01 MM G wkX5_readBlockHead (fX5_readBlockHead_L103 p0 M) := by
    intro p0 M g_p0 hM
    unfold fX5_readBlockHead_L103
    refine k_gR hM g_p0 fun v104 g_v104 => ?_
    refine k_bo fun v110 => ?_
    refine k_bo fun _ => ?_
    refine k_call (by decide) hM (fun hc => frX7_fail _ _ _ hst hc g_v104) fun v113 M113 _ hM113 => ?_
    exact k_retZ hM113
  have hL163 : ∀ (q0 : Int32) (M : Mem) (hM : FrG G wkX5_readBlockHead MM M), okv z01 MM G wkX5_readBlockHead (fX5_readBlockHead_L163 q0 M) := by
    intro q0 M hM
    unfold fX5_readBlockHead_L163
    exact k_retZ hM
  have hL158 : ∀ (M : Mem) (hM : FrG G wkX5_readBlockHead MM M), okv z01 MM G wkX5_readBlockHead (fX5_readBlockHead_L158 M) := by
    intro M hM
    unfold fX5_readBlockHead_L158
    exact hL163 1 _ hM
  have hL145 : ∀ (p0 : Option Nat) (q0 : Option Nat) (q1 : Int64) (M : Mem) (g_p0 : inG G p0) (g_q0 : inG G q0) (hM : FrG G wkX5_readBlockHead MM M), okv z01 MM G wkX5_readBlockHead (fX5_readBlockHead_L145 p0 q0 q1 M) := by
    intro p0 q0 q1 M g_p0 g_q0 hM
    unfold fX5_readBlockHead_L145
    refine k_bo fun _ => ?_
    refine k_call (by decide) hM (fun hc => frX5_there _ _ hst hc g_q0) fun v145 M145 _ hM145 => ?_
    refine k_if ?_ ?_
    · refine k_bo fun _ => ?_
      refine k_call (by decide) hM145 (fun hc => frX5_lacks _ hst hc g_p0) fun v152 M152 _ hM152 => ?_
      refine k_if ?_ ?_
      · exact hL163 0 _ hM152
      · exact hL158 _ hM152
    · exact hL158 _ hM145
  have hL62 : ∀ (p0 : Option Nat) (p1 : Int32) (q0 : Option Nat) (q1 : Int32) (M : Mem) (g_p0 : inG G p0) (g_q0 : inG G q0) (hM : FrG G wkX5_readBlockHead MM M), okv z01 MM G wkX5_readBlockHead (fX5_readBlockHead_L62 p0 p1 q0 q1 M) := by
    intro p0 p1 q0 q1 M g_p0 g_q0 hM
    unfold fX5_readBlockHead_L62
    refine k_pZ (by decide) (by decide) hM g_q0 fun M62 hM62 => ?_
    refine k_pI (by decide) (by decide) (by decide) hM62 g_p0 fun M71 hM71 => ?_
    refine k_pI (by decide) (by decide) (by decide) hM71 g_p0 fun M78 hM78 => ?_
    refine k_bo fun v82 => ?_
    refine k_if ?_ ?_
    · exact hL103 p0 _ g_p0 hM78
    · refine k_bo fun v90 => ?_
      refine k_gR hM78 g_p0 fun v94 g_v94 => ?_
      refine k_bo fun v97 => ?_
      refine k_if ?_ ?_
      · refine k_bo fun v119 => ?_
        refine k_pI (by decide) (by decide) (by decide) hM78 g_p0 fun M124 hM124 => ?_
        refine k_bo fun v129 => ?_
        refine k_if ?_ ?_
        · exact hL145 p0 p0 1 _ g_p0 g_p0 hM124
        · refine k_bo fun v141 => ?_
          exact hL145 p0 p0 v141.toInt64 _ g_p0 g_p0 hM124
      · exact hL103 p0 _ g_p0 hM78
  unfold fX5_readBlockHead
  refine k_bo fun v2 => ?_
  refine k_pI (by decide) (by decide) (by decide) hMM g_a0 fun M5 hM5 => ?_
  refine k_bo fun _ => ?_
  refine k_call (by decide) hM5 (fun hc => frX5_there _ _ hst hc g_a0) fun v12 M12 _ hM12 => ?_
  refine k_if ?_ ?_
  · refine k_bo fun _ => ?_
    refine k_call (by decide) hM12 (fun hc => frX5_lacks _ hst hc g_a0) fun v19 M19 _ hM19 => ?_
    exact k_retZ hM19
  · refine k_gR hM12 g_a0 fun v24 g_v24 => ?_
    refine k_gR hM12 g_v24 fun v27 g_v27 => ?_
    refine k_bo fun v32 => ?_
    refine k_wI (by decide) hM12 g_v27 fun M35 hM35 => ?_
    refine k_gR hM35 g_a0 fun v37 g_v37 => ?_
    refine k_bo fun v41 => ?_
    refine k_bo fun _ => ?_
    refine k_call (by decide) hM35 (fun hc => frX8_number _ _ _ hst hc g_v37) fun v45 M45 _ hM45 => ?_
    refine k_bn fun v49 => ?_
    refine k_if ?_ ?_
    · exact hL62 a0 v49 a0 0 _ g_a0 g_a0 hM45
    · exact hL62 a0 v49 a0 1 _ g_a0 g_a0 hM45
def wkX9_wrong : List Nat := [700, 701]
set_option maxRecDepth 100000 in
set_option maxHeartbeats 4000000 in
theorem frX9_wrong {G : Nat → Prop} {MM : Mem} (a0 : Option Nat) (a1 : Int32) (a2 : Int32) (hst : ∀ k, k < 10 → G k) (hc : Cl G MM) (g_a0 : inG G a0) : okv (fun _ : Int32 => True) MM G wkX9_wrong (fX9_wrong a0 a1 a2 MM) := by
  have hMM : FrG G wkX9_wrong MM MM := FrG.rf hc
  unfold fX9_wrong
  refine k_gR hMM g_a0 fun v1 g_v1 => ?_
  refine k_bo fun _ => ?_
  refine k_call (by decide) hMM (fun hc => frX7_fail _ _ _ hst hc g_v1) fun v6 M6 _ hM6 => ?_
  exact k_ret hM6 trivial
def wkX9_readHead : List Nat := [700, 701, 915, 916]
set_option maxRecDepth 100000 in
set_option maxHeartbeats 4000000 in
theorem frX9_readHead {G : Nat → Prop} {MM : Mem} (a0 : Option Nat) (a1 : Option Nat) (a2 : Int32) (a3 : Int32) (hst : ∀ k, k < 10 → G k) (hc : Cl G MM) (g_a0 : inG G a0) (g_a1 : inG G a1) : okv (fun _ : Int32 => True) MM G wkX9_readHead (fX9_readHead a0 a1 a2 a3 MM) := by
  have hMM : FrG G wkX9_readHead MM MM := FrG.rf hc
  have hL47 : ∀ (p0 : Option Nat) (p2 : Int32) (M : Mem) (g_p0 : inG G p0) (hM : FrG G wkX9_readHead MM M), okv (fun _ : Int32 => True) MM G wkX9_readHead (fX9_readHead_L47 p0 p2 M) := by
    intro p0 p2 M g_p0 hM
    unfold fX9_readHead_L47
    refine k_bo fun _ => ?_
    refine k_call (by decide) hM (fun hc => frX9_wrong _ _ _ hst hc g_p0) fun v51 M51 _ hM51 => ?_
    exact k_ret hM51 trivial
  have hL191 : ∀ (q0 : Int32) (M : Mem) (hM : FrG G wkX9_readHead MM M), okv (fun _ : Int32 => True) MM G wkX9_readHead (fX9_readHead_L191 q0 M) := by
    intro q0 M hM
    unfold fX9_readHead_L191
    exact k_ret hM trivial
  have hL184 : ∀ (p0 : Option Nat) (p2 : Int32) (M : Mem) (g_p0 : inG G p0) (hM : FrG G wkX9_readHead MM M), okv (fun _ : Int32 => True) MM G wkX9_readHead (fX9_readHead_L184 p0 p2 M) := by
    intro p0 p2 M g_p0 hM
    unfold fX9_readHead_L184
    refine k_bo fun _ => ?_
    refine k_call (by decide) hM (fun hc => frX9_wrong _ _ _ hst hc g_p0) fun v188 M188 _ hM188 => ?_
    exact hL191 v188 _ hM188
  have hL151 : ∀ (q0 : Int32) (M : Mem) (hM : FrG G wkX9_readHead MM M), okv (fun _ : Int32 => True) MM G wkX9_readHead (fX9_readHead_L151 q0 M) := by
    intro q0 M hM
    unfold fX9_readHead_L151
    exact k_ret hM trivial
  have hL115 : ∀ (p0 : Option Nat) (p1 : Option Nat) (p2 : Int32) (p3 : Int32) (p5 : Int32) (M : Mem) (g_p0 : inG G p0) (g_p1 : inG G p1) (hM : FrG G wkX9_readHead MM M), okv (fun _ : Int32 => True) MM G wkX9_readHead (fX9_readHead_L115 p0 p1 p2 p3 p5 M) := by
    intro p0 p1 p2 p3 p5 M g_p0 g_p1 hM
    unfold fX9_readHead_L115
    refine k_pI (by decide) (by decide) (by decide) hM g_p0 fun M117 hM117 => ?_
    refine k_bn fun v124 => ?_
    refine k_bo fun v127 => ?_
    refine k_if ?_ ?_
    · refine k_if ?_ ?_
      · exact hL151 v124 _ hM117
      · refine k_bo fun _ => ?_
        refine k_call (by decide) hM117 (fun hc => frX9_wrong _ _ _ hst hc g_p0) fun v148 M148 _ hM148 => ?_
        exact hL151 v148 _ hM148
    · refine k_bo fun _ => ?_
      refine k_call (by decide) hM117 (fun hc => frX8_get _ _ hst hc g_p1) fun v156 M156 _ hM156 => ?_
      refine k_pI (by decide) (by decide) (by decide) hM156 g_p0 fun M159 hM159 => ?_
      refine k_if ?_ ?_
      · exact hL184 p0 p2 _ g_p0 hM159
      · refine k_bo fun v169 => ?_
        refine k_if ?_ ?_
        · exact hL191 (v124 + 1) _ hM159
        · exact hL184 p0 p2 _ g_p0 hM159
  have hL32 : ∀ (p0 : Option Nat) (p1 : Option Nat) (p2 : Int32) (p3 : Int32) (p4 : Int32) (q0 : Int32) (M : Mem) (g_p0 : inG G p0) (g_p1 : inG G p1) (hM : FrG G wkX9_readHead MM M), okv (fun _ : Int32 => True) MM G wkX9_readHead (fX9_readHead_L32 p0 p1 p2 p3 p4 q0 M) := by
    intro p0 p1 p2 p3 p4 q0 M g_p0 g_p1 hM
    unfold fX9_readHead_L32
    refine k_bn fun v32 => ?_
    refine k_if ?_ ?_
    · exact hL47 p0 p2 _ g_p0 hM
    · refine k_if ?_ ?_
      · refine k_pI (by decide) (by decide) (by decide) hM g_p0 fun M58 hM58 => ?_
        refine k_if ?_ ?_
        · refine k_bo fun _ => ?_
          refine k_call (by decide) hM58 (fun hc => frX8_get _ _ hst hc g_p1) fun v82 M82 _ hM82 => ?_
          refine k_pI (by decide) (by decide) (by decide) hM82 g_p0 fun M86 hM86 => ?_
          exact hL115 p0 p1 p2 p3 v32 _ g_p0 g_p1 hM86
        · refine k_if ?_ ?_
          · refine k_bo fun _ => ?_
            refine k_call (by decide) hM58 (fun hc => frX8_number _ _ _ hst hc g_p1) fun v107 M107 _ hM107 => ?_
            refine k_pI (by decide) (by decide) (by decide) hM107 g_p0 fun M112 hM112 => ?_
            exact hL115 p0 p1 p2 p3 v32 _ g_p0 g_p1 hM112
          · exact hL115 p0 p1 p2 p3 v32 _ g_p0 g_p1 hM58
      · exact hL47 p0 p2 _ g_p0 hM
  unfold fX9_readHead
  refine k_bo fun _ => ?_
  refine k_call (by decide) hMM (fun hc => frX8_get _ _ hst hc g_a1) fun v2 M2 _ hM2 => ?_
  refine k_bn fun v5 => ?_
  refine k_if ?_ ?_
  · refine k_if ?_ ?_
    · exact hL32 a0 a1 a2 a3 v5 3 _ g_a0 g_a1 hM2
    · exact hL32 a0 a1 a2 a3 v5 2 _ g_a0 g_a1 hM2
  · exact hL32 a0 a1 a2 a3 v5 1 _ g_a0 g_a1 hM2
def wkX9_none : List Nat := []
set_option maxRecDepth 100000 in
set_option maxHeartbeats 4000000 in
theorem frX9_none {G : Nat → Prop} {MM : Mem} (a0 : Option Nat) (hst : ∀ k, k < 10 → G k) (hc : Cl G MM) (g_a0 : inG G a0) : okv z01 MM G wkX9_none (fX9_none a0 MM) := by
  have hMM : FrG G wkX9_none MM MM := FrG.rf hc
  have hL12 : ∀ (q0 : Int32) (M : Mem) (hM : FrG G wkX9_none MM M), okv z01 MM G wkX9_none (fX9_none_L12 q0 M) := by
    intro q0 M hM
    unfold fX9_none_L12
    exact k_retZ hM
  unfold fX9_none
  refine k_bo fun v1 => ?_
  refine k_if ?_ ?_
  · exact hL12 1 _ hMM
  · exact hL12 0 _ hMM
def wkX10_buildOnly : List Nat := [1000, 1500]
set_option maxRecDepth 100000 in
set_option maxHeartbeats 4000000 in
theorem frX10_buildOnly {G : Nat → Prop} {MM : Mem} (a0 : Option Nat) (a1 : Int32) (hst : ∀ k, k < 10 → G k) (hc : Cl G MM) (g_a0 : inG G a0) : okv (fun _ : Unit => True) MM G wkX10_buildOnly (fX10_buildOnly a0 a1 MM) := by
  have hMM : FrG G wkX10_buildOnly MM MM := FrG.rf hc
  unfold fX10_buildOnly
  refine k_pI (by decide) (by decide) (by decide) hMM g_a0 fun M2 hM2 => ?_
  refine k_gR hM2 g_a0 fun v6 g_v6 => ?_
  refine k_wI (by decide) hM2 g_v6 fun M15 hM15 => ?_
  exact k_ret hM15 trivial
def wkX9_readTable : List Nat := [700, 701, 1000, 1004, 1005, 1006, 1007, 1008, 1500, 1800, 2000]
set_option maxRecDepth 100000 in
set_option maxHeartbeats 4000000 in
theorem frX9_readTable {G : Nat → Prop} {MM : Mem} (a0 : Option Nat) (a1 : Int32) (a2 : Option Nat) (a3 : Int32) (a4 : Int32) (a5 : Int32) (hst : ∀ k, k < 10 → G k) (hc : Cl G MM) (g_a0 : inG G a0) (g_a2 : inG G a2) : okv (fun _ : Int32 => True) MM G wkX9_readTable (fX9_readTable a0 a1 a2 a3 a4 a5 MM) := by
  have hMM : FrG G wkX9_readTable MM MM := FrG.rf hc
  have hL178 : ∀ (p0 : Option Nat) (p1 : Int32) (p7 : Int32) (q0 : Option Nat) (q1 : Int32) (q2 : Option Nat) (M : Mem) (g_p0 : inG G p0) (g_q0 : inG G q0) (g_q2 : inG G q2) (hM : FrG G wkX9_readTable MM M), okv (fun _ : Int32 => True) MM G wkX9_readTable (fX9_readTable_L178 p0 p1 p7 q0 q1 q2 M) := by
    intro p0 p1 p7 q0 q1 q2 M g_p0 g_q0 g_q2 hM
    unfold fX9_readTable_L178
    refine k_wR (by decide) (by decide) hM g_q0 g_q2 fun M178 hM178 => ?_
    refine k_gR hM178 g_p0 fun v180 g_v180 => ?_
    refine k_wZ (by decide) hM178 g_v180 fun M185 hM185 => ?_
    exact k_ret hM185 trivial
  have hL153 : ∀ (p0 : Option Nat) (p1 : Int32) (p6 : Int32) (p7 : Int32) (M : Mem) (g_p0 : inG G p0) (hM : FrG G wkX9_readTable MM M), okv (fun _ : Int32 => True) MM G wkX9_readTable (fX9_readTable_L153 p0 p1 p6 p7 M) := by
    intro p0 p1 p6 p7 M g_p0 hM
    unfold fX9_readTable_L153
    refine k_gR hM g_p0 fun v154 g_v154 => ?_
    refine k_if ?_ ?_
    · refine k_gR hM g_p0 fun v164 g_v164 => ?_
      refine k_aR hM g_v164 fun v168 g_v168 => ?_
      exact hL178 p0 p1 p7 v154 p1 v168 _ g_p0 g_v154 g_v168 hM
    · refine k_gR hM g_p0 fun v173 g_v173 => ?_
      refine k_aR hM g_v173 fun v177 g_v177 => ?_
      exact hL178 p0 p1 p7 v154 p1 v177 _ g_p0 g_v154 g_v177 hM
  have hL80 : ∀ (p0 : Option Nat) (p4 : Int32) (M : Mem) (g_p0 : inG G p0) (hM : FrG G wkX9_readTable MM M), okv (fun _ : Int32 => True) MM G wkX9_readTable (fX9_readTable_L80 p0 p4 M) := by
    intro p0 p4 M g_p0 hM
    unfold fX9_readTable_L80
    refine k_bo fun _ => ?_
    refine k_call (by decide) hM (fun hc => frX9_wrong _ _ _ hst hc g_p0) fun v85 M85 _ hM85 => ?_
    exact k_ret hM85 trivial
  have hL42 : ∀ (q0 : Int32) (M : Mem) (hM : FrG G wkX9_readTable MM M), okv (fun _ : Int32 => True) MM G wkX9_readTable (fX9_readTable_L42 q0 M) := by
    intro q0 M hM
    unfold fX9_readTable_L42
    exact k_ret hM trivial
  unfold fX9_readTable
  refine k_bo fun v1 => ?_
  refine k_bn fun v13 => ?_
  refine k_if ?_ ?_
  · refine k_gR hMM g_a0 fun v22 g_v22 => ?_
    refine k_bo fun v26 => ?_
    refine k_if ?_ ?_
    · refine k_bo fun _ => ?_
      refine k_call (by decide) hMM (fun hc => frX9_wrong _ _ _ hst hc g_a0) fun v39 M39 _ hM39 => ?_
      exact hL42 v39 _ hM39
    · exact hL42 a4 _ hMM
  · refine k_bn fun v45 => ?_
    refine k_if ?_ ?_
    · refine k_bn fun v57 => ?_
      refine k_if ?_ ?_
      · exact hL80 a0 a4 _ g_a0 hMM
      · refine k_bo fun _ => ?_
        refine k_call (by decide) hMM (fun hc => frX8_get _ _ hst hc g_a2) fun v69 M69 _ hM69 => ?_
        refine k_bo fun v76 => ?_
        refine k_if ?_ ?_
        · refine k_gR hM69 g_a0 fun v90 g_v90 => ?_
          refine k_aR hM69 g_v90 fun v94 g_v94 => ?_
          refine k_bo fun _ => ?_
          refine k_call (by decide) hM69 (fun hc => frX8_get _ _ hst hc g_a2) fun v98 M98 _ hM98 => ?_
          refine k_bo fun _ => ?_
          refine k_call (by decide) hM98 (fun hc => frX10_buildOnly _ _ hst hc g_v94) fun v101 M101 _ hM101 => ?_
          exact hL153 a0 a1 v13 v57 _ g_a0 hM101
        · exact hL80 a0 a4 _ g_a0 hM69
    · refine k_if ?_ ?_
      · refine k_gR hMM g_a0 fun v114 g_v114 => ?_
        refine k_aR hMM g_v114 fun v118 g_v118 => ?_
        refine k_bo fun v128 => ?_
        refine k_bo fun v133 => ?_
        refine k_bo fun _ => ?_
        refine k_call (by decide) hMM (fun hc => frX10_read _ _ _ _ _ _ hst hc g_v118 g_a2) fun v134 M134 _ hM134 => ?_
        refine k_bn fun v137 => ?_
        refine k_if ?_ ?_
        · exact hL153 a0 a1 v13 v137 _ g_a0 hM134
        · refine k_bo fun _ => ?_
          refine k_call (by decide) hM134 (fun hc => frX9_wrong _ _ _ hst hc g_a0) fun v149 M149 _ hM149 => ?_
          exact k_ret hM149 trivial
      · exact hL153 a0 a1 v13 v45 _ g_a0 hMM
def wkX9_symbolOf : List Nat := []
set_option maxRecDepth 100000 in
set_option maxHeartbeats 4000000 in
theorem frX9_symbolOf {G : Nat → Prop} {MM : Mem} (a0 : Option Nat) (a1 : Int32) (hst : ∀ k, k < 10 → G k) (hc : Cl G MM) (g_a0 : inG G a0) : okv (fun _ : Int32 => True) MM G wkX9_symbolOf (fX9_symbolOf a0 a1 MM) := by
  have hMM : FrG G wkX9_symbolOf MM MM := FrG.rf hc
  unfold fX9_symbolOf
  refine k_gR hMM g_a0 fun v1 g_v1 => ?_
  refine k_aR hMM g_v1 fun v5 g_v5 => ?_
  refine k_gR hMM g_a0 fun v7 g_v7 => ?_
  refine k_bo fun v11 => ?_
  refine k_bo fun _ => ?_
  refine k_call (by decide) hMM (fun hc => frX10_symbolAt _ _ hst hc g_v5) fun v12 M12 _ hM12 => ?_
  refine k_bo fun v19 => ?_
  exact k_ret hM12 trivial
def wkX12_baseOf : List Nat := []
set_option maxRecDepth 100000 in
set_option maxHeartbeats 4000000 in
theorem frX12_baseOf {G : Nat → Prop} {MM : Mem} (a0 : Int32) (hst : ∀ k, k < 10 → G k) (hc : Cl G MM) : okv (inG G) MM G wkX12_baseOf (fX12_baseOf a0 MM) := by
  have hMM : FrG G wkX12_baseOf MM MM := FrG.rf hc
  have hL13 : ∀ (q0 : Option Nat) (M : Mem) (g_q0 : inG G q0) (hM : FrG G wkX12_baseOf MM M), okv (inG G) MM G wkX12_baseOf (fX12_baseOf_L13 q0 M) := by
    intro q0 M g_q0 hM
    unfold fX12_baseOf_L13
    exact k_ret hM g_q0
  unfold fX12_baseOf
  refine k_if ?_ ?_
  · exact hL13 ((some 6)) _ (inG_some (hst 6 (by decide))) hMM
  · exact hL13 ((some 8)) _ (inG_some (hst 8 (by decide))) hMM
def wkX12_extraOf : List Nat := []
set_option maxRecDepth 100000 in
set_option maxHeartbeats 4000000 in
theorem frX12_extraOf {G : Nat → Prop} {MM : Mem} (a0 : Int32) (hst : ∀ k, k < 10 → G k) (hc : Cl G MM) : okv (inG G) MM G wkX12_extraOf (fX12_extraOf a0 MM) := by
  have hMM : FrG G wkX12_extraOf MM MM := FrG.rf hc
  have hL13 : ∀ (q0 : Option Nat) (M : Mem) (g_q0 : inG G q0) (hM : FrG G wkX12_extraOf MM M), okv (inG G) MM G wkX12_extraOf (fX12_extraOf_L13 q0 M) := by
    intro q0 M g_q0 hM
    unfold fX12_extraOf_L13
    exact k_ret hM g_q0
  unfold fX12_extraOf
  refine k_if ?_ ?_
  · exact hL13 ((some 7)) _ (inG_some (hst 7 (by decide))) hMM
  · exact hL13 ((some 9)) _ (inG_some (hst 9 (by decide))) hMM
def wkX9_lengthOf : List Nat := [2, 3]
set_option maxRecDepth 100000 in
set_option maxHeartbeats 4000000 in
theorem frX9_lengthOf {G : Nat → Prop} {MM : Mem} (a0 : Option Nat) (a1 : Int32) (hst : ∀ k, k < 10 → G k) (hc : Cl G MM) (g_a0 : inG G a0) : okv (fun _ : Int32 => True) MM G wkX9_lengthOf (fX9_lengthOf a0 a1 MM) := by
  have hMM : FrG G wkX9_lengthOf MM MM := FrG.rf hc
  unfold fX9_lengthOf
  refine k_bo fun _ => ?_
  refine k_call (by decide) hMM (fun hc => frX9_symbolOf _ _ hst hc g_a0) fun v2 M2 _ hM2 => ?_
  refine k_bn fun v5 => ?_
  refine k_call (by decide) hM2 (fun hc => frX12_baseOf _ hst hc) fun v7 M7 g_v7 hM7 => ?_
  refine k_bo fun v11 => ?_
  refine k_gR hM7 g_a0 fun v13 g_v13 => ?_
  refine k_call (by decide) hM7 (fun hc => frX12_extraOf _ hst hc) fun v17 M17 g_v17 hM17 => ?_
  refine k_bo fun v21 => ?_
  refine k_bo fun _ => ?_
  refine k_call (by decide) hM17 (fun hc => frX0_take _ _ hst hc g_v13) fun v22 M22 _ hM22 => ?_
  exact k_ret hM22 trivial
def wkX9_goOn : List Nat := [2, 3, 1500]
set_option maxRecDepth 100000 in
set_option maxHeartbeats 4000000 in
theorem frX9_goOn {G : Nat → Prop} {MM : Mem} (a0 : Option Nat) (a1 : Int32) (hst : ∀ k, k < 10 → G k) (hc : Cl G MM) (g_a0 : inG G a0) : okv (fun _ : Unit => True) MM G wkX9_goOn (fX9_goOn a0 a1 MM) := by
  have hMM : FrG G wkX9_goOn MM MM := FrG.rf hc
  unfold fX9_goOn
  refine k_gR hMM g_a0 fun v1 g_v1 => ?_
  refine k_aR hMM g_v1 fun v5 g_v5 => ?_
  refine k_bnR g_v5 fun v6 g_v6 => ?_
  refine k_gR hMM g_a0 fun v8 g_v8 => ?_
  refine k_bo fun v12 => ?_
  refine k_bn fun v13 => ?_
  refine k_gR hMM g_a0 fun v15 g_v15 => ?_
  refine k_bo fun _ => ?_
  refine k_call (by decide) hMM (fun hc => frX10_baseAt _ _ hst hc g_v6) fun v21 M21 _ hM21 => ?_
  refine k_gR hM21 g_a0 fun v25 g_v25 => ?_
  refine k_bo fun _ => ?_
  refine k_call (by decide) hM21 (fun hc => frX10_bitsAt _ _ hst hc g_v6) fun v30 M30 _ hM30 => ?_
  refine k_bo fun _ => ?_
  refine k_call (by decide) hM30 (fun hc => frX0_take _ _ hst hc g_v25) fun v33 M33 _ hM33 => ?_
  refine k_wI (by decide) hM33 g_v15 fun M38 hM38 => ?_
  exact k_ret hM38 trivial
def wkX9_putLetters : List Nat := [801, 918, 1400]
set_option maxRecDepth 100000 in
set_option maxHeartbeats 4000000 in
theorem frX9_putLetters {G : Nat → Prop} {MM : Mem} (a0 : Option Nat) (a1 : Int32) (hst : ∀ k, k < 10 → G k) (hc : Cl G MM) (g_a0 : inG G a0) : okv (fun _ : Unit => True) MM G wkX9_putLetters (fX9_putLetters a0 a1 MM) := by
  have hMM : FrG G wkX9_putLetters MM MM := FrG.rf hc
  unfold fX9_putLetters
  refine k_gR hMM g_a0 fun v1 g_v1 => ?_
  refine k_gR hMM g_a0 fun v5 g_v5 => ?_
  refine k_gR hMM g_v5 fun v8 g_v8 => ?_
  refine k_bo fun v12 => ?_
  refine k_bo fun _ => ?_
  refine k_call (by decide) hMM (fun hc => frX8_addFrom _ _ _ _ hst hc g_v1 g_v8) fun v16 M16 _ hM16 => ?_
  refine k_bo fun v21 => ?_
  refine k_pI (by decide) (by decide) (by decide) hM16 g_a0 fun M26 hM26 => ?_
  exact k_ret hM26 trivial
def wkX12_whichOf : List Nat := []
set_option maxRecDepth 100000 in
set_option maxHeartbeats 4000000 in
theorem frX12_whichOf {G : Nat → Prop} {MM : Mem} (a0 : Int64) (a2 : Int32) (hst : ∀ k, k < 10 → G k) (hc : Cl G MM) : okv (fun _ : Int32 => True) MM G wkX12_whichOf (fX12_whichOf a0 a2 MM) := by
  have hMM : FrG G wkX12_whichOf MM MM := FrG.rf hc
  have hL24 : ∀ (q0 : Int32) (M : Mem) (hM : FrG G wkX12_whichOf MM M), okv (fun _ : Int32 => True) MM G wkX12_whichOf (fX12_whichOf_L24 q0 M) := by
    intro q0 M hM
    unfold fX12_whichOf_L24
    exact k_ret hM trivial
  have hL23 : ∀ (q0 : Int32) (q1 : Int32) (M : Mem) (hM : FrG G wkX12_whichOf MM M), okv (fun _ : Int32 => True) MM G wkX12_whichOf (fX12_whichOf_L23 q0 q1 M) := by
    intro q0 q1 M hM
    unfold fX12_whichOf_L23
    exact hL24 (q0 + q1) _ hM
  unfold fX12_whichOf
  refine k_if ?_ ?_
  · refine k_if ?_ ?_
    · exact hL23 a0.toInt32 1 _ hMM
    · exact hL23 a0.toInt32 0 _ hMM
  · exact hL24 0 _ hMM
def wkX12_offsetOf : List Nat := []
set_option maxRecDepth 100000 in
set_option maxHeartbeats 4000000 in
theorem frX12_offsetOf {G : Nat → Prop} {MM : Mem} (a0 : Option Nat) (a1 : Int64) (a3 : Int32) (hst : ∀ k, k < 10 → G k) (hc : Cl G MM) (g_a0 : inG G a0) : okv (fun _ : Int64 => True) MM G wkX12_offsetOf (fX12_offsetOf a0 a1 a3 MM) := by
  have hMM : FrG G wkX12_offsetOf MM MM := FrG.rf hc
  have hL44 : ∀ (q0 : Int64) (M : Mem) (hM : FrG G wkX12_offsetOf MM M), okv (fun _ : Int64 => True) MM G wkX12_offsetOf (fX12_offsetOf_L44 q0 M) := by
    intro q0 M hM
    unfold fX12_offsetOf_L44
    exact k_ret hM trivial
  unfold fX12_offsetOf
  refine k_call (by decide) hMM (fun hc => frX12_whichOf _ _ hst hc) fun v2 M2 _ hM2 => ?_
  refine k_bn fun v5 => ?_
  refine k_if ?_ ?_
  · exact k_ret hM2 trivial
  · refine k_if ?_ ?_
    · refine k_bo fun v26 => ?_
      exact hL44 ((v26 - 1).toInt64) _ hM2
    · refine k_bo fun v42 => ?_
      exact hL44 v42.toInt64 _ hM2
def wkX9_reaches : List Nat := []
set_option maxRecDepth 100000 in
set_option maxHeartbeats 4000000 in
theorem frX9_reaches {G : Nat → Prop} {MM : Mem} (a0 : Option Nat) (a1 : Int64) (hst : ∀ k, k < 10 → G k) (hc : Cl G MM) (g_a0 : inG G a0) : okv z01 MM G wkX9_reaches (fX9_reaches a0 a1 MM) := by
  have hMM : FrG G wkX9_reaches MM MM := FrG.rf hc
  have hL34 : ∀ (M : Mem) (hM : FrG G wkX9_reaches MM M), okv z01 MM G wkX9_reaches (fX9_reaches_L34 M) := by
    intro M hM
    unfold fX9_reaches_L34
    exact k_retZ hM
  have hL75 : ∀ (q0 : Int32) (M : Mem) (hM : FrG G wkX9_reaches MM M), okv z01 MM G wkX9_reaches (fX9_reaches_L75 q0 M) := by
    intro q0 M hM
    unfold fX9_reaches_L75
    exact k_retZ hM
  unfold fX9_reaches
  refine k_gR hMM g_a0 fun v1 g_v1 => ?_
  refine k_bo fun v4 => ?_
  refine k_bo fun v8 => ?_
  refine k_bn fun v12 => ?_
  refine k_if ?_ ?_
  · exact hL34 _ hMM
  · refine k_gR hMM g_a0 fun v22 g_v22 => ?_
    refine k_bo fun v25 => ?_
    refine k_if ?_ ?_
    · refine k_if ?_ ?_
      · refine k_bo fun v63 => ?_
        refine k_if ?_ ?_
        · exact hL75 0 _ hMM
        · exact hL75 1 _ hMM
      · refine k_bo fun v45 => ?_
        refine k_if ?_ ?_
        · exact hL75 0 _ hMM
        · exact hL75 1 _ hMM
    · exact hL34 _ hMM
def wkX9_putCopy : List Nat := [801, 1400]
set_option maxRecDepth 100000 in
set_option maxHeartbeats 4000000 in
theorem frX9_putCopy {G : Nat → Prop} {MM : Mem} (a0 : Option Nat) (a1 : Int32) (a2 : Int32) (hst : ∀ k, k < 10 → G k) (hc : Cl G MM) (g_a0 : inG G a0) : okv (fun _ : Unit => True) MM G wkX9_putCopy (fX9_putCopy a0 a1 a2 MM) := by
  have hMM : FrG G wkX9_putCopy MM MM := FrG.rf hc
  have hL87 : ∀ (k23 : Option Nat × Int32 × Int32 × Int32 × Int32 → Mem → Option (Unit × Mem)) (hk23 : ∀ a M, (inG G (a.1)) → FrG G wkX9_putCopy MM M → okv (fun _ : Unit => True) MM G wkX9_putCopy (k23 a M)) (p0 : Option Nat) (p1 : Int32) (p2 : Int32) (p3 : Int32) (p4 : Int32) (q0 : Option Nat) (q1 : Int32) (M : Mem) (g_p0 : inG G p0) (g_q0 : inG G q0) (hM : FrG G wkX9_putCopy MM M), okv (fun _ : Unit => True) MM G wkX9_putCopy (fX9_putCopy_L87 k23 p0 p1 p2 p3 p4 q0 q1 M) := by
    intro k23 hk23 p0 p1 p2 p3 p4 q0 q1 M g_p0 g_q0 hM
    unfold fX9_putCopy_L87
    refine k_bo fun _ => ?_
    refine k_call (by decide) hM (fun hc => frX8_add _ _ hst hc g_q0) fun v87 M87 _ hM87 => ?_
    refine k_bn fun v90 => ?_
    exact hk23 ((p0, p1, p2, p3, v90)) _ g_p0 hM87
  have hL23 : ∀ (p0 : Option Nat) (p1 : Int32) (p2 : Int32) (p3 : Int32) (p4 : Int32) (M : Mem) (g_p0 : inG G p0) (hM : FrG G wkX9_putCopy MM M), okv (fun _ : Unit => True) MM G wkX9_putCopy (fX9_putCopy_L23 p0 p1 p2 p3 p4 M) := by
    intro p0 p1 p2 p3 p4 M g_p0 hM
    refine k_lp (T := fun a : Option Nat × Int32 × Int32 × Int32 × Int32 => inG G (a.1)) ?_ FU ((p0, p1, p2, p3, p4)) M g_p0 hM
    intro k23 hk23 a M T hM
    obtain ⟨p0, p1, p2, p3, p4⟩ := a
    have g_p0 := T
    show okv (fun _ : Unit => True) MM G wkX9_putCopy (fX9_putCopy_B23 k23 p0 p1 p2 p3 p4 M)
    unfold fX9_putCopy_B23
    refine k_if ?_ ?_
    · refine k_gR hM g_p0 fun v97 g_v97 => ?_
      refine k_bo fun v101 => ?_
      refine k_pI (by decide) (by decide) (by decide) hM g_v97 fun M108 hM108 => ?_
      exact k_ret hM108 trivial
    · refine k_gR hM g_p0 fun v30 g_v30 => ?_
      refine k_bo fun v33 => ?_
      refine k_bn fun v38 => ?_
      refine k_gR hM g_p0 fun v41 g_v41 => ?_
      refine k_bo fun v47 => ?_
      refine k_if ?_ ?_
      · refine k_gR hM g_p0 fun v66 g_v66 => ?_
        refine k_gR hM g_p0 fun v70 g_v70 => ?_
        refine k_bo fun v73 => ?_
        refine k_bo fun v80 => ?_
        refine k_bo fun _ => ?_
        refine k_call (by decide) hM (fun hc => frX8_get _ _ hst hc g_v66) fun v84 M84 _ hM84 => ?_
        exact hL87 k23 hk23 p0 p1 p2 p3 p4 v41 v84 _ g_p0 g_v41 hM84
      · refine k_gR hM g_p0 fun v54 g_v54 => ?_
        refine k_bo fun _ => ?_
        refine k_call (by decide) hM (fun hc => frX8_get _ _ hst hc g_v54) fun v59 M59 _ hM59 => ?_
        exact hL87 k23 hk23 p0 p1 p2 p3 p4 v41 v59 _ g_p0 g_v41 hM59
  unfold fX9_putCopy
  refine k_gR hMM g_a0 fun v6 g_v6 => ?_
  refine k_bo fun v9 => ?_
  refine k_bn fun v19 => ?_
  refine k_bn fun v21 => ?_
  exact hL23 a0 a1 a2 v19 v21 _ g_a0 hMM
def wkX9_tooMany : List Nat := []
set_option maxRecDepth 100000 in
set_option maxHeartbeats 4000000 in
theorem frX9_tooMany {G : Nat → Prop} {MM : Mem} (a0 : Option Nat) (hst : ∀ k, k < 10 → G k) (hc : Cl G MM) (g_a0 : inG G a0) : okv z01 MM G wkX9_tooMany (fX9_tooMany a0 MM) := by
  have hMM : FrG G wkX9_tooMany MM MM := FrG.rf hc
  have hL24 : ∀ (q0 : Int32) (M : Mem) (hM : FrG G wkX9_tooMany MM M), okv z01 MM G wkX9_tooMany (fX9_tooMany_L24 q0 M) := by
    intro q0 M hM
    unfold fX9_tooMany_L24
    exact k_retZ hM
  unfold fX9_tooMany
  refine k_gR hMM g_a0 fun v1 g_v1 => ?_
  refine k_bo fun v4 => ?_
  refine k_bo fun v8 => ?_
  refine k_bo fun v13 => ?_
  refine k_if ?_ ?_
  · exact hL24 0 _ hMM
  · exact hL24 1 _ hMM
def wkX12_remember : List Nat := [1500]
set_option maxRecDepth 100000 in
set_option maxHeartbeats 4000000 in
theorem frX12_remember {G : Nat → Prop} {MM : Mem} (a0 : Option Nat) (a1 : Int32) (a2 : Int32) (hst : ∀ k, k < 10 → G k) (hc : Cl G MM) (g_a0 : inG G a0) : okv (fun _ : Unit => True) MM G wkX12_remember (fX12_remember a0 a1 a2 MM) := by
  have hMM : FrG G wkX12_remember MM MM := FrG.rf hc
  have hL17 : ∀ (p0 : Option Nat) (p2 : Int32) (M : Mem) (g_p0 : inG G p0) (hM : FrG G wkX12_remember MM M), okv (fun _ : Unit => True) MM G wkX12_remember (fX12_remember_L17 p0 p2 M) := by
    intro p0 p2 M g_p0 hM
    unfold fX12_remember_L17
    refine k_bo fun v21 => ?_
    refine k_wI (by decide) hM g_p0 fun M22 hM22 => ?_
    refine k_wI (by decide) hM22 g_p0 fun M26 hM26 => ?_
    exact k_ret hM26 trivial
  unfold fX12_remember
  refine k_if ?_ ?_
  · exact k_ret hMM trivial
  · refine k_if ?_ ?_
    · exact hL17 a0 a2 _ g_a0 hMM
    · refine k_bo fun v15 => ?_
      refine k_wI (by decide) hMM g_a0 fun M16 hM16 => ?_
      exact hL17 a0 a2 _ g_a0 hM16
def wkX7_note : List Nat := [1500]
set_option maxRecDepth 100000 in
set_option maxHeartbeats 4000000 in
theorem frX7_note {G : Nat → Prop} {MM : Mem} (a0 : Option Nat) (a1 : Int32) (a2 : Int32) (a3 : Int32) (a4 : Int32) (hst : ∀ k, k < 10 → G k) (hc : Cl G MM) (g_a0 : inG G a0) : okv (fun _ : Unit => True) MM G wkX7_note (fX7_note a0 a1 a2 a3 a4 MM) := by
  have hMM : FrG G wkX7_note MM MM := FrG.rf hc
  have hL68 : ∀ (p0 : Option Nat) (M : Mem) (g_p0 : inG G p0) (hM : FrG G wkX7_note MM M), okv (fun _ : Unit => True) MM G wkX7_note (fX7_note_L68 p0 M) := by
    intro p0 M g_p0 hM
    unfold fX7_note_L68
    refine k_gR hM g_p0 fun v69 g_v69 => ?_
    refine k_bo fun v74 => ?_
    refine k_wI (by decide) hM g_v69 fun M77 hM77 => ?_
    exact k_ret hM77 trivial
  unfold fX7_note
  refine k_gR hMM g_a0 fun v1 g_v1 => ?_
  refine k_bo fun v5 => ?_
  refine k_bn fun v6 => ?_
  refine k_if ?_ ?_
  · exact hL68 a0 _ g_a0 hMM
  · refine k_if ?_ ?_
    · exact hL68 a0 _ g_a0 hMM
    · refine k_gR hMM g_a0 fun v22 g_v22 => ?_
      refine k_wI (by decide) hMM g_v22 fun M30 hM30 => ?_
      refine k_gR hM30 g_a0 fun v32 g_v32 => ?_
      refine k_wI (by decide) hM30 g_v32 fun M42 hM42 => ?_
      refine k_gR hM42 g_a0 fun v44 g_v44 => ?_
      refine k_wI (by decide) hM42 g_v44 fun M54 hM54 => ?_
      refine k_gR hM54 g_a0 fun v56 g_v56 => ?_
      refine k_wI (by decide) hM54 g_v56 fun M67 hM67 => ?_
      exact hL68 a0 _ g_a0 hM67
def wkX9_runOne : List Nat := [2, 3, 801, 918, 1400, 1500]
set_option maxRecDepth 100000 in
set_option maxHeartbeats 4000000 in
theorem frX9_runOne {G : Nat → Prop} {MM : Mem} (a0 : Option Nat) (a1 : Int32) (hst : ∀ k, k < 10 → G k) (hc : Cl G MM) (g_a0 : inG G a0) : okv (fun _ : Int32 => True) MM G wkX9_runOne (fX9_runOne a0 a1 MM) := by
  have hMM : FrG G wkX9_runOne MM MM := FrG.rf hc
  have hL52 : ∀ (p0 : Option Nat) (p3 : Int64) (p5 : Int32) (p6 : Int32) (M : Mem) (g_p0 : inG G p0) (hM : FrG G wkX9_runOne MM M), okv (fun _ : Int32 => True) MM G wkX9_runOne (fX9_runOne_L52 p0 p3 p5 p6 M) := by
    intro p0 p3 p5 p6 M g_p0 hM
    unfold fX9_runOne_L52
    refine k_gR hM g_p0 fun v53 g_v53 => ?_
    refine k_bo fun v56 => ?_
    refine k_if ?_ ?_
    · refine k_gR hM g_p0 fun v68 g_v68 => ?_
      refine k_gR hM g_v68 fun v71 g_v71 => ?_
      refine k_bo fun v74 => ?_
      refine k_bo fun v78 => ?_
      refine k_if ?_ ?_
      · refine k_bo fun _ => ?_
        refine k_call (by decide) hM (fun hc => frX9_putLetters _ _ hst hc g_p0) fun v91 M91 _ hM91 => ?_
        refine k_gR hM91 g_p0 fun v95 g_v95 => ?_
        refine k_call (by decide) hM91 (fun hc => frX12_offsetOf _ _ _ hst hc g_v95) fun v101 M101 _ hM101 => ?_
        refine k_bn fun v104 => ?_
        refine k_bo fun _ => ?_
        refine k_call (by decide) hM101 (fun hc => frX9_reaches _ _ hst hc g_p0) fun v109 M109 _ hM109 => ?_
        refine k_if ?_ ?_
        · exact k_ret hM109 trivial
        · refine k_bo fun _ => ?_
          refine k_call (by decide) hM109 (fun hc => frX9_putCopy _ _ _ hst hc g_p0) fun v124 M124 _ hM124 => ?_
          refine k_bo fun _ => ?_
          refine k_call (by decide) hM124 (fun hc => frX9_tooMany _ hst hc g_p0) fun v128 M128 _ hM128 => ?_
          refine k_if ?_ ?_
          · refine k_gR hM128 g_p0 fun v138 g_v138 => ?_
            refine k_call (by decide) hM128 (fun hc => frX12_whichOf _ _ hst hc) fun v144 M144 _ hM144 => ?_
            refine k_call (by decide) hM144 (fun hc => frX12_remember _ _ _ hst hc g_v138) fun v150 M150 _ hM150 => ?_
            refine k_gR hM150 g_p0 fun v154 g_v154 => ?_
            refine k_bo fun _ => ?_
            refine k_call (by decide) hM150 (fun hc => frX7_note _ _ _ _ _ hst hc g_v154) fun v166 M166 _ hM166 => ?_
            refine k_gR hM166 g_p0 fun v170 g_v170 => ?_
            refine k_gR hM166 g_p0 fun v174 g_v174 => ?_
            refine k_bo fun _ => ?_
            refine k_call (by decide) hM166 (fun hc => frX7_noteRemembered _ _ hst hc g_v170 g_v174) fun v177 M177 _ hM177 => ?_
            exact k_ret hM177 trivial
          · exact k_ret hM128 trivial
      · exact k_ret hM trivial
    · exact k_ret hM trivial
  unfold fX9_runOne
  refine k_bo fun _ => ?_
  refine k_call (by decide) hMM (fun hc => frX9_symbolOf _ _ hst hc g_a0) fun v2 M2 _ hM2 => ?_
  refine k_bn fun v5 => ?_
  refine k_gR hM2 g_a0 fun v10 g_v10 => ?_
  refine k_bo fun _ => ?_
  refine k_call (by decide) hM2 (fun hc => frX0_take _ _ hst hc g_v10) fun v14 M14 _ hM14 => ?_
  refine k_bn fun v18 => ?_
  refine k_bo fun _ => ?_
  refine k_call (by decide) hM14 (fun hc => frX9_lengthOf _ _ hst hc g_a0) fun v21 M21 _ hM21 => ?_
  refine k_bn fun v24 => ?_
  refine k_bo fun _ => ?_
  refine k_call (by decide) hM21 (fun hc => frX9_lengthOf _ _ hst hc g_a0) fun v28 M28 _ hM28 => ?_
  refine k_bn fun v31 => ?_
  refine k_if ?_ ?_
  · refine k_bo fun _ => ?_
    refine k_call (by decide) hM28 (fun hc => frX9_goOn _ _ hst hc g_a0) fun v39 M39 _ hM39 => ?_
    refine k_bo fun _ => ?_
    refine k_call (by decide) hM39 (fun hc => frX9_goOn _ _ hst hc g_a0) fun v44 M44 _ hM44 => ?_
    refine k_bo fun _ => ?_
    refine k_call (by decide) hM44 (fun hc => frX9_goOn _ _ hst hc g_a0) fun v49 M49 _ hM49 => ?_
    exact hL52 a0 v18 v24 v31 _ g_a0 hM49
  · exact hL52 a0 v18 v24 v31 _ g_a0 hM28
def wkX9_run : List Nat := [0, 1, 2, 3, 700, 701, 801, 917, 918, 1400, 1500]
set_option maxRecDepth 100000 in
set_option maxHeartbeats 4000000 in
theorem frX9_run {G : Nat → Prop} {MM : Mem} (a0 : Option Nat) (a1 : Option Nat) (a2 : Int32) (a3 : Int32) (hst : ∀ k, k < 10 → G k) (hc : Cl G MM) (g_a0 : inG G a0) (g_a1 : inG G a1) : okv z01 MM G wkX9_run (fX9_run a0 a1 a2 a3 MM) := by
  have hMM : FrG G wkX9_run MM MM := FrG.rf hc
  have hL215 : ∀ (q0 : Int32) (M : Mem) (hM : FrG G wkX9_run MM M), okv z01 MM G wkX9_run (fX9_run_L215 q0 M) := by
    intro q0 M hM
    unfold fX9_run_L215
    exact k_retZ hM
  have hL210 : ∀ (M : Mem) (hM : FrG G wkX9_run MM M), okv z01 MM G wkX9_run (fX9_run_L210 M) := by
    intro M hM
    unfold fX9_run_L210
    exact hL215 1 _ hM
  have hL143 : ∀ (p0 : Option Nat) (p2 : Int32) (M : Mem) (g_p0 : inG G p0) (hM : FrG G wkX9_run MM M), okv z01 MM G wkX9_run (fX9_run_L143 p0 p2 M) := by
    intro p0 p2 M g_p0 hM
    unfold fX9_run_L143
    refine k_gR hM g_p0 fun v145 g_v145 => ?_
    refine k_gR hM g_v145 fun v148 g_v148 => ?_
    refine k_bo fun v151 => ?_
    refine k_bo fun v155 => ?_
    refine k_bo fun _ => ?_
    refine k_call (by decide) hM (fun hc => frX9_putLetters _ _ hst hc g_p0) fun v159 M159 _ hM159 => ?_
    refine k_bo fun _ => ?_
    refine k_call (by decide) hM159 (fun hc => frX9_tooMany _ hst hc g_p0) fun v163 M163 _ hM163 => ?_
    refine k_if ?_ ?_
    · refine k_bo fun _ => ?_
      refine k_call (by decide) hM163 (fun hc => frX9_none _ hst hc g_p0) fun v181 M181 _ hM181 => ?_
      refine k_if ?_ ?_
      · refine k_gR hM181 g_p0 fun v188 g_v188 => ?_
        refine k_bo fun v191 => ?_
        refine k_if ?_ ?_
        · exact hL210 _ hM181
        · refine k_gR hM181 g_p0 fun v198 g_v198 => ?_
          refine k_bo fun _ => ?_
          refine k_call (by decide) hM181 (fun hc => frX7_fail _ _ _ hst hc g_v198) fun v204 M204 _ hM204 => ?_
          refine k_if ?_ ?_
          · exact hL215 0 _ hM204
          · exact hL210 _ hM204
      · exact hL210 _ hM181
    · refine k_gR hM163 g_p0 fun v170 g_v170 => ?_
      refine k_bo fun _ => ?_
      refine k_call (by decide) hM163 (fun hc => frX7_fail _ _ _ hst hc g_v170) fun v176 M176 _ hM176 => ?_
      exact k_retZ hM176
  have hL116 : ∀ (k90 : Option Nat × Int32 × Int32 → Mem → Option (Int32 × Mem)) (hk90 : ∀ a M, (inG G (a.1)) → FrG G wkX9_run MM M → okv z01 MM G wkX9_run (k90 a M)) (p0 : Option Nat) (p2 : Int32) (p4 : Int32) (q0 : Option Nat) (q1 : Int32) (M : Mem) (g_p0 : inG G p0) (g_q0 : inG G q0) (hM : FrG G wkX9_run MM M), okv z01 MM G wkX9_run (fX9_run_L116 k90 p0 p2 p4 q0 q1 M) := by
    intro k90 hk90 p0 p2 p4 q0 q1 M g_p0 g_q0 hM
    unfold fX9_run_L116
    refine k_bo fun _ => ?_
    refine k_call (by decide) hM (fun hc => frX9_runOne _ _ hst hc g_q0) fun v116 M116 _ hM116 => ?_
    refine k_bn fun v119 => ?_
    refine k_if ?_ ?_
    · refine k_bn fun v137 => ?_
      exact hk90 ((p0, p2, v137)) _ g_p0 hM116
    · refine k_gR hM116 g_p0 fun v127 g_v127 => ?_
      refine k_bo fun _ => ?_
      refine k_call (by decide) hM116 (fun hc => frX7_fail _ _ _ hst hc g_v127) fun v133 M133 _ hM133 => ?_
      exact k_retZ hM133
  have hL90 : ∀ (p0 : Option Nat) (p2 : Int32) (p4 : Int32) (M : Mem) (g_p0 : inG G p0) (hM : FrG G wkX9_run MM M), okv z01 MM G wkX9_run (fX9_run_L90 p0 p2 p4 M) := by
    intro p0 p2 p4 M g_p0 hM
    refine k_lp (T := fun a : Option Nat × Int32 × Int32 => inG G (a.1)) ?_ FU ((p0, p2, p4)) M g_p0 hM
    intro k90 hk90 a M T hM
    obtain ⟨p0, p2, p4⟩ := a
    have g_p0 := T
    show okv z01 MM G wkX9_run (fX9_run_B90 k90 p0 p2 p4 M)
    unfold fX9_run_B90
    refine k_bo fun v93 => ?_
    refine k_if ?_ ?_
    · exact hL143 p0 p2 _ g_p0 hM
    · refine k_bo fun v103 => ?_
      refine k_if ?_ ?_
      · exact hL116 k90 hk90 p0 p2 p4 p0 1 _ g_p0 g_p0 hM
      · exact hL116 k90 hk90 p0 p2 p4 p0 0 _ g_p0 g_p0 hM
  have hL50 : ∀ (p0 : Option Nat) (p2 : Int32) (p4 : Int32) (M : Mem) (g_p0 : inG G p0) (hM : FrG G wkX9_run MM M), okv z01 MM G wkX9_run (fX9_run_L50 p0 p2 p4 M) := by
    intro p0 p2 p4 M g_p0 hM
    refine k_lp (T := fun a : Option Nat × Int32 × Int32 => inG G (a.1)) ?_ FU ((p0, p2, p4)) M g_p0 hM
    intro k50 hk50 a M T hM
    obtain ⟨p0, p2, p4⟩ := a
    have g_p0 := T
    show okv z01 MM G wkX9_run (fX9_run_B50 k50 p0 p2 p4 M)
    unfold fX9_run_B50
    refine k_if ?_ ?_
    · refine k_bn fun v88 => ?_
      exact hL90 p0 p2 v88 _ g_p0 hM
    · refine k_gR hM g_p0 fun v57 g_v57 => ?_
      refine k_gR hM g_p0 fun v63 g_v63 => ?_
      refine k_gR hM g_p0 fun v67 g_v67 => ?_
      refine k_aR hM g_v67 fun v72 g_v72 => ?_
      refine k_bo fun v73 => ?_
      refine k_bo fun _ => ?_
      refine k_call (by decide) hM (fun hc => frX0_take _ _ hst hc g_v63) fun v76 M76 _ hM76 => ?_
      refine k_wI (by decide) hM76 g_v57 fun M80 hM80 => ?_
      refine k_bn fun v81 => ?_
      exact hk50 ((p0, p2, v81)) _ g_p0 hM80
  unfold fX9_run
  refine k_pI (by decide) (by decide) (by decide) hMM g_a0 fun M2 hM2 => ?_
  refine k_gR hM2 g_a0 fun v7 g_v7 => ?_
  refine k_bo fun v10 => ?_
  refine k_pI (by decide) (by decide) (by decide) hM2 g_a0 fun M13 hM13 => ?_
  refine k_bo fun _ => ?_
  refine k_call (by decide) hM13 (fun hc => frX9_none _ hst hc g_a0) fun v17 M17 _ hM17 => ?_
  refine k_if ?_ ?_
  · refine k_gR hM17 g_a0 fun v24 g_v24 => ?_
    refine k_bo fun _ => ?_
    refine k_call (by decide) hM17 (fun hc => frX0_begin _ _ _ _ hst hc g_v24 g_a1) fun v30 M30 _ hM30 => ?_
    refine k_if ?_ ?_
    · refine k_gR hM30 g_a0 fun v37 g_v37 => ?_
      refine k_bo fun _ => ?_
      refine k_call (by decide) hM30 (fun hc => frX7_fail _ _ _ hst hc g_v37) fun v43 M43 _ hM43 => ?_
      exact k_retZ hM43
    · refine k_bn fun v48 => ?_
      exact hL50 a0 a2 v48 _ g_a0 hM30
  · exact hL143 a0 a2 _ g_a0 hM17
def wkX5_readPacked : List Nat := [0, 1, 2, 3, 100, 401, 402, 403, 408, 409, 410, 411, 412, 508, 700, 701, 801, 915, 916, 917, 918, 1000, 1004, 1005, 1006, 1007, 1008, 1101, 1102, 1400, 1500, 1800, 2000]
set_option maxRecDepth 100000 in
set_option maxHeartbeats 4000000 in
theorem frX5_readPacked {G : Nat → Prop} {MM : Mem} (a0 : Option Nat) (hst : ∀ k, k < 10 → G k) (hc : Cl G MM) (g_a0 : inG G a0) : okv z01 MM G wkX5_readPacked (fX5_readPacked a0 MM) := by
  have hMM : FrG G wkX5_readPacked MM MM := FrG.rf hc
  have hL64 : ∀ (M : Mem) (hM : FrG G wkX5_readPacked MM M), okv z01 MM G wkX5_readPacked (fX5_readPacked_L64 M) := by
    intro M hM
    unfold fX5_readPacked_L64
    exact k_retZ hM
  have hL169 : ∀ (M : Mem) (hM : FrG G wkX5_readPacked MM M), okv z01 MM G wkX5_readPacked (fX5_readPacked_L169 M) := by
    intro M hM
    unfold fX5_readPacked_L169
    exact k_retZ hM
  have hL143 : ∀ (p0 : Option Nat) (p1 : Int32) (M : Mem) (g_p0 : inG G p0) (hM : FrG G wkX5_readPacked MM M), okv z01 MM G wkX5_readPacked (fX5_readPacked_L143 p0 p1 M) := by
    intro p0 p1 M g_p0 hM
    unfold fX5_readPacked_L143
    refine k_bo fun v144 => ?_
    refine k_if ?_ ?_
    · exact hL169 _ hM
    · refine k_gR hM g_p0 fun v151 g_v151 => ?_
      refine k_gR hM g_p0 fun v155 g_v155 => ?_
      refine k_bo fun v159 => ?_
      refine k_bo fun _ => ?_
      refine k_call (by decide) hM (fun hc => frX9_run _ _ _ _ hst hc g_v151 g_v155) fun v163 M163 _ hM163 => ?_
      refine k_if ?_ ?_
      · exact hL169 _ hM163
      · refine k_pI (by decide) (by decide) (by decide) hM163 g_p0 fun M173 hM173 => ?_
        exact k_retZ hM173
  have hL93 : ∀ (p0 : Option Nat) (p1 : Int32) (p2 : Int32) (p3 : Int32) (M : Mem) (g_p0 : inG G p0) (hM : FrG G wkX5_readPacked MM M), okv z01 MM G wkX5_readPacked (fX5_readPacked_L93 p0 p1 p2 p3 M) := by
    intro p0 p1 p2 p3 M g_p0 hM
    refine k_lp (T := fun a : Option Nat × Int32 × Int32 × Int32 => inG G (a.1)) ?_ FU ((p0, p1, p2, p3)) M g_p0 hM
    intro k93 hk93 a M T hM
    obtain ⟨p0, p1, p2, p3⟩ := a
    have g_p0 := T
    show okv z01 MM G wkX5_readPacked (fX5_readPacked_B93 k93 p0 p1 p2 p3 M)
    unfold fX5_readPacked_B93
    refine k_if ?_ ?_
    · exact hL143 p0 p1 _ g_p0 hM
    · refine k_bo fun v99 => ?_
      refine k_if ?_ ?_
      · exact hL143 p0 p1 _ g_p0 hM
      · refine k_gR hM g_p0 fun v106 g_v106 => ?_
        refine k_bo fun _ => ?_
        refine k_call (by decide) hM (fun hc => frX9_none _ hst hc g_v106) fun v109 M109 _ hM109 => ?_
        refine k_if ?_ ?_
        · refine k_gR hM109 g_p0 fun v117 g_v117 => ?_
          refine k_gR hM109 g_p0 fun v122 g_v122 => ?_
          refine k_bo fun v127 => ?_
          refine k_bo fun _ => ?_
          refine k_call (by decide) hM109 (fun hc => frX9_readTable _ _ _ _ _ _ hst hc g_v117 g_v122) fun v131 M131 _ hM131 => ?_
          refine k_pI (by decide) (by decide) (by decide) hM131 g_p0 fun M134 hM134 => ?_
          refine k_bn fun v137 => ?_
          exact hk93 ((p0, p1, p2, v137)) _ g_p0 hM134
        · exact hL143 p0 p1 _ g_p0 hM109
  unfold fX5_readPacked
  refine k_bo fun v1 => ?_
  refine k_bo fun v5 => ?_
  refine k_bn fun v9 => ?_
  refine k_gR hMM g_a0 fun v11 g_v11 => ?_
  refine k_gR hMM g_a0 fun v15 g_v15 => ?_
  refine k_bo fun v19 => ?_
  refine k_gR hMM g_a0 fun v24 g_v24 => ?_
  refine k_bo fun v27 => ?_
  refine k_bo fun _ => ?_
  refine k_call (by decide) hMM (fun hc => frX4_readHead _ _ _ _ _ hst hc g_v11 g_v15) fun v30 M30 _ hM30 => ?_
  refine k_if ?_ ?_
  · exact hL64 _ hM30
  · refine k_gR hM30 g_a0 fun v37 g_v37 => ?_
    refine k_gR hM30 g_a0 fun v41 g_v41 => ?_
    refine k_bo fun _ => ?_
    refine k_call (by decide) hM30 (fun hc => frX4_readCode _ _ hst hc g_v37 g_v41) fun v44 M44 _ hM44 => ?_
    refine k_if ?_ ?_
    · exact hL64 _ hM44
    · refine k_gR hM44 g_a0 fun v51 g_v51 => ?_
      refine k_gR hM44 g_a0 fun v55 g_v55 => ?_
      refine k_bo fun _ => ?_
      refine k_call (by decide) hM44 (fun hc => frX4_readBody _ _ hst hc g_v51 g_v55) fun v58 M58 _ hM58 => ?_
      refine k_if ?_ ?_
      · exact hL64 _ hM58
      · refine k_gR hM58 g_a0 fun v67 g_v67 => ?_
        refine k_bo fun v70 => ?_
        refine k_bn fun v73 => ?_
        refine k_gR hM58 g_a0 fun v76 g_v76 => ?_
        refine k_gR hM58 g_a0 fun v80 g_v80 => ?_
        refine k_bo fun _ => ?_
        refine k_call (by decide) hM58 (fun hc => frX9_readHead _ _ _ _ hst hc g_v76 g_v80) fun v85 M85 _ hM85 => ?_
        refine k_pI (by decide) (by decide) (by decide) hM85 g_a0 fun M88 hM88 => ?_
        refine k_bn fun v92 => ?_
        exact hL93 a0 v9 v73 v92 _ g_a0 hM88
def wkX5_readPlain : List Nat := [508, 801, 1400]
set_option maxRecDepth 100000 in
set_option maxHeartbeats 4000000 in
theorem frX5_readPlain {G : Nat → Prop} {MM : Mem} (a0 : Option Nat) (hst : ∀ k, k < 10 → G k) (hc : Cl G MM) (g_a0 : inG G a0) : okv z01 MM G wkX5_readPlain (fX5_readPlain a0 MM) := by
  have hMM : FrG G wkX5_readPlain MM MM := FrG.rf hc
  have hL74 : ∀ (M : Mem) (hM : FrG G wkX5_readPlain MM M), okv z01 MM G wkX5_readPlain (fX5_readPlain_L74 M) := by
    intro M hM
    unfold fX5_readPlain_L74
    exact k_retZ hM
  unfold fX5_readPlain
  refine k_bo fun v1 => ?_
  refine k_if ?_ ?_
  · refine k_gR hMM g_a0 fun v8 g_v8 => ?_
    refine k_gR hMM g_a0 fun v12 g_v12 => ?_
    refine k_bo fun v16 => ?_
    refine k_bo fun v20 => ?_
    refine k_bo fun _ => ?_
    refine k_call (by decide) hMM (fun hc => frX8_addFrom _ _ _ _ hst hc g_v8 g_v12) fun v23 M23 _ hM23 => ?_
    refine k_bo fun v28 => ?_
    refine k_bo fun v32 => ?_
    refine k_pI (by decide) (by decide) (by decide) hM23 g_a0 fun M36 hM36 => ?_
    exact hL74 _ hM36
  · refine k_gR hMM g_a0 fun v43 g_v43 => ?_
    refine k_gR hMM g_a0 fun v47 g_v47 => ?_
    refine k_bo fun v51 => ?_
    refine k_bo fun _ => ?_
    refine k_call (by decide) hMM (fun hc => frX8_get _ _ hst hc g_v47) fun v54 M54 _ hM54 => ?_
    refine k_bo fun v58 => ?_
    refine k_bo fun _ => ?_
    refine k_call (by decide) hM54 (fun hc => frX8_addSame _ _ _ hst hc g_v43) fun v61 M61 _ hM61 => ?_
    refine k_bo fun v66 => ?_
    refine k_pI (by decide) (by decide) (by decide) hM61 g_a0 fun M71 hM71 => ?_
    exact hL74 _ hM71
def wkX5_endBlock : List Nat := [700, 701, 1500]
set_option maxRecDepth 100000 in
set_option maxHeartbeats 4000000 in
theorem frX5_endBlock {G : Nat → Prop} {MM : Mem} (a0 : Option Nat) (hst : ∀ k, k < 10 → G k) (hc : Cl G MM) (g_a0 : inG G a0) : okv z01 MM G wkX5_endBlock (fX5_endBlock a0 MM) := by
  have hMM : FrG G wkX5_endBlock MM MM := FrG.rf hc
  have hL50 : ∀ (p0 : Option Nat) (q0 : Option Nat) (q1 : Int32) (q2 : Int32) (q3 : Int32) (M : Mem) (g_p0 : inG G p0) (g_q0 : inG G q0) (hM : FrG G wkX5_endBlock MM M), okv z01 MM G wkX5_endBlock (fX5_endBlock_L50 p0 q0 q1 q2 q3 M) := by
    intro p0 q0 q1 q2 q3 M g_p0 g_q0 hM
    unfold fX5_endBlock_L50
    refine k_wI (by decide) hM g_q0 fun M51 hM51 => ?_
    refine k_gR hM51 g_p0 fun v53 g_v53 => ?_
    refine k_gR hM51 g_v53 fun v56 g_v56 => ?_
    refine k_gR hM51 g_p0 fun v61 g_v61 => ?_
    refine k_bo fun v64 => ?_
    refine k_wI (by decide) hM51 g_v56 fun M67 hM67 => ?_
    exact k_retZ hM67
  unfold fX5_endBlock
  refine k_gR hMM g_a0 fun v1 g_v1 => ?_
  refine k_bo fun v4 => ?_
  refine k_if ?_ ?_
  · refine k_gR hMM g_a0 fun v28 g_v28 => ?_
    refine k_gR hMM g_v28 fun v31 g_v31 => ?_
    refine k_bo fun v36 => ?_
    refine k_bo fun v38 => ?_
    refine k_if ?_ ?_
    · exact hL50 a0 v31 2 v36 1 _ g_a0 g_v31 hMM
    · exact hL50 a0 v31 2 v36 0 _ g_a0 g_v31 hMM
  · refine k_gR hMM g_a0 fun v14 g_v14 => ?_
    refine k_bo fun v20 => ?_
    refine k_bo fun _ => ?_
    refine k_call (by decide) hMM (fun hc => frX7_fail _ _ _ hst hc g_v14) fun v23 M23 _ hM23 => ?_
    exact k_retZ hM23
def wkX12_turn : List Nat := []
set_option maxRecDepth 100000 in
set_option maxHeartbeats 4000000 in
theorem frX12_turn {G : Nat → Prop} {MM : Mem} (a0 : Int64) (a2 : Int32) (hst : ∀ k, k < 10 → G k) (hc : Cl G MM) : okv (fun _ : Int64 => True) MM G wkX12_turn (fX12_turn a0 a2 MM) := by
  have hMM : FrG G wkX12_turn MM MM := FrG.rf hc
  unfold fX12_turn
  exact k_ret hMM trivial
def wkX12_round : List Nat := []
set_option maxRecDepth 100000 in
set_option maxHeartbeats 4000000 in
theorem frX12_round {G : Nat → Prop} {MM : Mem} (a0 : Int64) (a2 : Int64) (hst : ∀ k, k < 10 → G k) (hc : Cl G MM) : okv (fun _ : Int64 => True) MM G wkX12_round (fX12_round a0 a2 MM) := by
  have hMM : FrG G wkX12_round MM MM := FrG.rf hc
  unfold fX12_round
  refine k_call (by decide) hMM (fun hc => frX12_turn _ _ hst hc) fun v9 M9 _ hM9 => ?_
  exact k_ret hM9 trivial
def wkX8_sumOfLong : List Nat := []
set_option maxRecDepth 100000 in
set_option maxHeartbeats 4000000 in
theorem frX8_sumOfLong {G : Nat → Prop} {MM : Mem} (a0 : Option Nat) (a1 : Int32) (a2 : Int32) (hst : ∀ k, k < 10 → G k) (hc : Cl G MM) (g_a0 : inG G a0) : okv (fun _ : Int64 => True) MM G wkX8_sumOfLong (fX8_sumOfLong a0 a1 a2 MM) := by
  have hMM : FrG G wkX8_sumOfLong MM MM := FrG.rf hc
  have hL20 : ∀ (p0 : Option Nat) (p2 : Int32) (p3 : Int64) (p5 : Int64) (p7 : Int64) (p9 : Int64) (p11 : Int32) (M : Mem) (g_p0 : inG G p0) (hM : FrG G wkX8_sumOfLong MM M), okv (fun _ : Int64 => True) MM G wkX8_sumOfLong (fX8_sumOfLong_L20 p0 p2 p3 p5 p7 p9 p11 M) := by
    intro p0 p2 p3 p5 p7 p9 p11 M g_p0 hM
    refine k_lp (T := fun a : Option Nat × Int32 × Int64 × Int64 × Int64 × Int64 × Int32 => inG G (a.1)) ?_ FU ((p0, p2, p3, p5, p7, p9, p11)) M g_p0 hM
    intro k20 hk20 a M T hM
    obtain ⟨p0, p2, p3, p5, p7, p9, p11⟩ := a
    have g_p0 := T
    show okv (fun _ : Int64 => True) MM G wkX8_sumOfLong (fX8_sumOfLong_B20 k20 p0 p2 p3 p5 p7 p9 p11 M)
    unfold fX8_sumOfLong_B20
    refine k_if ?_ ?_
    · refine k_call (by decide) hM (fun hc => frX12_turn _ _ hst hc) fun v101 M101 _ hM101 => ?_
      refine k_call (by decide) hM101 (fun hc => frX12_turn _ _ hst hc) fun v108 M108 _ hM108 => ?_
      refine k_call (by decide) hM108 (fun hc => frX12_turn _ _ hst hc) fun v116 M116 _ hM116 => ?_
      refine k_call (by decide) hM116 (fun hc => frX12_turn _ _ hst hc) fun v124 M124 _ hM124 => ?_
      refine k_bn fun v128 => ?_
      refine k_call (by decide) hM124 (fun hc => frX12_round _ _ hst hc) fun v134 M134 _ hM134 => ?_
      refine k_bn fun v146 => ?_
      refine k_call (by decide) hM134 (fun hc => frX12_round _ _ hst hc) fun v153 M153 _ hM153 => ?_
      refine k_bn fun v165 => ?_
      refine k_call (by decide) hM153 (fun hc => frX12_round _ _ hst hc) fun v172 M172 _ hM172 => ?_
      refine k_bn fun v184 => ?_
      refine k_call (by decide) hM172 (fun hc => frX12_round _ _ hst hc) fun v191 M191 _ hM191 => ?_
      exact k_ret hM191 trivial
    · refine k_bo fun _ => ?_
      refine k_call (by decide) hM (fun hc => frX8_number _ _ _ hst hc g_p0) fun v32 M32 _ hM32 => ?_
      refine k_call (by decide) hM32 (fun hc => frX12_round _ _ hst hc) fun v35 M35 _ hM35 => ?_
      refine k_bn fun v38 => ?_
      refine k_bo fun _ => ?_
      refine k_call (by decide) hM35 (fun hc => frX8_number _ _ _ hst hc g_p0) fun v49 M49 _ hM49 => ?_
      refine k_call (by decide) hM49 (fun hc => frX12_round _ _ hst hc) fun v52 M52 _ hM52 => ?_
      refine k_bn fun v55 => ?_
      refine k_bo fun _ => ?_
      refine k_call (by decide) hM52 (fun hc => frX8_number _ _ _ hst hc g_p0) fun v67 M67 _ hM67 => ?_
      refine k_call (by decide) hM67 (fun hc => frX12_round _ _ hst hc) fun v70 M70 _ hM70 => ?_
      refine k_bn fun v73 => ?_
      refine k_bo fun _ => ?_
      refine k_call (by decide) hM70 (fun hc => frX8_number _ _ _ hst hc g_p0) fun v85 M85 _ hM85 => ?_
      refine k_call (by decide) hM85 (fun hc => frX12_round _ _ hst hc) fun v88 M88 _ hM88 => ?_
      refine k_bn fun v91 => ?_
      refine k_bn fun v93 => ?_
      exact hk20 ((p0, p2, v38, v55, v73, v91, v93)) _ g_p0 hM88
  unfold fX8_sumOfLong
  refine k_bn fun v3 => ?_
  refine k_bn fun v7 => ?_
  refine k_bn fun v10 => ?_
  refine k_bn fun v15 => ?_
  refine k_bn fun v18 => ?_
  exact hL20 a0 a2 v3 v7 v10 v15 v18 _ g_a0 hMM
def wkX8_sumFrom : List Nat := []
set_option maxRecDepth 100000 in
set_option maxHeartbeats 4000000 in
theorem frX8_sumFrom {G : Nat → Prop} {MM : Mem} (a0 : Option Nat) (a1 : Int32) (hst : ∀ k, k < 10 → G k) (hc : Cl G MM) (g_a0 : inG G a0) : okv (fun _ : Int64 => True) MM G wkX8_sumFrom (fX8_sumFrom a0 a1 MM) := by
  have hMM : FrG G wkX8_sumFrom MM MM := FrG.rf hc
  have hL127 : ∀ (p0 : Option Nat) (p2 : Int32) (p3 : Int64) (M : Mem) (g_p0 : inG G p0) (hM : FrG G wkX8_sumFrom MM M), okv (fun _ : Int64 => True) MM G wkX8_sumFrom (fX8_sumFrom_L127 p0 p2 p3 M) := by
    intro p0 p2 p3 M g_p0 hM
    refine k_lp (T := fun a : Option Nat × Int32 × Int64 => inG G (a.1)) ?_ FU ((p0, p2, p3)) M g_p0 hM
    intro k127 hk127 a M T hM
    obtain ⟨p0, p2, p3⟩ := a
    have g_p0 := T
    show okv (fun _ : Int64 => True) MM G wkX8_sumFrom (fX8_sumFrom_B127 k127 p0 p2 p3 M)
    unfold fX8_sumFrom_B127
    refine k_bo fun v128 => ?_
    refine k_if ?_ ?_
    · refine k_bn fun v175 => ?_
      refine k_bn fun v186 => ?_
      exact k_ret hM trivial
    · refine k_bo fun _ => ?_
      refine k_call (by decide) hM (fun hc => frX8_get _ _ hst hc g_p0) fun v140 M140 _ hM140 => ?_
      refine k_call (by decide) hM140 (fun hc => frX12_turn _ _ hst hc) fun v151 M151 _ hM151 => ?_
      refine k_bn fun v158 => ?_
      refine k_bn fun v159 => ?_
      exact hk127 ((p0, v159, v158)) _ g_p0 hM151
  have hL85 : ∀ (p0 : Option Nat) (p2 : Int32) (p3 : Int64) (M : Mem) (g_p0 : inG G p0) (hM : FrG G wkX8_sumFrom MM M), okv (fun _ : Int64 => True) MM G wkX8_sumFrom (fX8_sumFrom_L85 p0 p2 p3 M) := by
    intro p0 p2 p3 M g_p0 hM
    refine k_lp (T := fun a : Option Nat × Int32 × Int64 => inG G (a.1)) ?_ FU ((p0, p2, p3)) M g_p0 hM
    intro k85 hk85 a M T hM
    obtain ⟨p0, p2, p3⟩ := a
    have g_p0 := T
    show okv (fun _ : Int64 => True) MM G wkX8_sumFrom (fX8_sumFrom_B85 k85 p0 p2 p3 M)
    unfold fX8_sumFrom_B85
    refine k_bo fun v86 => ?_
    refine k_if ?_ ?_
    · exact hL127 p0 p2 p3 _ g_p0 hM
    · refine k_bo fun _ => ?_
      refine k_call (by decide) hM (fun hc => frX8_number _ _ _ hst hc g_p0) fun v99 M99 _ hM99 => ?_
      refine k_call (by decide) hM99 (fun hc => frX12_turn _ _ hst hc) fun v109 M109 _ hM109 => ?_
      refine k_bn fun v120 => ?_
      refine k_bn fun v121 => ?_
      exact hk85 ((p0, v121, v120)) _ g_p0 hM109
  have hL41 : ∀ (p0 : Option Nat) (p2 : Int32) (p3 : Int64) (M : Mem) (g_p0 : inG G p0) (hM : FrG G wkX8_sumFrom MM M), okv (fun _ : Int64 => True) MM G wkX8_sumFrom (fX8_sumFrom_L41 p0 p2 p3 M) := by
    intro p0 p2 p3 M g_p0 hM
    refine k_lp (T := fun a : Option Nat × Int32 × Int64 => inG G (a.1)) ?_ FU ((p0, p2, p3)) M g_p0 hM
    intro k41 hk41 a M T hM
    obtain ⟨p0, p2, p3⟩ := a
    have g_p0 := T
    show okv (fun _ : Int64 => True) MM G wkX8_sumFrom (fX8_sumFrom_B41 k41 p0 p2 p3 M)
    unfold fX8_sumFrom_B41
    refine k_bo fun v42 => ?_
    refine k_if ?_ ?_
    · exact hL85 p0 p2 p3 _ g_p0 hM
    · refine k_bo fun _ => ?_
      refine k_call (by decide) hM (fun hc => frX8_number _ _ _ hst hc g_p0) fun v58 M58 _ hM58 => ?_
      refine k_call (by decide) hM58 (fun hc => frX12_round _ _ hst hc) fun v61 M61 _ hM61 => ?_
      refine k_call (by decide) hM61 (fun hc => frX12_turn _ _ hst hc) fun v67 M67 _ hM67 => ?_
      refine k_bn fun v78 => ?_
      refine k_bn fun v79 => ?_
      exact hk41 ((p0, v79, v78)) _ g_p0 hM67
  have hL32 : ∀ (p0 : Option Nat) (p1 : Int32) (p2 : Int32) (q0 : Int64) (M : Mem) (g_p0 : inG G p0) (hM : FrG G wkX8_sumFrom MM M), okv (fun _ : Int64 => True) MM G wkX8_sumFrom (fX8_sumFrom_L32 p0 p1 p2 q0 M) := by
    intro p0 p1 p2 q0 M g_p0 hM
    unfold fX8_sumFrom_L32
    refine k_bo fun v33 => ?_
    refine k_bn fun v40 => ?_
    exact hL41 p0 p2 v40 _ g_p0 hM
  unfold fX8_sumFrom
  refine k_bo fun v2 => ?_
  refine k_bo fun v9 => ?_
  refine k_bn fun v14 => ?_
  refine k_if ?_ ?_
  · exact hL32 a0 a1 v14 2870177450012600261 _ g_a0 hMM
  · refine k_bo fun _ => ?_
    refine k_call (by decide) hMM (fun hc => frX8_sumOfLong _ _ _ hst hc g_a0) fun v23 M23 _ hM23 => ?_
    exact hL32 a0 a1 v14 v23 _ g_a0 hM23
def wkX5_readEnd : List Nat := [508, 700, 701]
set_option maxRecDepth 100000 in
set_option maxHeartbeats 4000000 in
theorem frX5_readEnd {G : Nat → Prop} {MM : Mem} (a0 : Option Nat) (hst : ∀ k, k < 10 → G k) (hc : Cl G MM) (g_a0 : inG G a0) : okv z01 MM G wkX5_readEnd (fX5_readEnd a0 MM) := by
  have hMM : FrG G wkX5_readEnd MM MM := FrG.rf hc
  have hL45 : ∀ (p0 : Option Nat) (M : Mem) (g_p0 : inG G p0) (hM : FrG G wkX5_readEnd MM M), okv z01 MM G wkX5_readEnd (fX5_readEnd_L45 p0 M) := by
    intro p0 M g_p0 hM
    unfold fX5_readEnd_L45
    refine k_bo fun v46 => ?_
    refine k_if ?_ ?_
    · exact k_retZ hM
    · refine k_bo fun _ => ?_
      refine k_call (by decide) hM (fun hc => frX5_there _ _ hst hc g_p0) fun v58 M58 _ hM58 => ?_
      refine k_if ?_ ?_
      · refine k_bo fun _ => ?_
        refine k_call (by decide) hM58 (fun hc => frX5_lacks _ hst hc g_p0) fun v65 M65 _ hM65 => ?_
        exact k_retZ hM65
      · refine k_gR hM58 g_p0 fun v70 g_v70 => ?_
        refine k_bo fun v74 => ?_
        refine k_bo fun _ => ?_
        refine k_call (by decide) hM58 (fun hc => frX8_number _ _ _ hst hc g_v70) fun v78 M78 _ hM78 => ?_
        refine k_gR hM78 g_p0 fun v83 g_v83 => ?_
        refine k_gR hM78 g_p0 fun v87 g_v87 => ?_
        refine k_bo fun v90 => ?_
        refine k_bo fun _ => ?_
        refine k_call (by decide) hM78 (fun hc => frX8_sumFrom _ _ hst hc g_v83) fun v93 M93 _ hM93 => ?_
        refine k_if ?_ ?_
        · refine k_bo fun v116 => ?_
          refine k_pI (by decide) (by decide) (by decide) hM93 g_p0 fun M121 hM121 => ?_
          exact k_retZ hM121
        · refine k_gR hM93 g_p0 fun v101 g_v101 => ?_
          refine k_bo fun v107 => ?_
          refine k_bo fun _ => ?_
          refine k_call (by decide) hM93 (fun hc => frX7_fail _ _ _ hst hc g_v101) fun v110 M110 _ hM110 => ?_
          exact k_retZ hM110
  unfold fX5_readEnd
  refine k_bo fun v1 => ?_
  refine k_if ?_ ?_
  · exact hL45 a0 _ g_a0 hMM
  · refine k_bo fun v8 => ?_
    refine k_gR hMM g_a0 fun v12 g_v12 => ?_
    refine k_bo fun v15 => ?_
    refine k_gR hMM g_a0 fun v19 g_v19 => ?_
    refine k_bo fun v22 => ?_
    refine k_if ?_ ?_
    · exact hL45 a0 _ g_a0 hMM
    · refine k_gR hMM g_a0 fun v32 g_v32 => ?_
      refine k_bo fun v38 => ?_
      refine k_bo fun _ => ?_
      refine k_call (by decide) hMM (fun hc => frX7_fail _ _ _ hst hc g_v32) fun v41 M41 _ hM41 => ?_
      exact k_retZ hM41
def wkX5_openAll : List Nat := [0, 1, 2, 3, 100, 401, 402, 403, 408, 409, 410, 411, 412, 503, 504, 505, 506, 507, 508, 509, 510, 511, 512, 513, 514, 515, 516, 517, 518, 700, 701, 801, 910, 911, 912, 913, 914, 915, 916, 917, 918, 1000, 1004, 1005, 1006, 1007, 1008, 1101, 1102, 1400, 1500, 1800, 2000]
set_option maxRecDepth 100000 in
set_option maxHeartbeats 4000000 in
theorem frX5_openAll {G : Nat → Prop} {MM : Mem} (a0 : Option Nat) (a1 : Option Nat) (a2 : Option Nat) (a3 : Option Nat) (a4 : Int64) (hst : ∀ k, k < 10 → G k) (hc : Cl G MM) (g_a0 : inG G a0) (g_a1 : inG G a1) (g_a2 : inG G a2) (g_a3 : inG G a3) : okv z01 MM G wkX5_openAll (fX5_openAll a0 a1 a2 a3 a4 MM) := by
  have hMM : FrG G wkX5_openAll MM MM := FrG.rf hc
  have hL191 : ∀ (p6 : Int32) (M : Mem) (hM : FrG G wkX5_openAll MM M), okv z01 MM G wkX5_openAll (fX5_openAll_L191 p6 M) := by
    intro p6 M hM
    unfold fX5_openAll_L191
    exact k_retZ hM
  have hL183 : ∀ (k51 : Option Nat × Int32 × Int32 → Mem → Option (Int32 × Mem)) (hk51 : ∀ a M, (inG G (a.1)) → FrG G wkX5_openAll MM M → okv z01 MM G wkX5_openAll (k51 a M)) (p0 : Option Nat) (p7 : Int32) (q0 : Int32) (M : Mem) (g_p0 : inG G p0) (hM : FrG G wkX5_openAll MM M), okv z01 MM G wkX5_openAll (fX5_openAll_L183 k51 p0 p7 q0 M) := by
    intro k51 hk51 p0 p7 q0 M g_p0 hM
    unfold fX5_openAll_L183
    refine k_bn fun v183 => ?_
    refine k_bn fun v185 => ?_
    exact hk51 ((p0, v183, v185)) _ g_p0 hM
  have hL182 : ∀ (k51 : Option Nat × Int32 × Int32 → Mem → Option (Int32 × Mem)) (hk51 : ∀ a M, (inG G (a.1)) → FrG G wkX5_openAll MM M → okv z01 MM G wkX5_openAll (k51 a M)) (p0 : Option Nat) (p7 : Int32) (M : Mem) (g_p0 : inG G p0) (hM : FrG G wkX5_openAll MM M), okv z01 MM G wkX5_openAll (fX5_openAll_L182 k51 p0 p7 M) := by
    intro k51 hk51 p0 p7 M g_p0 hM
    unfold fX5_openAll_L182
    exact hL183 k51 hk51 p0 p7 0 _ g_p0 hM
  have hL178 : ∀ (k51 : Option Nat × Int32 × Int32 → Mem → Option (Int32 × Mem)) (hk51 : ∀ a M, (inG G (a.1)) → FrG G wkX5_openAll MM M → okv z01 MM G wkX5_openAll (k51 a M)) (p0 : Option Nat) (p7 : Int32) (M : Mem) (g_p0 : inG G p0) (hM : FrG G wkX5_openAll MM M), okv z01 MM G wkX5_openAll (fX5_openAll_L178 k51 p0 p7 M) := by
    intro k51 hk51 p0 p7 M g_p0 hM
    unfold fX5_openAll_L178
    exact hL183 k51 hk51 p0 p7 1 _ g_p0 hM
  have hL159 : ∀ (k51 : Option Nat × Int32 × Int32 → Mem → Option (Int32 × Mem)) (hk51 : ∀ a M, (inG G (a.1)) → FrG G wkX5_openAll MM M → okv z01 MM G wkX5_openAll (k51 a M)) (p0 : Option Nat) (p6 : Int32) (p7 : Int32) (M : Mem) (g_p0 : inG G p0) (hM : FrG G wkX5_openAll MM M), okv z01 MM G wkX5_openAll (fX5_openAll_L159 k51 p0 p6 p7 M) := by
    intro k51 hk51 p0 p6 p7 M g_p0 hM
    unfold fX5_openAll_L159
    refine k_if ?_ ?_
    · exact hL182 k51 hk51 p0 p7 _ g_p0 hM
    · refine k_bo fun v165 => ?_
      refine k_if ?_ ?_
      · refine k_bo fun _ => ?_
        refine k_call (by decide) hM (fun hc => frX5_readEnd _ hst hc g_p0) fun v172 M172 _ hM172 => ?_
        refine k_if ?_ ?_
        · exact hL182 k51 hk51 p0 p7 _ g_p0 hM172
        · exact hL178 k51 hk51 p0 p7 _ g_p0 hM172
      · exact hL178 k51 hk51 p0 p7 _ g_p0 hM
  have hL151 : ∀ (k51 : Option Nat × Int32 × Int32 → Mem → Option (Int32 × Mem)) (hk51 : ∀ a M, (inG G (a.1)) → FrG G wkX5_openAll MM M → okv z01 MM G wkX5_openAll (k51 a M)) (k87 : Option Nat × Int32 × Int32 × Int32 → Mem → Option (Int32 × Mem)) (hk87 : ∀ a M, (inG G (a.1)) → FrG G wkX5_openAll MM M → okv z01 MM G wkX5_openAll (k87 a M)) (p0 : Option Nat) (p7 : Int32) (p8 : Int32) (q0 : Int32) (M : Mem) (g_p0 : inG G p0) (hM : FrG G wkX5_openAll MM M), okv z01 MM G wkX5_openAll (fX5_openAll_L151 k51 k87 p0 p7 p8 q0 M) := by
    intro k51 hk51 k87 hk87 p0 p7 p8 q0 M g_p0 hM
    unfold fX5_openAll_L151
    refine k_bn fun v151 => ?_
    refine k_bn fun v153 => ?_
    exact hk87 ((p0, v151, p7, v153)) _ g_p0 hM
  have hL150 : ∀ (k51 : Option Nat × Int32 × Int32 → Mem → Option (Int32 × Mem)) (hk51 : ∀ a M, (inG G (a.1)) → FrG G wkX5_openAll MM M → okv z01 MM G wkX5_openAll (k51 a M)) (k87 : Option Nat × Int32 × Int32 × Int32 → Mem → Option (Int32 × Mem)) (hk87 : ∀ a M, (inG G (a.1)) → FrG G wkX5_openAll MM M → okv z01 MM G wkX5_openAll (k87 a M)) (p0 : Option Nat) (p7 : Int32) (p8 : Int32) (M : Mem) (g_p0 : inG G p0) (hM : FrG G wkX5_openAll MM M), okv z01 MM G wkX5_openAll (fX5_openAll_L150 k51 k87 p0 p7 p8 M) := by
    intro k51 hk51 k87 hk87 p0 p7 p8 M g_p0 hM
    unfold fX5_openAll_L150
    exact hL151 k51 hk51 k87 hk87 p0 p7 p8 0 _ g_p0 hM
  have hL139 : ∀ (k51 : Option Nat × Int32 × Int32 → Mem → Option (Int32 × Mem)) (hk51 : ∀ a M, (inG G (a.1)) → FrG G wkX5_openAll MM M → okv z01 MM G wkX5_openAll (k51 a M)) (k87 : Option Nat × Int32 × Int32 × Int32 → Mem → Option (Int32 × Mem)) (hk87 : ∀ a M, (inG G (a.1)) → FrG G wkX5_openAll MM M → okv z01 MM G wkX5_openAll (k87 a M)) (p0 : Option Nat) (p7 : Int32) (p8 : Int32) (M : Mem) (g_p0 : inG G p0) (hM : FrG G wkX5_openAll MM M), okv z01 MM G wkX5_openAll (fX5_openAll_L139 k51 k87 p0 p7 p8 M) := by
    intro k51 hk51 k87 hk87 p0 p7 p8 M g_p0 hM
    unfold fX5_openAll_L139
    refine k_bo fun _ => ?_
    refine k_call (by decide) hM (fun hc => frX5_endBlock _ hst hc g_p0) fun v140 M140 _ hM140 => ?_
    refine k_if ?_ ?_
    · exact hL150 k51 hk51 k87 hk87 p0 p7 p8 _ g_p0 hM140
    · exact hL151 k51 hk51 k87 hk87 p0 p7 p8 1 _ g_p0 hM140
  have hL87 : ∀ (k51 : Option Nat × Int32 × Int32 → Mem → Option (Int32 × Mem)) (hk51 : ∀ a M, (inG G (a.1)) → FrG G wkX5_openAll MM M → okv z01 MM G wkX5_openAll (k51 a M)) (p0 : Option Nat) (p6 : Int32) (p7 : Int32) (p8 : Int32) (M : Mem) (g_p0 : inG G p0) (hM : FrG G wkX5_openAll MM M), okv z01 MM G wkX5_openAll (fX5_openAll_L87 k51 p0 p6 p7 p8 M) := by
    intro k51 hk51 p0 p6 p7 p8 M g_p0 hM
    refine k_lp (T := fun a : Option Nat × Int32 × Int32 × Int32 => inG G (a.1)) ?_ FU ((p0, p6, p7, p8)) M g_p0 hM
    intro k87 hk87 a M T hM
    obtain ⟨p0, p6, p7, p8⟩ := a
    have g_p0 := T
    show okv z01 MM G wkX5_openAll (fX5_openAll_B87 k51 k87 p0 p6 p7 p8 M)
    unfold fX5_openAll_B87
    refine k_if ?_ ?_
    · exact hL159 k51 hk51 p0 p6 p7 _ g_p0 hM
    · refine k_if ?_ ?_
      · exact hL159 k51 hk51 p0 p6 p7 _ g_p0 hM
      · refine k_bo fun v101 => ?_
        refine k_if ?_ ?_
        · refine k_bo fun _ => ?_
          refine k_call (by decide) hM (fun hc => frX5_readBlockHead _ hst hc g_p0) fun v108 M108 _ hM108 => ?_
          refine k_if ?_ ?_
          · exact hL150 k51 hk51 k87 hk87 p0 p7 p8 _ g_p0 hM108
          · refine k_bo fun v115 => ?_
            refine k_if ?_ ?_
            · refine k_bo fun _ => ?_
              refine k_call (by decide) hM108 (fun hc => frX5_readPacked _ hst hc g_p0) fun v123 M123 _ hM123 => ?_
              refine k_if ?_ ?_
              · exact hL150 k51 hk51 k87 hk87 p0 p7 p8 _ g_p0 hM123
              · exact hL139 k51 hk51 k87 hk87 p0 p7 p8 _ g_p0 hM123
            · refine k_bo fun _ => ?_
              refine k_call (by decide) hM108 (fun hc => frX5_readPlain _ hst hc g_p0) fun v133 M133 _ hM133 => ?_
              refine k_if ?_ ?_
              · exact hL150 k51 hk51 k87 hk87 p0 p7 p8 _ g_p0 hM133
              · exact hL139 k51 hk51 k87 hk87 p0 p7 p8 _ g_p0 hM133
        · exact hL159 k51 hk51 p0 p6 p7 _ g_p0 hM
  have hL51 : ∀ (p0 : Option Nat) (p6 : Int32) (p7 : Int32) (M : Mem) (g_p0 : inG G p0) (hM : FrG G wkX5_openAll MM M), okv z01 MM G wkX5_openAll (fX5_openAll_L51 p0 p6 p7 M) := by
    intro p0 p6 p7 M g_p0 hM
    refine k_lp (T := fun a : Option Nat × Int32 × Int32 => inG G (a.1)) ?_ FU ((p0, p6, p7)) M g_p0 hM
    intro k51 hk51 a M T hM
    obtain ⟨p0, p6, p7⟩ := a
    have g_p0 := T
    show okv z01 MM G wkX5_openAll (fX5_openAll_B51 k51 p0 p6 p7 M)
    unfold fX5_openAll_B51
    refine k_if ?_ ?_
    · exact hL191 p6 _ hM
    · refine k_if ?_ ?_
      · exact hL191 p6 _ hM
      · refine k_bo fun v65 => ?_
        refine k_gR hM g_p0 fun v69 g_v69 => ?_
        refine k_bo fun v72 => ?_
        refine k_if ?_ ?_
        · exact hL191 p6 _ hM
        · refine k_bo fun _ => ?_
          refine k_call (by decide) hM (fun hc => frX5_readMark _ hst hc g_p0) fun v79 M79 _ hM79 => ?_
          refine k_bn fun v82 => ?_
          refine k_bn fun v85 => ?_
          exact hL87 k51 hk51 p0 v82 p7 v85 _ g_p0 hM79
  unfold fX5_openAll
  refine k_pR (by decide) (by decide) hMM g_a0 g_a1 fun M2 hM2 => ?_
  refine k_pR (by decide) (by decide) hM2 g_a0 g_a2 fun M7 hM7 => ?_
  refine k_pR (by decide) (by decide) hM7 g_a0 g_a3 fun M12 hM12 => ?_
  refine k_pJ (by decide) (by decide) hM12 g_a0 fun M18 hM18 => ?_
  refine k_pI (by decide) (by decide) (by decide) hM18 g_a0 fun M23 hM23 => ?_
  refine k_gR hM23 g_a0 fun v27 g_v27 => ?_
  refine k_pI (by decide) (by decide) (by decide) hM23 g_v27 fun M31 hM31 => ?_
  refine k_gR hM31 g_a0 fun v35 g_v35 => ?_
  refine k_bo fun _ => ?_
  refine k_call (by decide) hM31 (fun hc => frX7_clear _ hst hc g_v35) fun v38 M38 _ hM38 => ?_
  refine k_bo fun _ => ?_
  refine k_call (by decide) hM38 (fun hc => frX5_forget _ hst hc g_a0) fun v42 M42 _ hM42 => ?_
  refine k_bn fun v46 => ?_
  refine k_bn fun v49 => ?_
  exact hL51 a0 v46 v49 _ g_a0 hM42
def wkX8_addNumber : List Nat := [801, 1400]
set_option maxRecDepth 100000 in
set_option maxHeartbeats 4000000 in
theorem frX8_addNumber {G : Nat → Prop} {MM : Mem} (a0 : Option Nat) (a1 : Int64) (a3 : Int32) (hst : ∀ k, k < 10 → G k) (hc : Cl G MM) (g_a0 : inG G a0) : okv (fun _ : Unit => True) MM G wkX8_addNumber (fX8_addNumber a0 a1 a3 MM) := by
  have hMM : FrG G wkX8_addNumber MM MM := FrG.rf hc
  have hL3 : ∀ (p0 : Option Nat) (p1 : Int64) (p3 : Int32) (p4 : Int32) (M : Mem) (g_p0 : inG G p0) (hM : FrG G wkX8_addNumber MM M), okv (fun _ : Unit => True) MM G wkX8_addNumber (fX8_addNumber_L3 p0 p1 p3 p4 M) := by
    intro p0 p1 p3 p4 M g_p0 hM
    refine k_lp (T := fun a : Option Nat × Int64 × Int32 × Int32 => inG G (a.1)) ?_ FU ((p0, p1, p3, p4)) M g_p0 hM
    intro k3 hk3 a M T hM
    obtain ⟨p0, p1, p3, p4⟩ := a
    have g_p0 := T
    show okv (fun _ : Unit => True) MM G wkX8_addNumber (fX8_addNumber_B3 k3 p0 p1 p3 p4 M)
    unfold fX8_addNumber_B3
    refine k_if ?_ ?_
    · exact k_ret hM trivial
    · refine k_bo fun _ => ?_
      refine k_call (by decide) hM (fun hc => frX8_add _ _ hst hc g_p0) fun v18 M18 _ hM18 => ?_
      refine k_bn fun v21 => ?_
      exact hk3 ((p0, p1, p3, v21)) _ g_p0 hM18
  unfold fX8_addNumber
  refine k_bn fun v1 => ?_
  exact hL3 a0 a1 a3 v1 _ g_a0 hMM
def wkX6_writeHead : List Nat := [801, 1400]
set_option maxRecDepth 100000 in
set_option maxHeartbeats 4000000 in
theorem frX6_writeHead {G : Nat → Prop} {MM : Mem} (a0 : Option Nat) (a1 : Int32) (a2 : Int32) (hst : ∀ k, k < 10 → G k) (hc : Cl G MM) (g_a0 : inG G a0) : okv (fun _ : Unit => True) MM G wkX6_writeHead (fX6_writeHead a0 a1 a2 MM) := by
  have hMM : FrG G wkX6_writeHead MM MM := FrG.rf hc
  have hL206 : ∀ (M : Mem) (hM : FrG G wkX6_writeHead MM M), okv (fun _ : Unit => True) MM G wkX6_writeHead (fX6_writeHead_L206 M) := by
    intro M hM
    unfold fX6_writeHead_L206
    exact k_ret hM trivial
  have hL199 : ∀ (p6 : Int32) (q0 : Option Nat) (q1 : Int64) (M : Mem) (g_q0 : inG G q0) (hM : FrG G wkX6_writeHead MM M), okv (fun _ : Unit => True) MM G wkX6_writeHead (fX6_writeHead_L199 p6 q0 q1 M) := by
    intro p6 q0 q1 M g_q0 hM
    unfold fX6_writeHead_L199
    refine k_bo fun _ => ?_
    refine k_call (by decide) hM (fun hc => frX8_addNumber _ _ _ hst hc g_q0) fun v203 M203 _ hM203 => ?_
    exact hL206 _ hM203
  have hL170 : ∀ (p0 : Option Nat) (p3 : Int32) (p4 : Int32) (p6 : Int32) (q0 : Option Nat) (q1 : Int64) (q2 : Int32) (M : Mem) (g_p0 : inG G p0) (g_q0 : inG G q0) (hM : FrG G wkX6_writeHead MM M), okv (fun _ : Unit => True) MM G wkX6_writeHead (fX6_writeHead_L170 p0 p3 p4 p6 q0 q1 q2 M) := by
    intro p0 p3 p4 p6 q0 q1 q2 M g_p0 g_q0 hM
    unfold fX6_writeHead_L170
    refine k_bo fun _ => ?_
    refine k_call (by decide) hM (fun hc => frX8_addNumber _ _ _ hst hc g_q0) fun v170 M170 _ hM170 => ?_
    refine k_if ?_ ?_
    · exact hL206 _ hM170
    · refine k_gR hM170 g_p0 fun v178 g_v178 => ?_
      refine k_if ?_ ?_
      · exact hL199 p6 v178 p4.toInt64 _ g_v178 hM170
      · exact hL199 p6 v178 ((p4 - 256).toInt64) _ g_v178 hM170
  have hL152 : ∀ (p0 : Option Nat) (p1 : Int32) (p3 : Int32) (p4 : Int32) (p5 : Int32) (p6 : Int32) (M : Mem) (g_p0 : inG G p0) (hM : FrG G wkX6_writeHead MM M), okv (fun _ : Unit => True) MM G wkX6_writeHead (fX6_writeHead_L152 p0 p1 p3 p4 p5 p6 M) := by
    intro p0 p1 p3 p4 p5 p6 M g_p0 hM
    unfold fX6_writeHead_L152
    refine k_gR hM g_p0 fun v153 g_v153 => ?_
    refine k_if ?_ ?_
    · exact hL170 p0 p3 p4 p6 v153 p1.toInt64 4 _ g_p0 g_v153 hM
    · exact hL170 p0 p3 p4 p6 v153 p1.toInt64 p5 _ g_p0 g_v153 hM
  have hL149 : ∀ (p0 : Option Nat) (p1 : Int32) (p3 : Int32) (p4 : Int32) (p5 : Int32) (p6 : Int32) (q0 : Option Nat) (q1 : Int32) (M : Mem) (g_p0 : inG G p0) (g_q0 : inG G q0) (hM : FrG G wkX6_writeHead MM M), okv (fun _ : Unit => True) MM G wkX6_writeHead (fX6_writeHead_L149 p0 p1 p3 p4 p5 p6 q0 q1 M) := by
    intro p0 p1 p3 p4 p5 p6 q0 q1 M g_p0 g_q0 hM
    unfold fX6_writeHead_L149
    refine k_bo fun _ => ?_
    refine k_call (by decide) hM (fun hc => frX8_add _ _ hst hc g_q0) fun v149 M149 _ hM149 => ?_
    exact hL152 p0 p1 p3 p4 p5 p6 _ g_p0 hM149
  have hL103 : ∀ (p0 : Option Nat) (p1 : Int32) (p2 : Int32) (p3 : Int32) (p4 : Int32) (p5 : Int32) (p6 : Int32) (q0 : Option Nat) (q1 : Int32) (q2 : Int32) (M : Mem) (g_p0 : inG G p0) (g_q0 : inG G q0) (hM : FrG G wkX6_writeHead MM M), okv (fun _ : Unit => True) MM G wkX6_writeHead (fX6_writeHead_L103 p0 p1 p2 p3 p4 p5 p6 q0 q1 q2 M) := by
    intro p0 p1 p2 p3 p4 p5 p6 q0 q1 q2 M g_p0 g_q0 hM
    unfold fX6_writeHead_L103
    refine k_bo fun _ => ?_
    refine k_call (by decide) hM (fun hc => frX8_add _ _ hst hc g_q0) fun v113 M113 _ hM113 => ?_
    refine k_if ?_ ?_
    · refine k_gR hM113 g_p0 fun v121 g_v121 => ?_
      refine k_if ?_ ?_
      · refine k_call (by decide) hM113 (fun hc => frX12_logOf _ hst hc) fun v141 M141 _ hM141 => ?_
        exact hL149 p0 p1 p3 p4 p5 p6 v121 (shlI (v141 - 9) 3) _ g_p0 g_v121 hM141
      · exact hL149 p0 p1 p3 p4 p5 p6 v121 0 _ g_p0 g_v121 hM113
    · exact hL152 p0 p1 p3 p4 p5 p6 _ g_p0 hM113
  have hL71 : ∀ (p0 : Option Nat) (p1 : Int32) (p2 : Int32) (p3 : Int32) (p4 : Int32) (p5 : Int32) (q0 : Int32) (M : Mem) (g_p0 : inG G p0) (hM : FrG G wkX6_writeHead MM M), okv (fun _ : Unit => True) MM G wkX6_writeHead (fX6_writeHead_L71 p0 p1 p2 p3 p4 p5 q0 M) := by
    intro p0 p1 p2 p3 p4 p5 q0 M g_p0 hM
    unfold fX6_writeHead_L71
    refine k_bn fun v71 => ?_
    refine k_gR hM g_p0 fun v74 g_v74 => ?_
    refine k_bo fun _ => ?_
    refine k_call (by decide) hM (fun hc => frX8_addNumber _ _ _ hst hc g_v74) fun v81 M81 _ hM81 => ?_
    refine k_gR hM81 g_p0 fun v85 g_v85 => ?_
    refine k_if ?_ ?_
    · exact hL103 p0 p1 p2 p3 p4 p5 v71 v85 (shlI v71 6) 0 _ g_p0 g_v85 hM81
    · exact hL103 p0 p1 p2 p3 p4 p5 v71 v85 (shlI v71 6) 32 _ g_p0 g_v85 hM81
  have hL70 : ∀ (p0 : Option Nat) (p1 : Int32) (p2 : Int32) (p3 : Int32) (p4 : Int32) (p5 : Int32) (M : Mem) (g_p0 : inG G p0) (hM : FrG G wkX6_writeHead MM M), okv (fun _ : Unit => True) MM G wkX6_writeHead (fX6_writeHead_L70 p0 p1 p2 p3 p4 p5 M) := by
    intro p0 p1 p2 p3 p4 p5 M g_p0 hM
    unfold fX6_writeHead_L70
    exact hL71 p0 p1 p2 p3 p4 p5 0 _ g_p0 hM
  have hL52 : ∀ (p0 : Option Nat) (p1 : Int32) (p2 : Int32) (p3 : Int32) (p4 : Int32) (q0 : Int32) (M : Mem) (g_p0 : inG G p0) (hM : FrG G wkX6_writeHead MM M), okv (fun _ : Unit => True) MM G wkX6_writeHead (fX6_writeHead_L52 p0 p1 p2 p3 p4 q0 M) := by
    intro p0 p1 p2 p3 p4 q0 M g_p0 hM
    unfold fX6_writeHead_L52
    refine k_bn fun v52 => ?_
    refine k_if ?_ ?_
    · exact hL70 p0 p1 p2 p3 p4 v52 _ g_p0 hM
    · refine k_if ?_ ?_
      · exact hL70 p0 p1 p2 p3 p4 v52 _ g_p0 hM
      · exact hL71 p0 p1 p2 p3 p4 v52 1 _ g_p0 hM
  have hL11 : ∀ (p0 : Option Nat) (p1 : Int32) (p2 : Int32) (q0 : Int32) (M : Mem) (g_p0 : inG G p0) (hM : FrG G wkX6_writeHead MM M), okv (fun _ : Unit => True) MM G wkX6_writeHead (fX6_writeHead_L11 p0 p1 p2 q0 M) := by
    intro p0 p1 p2 q0 M g_p0 hM
    unfold fX6_writeHead_L11
    refine k_bn fun v11 => ?_
    refine k_gR hM g_p0 fun v13 g_v13 => ?_
    refine k_bo fun v16 => ?_
    refine k_bn fun v19 => ?_
    refine k_if ?_ ?_
    · exact hL52 p0 p1 p2 v11 v19 0 _ g_p0 hM
    · refine k_if ?_ ?_
      · exact hL52 p0 p1 p2 v11 v19 1 _ g_p0 hM
      · refine k_if ?_ ?_
        · exact hL52 p0 p1 p2 v11 v19 2 _ g_p0 hM
        · exact hL52 p0 p1 p2 v11 v19 3 _ g_p0 hM
  unfold fX6_writeHead
  refine k_if ?_ ?_
  · exact hL11 a0 a1 a2 0 _ g_a0 hMM
  · exact hL11 a0 a1 a2 1 _ g_a0 hMM
def wkX8_same : List Nat := []
set_option maxRecDepth 100000 in
set_option maxHeartbeats 4000000 in
theorem frX8_same {G : Nat → Prop} {MM : Mem} (a0 : Option Nat) (a1 : Int32) (a2 : Int32) (hst : ∀ k, k < 10 → G k) (hc : Cl G MM) (g_a0 : inG G a0) : okv z01 MM G wkX8_same (fX8_same a0 a1 a2 MM) := by
  have hMM : FrG G wkX8_same MM MM := FrG.rf hc
  have hL4 : ∀ (p0 : Option Nat) (p1 : Int32) (p2 : Int32) (p3 : Int32) (M : Mem) (g_p0 : inG G p0) (hM : FrG G wkX8_same MM M), okv z01 MM G wkX8_same (fX8_same_L4 p0 p1 p2 p3 M) := by
    intro p0 p1 p2 p3 M g_p0 hM
    refine k_lp (T := fun a : Option Nat × Int32 × Int32 × Int32 => inG G (a.1)) ?_ FU ((p0, p1, p2, p3)) M g_p0 hM
    intro k4 hk4 a M T hM
    obtain ⟨p0, p1, p2, p3⟩ := a
    have g_p0 := T
    show okv z01 MM G wkX8_same (fX8_same_B4 k4 p0 p1 p2 p3 M)
    unfold fX8_same_B4
    refine k_if ?_ ?_
    · exact k_retZ hM
    · refine k_bo fun _ => ?_
      refine k_call (by decide) hM (fun hc => frX8_get _ _ hst hc g_p0) fun v11 M11 _ hM11 => ?_
      refine k_bo fun _ => ?_
      refine k_call (by decide) hM11 (fun hc => frX8_get _ _ hst hc g_p0) fun v16 M16 _ hM16 => ?_
      refine k_if ?_ ?_
      · refine k_bn fun v24 => ?_
        exact hk4 ((p0, p1, p2, v24)) _ g_p0 hM16
      · exact k_retZ hM16
  unfold fX8_same
  refine k_bn fun v3 => ?_
  exact hL4 a0 a1 a2 v3 _ g_a0 hMM
def wkX6_valueOf : List Nat := []
set_option maxRecDepth 100000 in
set_option maxHeartbeats 4000000 in
theorem frX6_valueOf {G : Nat → Prop} {MM : Mem} (a0 : Option Nat) (a1 : Int32) (a2 : Int32) (hst : ∀ k, k < 10 → G k) (hc : Cl G MM) (g_a0 : inG G a0) : okv (fun _ : Int32 => True) MM G wkX6_valueOf (fX6_valueOf a0 a1 a2 MM) := by
  have hMM : FrG G wkX6_valueOf MM MM := FrG.rf hc
  have hL2 : ∀ (p0 : Option Nat) (p1 : Int32) (p2 : Int32) (p3 : Int32) (M : Mem) (g_p0 : inG G p0) (hM : FrG G wkX6_valueOf MM M), okv (fun _ : Int32 => True) MM G wkX6_valueOf (fX6_valueOf_L2 p0 p1 p2 p3 M) := by
    intro p0 p1 p2 p3 M g_p0 hM
    refine k_lp (T := fun a : Option Nat × Int32 × Int32 × Int32 => inG G (a.1)) ?_ FU ((p0, p1, p2, p3)) M g_p0 hM
    intro k2 hk2 a M T hM
    obtain ⟨p0, p1, p2, p3⟩ := a
    have g_p0 := T
    show okv (fun _ : Int32 => True) MM G wkX6_valueOf (fX6_valueOf_B2 k2 p0 p1 p2 p3 M)
    unfold fX6_valueOf_B2
    refine k_if ?_ ?_
    · exact k_ret hM trivial
    · refine k_gR hM g_p0 fun v8 g_v8 => ?_
      refine k_call (by decide) hM (fun hc => frX12_offsetOf _ _ _ hst hc g_v8) fun v14 M14 _ hM14 => ?_
      refine k_if ?_ ?_
      · exact k_ret hM14 trivial
      · refine k_bn fun v25 => ?_
        exact hk2 ((p0, p1, p2, v25)) _ g_p0 hM14
  unfold fX6_valueOf
  refine k_bn fun v1 => ?_
  exact hL2 a0 a1 a2 v1 _ g_a0 hMM
def wkX6_allLow : List Nat := []
set_option maxRecDepth 100000 in
set_option maxHeartbeats 4000000 in
theorem frX6_allLow {G : Nat → Prop} {MM : Mem} (a0 : Option Nat) (a1 : Option Nat) (hst : ∀ k, k < 10 → G k) (hc : Cl G MM) (g_a0 : inG G a0) (g_a1 : inG G a1) : okv z01 MM G wkX6_allLow (fX6_allLow a0 a1 MM) := by
  have hMM : FrG G wkX6_allLow MM MM := FrG.rf hc
  have hL2 : ∀ (p1 : Option Nat) (p2 : Int32) (M : Mem) (g_p1 : inG G p1) (hM : FrG G wkX6_allLow MM M), okv z01 MM G wkX6_allLow (fX6_allLow_L2 p1 p2 M) := by
    intro p1 p2 M g_p1 hM
    refine k_lp (T := fun a : Option Nat × Int32 => inG G (a.1)) ?_ FU ((p1, p2)) M g_p1 hM
    intro k2 hk2 a M T hM
    obtain ⟨p1, p2⟩ := a
    have g_p1 := T
    show okv z01 MM G wkX6_allLow (fX6_allLow_B2 k2 p1 p2 M)
    unfold fX6_allLow_B2
    refine k_bo fun v4 => ?_
    refine k_if ?_ ?_
    · exact k_retZ hM
    · refine k_bo fun _ => ?_
      refine k_call (by decide) hM (fun hc => frX8_get _ _ hst hc g_p1) fun v12 M12 _ hM12 => ?_
      refine k_if ?_ ?_
      · refine k_bn fun v22 => ?_
        exact hk2 ((p1, v22)) _ g_p1 hM12
      · exact k_retZ hM12
  unfold fX6_allLow
  refine k_bn fun v1 => ?_
  exact hL2 a1 v1 _ g_a1 hMM
def wkX11_least : List Nat := []
set_option maxRecDepth 100000 in
set_option maxHeartbeats 4000000 in
theorem frX11_least {G : Nat → Prop} {MM : Mem} (a0 : Option Nat) (a1 : Int32) (hst : ∀ k, k < 10 → G k) (hc : Cl G MM) (g_a0 : inG G a0) : okv (fun _ : Int32 => True) MM G wkX11_least (fX11_least a0 a1 MM) := by
  have hMM : FrG G wkX11_least MM MM := FrG.rf hc
  have hL48 : ∀ (k4 : Option Nat × Int32 × Int32 × Int32 → Mem → Option (Int32 × Mem)) (hk4 : ∀ a M, (inG G (a.1)) → FrG G wkX11_least MM M → okv (fun _ : Int32 => True) MM G wkX11_least (k4 a M)) (p0 : Option Nat) (p1 : Int32) (p2 : Int32) (p3 : Int32) (M : Mem) (g_p0 : inG G p0) (hM : FrG G wkX11_least MM M), okv (fun _ : Int32 => True) MM G wkX11_least (fX11_least_L48 k4 p0 p1 p2 p3 M) := by
    intro k4 hk4 p0 p1 p2 p3 M g_p0 hM
    unfold fX11_least_L48
    refine k_bn fun v48 => ?_
    exact hk4 ((p0, p1, p2, v48)) _ g_p0 hM
  have hL46 : ∀ (k4 : Option Nat × Int32 × Int32 × Int32 → Mem → Option (Int32 × Mem)) (hk4 : ∀ a M, (inG G (a.1)) → FrG G wkX11_least MM M → okv (fun _ : Int32 => True) MM G wkX11_least (k4 a M)) (p0 : Option Nat) (p1 : Int32) (p3 : Int32) (M : Mem) (g_p0 : inG G p0) (hM : FrG G wkX11_least MM M), okv (fun _ : Int32 => True) MM G wkX11_least (fX11_least_L46 k4 p0 p1 p3 M) := by
    intro k4 hk4 p0 p1 p3 M g_p0 hM
    unfold fX11_least_L46
    refine k_bn fun v47 => ?_
    exact hL48 k4 hk4 p0 p1 v47 p3 _ g_p0 hM
  have hL4 : ∀ (p0 : Option Nat) (p1 : Int32) (p2 : Int32) (p3 : Int32) (M : Mem) (g_p0 : inG G p0) (hM : FrG G wkX11_least MM M), okv (fun _ : Int32 => True) MM G wkX11_least (fX11_least_L4 p0 p1 p2 p3 M) := by
    intro p0 p1 p2 p3 M g_p0 hM
    refine k_lp (T := fun a : Option Nat × Int32 × Int32 × Int32 => inG G (a.1)) ?_ FU ((p0, p1, p2, p3)) M g_p0 hM
    intro k4 hk4 a M T hM
    obtain ⟨p0, p1, p2, p3⟩ := a
    have g_p0 := T
    show okv (fun _ : Int32 => True) MM G wkX11_least (fX11_least_B4 k4 p0 p1 p2 p3 M)
    unfold fX11_least_B4
    refine k_if ?_ ?_
    · exact k_ret hM trivial
    · refine k_gR hM g_p0 fun v10 g_v10 => ?_
      refine k_bo fun v14 => ?_
      refine k_if ?_ ?_
      · exact hL48 k4 hk4 p0 p1 p2 p3 _ g_p0 hM
      · refine k_gR hM g_p0 fun v19 g_v19 => ?_
        refine k_bo fun v23 => ?_
        refine k_if ?_ ?_
        · exact hL48 k4 hk4 p0 p1 p2 p3 _ g_p0 hM
        · refine k_if ?_ ?_
          · exact hL46 k4 hk4 p0 p1 p3 _ g_p0 hM
          · refine k_gR hM g_p0 fun v32 g_v32 => ?_
            refine k_bo fun v36 => ?_
            refine k_gR hM g_p0 fun v38 g_v38 => ?_
            refine k_bo fun v42 => ?_
            refine k_if ?_ ?_
            · exact hL48 k4 hk4 p0 p1 p2 p3 _ g_p0 hM
            · exact hL46 k4 hk4 p0 p1 p3 _ g_p0 hM
  unfold fX11_least
  refine k_bn fun v1 => ?_
  refine k_bn fun v3 => ?_
  exact hL4 a0 a1 v1 v3 _ g_a0 hMM
def wkX11_join : List Nat := [1500]
set_option maxRecDepth 100000 in
set_option maxHeartbeats 4000000 in
theorem frX11_join {G : Nat → Prop} {MM : Mem} (a0 : Option Nat) (hst : ∀ k, k < 10 → G k) (hc : Cl G MM) (g_a0 : inG G a0) : okv (fun _ : Int32 => True) MM G wkX11_join (fX11_join a0 MM) := by
  have hMM : FrG G wkX11_join MM MM := FrG.rf hc
  have hL157 : ∀ (k96 : Option Nat × Int32 × Int32 × Int32 → Mem → Option (Int32 × Mem)) (hk96 : ∀ a M, (inG G (a.1)) → FrG G wkX11_join MM M → okv (fun _ : Int32 => True) MM G wkX11_join (k96 a M)) (p0 : Option Nat) (p1 : Int32) (p2 : Int32) (p3 : Int32) (q0 : Option Nat) (q1 : Int32) (q2 : Int32) (M : Mem) (g_p0 : inG G p0) (g_q0 : inG G q0) (hM : FrG G wkX11_join MM M), okv (fun _ : Int32 => True) MM G wkX11_join (fX11_join_L157 k96 p0 p1 p2 p3 q0 q1 q2 M) := by
    intro k96 hk96 p0 p1 p2 p3 q0 q1 q2 M g_p0 g_q0 hM
    unfold fX11_join_L157
    refine k_wI (by decide) hM g_q0 fun M157 hM157 => ?_
    refine k_gR hM157 g_p0 fun v160 g_v160 => ?_
    refine k_bo fun v164 => ?_
    refine k_bn fun v168 => ?_
    refine k_bn fun v169 => ?_
    exact hk96 ((p0, p1, v168, v169)) _ g_p0 hM157
  have hL128 : ∀ (k96 : Option Nat × Int32 × Int32 × Int32 → Mem → Option (Int32 × Mem)) (hk96 : ∀ a M, (inG G (a.1)) → FrG G wkX11_join MM M → okv (fun _ : Int32 => True) MM G wkX11_join (k96 a M)) (p0 : Option Nat) (p1 : Int32) (p2 : Int32) (p3 : Int32) (q0 : Int32) (M : Mem) (g_p0 : inG G p0) (hM : FrG G wkX11_join MM M), okv (fun _ : Int32 => True) MM G wkX11_join (fX11_join_L128 k96 p0 p1 p2 p3 q0 M) := by
    intro k96 hk96 p0 p1 p2 p3 q0 M g_p0 hM
    unfold fX11_join_L128
    refine k_bn fun v128 => ?_
    refine k_gR hM g_p0 fun v131 g_v131 => ?_
    refine k_if ?_ ?_
    · exact hL157 k96 hk96 p0 p1 p2 p3 v131 p3 0 _ g_p0 g_v131 hM
    · refine k_gR hM g_p0 fun v141 g_v141 => ?_
      refine k_gR hM g_p0 fun v145 g_v145 => ?_
      refine k_bo fun v149 => ?_
      refine k_bo fun v150 => ?_
      exact hL157 k96 hk96 p0 p1 p2 p3 v131 p3 (v150 + 1) _ g_p0 g_v131 hM
  have hL127 : ∀ (k96 : Option Nat × Int32 × Int32 × Int32 → Mem → Option (Int32 × Mem)) (hk96 : ∀ a M, (inG G (a.1)) → FrG G wkX11_join MM M → okv (fun _ : Int32 => True) MM G wkX11_join (k96 a M)) (p0 : Option Nat) (p1 : Int32) (p2 : Int32) (p3 : Int32) (M : Mem) (g_p0 : inG G p0) (hM : FrG G wkX11_join MM M), okv (fun _ : Int32 => True) MM G wkX11_join (fX11_join_L127 k96 p0 p1 p2 p3 M) := by
    intro k96 hk96 p0 p1 p2 p3 M g_p0 hM
    unfold fX11_join_L127
    exact hL128 k96 hk96 p0 p1 p2 p3 0 _ g_p0 hM
  have hL96 : ∀ (p0 : Option Nat) (p1 : Int32) (p2 : Int32) (p3 : Int32) (M : Mem) (g_p0 : inG G p0) (hM : FrG G wkX11_join MM M), okv (fun _ : Int32 => True) MM G wkX11_join (fX11_join_L96 p0 p1 p2 p3 M) := by
    intro p0 p1 p2 p3 M g_p0 hM
    refine k_lp (T := fun a : Option Nat × Int32 × Int32 × Int32 => inG G (a.1)) ?_ FU ((p0, p1, p2, p3)) M g_p0 hM
    intro k96 hk96 a M T hM
    obtain ⟨p0, p1, p2, p3⟩ := a
    have g_p0 := T
    show okv (fun _ : Int32 => True) MM G wkX11_join (fX11_join_B96 k96 p0 p1 p2 p3 M)
    unfold fX11_join_B96
    refine k_if ?_ ?_
    · exact k_ret hM trivial
    · refine k_if ?_ ?_
      · exact hL127 k96 hk96 p0 p1 p2 p3 _ g_p0 hM
      · refine k_gR hM g_p0 fun v106 g_v106 => ?_
        refine k_bo fun v110 => ?_
        refine k_if ?_ ?_
        · exact hL127 k96 hk96 p0 p1 p2 p3 _ g_p0 hM
        · refine k_gR hM g_p0 fun v115 g_v115 => ?_
          refine k_bo fun v119 => ?_
          refine k_if ?_ ?_
          · exact hL127 k96 hk96 p0 p1 p2 p3 _ g_p0 hM
          · exact hL128 k96 hk96 p0 p1 p2 p3 1 _ g_p0 hM
  have hL92 : ∀ (p0 : Option Nat) (p1 : Int32) (M : Mem) (g_p0 : inG G p0) (hM : FrG G wkX11_join MM M), okv (fun _ : Int32 => True) MM G wkX11_join (fX11_join_L92 p0 p1 M) := by
    intro p0 p1 M g_p0 hM
    unfold fX11_join_L92
    refine k_bn fun v93 => ?_
    refine k_bn fun v95 => ?_
    exact hL96 p0 p1 v93 v95 _ g_p0 hM
  have hL14 : ∀ (p0 : Option Nat) (p1 : Int32) (p2 : Int32) (M : Mem) (g_p0 : inG G p0) (hM : FrG G wkX11_join MM M), okv (fun _ : Int32 => True) MM G wkX11_join (fX11_join_L14 p0 p1 p2 M) := by
    intro p0 p1 p2 M g_p0 hM
    refine k_lp (T := fun a : Option Nat × Int32 × Int32 => inG G (a.1)) ?_ FU ((p0, p1, p2)) M g_p0 hM
    intro k14 hk14 a M T hM
    obtain ⟨p0, p1, p2⟩ := a
    have g_p0 := T
    show okv (fun _ : Int32 => True) MM G wkX11_join (fX11_join_B14 k14 p0 p1 p2 M)
    unfold fX11_join_B14
    refine k_if ?_ ?_
    · exact hL92 p0 p1 _ g_p0 hM
    · refine k_bo fun _ => ?_
      refine k_call (by decide) hM (fun hc => frX11_least _ _ hst hc g_p0) fun v23 M23 _ hM23 => ?_
      refine k_bn fun v26 => ?_
      refine k_if ?_ ?_
      · refine k_gR hM23 g_p0 fun v35 g_v35 => ?_
        refine k_wI (by decide) hM23 g_v35 fun M40 hM40 => ?_
        refine k_bo fun _ => ?_
        refine k_call (by decide) hM40 (fun hc => frX11_least _ _ hst hc g_p0) fun v43 M43 _ hM43 => ?_
        refine k_bn fun v46 => ?_
        refine k_if ?_ ?_
        · refine k_gR hM43 g_p0 fun v57 g_v57 => ?_
          refine k_wI (by decide) hM43 g_v57 fun M63 hM63 => ?_
          refine k_gR hM63 g_p0 fun v65 g_v65 => ?_
          refine k_gR hM63 g_p0 fun v70 g_v70 => ?_
          refine k_bo fun v74 => ?_
          refine k_gR hM63 g_p0 fun v76 g_v76 => ?_
          refine k_bo fun v81 => ?_
          refine k_wI (by decide) hM63 g_v65 fun M83 hM83 => ?_
          refine k_bn fun v85 => ?_
          refine k_bn fun v86 => ?_
          exact hk14 ((p0, v85, v86)) _ g_p0 hM83
        · exact hL92 p0 p1 _ g_p0 hM43
      · exact hL92 p0 p1 _ g_p0 hM23
  unfold fX11_join
  refine k_gR hMM g_a0 fun v1 g_v1 => ?_
  refine k_call (by decide) hMM (fun hc => frJ7_fill_53178 _ _ hst hc g_v1) fun v5 M5 _ hM5 => ?_
  refine k_bn fun v9 => ?_
  refine k_bn fun v13 => ?_
  exact hL14 a0 v9 v13 _ g_a0 hM5
def wkX11_make : List Nat := [1101, 1102, 1500]
set_option maxRecDepth 100000 in
set_option maxHeartbeats 4000000 in
theorem frX11_make {G : Nat → Prop} {MM : Mem} (a0 : Option Nat) (a1 : Option Nat) (hst : ∀ k, k < 10 → G k) (hc : Cl G MM) (g_a0 : inG G a0) (g_a1 : inG G a1) : okv (fun _ : Unit => True) MM G wkX11_make (fX11_make a0 a1 MM) := by
  have hMM : FrG G wkX11_make MM MM := FrG.rf hc
  have hL177 : ∀ (k118 : Option Nat × Int32 → Mem → Option (Unit × Mem)) (hk118 : ∀ a M, (inG G (a.1)) → FrG G wkX11_make MM M → okv (fun _ : Unit => True) MM G wkX11_make (k118 a M)) (p0 : Option Nat) (p2 : Int32) (q0 : Option Nat) (q1 : Int32) (M : Mem) (g_p0 : inG G p0) (g_q0 : inG G q0) (hM : FrG G wkX11_make MM M), okv (fun _ : Unit => True) MM G wkX11_make (fX11_make_L177 k118 p0 p2 q0 q1 M) := by
    intro k118 hk118 p0 p2 q0 q1 M g_p0 g_q0 hM
    unfold fX11_make_L177
    refine k_pI (by decide) (by decide) (by decide) hM g_q0 fun M177 hM177 => ?_
    refine k_bn fun v180 => ?_
    exact hk118 ((p0, v180)) _ g_p0 hM177
  have hL156 : ∀ (k118 : Option Nat × Int32 → Mem → Option (Unit × Mem)) (hk118 : ∀ a M, (inG G (a.1)) → FrG G wkX11_make MM M → okv (fun _ : Unit => True) MM G wkX11_make (k118 a M)) (p0 : Option Nat) (p2 : Int32) (q0 : Option Nat) (q1 : Int32) (q2 : Int32) (M : Mem) (g_p0 : inG G p0) (g_q0 : inG G q0) (hM : FrG G wkX11_make MM M), okv (fun _ : Unit => True) MM G wkX11_make (fX11_make_L156 k118 p0 p2 q0 q1 q2 M) := by
    intro k118 hk118 p0 p2 q0 q1 q2 M g_p0 g_q0 hM
    unfold fX11_make_L156
    refine k_wI (by decide) hM g_q0 fun M156 hM156 => ?_
    refine k_gR hM156 g_p0 fun v159 g_v159 => ?_
    refine k_bo fun v163 => ?_
    refine k_if ?_ ?_
    · refine k_bo fun v168 => ?_
      exact hL177 k118 hk118 p0 p2 p0 v168 _ g_p0 g_p0 hM156
    · exact hL177 k118 hk118 p0 p2 p0 (p2 + 1) _ g_p0 g_p0 hM156
  have hL118 : ∀ (p0 : Option Nat) (p2 : Int32) (M : Mem) (g_p0 : inG G p0) (hM : FrG G wkX11_make MM M), okv (fun _ : Unit => True) MM G wkX11_make (fX11_make_L118 p0 p2 M) := by
    intro p0 p2 M g_p0 hM
    refine k_lp (T := fun a : Option Nat × Int32 => inG G (a.1)) ?_ FU ((p0, p2)) M g_p0 hM
    intro k118 hk118 a M T hM
    obtain ⟨p0, p2⟩ := a
    have g_p0 := T
    show okv (fun _ : Unit => True) MM G wkX11_make (fX11_make_B118 k118 p0 p2 M)
    unfold fX11_make_B118
    refine k_if ?_ ?_
    · exact k_ret hM trivial
    · refine k_gR hM g_p0 fun v126 g_v126 => ?_
      refine k_gR hM g_p0 fun v131 g_v131 => ?_
      refine k_bo fun v135 => ?_
      refine k_if ?_ ?_
      · exact hL156 k118 hk118 p0 p2 v126 p2 0 _ g_p0 g_v126 hM
      · refine k_bo fun v144 => ?_
        refine k_gR hM g_p0 fun v150 g_v150 => ?_
        refine k_bo fun v154 => ?_
        exact hL156 k118 hk118 p0 p2 v126 p2 ((v144 + 1) - v154) _ g_p0 g_v126 hM
  have hL111 : ∀ (p0 : Option Nat) (M : Mem) (g_p0 : inG G p0) (hM : FrG G wkX11_make MM M), okv (fun _ : Unit => True) MM G wkX11_make (fX11_make_L111 p0 M) := by
    intro p0 M g_p0 hM
    unfold fX11_make_L111
    refine k_pI (by decide) (by decide) (by decide) hM g_p0 fun M113 hM113 => ?_
    refine k_bn fun v117 => ?_
    exact hL118 p0 v117 _ g_p0 hM113
  have hL68 : ∀ (k51 : Option Nat × Int32 → Mem → Option (Unit × Mem)) (hk51 : ∀ a M, (inG G (a.1)) → FrG G wkX11_make MM M → okv (fun _ : Unit => True) MM G wkX11_make (k51 a M)) (p0 : Option Nat) (p2 : Int32) (p3 : Int32) (M : Mem) (g_p0 : inG G p0) (hM : FrG G wkX11_make MM M), okv (fun _ : Unit => True) MM G wkX11_make (fX11_make_L68 k51 p0 p2 p3 M) := by
    intro k51 hk51 p0 p2 p3 M g_p0 hM
    refine k_lp (T := fun a : Option Nat × Int32 × Int32 => inG G (a.1)) ?_ FU ((p0, p2, p3)) M g_p0 hM
    intro k68 hk68 a M T hM
    obtain ⟨p0, p2, p3⟩ := a
    have g_p0 := T
    show okv (fun _ : Unit => True) MM G wkX11_make (fX11_make_B68 k51 k68 p0 p2 p3 M)
    unfold fX11_make_B68
    refine k_if ?_ ?_
    · refine k_bo fun _ => ?_
      refine k_call (by decide) hM (fun hc => frX11_join _ hst hc g_p0) fun v99 M99 _ hM99 => ?_
      refine k_pI (by decide) (by decide) (by decide) hM99 g_p0 fun M102 hM102 => ?_
      refine k_bn fun v105 => ?_
      exact hk51 ((p0, v105)) _ g_p0 hM102
    · refine k_gR hM g_p0 fun v76 g_v76 => ?_
      refine k_gR hM g_p0 fun v81 g_v81 => ?_
      refine k_bo fun v85 => ?_
      refine k_bo fun v89 => ?_
      refine k_wI (by decide) hM g_v76 fun M90 hM90 => ?_
      refine k_bn fun v91 => ?_
      exact hk68 ((p0, p2, v91)) _ g_p0 hM90
  have hL51 : ∀ (p0 : Option Nat) (p2 : Int32) (M : Mem) (g_p0 : inG G p0) (hM : FrG G wkX11_make MM M), okv (fun _ : Unit => True) MM G wkX11_make (fX11_make_L51 p0 p2 M) := by
    intro p0 p2 M g_p0 hM
    refine k_lp (T := fun a : Option Nat × Int32 => inG G (a.1)) ?_ FU ((p0, p2)) M g_p0 hM
    intro k51 hk51 a M T hM
    obtain ⟨p0, p2⟩ := a
    have g_p0 := T
    show okv (fun _ : Unit => True) MM G wkX11_make (fX11_make_B51 k51 p0 p2 M)
    unfold fX11_make_B51
    refine k_if ?_ ?_
    · exact hL111 p0 _ g_p0 hM
    · refine k_bo fun v58 => ?_
      refine k_if ?_ ?_
      · exact hL111 p0 _ g_p0 hM
      · refine k_bn fun v67 => ?_
        exact hL68 k51 hk51 p0 p2 v67 _ g_p0 hM
  have hL10 : ∀ (p0 : Option Nat) (p1 : Option Nat) (p2 : Int32) (M : Mem) (g_p0 : inG G p0) (g_p1 : inG G p1) (hM : FrG G wkX11_make MM M), okv (fun _ : Unit => True) MM G wkX11_make (fX11_make_L10 p0 p1 p2 M) := by
    intro p0 p1 p2 M g_p0 g_p1 hM
    refine k_lp (T := fun a : Option Nat × Option Nat × Int32 => inG G (a.1) ∧ inG G (a.2.1)) ?_ FU ((p0, p1, p2)) M ⟨g_p0, g_p1⟩ hM
    intro k10 hk10 a M T hM
    obtain ⟨p0, p1, p2⟩ := a
    obtain ⟨g_p0, g_p1⟩ := T
    show okv (fun _ : Unit => True) MM G wkX11_make (fX11_make_B10 k10 p0 p1 p2 M)
    unfold fX11_make_B10
    refine k_bo fun v12 => ?_
    refine k_if ?_ ?_
    · refine k_bo fun _ => ?_
      refine k_call (by decide) hM (fun hc => frX11_join _ hst hc g_p0) fun v43 M43 _ hM43 => ?_
      refine k_pI (by decide) (by decide) (by decide) hM43 g_p0 fun M46 hM46 => ?_
      refine k_bn fun v50 => ?_
      exact hL51 p0 v50 _ g_p0 hM46
    · refine k_gR hM g_p0 fun v19 g_v19 => ?_
      refine k_bo fun _ => ?_
      refine k_call (by decide) hM (fun hc => frX8_get _ _ hst hc g_p1) fun v24 M24 _ hM24 => ?_
      refine k_bo fun v31 => ?_
      refine k_wI (by decide) hM24 g_v19 fun M34 hM34 => ?_
      refine k_bn fun v35 => ?_
      exact hk10 ((p0, p1, v35)) _ ⟨g_p0, g_p1⟩ hM34
  unfold fX11_make
  refine k_gR hMM g_a0 fun v1 g_v1 => ?_
  refine k_call (by decide) hMM (fun hc => frJ7_fill_53178 _ _ hst hc g_v1) fun v5 M5 _ hM5 => ?_
  refine k_bn fun v9 => ?_
  exact hL10 a0 a1 v9 _ g_a0 g_a1 hM5
def wkX6_writeWeights : List Nat := [801, 1400]
set_option maxRecDepth 100000 in
set_option maxHeartbeats 4000000 in
theorem frX6_writeWeights {G : Nat → Prop} {MM : Mem} (a0 : Option Nat) (hst : ∀ k, k < 10 → G k) (hc : Cl G MM) (g_a0 : inG G a0) : okv (fun _ : Unit => True) MM G wkX6_writeWeights (fX6_writeWeights a0 MM) := by
  have hMM : FrG G wkX6_writeWeights MM MM := FrG.rf hc
  have hL60 : ∀ (k23 : Option Nat × Int32 × Int32 → Mem → Option (Unit × Mem)) (hk23 : ∀ a M, (inG G (a.1)) → FrG G wkX6_writeWeights MM M → okv (fun _ : Unit => True) MM G wkX6_writeWeights (k23 a M)) (p0 : Option Nat) (p1 : Int32) (p2 : Int32) (p3 : Int32) (q0 : Int32) (M : Mem) (g_p0 : inG G p0) (hM : FrG G wkX6_writeWeights MM M), okv (fun _ : Unit => True) MM G wkX6_writeWeights (fX6_writeWeights_L60 k23 p0 p1 p2 p3 q0 M) := by
    intro k23 hk23 p0 p1 p2 p3 q0 M g_p0 hM
    unfold fX6_writeWeights_L60
    refine k_bn fun v60 => ?_
    refine k_gR hM g_p0 fun v63 g_v63 => ?_
    refine k_bo fun _ => ?_
    refine k_call (by decide) hM (fun hc => frX8_add _ _ hst hc g_v63) fun v72 M72 _ hM72 => ?_
    refine k_bn fun v75 => ?_
    exact hk23 ((p0, p1, v75)) _ g_p0 hM72
  have hL23 : ∀ (p0 : Option Nat) (p1 : Int32) (p2 : Int32) (M : Mem) (g_p0 : inG G p0) (hM : FrG G wkX6_writeWeights MM M), okv (fun _ : Unit => True) MM G wkX6_writeWeights (fX6_writeWeights_L23 p0 p1 p2 M) := by
    intro p0 p1 p2 M g_p0 hM
    refine k_lp (T := fun a : Option Nat × Int32 × Int32 => inG G (a.1)) ?_ FU ((p0, p1, p2)) M g_p0 hM
    intro k23 hk23 a M T hM
    obtain ⟨p0, p1, p2⟩ := a
    have g_p0 := T
    show okv (fun _ : Unit => True) MM G wkX6_writeWeights (fX6_writeWeights_B23 k23 p0 p1 p2 M)
    unfold fX6_writeWeights_B23
    refine k_if ?_ ?_
    · exact k_ret hM trivial
    · refine k_gR hM g_p0 fun v29 g_v29 => ?_
      refine k_gR hM g_v29 fun v32 g_v32 => ?_
      refine k_bo fun v36 => ?_
      refine k_bn fun v37 => ?_
      refine k_if ?_ ?_
      · exact hL60 k23 hk23 p0 p1 p2 v37 0 _ g_p0 hM
      · refine k_gR hM g_p0 fun v46 g_v46 => ?_
        refine k_gR hM g_v46 fun v49 g_v49 => ?_
        refine k_bo fun v55 => ?_
        exact hL60 k23 hk23 p0 p1 p2 v37 v55 _ g_p0 hM
  unfold fX6_writeWeights
  refine k_gR hMM g_a0 fun v1 g_v1 => ?_
  refine k_bo fun v4 => ?_
  refine k_bn fun v9 => ?_
  refine k_gR hMM g_a0 fun v11 g_v11 => ?_
  refine k_bo fun _ => ?_
  refine k_call (by decide) hMM (fun hc => frX8_add _ _ hst hc g_v11) fun v18 M18 _ hM18 => ?_
  refine k_bn fun v22 => ?_
  exact hL23 a0 v9 v22 _ g_a0 hM18
def wkX8_addBits : List Nat := [801, 802, 803, 1400]
set_option maxRecDepth 100000 in
set_option maxHeartbeats 4000000 in
theorem frX8_addBits {G : Nat → Prop} {MM : Mem} (a0 : Option Nat) (a1 : Int64) (a3 : Int32) (hst : ∀ k, k < 10 → G k) (hc : Cl G MM) (g_a0 : inG G a0) : okv (fun _ : Unit => True) MM G wkX8_addBits (fX8_addBits a0 a1 a3 MM) := by
  have hMM : FrG G wkX8_addBits MM MM := FrG.rf hc
  have hL74 : ∀ (k31 : Option Nat → Mem → Option (Unit × Mem)) (hk31 : ∀ a M, (inG G a) → FrG G wkX8_addBits MM M → okv (fun _ : Unit => True) MM G wkX8_addBits (k31 a M)) (p0 : Option Nat) (M : Mem) (g_p0 : inG G p0) (hM : FrG G wkX8_addBits MM M), okv (fun _ : Unit => True) MM G wkX8_addBits (fX8_addBits_L74 k31 p0 M) := by
    intro k31 hk31 p0 M g_p0 hM
    unfold fX8_addBits_L74
    refine k_bo fun v76 => ?_
    refine k_pI (by decide) (by decide) (by decide) hM g_p0 fun M81 hM81 => ?_
    refine k_bo fun v86 => ?_
    refine k_pJ (by decide) (by decide) hM81 g_p0 fun M92 hM92 => ?_
    refine k_bo fun v97 => ?_
    refine k_pI (by decide) (by decide) (by decide) hM92 g_p0 fun M103 hM103 => ?_
    exact hk31 p0 _ g_p0 hM103
  have hL31 : ∀ (p0 : Option Nat) (M : Mem) (g_p0 : inG G p0) (hM : FrG G wkX8_addBits MM M), okv (fun _ : Unit => True) MM G wkX8_addBits (fX8_addBits_L31 p0 M) := by
    intro p0 M g_p0 hM
    refine k_lp (T := fun a : Option Nat => inG G a) ?_ FU p0 M g_p0 hM
    intro k31 hk31 a M T hM
    obtain ⟨p0, rfl⟩ : ∃ z, z = a := ⟨_, rfl⟩
    have g_p0 := T
    show okv (fun _ : Unit => True) MM G wkX8_addBits (fX8_addBits_B31 k31 p0 M)
    unfold fX8_addBits_B31
    refine k_bo fun v32 => ?_
    refine k_if ?_ ?_
    · exact k_ret hM trivial
    · refine k_bo fun v41 => ?_
      refine k_if ?_ ?_
      · exact hL74 k31 hk31 p0 _ g_p0 hM
      · refine k_bo fun v48 => ?_
        refine k_gR hM g_p0 fun v52 g_v52 => ?_
        refine k_bo fun v55 => ?_
        refine k_if ?_ ?_
        · exact hL74 k31 hk31 p0 _ g_p0 hM
        · refine k_gR hM g_p0 fun v60 g_v60 => ?_
          refine k_bo fun v64 => ?_
          refine k_bo fun v68 => ?_
          refine k_wB (by decide) hM g_v60 fun M73 hM73 => ?_
          exact hL74 k31 hk31 p0 _ g_p0 hM73
  unfold fX8_addBits
  refine k_bo fun v2 => ?_
  refine k_bo fun v13 => ?_
  refine k_pJ (by decide) (by decide) hMM g_a0 fun M18 hM18 => ?_
  refine k_bo fun v23 => ?_
  refine k_pI (by decide) (by decide) (by decide) hM18 g_a0 fun M28 hM28 => ?_
  exact hL31 a0 _ g_a0 hM28
def wkX8_endBits : List Nat := [801, 802, 803, 1400]
set_option maxRecDepth 100000 in
set_option maxHeartbeats 4000000 in
theorem frX8_endBits {G : Nat → Prop} {MM : Mem} (a0 : Option Nat) (hst : ∀ k, k < 10 → G k) (hc : Cl G MM) (g_a0 : inG G a0) : okv (fun _ : Unit => True) MM G wkX8_endBits (fX8_endBits a0 MM) := by
  have hMM : FrG G wkX8_endBits MM MM := FrG.rf hc
  unfold fX8_endBits
  refine k_bo fun v5 => ?_
  refine k_bo fun _ => ?_
  refine k_call (by decide) hMM (fun hc => frX8_addBits _ _ _ hst hc g_a0) fun v12 M12 _ hM12 => ?_
  exact k_ret hM12 trivial
def wkX6_writeStream : List Nat := [801, 802, 803, 1400]
set_option maxRecDepth 100000 in
set_option maxHeartbeats 4000000 in
theorem frX6_writeStream {G : Nat → Prop} {MM : Mem} (a0 : Option Nat) (a1 : Option Nat) (a2 : Int32) (a3 : Int32) (hst : ∀ k, k < 10 → G k) (hc : Cl G MM) (g_a0 : inG G a0) (g_a1 : inG G a1) : okv (fun _ : Unit => True) MM G wkX6_writeStream (fX6_writeStream a0 a1 a2 a3 MM) := by
  have hMM : FrG G wkX6_writeStream MM MM := FrG.rf hc
  have hL5 : ∀ (p0 : Option Nat) (p1 : Option Nat) (p2 : Int32) (p4 : Int32) (M : Mem) (g_p0 : inG G p0) (g_p1 : inG G p1) (hM : FrG G wkX6_writeStream MM M), okv (fun _ : Unit => True) MM G wkX6_writeStream (fX6_writeStream_L5 p0 p1 p2 p4 M) := by
    intro p0 p1 p2 p4 M g_p0 g_p1 hM
    refine k_lp (T := fun a : Option Nat × Option Nat × Int32 × Int32 => inG G (a.1) ∧ inG G (a.2.1)) ?_ FU ((p0, p1, p2, p4)) M ⟨g_p0, g_p1⟩ hM
    intro k5 hk5 a M T hM
    obtain ⟨p0, p1, p2, p4⟩ := a
    obtain ⟨g_p0, g_p1⟩ := T
    show okv (fun _ : Unit => True) MM G wkX6_writeStream (fX6_writeStream_B5 k5 p0 p1 p2 p4 M)
    unfold fX6_writeStream_B5
    refine k_if ?_ ?_
    · refine k_gR hM g_p0 fun v54 g_v54 => ?_
      refine k_bo fun _ => ?_
      refine k_call (by decide) hM (fun hc => frX8_addBits _ _ _ hst hc g_v54) fun v59 M59 _ hM59 => ?_
      refine k_gR hM59 g_p0 fun v63 g_v63 => ?_
      refine k_bo fun _ => ?_
      refine k_call (by decide) hM59 (fun hc => frX8_endBits _ hst hc g_v63) fun v66 M66 _ hM66 => ?_
      exact k_ret hM66 trivial
    · refine k_bo fun _ => ?_
      refine k_call (by decide) hM (fun hc => frX8_get _ _ hst hc g_p1) fun v14 M14 _ hM14 => ?_
      refine k_bn fun v17 => ?_
      refine k_gR hM14 g_p0 fun v20 g_v20 => ?_
      refine k_gR hM14 g_p0 fun v24 g_v24 => ?_
      refine k_gR hM14 g_v24 fun v27 g_v27 => ?_
      refine k_bo fun v32 => ?_
      refine k_gR hM14 g_p0 fun v35 g_v35 => ?_
      refine k_gR hM14 g_v35 fun v38 g_v38 => ?_
      refine k_bo fun v43 => ?_
      refine k_bo fun _ => ?_
      refine k_call (by decide) hM14 (fun hc => frX8_addBits _ _ _ hst hc g_v20) fun v44 M44 _ hM44 => ?_
      refine k_bn fun v47 => ?_
      exact hk5 ((p0, p1, p2, v47)) _ ⟨g_p0, g_p1⟩ hM44
  unfold fX6_writeStream
  refine k_bn fun v3 => ?_
  exact hL5 a0 a1 a2 v3 _ g_a0 g_a1 hMM
def wkX6_writeCoded : List Nat := [100, 801, 802, 803, 1101, 1102, 1400, 1500]
set_option maxRecDepth 100000 in
set_option maxHeartbeats 4000000 in
theorem frX6_writeCoded {G : Nat → Prop} {MM : Mem} (a0 : Option Nat) (a1 : Option Nat) (a2 : Int32) (hst : ∀ k, k < 10 → G k) (hc : Cl G MM) (g_a0 : inG G a0) (g_a1 : inG G a1) : okv z01 MM G wkX6_writeCoded (fX6_writeCoded a0 a1 a2 MM) := by
  have hMM : FrG G wkX6_writeCoded MM MM := FrG.rf hc
  have hL254 : ∀ (p0 : Option Nat) (p1 : Option Nat) (p2 : Int32) (p4 : Int32) (p8 : Int32) (M : Mem) (g_p0 : inG G p0) (g_p1 : inG G p1) (hM : FrG G wkX6_writeCoded MM M), okv z01 MM G wkX6_writeCoded (fX6_writeCoded_L254 p0 p1 p2 p4 p8 M) := by
    intro p0 p1 p2 p4 p8 M g_p0 g_p1 hM
    refine k_lp (T := fun a : Option Nat × Option Nat × Int32 × Int32 × Int32 => inG G (a.1) ∧ inG G (a.2.1)) ?_ FU ((p0, p1, p2, p4, p8)) M ⟨g_p0, g_p1⟩ hM
    intro k254 hk254 a M T hM
    obtain ⟨p0, p1, p2, p4, p8⟩ := a
    obtain ⟨g_p0, g_p1⟩ := T
    show okv z01 MM G wkX6_writeCoded (fX6_writeCoded_B254 k254 p0 p1 p2 p4 p8 M)
    unfold fX6_writeCoded_B254
    refine k_if ?_ ?_
    · exact k_retZ hM
    · refine k_bo fun _ => ?_
      refine k_call (by decide) hM (fun hc => frX6_writeStream _ _ _ _ hst hc g_p0 g_p1) fun v273 M273 _ hM273 => ?_
      refine k_bn fun v281 => ?_
      exact hk254 ((p0, p1, p2, p4, v281)) _ ⟨g_p0, g_p1⟩ hM273
  have hL251 : ∀ (p0 : Option Nat) (p1 : Option Nat) (p2 : Int32) (p4 : Int32) (M : Mem) (g_p0 : inG G p0) (g_p1 : inG G p1) (hM : FrG G wkX6_writeCoded MM M), okv z01 MM G wkX6_writeCoded (fX6_writeCoded_L251 p0 p1 p2 p4 M) := by
    intro p0 p1 p2 p4 M g_p0 g_p1 hM
    unfold fX6_writeCoded_L251
    refine k_bn fun v252 => ?_
    exact hL254 p0 p1 p2 p4 v252 _ g_p0 g_p1 hM
  have hL204 : ∀ (p0 : Option Nat) (p1 : Option Nat) (p2 : Int32) (p3 : Int32) (p4 : Int32) (p8 : Int32) (M : Mem) (g_p0 : inG G p0) (g_p1 : inG G p1) (hM : FrG G wkX6_writeCoded MM M), okv z01 MM G wkX6_writeCoded (fX6_writeCoded_L204 p0 p1 p2 p3 p4 p8 M) := by
    intro p0 p1 p2 p3 p4 p8 M g_p0 g_p1 hM
    refine k_lp (T := fun a : Option Nat × Option Nat × Int32 × Int32 × Int32 × Int32 => inG G (a.1) ∧ inG G (a.2.1)) ?_ FU ((p0, p1, p2, p3, p4, p8)) M ⟨g_p0, g_p1⟩ hM
    intro k204 hk204 a M T hM
    obtain ⟨p0, p1, p2, p3, p4, p8⟩ := a
    obtain ⟨g_p0, g_p1⟩ := T
    show okv z01 MM G wkX6_writeCoded (fX6_writeCoded_B204 k204 p0 p1 p2 p3 p4 p8 M)
    unfold fX6_writeCoded_B204
    refine k_if ?_ ?_
    · refine k_if ?_ ?_
      · exact hL251 p0 p1 p2 p4 _ g_p0 g_p1 hM
      · refine k_gR hM g_p0 fun v218 g_v218 => ?_
        refine k_gR hM g_p0 fun v222 g_v222 => ?_
        refine k_bo fun _ => ?_
        refine k_call (by decide) hM (fun hc => frX1_lengthOf _ _ _ _ hst hc g_v222 g_p1) fun v233 M233 _ hM233 => ?_
        refine k_bo fun _ => ?_
        refine k_call (by decide) hM233 (fun hc => frX8_addNumber _ _ _ hst hc g_v218) fun v238 M238 _ hM238 => ?_
        refine k_bn fun v246 => ?_
        exact hk204 ((p0, p1, p2, p3, p4, v246)) _ ⟨g_p0, g_p1⟩ hM238
    · exact hL251 p0 p1 p2 p4 _ g_p0 g_p1 hM
  have hL194 : ∀ (p0 : Option Nat) (p1 : Option Nat) (p2 : Int32) (p3 : Int32) (p4 : Int32) (q0 : Option Nat) (q1 : Int64) (q2 : Int32) (M : Mem) (g_p0 : inG G p0) (g_p1 : inG G p1) (g_q0 : inG G q0) (hM : FrG G wkX6_writeCoded MM M), okv z01 MM G wkX6_writeCoded (fX6_writeCoded_L194 p0 p1 p2 p3 p4 q0 q1 q2 M) := by
    intro p0 p1 p2 p3 p4 q0 q1 q2 M g_p0 g_p1 g_q0 hM
    unfold fX6_writeCoded_L194
    refine k_bo fun _ => ?_
    refine k_call (by decide) hM (fun hc => frX8_addNumber _ _ _ hst hc g_q0) fun v194 M194 _ hM194 => ?_
    refine k_bo fun _ => ?_
    refine k_call (by decide) hM194 (fun hc => frX6_writeWeights _ hst hc g_p0) fun v198 M198 _ hM198 => ?_
    refine k_bn fun v202 => ?_
    exact hL204 p0 p1 p2 p3 p4 v202 _ g_p0 g_p1 hM198
  have hL157 : ∀ (p0 : Option Nat) (p1 : Option Nat) (p2 : Int32) (p3 : Int32) (p4 : Int32) (p5 : Int32) (p6 : Int32) (q0 : Int32) (M : Mem) (g_p0 : inG G p0) (g_p1 : inG G p1) (hM : FrG G wkX6_writeCoded MM M), okv z01 MM G wkX6_writeCoded (fX6_writeCoded_L157 p0 p1 p2 p3 p4 p5 p6 q0 M) := by
    intro p0 p1 p2 p3 p4 p5 p6 q0 M g_p0 g_p1 hM
    unfold fX6_writeCoded_L157
    refine k_bn fun v157 => ?_
    refine k_gR hM g_p0 fun v160 g_v160 => ?_
    refine k_if ?_ ?_
    · exact hL194 p0 p1 p2 p3 p4 v160 ((((2 ||| (shlI p6 2)) ||| (shlI p2 4)).toInt64) ||| (shlJ p5.toInt64 (4 + v157))) 4 _ g_p0 g_p1 g_v160 hM
    · exact hL194 p0 p1 p2 p3 p4 v160 ((((2 ||| (shlI p6 2)) ||| (shlI p2 4)).toInt64) ||| (shlJ p5.toInt64 (4 + v157))) 3 _ g_p0 g_p1 g_v160 hM
  have hL142 : ∀ (p0 : Option Nat) (p1 : Option Nat) (p2 : Int32) (p3 : Int32) (p4 : Int32) (p5 : Int32) (q0 : Int32) (M : Mem) (g_p0 : inG G p0) (g_p1 : inG G p1) (hM : FrG G wkX6_writeCoded MM M), okv z01 MM G wkX6_writeCoded (fX6_writeCoded_L142 p0 p1 p2 p3 p4 p5 q0 M) := by
    intro p0 p1 p2 p3 p4 p5 q0 M g_p0 g_p1 hM
    unfold fX6_writeCoded_L142
    refine k_bn fun v142 => ?_
    refine k_if ?_ ?_
    · exact hL157 p0 p1 p2 p3 p4 p5 v142 14 _ g_p0 g_p1 hM
    · exact hL157 p0 p1 p2 p3 p4 p5 v142 10 _ g_p0 g_p1 hM
  have hL74 : ∀ (p0 : Option Nat) (p1 : Option Nat) (p2 : Int32) (p3 : Int32) (p4 : Int32) (p5 : Int32) (p6 : Int32) (M : Mem) (g_p0 : inG G p0) (g_p1 : inG G p1) (hM : FrG G wkX6_writeCoded MM M), okv z01 MM G wkX6_writeCoded (fX6_writeCoded_L74 p0 p1 p2 p3 p4 p5 p6 M) := by
    intro p0 p1 p2 p3 p4 p5 p6 M g_p0 g_p1 hM
    refine k_lp (T := fun a : Option Nat × Option Nat × Int32 × Int32 × Int32 × Int32 × Int32 => inG G (a.1) ∧ inG G (a.2.1)) ?_ FU ((p0, p1, p2, p3, p4, p5, p6)) M ⟨g_p0, g_p1⟩ hM
    intro k74 hk74 a M T hM
    obtain ⟨p0, p1, p2, p3, p4, p5, p6⟩ := a
    obtain ⟨g_p0, g_p1⟩ := T
    show okv z01 MM G wkX6_writeCoded (fX6_writeCoded_B74 k74 p0 p1 p2 p3 p4 p5 p6 M)
    unfold fX6_writeCoded_B74
    refine k_if ?_ ?_
    · refine k_if ?_ ?_
      · refine k_if ?_ ?_
        · refine k_if ?_ ?_
          · exact hL142 p0 p1 p2 p3 p4 p5 2 _ g_p0 g_p1 hM
          · exact hL142 p0 p1 p2 p3 p4 p5 1 _ g_p0 g_p1 hM
        · exact hL142 p0 p1 p2 p3 p4 p5 0 _ g_p0 g_p1 hM
      · exact k_retZ hM
    · refine k_gR hM g_p0 fun v83 g_v83 => ?_
      refine k_bo fun _ => ?_
      refine k_call (by decide) hM (fun hc => frX1_lengthOf _ _ _ _ hst hc g_v83 g_p1) fun v98 M98 _ hM98 => ?_
      refine k_bn fun v102 => ?_
      refine k_bn fun v109 => ?_
      exact hk74 ((p0, p1, p2, p3, p4, v102, v109)) _ ⟨g_p0, g_p1⟩ hM98
  have hL68 : ∀ (p0 : Option Nat) (p1 : Option Nat) (p2 : Int32) (p3 : Int32) (p4 : Int32) (q0 : Int32) (q1 : Int32) (M : Mem) (g_p0 : inG G p0) (g_p1 : inG G p1) (hM : FrG G wkX6_writeCoded MM M), okv z01 MM G wkX6_writeCoded (fX6_writeCoded_L68 p0 p1 p2 p3 p4 q0 q1 M) := by
    intro p0 p1 p2 p3 p4 q0 q1 M g_p0 g_p1 hM
    unfold fX6_writeCoded_L68
    refine k_bn fun v69 => ?_
    refine k_bn fun v72 => ?_
    exact hL74 p0 p1 p2 p3 p4 v69 v72 _ g_p0 g_p1 hM
  have hL45 : ∀ (p0 : Option Nat) (p1 : Option Nat) (p2 : Int32) (p3 : Int32) (q0 : Int32) (M : Mem) (g_p0 : inG G p0) (g_p1 : inG G p1) (hM : FrG G wkX6_writeCoded MM M), okv z01 MM G wkX6_writeCoded (fX6_writeCoded_L45 p0 p1 p2 p3 q0 M) := by
    intro p0 p1 p2 p3 q0 M g_p0 g_p1 hM
    unfold fX6_writeCoded_L45
    refine k_bn fun v45 => ?_
    refine k_gR hM g_p0 fun v49 g_v49 => ?_
    refine k_bo fun v52 => ?_
    refine k_bo fun v56 => ?_
    refine k_if ?_ ?_
    · exact hL68 p0 p1 p2 p3 v45 (1 + v56) 6 _ g_p0 g_p1 hM
    · exact hL68 p0 p1 p2 p3 v45 (1 + v56) 0 _ g_p0 g_p1 hM
  have hL31 : ∀ (p0 : Option Nat) (p1 : Option Nat) (p2 : Int32) (q0 : Int32) (M : Mem) (g_p0 : inG G p0) (g_p1 : inG G p1) (hM : FrG G wkX6_writeCoded MM M), okv z01 MM G wkX6_writeCoded (fX6_writeCoded_L31 p0 p1 p2 q0 M) := by
    intro p0 p1 p2 q0 M g_p0 g_p1 hM
    unfold fX6_writeCoded_L31
    refine k_bn fun v31 => ?_
    refine k_if ?_ ?_
    · refine k_bo fun v44 => ?_
      exact hL45 p0 p1 p2 v31 v44 _ g_p0 g_p1 hM
    · exact hL45 p0 p1 p2 v31 p2 _ g_p0 g_p1 hM
  unfold fX6_writeCoded
  refine k_gR hMM g_a0 fun v1 g_v1 => ?_
  refine k_bo fun _ => ?_
  refine k_call (by decide) hMM (fun hc => frX11_make _ _ hst hc g_v1 g_a1) fun v5 M5 _ hM5 => ?_
  refine k_gR hM5 g_a0 fun v9 g_v9 => ?_
  refine k_gR hM5 g_a0 fun v13 g_v13 => ?_
  refine k_bo fun _ => ?_
  refine k_call (by decide) hM5 (fun hc => frX1_build _ _ hst hc g_v9 g_v13) fun v16 M16 _ hM16 => ?_
  refine k_if ?_ ?_
  · exact hL31 a0 a1 a2 0 _ g_a0 g_a1 hM16
  · exact hL31 a0 a1 a2 1 _ g_a0 g_a1 hM16
def wkX6_writeLetters : List Nat := [100, 801, 802, 803, 1101, 1102, 1400, 1500]
set_option maxRecDepth 100000 in
set_option maxHeartbeats 4000000 in
theorem frX6_writeLetters {G : Nat → Prop} {MM : Mem} (a0 : Option Nat) (hst : ∀ k, k < 10 → G k) (hc : Cl G MM) (g_a0 : inG G a0) : okv (fun _ : Unit => True) MM G wkX6_writeLetters (fX6_writeLetters a0 MM) := by
  have hMM : FrG G wkX6_writeLetters MM MM := FrG.rf hc
  have hL134 : ∀ (q0 : Option Nat) (q1 : Option Nat) (q2 : Int32) (q3 : Int32) (M : Mem) (g_q0 : inG G q0) (g_q1 : inG G q1) (hM : FrG G wkX6_writeLetters MM M), okv (fun _ : Unit => True) MM G wkX6_writeLetters (fX6_writeLetters_L134 q0 q1 q2 q3 M) := by
    intro q0 q1 q2 q3 M g_q0 g_q1 hM
    unfold fX6_writeLetters_L134
    refine k_bo fun _ => ?_
    refine k_call (by decide) hM (fun hc => frX8_addFrom _ _ _ _ hst hc g_q0 g_q1) fun v134 M134 _ hM134 => ?_
    exact k_ret hM134 trivial
  have hL119 : ∀ (p0 : Option Nat) (p1 : Option Nat) (p2 : Int32) (p3 : Int32) (M : Mem) (g_p0 : inG G p0) (g_p1 : inG G p1) (hM : FrG G wkX6_writeLetters MM M), okv (fun _ : Unit => True) MM G wkX6_writeLetters (fX6_writeLetters_L119 p0 p1 p2 p3 M) := by
    intro p0 p1 p2 p3 M g_p0 g_p1 hM
    unfold fX6_writeLetters_L119
    refine k_gR hM g_p0 fun v120 g_v120 => ?_
    refine k_if ?_ ?_
    · exact hL134 v120 p1 0 p2 _ g_v120 g_p1 hM
    · exact hL134 v120 p1 0 1 _ g_v120 g_p1 hM
  have hL78 : ∀ (p0 : Option Nat) (p1 : Option Nat) (p2 : Int32) (p3 : Int32) (q0 : Int32) (M : Mem) (g_p0 : inG G p0) (g_p1 : inG G p1) (hM : FrG G wkX6_writeLetters MM M), okv (fun _ : Unit => True) MM G wkX6_writeLetters (fX6_writeLetters_L78 p0 p1 p2 p3 q0 M) := by
    intro p0 p1 p2 p3 q0 M g_p0 g_p1 hM
    unfold fX6_writeLetters_L78
    refine k_bn fun v78 => ?_
    refine k_if ?_ ?_
    · refine k_gR hM g_p0 fun v103 g_v103 => ?_
      refine k_bo fun _ => ?_
      refine k_call (by decide) hM (fun hc => frX8_addNumber _ _ _ hst hc g_v103) fun v116 M116 _ hM116 => ?_
      exact hL119 p0 p1 p2 p3 _ g_p0 g_p1 hM116
    · refine k_gR hM g_p0 fun v87 g_v87 => ?_
      refine k_bo fun _ => ?_
      refine k_call (by decide) hM (fun hc => frX8_add _ _ hst hc g_v87) fun v96 M96 _ hM96 => ?_
      exact hL119 p0 p1 p2 p3 _ g_p0 g_p1 hM96
  have hL69 : ∀ (p0 : Option Nat) (p1 : Option Nat) (p2 : Int32) (p3 : Int32) (M : Mem) (g_p0 : inG G p0) (g_p1 : inG G p1) (hM : FrG G wkX6_writeLetters MM M), okv (fun _ : Unit => True) MM G wkX6_writeLetters (fX6_writeLetters_L69 p0 p1 p2 p3 M) := by
    intro p0 p1 p2 p3 M g_p0 g_p1 hM
    unfold fX6_writeLetters_L69
    refine k_if ?_ ?_
    · exact hL78 p0 p1 p2 p3 0 _ g_p0 g_p1 hM
    · exact hL78 p0 p1 p2 p3 1 _ g_p0 g_p1 hM
  have hL32 : ∀ (p0 : Option Nat) (p1 : Option Nat) (p2 : Int32) (q0 : Int32) (M : Mem) (g_p0 : inG G p0) (g_p1 : inG G p1) (hM : FrG G wkX6_writeLetters MM M), okv (fun _ : Unit => True) MM G wkX6_writeLetters (fX6_writeLetters_L32 p0 p1 p2 q0 M) := by
    intro p0 p1 p2 q0 M g_p0 g_p1 hM
    unfold fX6_writeLetters_L32
    refine k_bn fun v32 => ?_
    refine k_if ?_ ?_
    · refine k_bo fun v38 => ?_
      refine k_if ?_ ?_
      · refine k_if ?_ ?_
        · exact hL69 p0 p1 p2 v32 _ g_p0 g_p1 hM
        · refine k_bo fun _ => ?_
          refine k_call (by decide) hM (fun hc => frX6_allLow _ _ hst hc g_p0 g_p1) fun v53 M53 _ hM53 => ?_
          refine k_if ?_ ?_
          · exact hL69 p0 p1 p2 v32 _ g_p0 g_p1 hM53
          · refine k_bo fun _ => ?_
            refine k_call (by decide) hM53 (fun hc => frX6_writeCoded _ _ _ hst hc g_p0 g_p1) fun v62 M62 _ hM62 => ?_
            refine k_if ?_ ?_
            · exact hL69 p0 p1 p2 v32 _ g_p0 g_p1 hM62
            · exact k_ret hM62 trivial
      · exact hL69 p0 p1 p2 v32 _ g_p0 g_p1 hM
    · exact hL69 p0 p1 p2 v32 _ g_p0 g_p1 hM
  have hL31 : ∀ (p0 : Option Nat) (p1 : Option Nat) (p2 : Int32) (M : Mem) (g_p0 : inG G p0) (g_p1 : inG G p1) (hM : FrG G wkX6_writeLetters MM M), okv (fun _ : Unit => True) MM G wkX6_writeLetters (fX6_writeLetters_L31 p0 p1 p2 M) := by
    intro p0 p1 p2 M g_p0 g_p1 hM
    unfold fX6_writeLetters_L31
    exact hL32 p0 p1 p2 0 _ g_p0 g_p1 hM
  unfold fX6_writeLetters
  refine k_gR hMM g_a0 fun v1 g_v1 => ?_
  refine k_gR hMM g_v1 fun v4 g_v4 => ?_
  refine k_bnR g_v4 fun v7 g_v7 => ?_
  refine k_bo fun v9 => ?_
  refine k_bn fun v12 => ?_
  refine k_if ?_ ?_
  · exact hL31 a0 v7 v12 _ g_a0 g_v7 hMM
  · refine k_bo fun _ => ?_
    refine k_call (by decide) hMM (fun hc => frX8_same _ _ _ hst hc g_v7) fun v21 M21 _ hM21 => ?_
    refine k_if ?_ ?_
    · exact hL31 a0 v7 v12 _ g_a0 g_v7 hM21
    · exact hL32 a0 v7 v12 1 _ g_a0 g_v7 hM21
def wkX6_symbolOf : List Nat := []
set_option maxRecDepth 100000 in
set_option maxHeartbeats 4000000 in
theorem frX6_symbolOf {G : Nat → Prop} {MM : Mem} (a0 : Option Nat) (a1 : Int32) (a2 : Int32) (hst : ∀ k, k < 10 → G k) (hc : Cl G MM) (g_a0 : inG G a0) : okv (fun _ : Int32 => True) MM G wkX6_symbolOf (fX6_symbolOf a0 a1 a2 MM) := by
  have hMM : FrG G wkX6_symbolOf MM MM := FrG.rf hc
  have hL81 : ∀ (p5 : Int32) (M : Mem) (hM : FrG G wkX6_symbolOf MM M), okv (fun _ : Int32 => True) MM G wkX6_symbolOf (fX6_symbolOf_L81 p5 M) := by
    intro p5 M hM
    unfold fX6_symbolOf_L81
    exact k_ret hM trivial
  have hL54 : ∀ (p3 : Int32) (p4 : Option Nat) (p5 : Int32) (p6 : Int32) (M : Mem) (g_p4 : inG G p4) (hM : FrG G wkX6_symbolOf MM M), okv (fun _ : Int32 => True) MM G wkX6_symbolOf (fX6_symbolOf_L54 p3 p4 p5 p6 M) := by
    intro p3 p4 p5 p6 M g_p4 hM
    refine k_lp (T := fun a : Int32 × Option Nat × Int32 × Int32 => inG G (a.2.1)) ?_ FU ((p3, p4, p5, p6)) M g_p4 hM
    intro k54 hk54 a M T hM
    obtain ⟨p3, p4, p5, p6⟩ := a
    have g_p4 := T
    show okv (fun _ : Int32 => True) MM G wkX6_symbolOf (fX6_symbolOf_B54 k54 p3 p4 p5 p6 M)
    unfold fX6_symbolOf_B54
    refine k_bo fun v58 => ?_
    refine k_if ?_ ?_
    · exact hL81 p5 _ hM
    · refine k_bo fun v66 => ?_
      refine k_if ?_ ?_
      · exact hL81 p5 _ hM
      · refine k_bn fun v73 => ?_
        refine k_bn fun v75 => ?_
        exact hk54 ((p3, p4, v73, v75)) _ g_p4 hM
  have hL41 : ∀ (p1 : Int32) (q0 : Int32) (M : Mem) (hM : FrG G wkX6_symbolOf MM M), okv (fun _ : Int32 => True) MM G wkX6_symbolOf (fX6_symbolOf_L41 p1 q0 M) := by
    intro p1 q0 M hM
    unfold fX6_symbolOf_L41
    refine k_bn fun v41 => ?_
    refine k_call (by decide) hM (fun hc => frX12_baseOf _ hst hc) fun v43 M43 g_v43 hM43 => ?_
    refine k_bnR g_v43 fun v46 g_v46 => ?_
    refine k_bn fun v49 => ?_
    refine k_bn fun v52 => ?_
    exact hL54 v41 v46 v49 v52 _ g_v46 hM43
  unfold fX6_symbolOf
  refine k_if ?_ ?_
  · refine k_gR hMM g_a0 fun v6 g_v6 => ?_
    refine k_bo fun v10 => ?_
    refine k_call (by decide) hMM (fun hc => frX12_logOf _ hst hc) fun v12 M12 _ hM12 => ?_
    exact k_ret hM12 trivial
  · refine k_if ?_ ?_
    · refine k_gR hMM g_a0 fun v21 g_v21 => ?_
      refine k_gR hMM g_v21 fun v24 g_v24 => ?_
      refine k_bo fun v28 => ?_
      exact hL41 a1 v28 _ hMM
    · refine k_gR hMM g_a0 fun v33 g_v33 => ?_
      refine k_gR hMM g_v33 fun v36 g_v36 => ?_
      refine k_bo fun v40 => ?_
      exact hL41 a1 v40 _ hMM
def wkX10_mostCounted : List Nat := []
set_option maxRecDepth 100000 in
set_option maxHeartbeats 4000000 in
theorem frX10_mostCounted {G : Nat → Prop} {MM : Mem} (a0 : Option Nat) (hst : ∀ k, k < 10 → G k) (hc : Cl G MM) (g_a0 : inG G a0) : okv (fun _ : Int32 => True) MM G wkX10_mostCounted (fX10_mostCounted a0 MM) := by
  have hMM : FrG G wkX10_mostCounted MM MM := FrG.rf hc
  have hL29 : ∀ (k4 : Option Nat × Int32 × Int32 → Mem → Option (Int32 × Mem)) (hk4 : ∀ a M, (inG G (a.1)) → FrG G wkX10_mostCounted MM M → okv (fun _ : Int32 => True) MM G wkX10_mostCounted (k4 a M)) (p0 : Option Nat) (p1 : Int32) (p2 : Int32) (M : Mem) (g_p0 : inG G p0) (hM : FrG G wkX10_mostCounted MM M), okv (fun _ : Int32 => True) MM G wkX10_mostCounted (fX10_mostCounted_L29 k4 p0 p1 p2 M) := by
    intro k4 hk4 p0 p1 p2 M g_p0 hM
    unfold fX10_mostCounted_L29
    refine k_bn fun v29 => ?_
    exact hk4 ((p0, p1, v29)) _ g_p0 hM
  have hL4 : ∀ (p0 : Option Nat) (p1 : Int32) (p2 : Int32) (M : Mem) (g_p0 : inG G p0) (hM : FrG G wkX10_mostCounted MM M), okv (fun _ : Int32 => True) MM G wkX10_mostCounted (fX10_mostCounted_L4 p0 p1 p2 M) := by
    intro p0 p1 p2 M g_p0 hM
    refine k_lp (T := fun a : Option Nat × Int32 × Int32 => inG G (a.1)) ?_ FU ((p0, p1, p2)) M g_p0 hM
    intro k4 hk4 a M T hM
    obtain ⟨p0, p1, p2⟩ := a
    have g_p0 := T
    show okv (fun _ : Int32 => True) MM G wkX10_mostCounted (fX10_mostCounted_B4 k4 p0 p1 p2 M)
    unfold fX10_mostCounted_B4
    refine k_bo fun v6 => ?_
    refine k_if ?_ ?_
    · exact k_ret hM trivial
    · refine k_gR hM g_p0 fun v13 g_v13 => ?_
      refine k_bo fun v17 => ?_
      refine k_gR hM g_p0 fun v19 g_v19 => ?_
      refine k_bo fun v23 => ?_
      refine k_if ?_ ?_
      · exact hL29 k4 hk4 p0 p1 p2 _ g_p0 hM
      · refine k_bn fun v28 => ?_
        exact hL29 k4 hk4 p0 v28 p2 _ g_p0 hM
  unfold fX10_mostCounted
  refine k_bn fun v1 => ?_
  refine k_bn fun v3 => ?_
  exact hL4 a0 v1 v3 _ g_a0 hMM
def wkX10_buildFor : List Nat := [1000, 1004, 1500]
set_option maxRecDepth 100000 in
set_option maxHeartbeats 4000000 in
theorem frX10_buildFor {G : Nat → Prop} {MM : Mem} (a0 : Option Nat) (a1 : Option Nat) (a2 : Int32) (a3 : Int32) (hst : ∀ k, k < 10 → G k) (hc : Cl G MM) (g_a0 : inG G a0) (g_a1 : inG G a1) : okv (fun _ : Unit => True) MM G wkX10_buildFor (fX10_buildFor a0 a1 a2 a3 MM) := by
  have hMM : FrG G wkX10_buildFor MM MM := FrG.rf hc
  have hL126 : ∀ (p0 : Option Nat) (p4 : Int32) (p5 : Int32) (p6 : Int32) (M : Mem) (g_p0 : inG G p0) (hM : FrG G wkX10_buildFor MM M), okv (fun _ : Unit => True) MM G wkX10_buildFor (fX10_buildFor_L126 p0 p4 p5 p6 M) := by
    intro p0 p4 p5 p6 M g_p0 hM
    refine k_lp (T := fun a : Option Nat × Int32 × Int32 × Int32 => inG G (a.1)) ?_ FU ((p0, p4, p5, p6)) M g_p0 hM
    intro k126 hk126 a M T hM
    obtain ⟨p0, p4, p5, p6⟩ := a
    have g_p0 := T
    show okv (fun _ : Unit => True) MM G wkX10_buildFor (fX10_buildFor_B126 k126 p0 p4 p5 p6 M)
    unfold fX10_buildFor_B126
    refine k_if ?_ ?_
    · refine k_gR hM g_p0 fun v153 g_v153 => ?_
      refine k_bo fun _ => ?_
      refine k_call (by decide) hM (fun hc => frX10_mostCounted _ hst hc g_p0) fun v157 M157 _ hM157 => ?_
      refine k_bo fun v161 => ?_
      refine k_wI (by decide) hM157 g_v153 fun M168 hM168 => ?_
      refine k_bo fun _ => ?_
      refine k_call (by decide) hM168 (fun hc => frX10_build _ _ hst hc g_p0) fun v172 M172 _ hM172 => ?_
      exact k_ret hM172 trivial
    · refine k_gR hM g_p0 fun v134 g_v134 => ?_
      refine k_bo fun _ => ?_
      refine k_call (by decide) hM (fun hc => frX10_mostCounted _ hst hc g_p0) fun v138 M138 _ hM138 => ?_
      refine k_bo fun v142 => ?_
      refine k_wI (by decide) hM138 g_v134 fun M145 hM145 => ?_
      refine k_bn fun v146 => ?_
      exact hk126 ((p0, p4, p5, v146)) _ g_p0 hM145
  have hL107 : ∀ (k51 : Option Nat × Option Nat × Int32 × Int32 × Int32 × Int32 × Int32 → Mem → Option (Unit × Mem)) (hk51 : ∀ a M, (inG G (a.1) ∧ inG G (a.2.1)) → FrG G wkX10_buildFor MM M → okv (fun _ : Unit => True) MM G wkX10_buildFor (k51 a M)) (p0 : Option Nat) (p1 : Option Nat) (p3 : Int32) (p4 : Int32) (p5 : Int32) (p6 : Int32) (p7 : Int32) (q0 : Option Nat) (q1 : Int32) (q2 : Int32) (M : Mem) (g_p0 : inG G p0) (g_p1 : inG G p1) (g_q0 : inG G q0) (hM : FrG G wkX10_buildFor MM M), okv (fun _ : Unit => True) MM G wkX10_buildFor (fX10_buildFor_L107 k51 p0 p1 p3 p4 p5 p6 p7 q0 q1 q2 M) := by
    intro k51 hk51 p0 p1 p3 p4 p5 p6 p7 q0 q1 q2 M g_p0 g_p1 g_q0 hM
    unfold fX10_buildFor_L107
    refine k_wI (by decide) hM g_q0 fun M107 hM107 => ?_
    refine k_gR hM107 g_p0 fun v111 g_v111 => ?_
    refine k_bo fun v116 => ?_
    refine k_bn fun v118 => ?_
    refine k_bn fun v120 => ?_
    exact hk51 ((p0, p1, p3, p4, p5, v118, v120)) _ ⟨g_p0, g_p1⟩ hM107
  have hL75 : ∀ (k51 : Option Nat × Option Nat × Int32 × Int32 × Int32 × Int32 × Int32 → Mem → Option (Unit × Mem)) (hk51 : ∀ a M, (inG G (a.1) ∧ inG G (a.2.1)) → FrG G wkX10_buildFor MM M → okv (fun _ : Unit => True) MM G wkX10_buildFor (k51 a M)) (p0 : Option Nat) (p1 : Option Nat) (p3 : Int32) (p4 : Int32) (p5 : Int32) (p6 : Int32) (p7 : Int32) (q0 : Int32) (M : Mem) (g_p0 : inG G p0) (g_p1 : inG G p1) (hM : FrG G wkX10_buildFor MM M), okv (fun _ : Unit => True) MM G wkX10_buildFor (fX10_buildFor_L75 k51 p0 p1 p3 p4 p5 p6 p7 q0 M) := by
    intro k51 hk51 p0 p1 p3 p4 p5 p6 p7 q0 M g_p0 g_p1 hM
    unfold fX10_buildFor_L75
    refine k_bn fun v75 => ?_
    refine k_gR hM g_p0 fun v78 g_v78 => ?_
    refine k_if ?_ ?_
    · exact hL107 k51 hk51 p0 p1 p3 p4 p5 p6 p7 v78 p7 0 _ g_p0 g_p1 g_v78 hM
    · refine k_bo fun v103 => ?_
      exact hL107 k51 hk51 p0 p1 p3 p4 p5 p6 p7 v78 p7 (maxI 1 v103) _ g_p0 g_p1 g_v78 hM
  have hL51 : ∀ (p0 : Option Nat) (p1 : Option Nat) (p3 : Int32) (p4 : Int32) (p5 : Int32) (p6 : Int32) (p7 : Int32) (M : Mem) (g_p0 : inG G p0) (g_p1 : inG G p1) (hM : FrG G wkX10_buildFor MM M), okv (fun _ : Unit => True) MM G wkX10_buildFor (fX10_buildFor_L51 p0 p1 p3 p4 p5 p6 p7 M) := by
    intro p0 p1 p3 p4 p5 p6 p7 M g_p0 g_p1 hM
    refine k_lp (T := fun a : Option Nat × Option Nat × Int32 × Int32 × Int32 × Int32 × Int32 => inG G (a.1) ∧ inG G (a.2.1)) ?_ FU ((p0, p1, p3, p4, p5, p6, p7)) M ⟨g_p0, g_p1⟩ hM
    intro k51 hk51 a M T hM
    obtain ⟨p0, p1, p3, p4, p5, p6, p7⟩ := a
    obtain ⟨g_p0, g_p1⟩ := T
    show okv (fun _ : Unit => True) MM G wkX10_buildFor (fX10_buildFor_B51 k51 p0 p1 p3 p4 p5 p6 p7 M)
    unfold fX10_buildFor_B51
    refine k_bo fun v54 => ?_
    refine k_if ?_ ?_
    · exact hL126 p0 p4 p5 p6 _ g_p0 hM
    · refine k_bo fun v63 => ?_
      refine k_if ?_ ?_
      · exact hL75 k51 hk51 p0 p1 p3 p4 p5 p6 p7 0 _ g_p0 g_p1 hM
      · refine k_bo fun v70 => ?_
        exact hL75 k51 hk51 p0 p1 p3 p4 p5 p6 p7 v70 _ g_p0 g_p1 hM
  have hL24 : ∀ (p0 : Option Nat) (p1 : Option Nat) (p2 : Int32) (p3 : Int32) (q0 : Int32) (M : Mem) (g_p0 : inG G p0) (g_p1 : inG G p1) (hM : FrG G wkX10_buildFor MM M), okv (fun _ : Unit => True) MM G wkX10_buildFor (fX10_buildFor_L24 p0 p1 p2 p3 q0 M) := by
    intro p0 p1 p2 p3 q0 M g_p0 g_p1 hM
    unfold fX10_buildFor_L24
    refine k_bn fun v24 => ?_
    refine k_bn fun v30 => ?_
    refine k_pI (by decide) (by decide) (by decide) hM g_p0 fun M42 hM42 => ?_
    refine k_bn fun v46 => ?_
    refine k_bn fun v49 => ?_
    exact hL51 p0 p1 p3 v24 v30 v46 v49 _ g_p0 g_p1 hM42
  unfold fX10_buildFor
  refine k_if ?_ ?_
  · refine k_if ?_ ?_
    · exact hL24 a0 a1 a2 a3 7 _ g_a0 g_a1 hMM
    · exact hL24 a0 a1 a2 a3 6 _ g_a0 g_a1 hMM
  · exact hL24 a0 a1 a2 a3 5 _ g_a0 g_a1 hMM
