def wkX13_sized : List Nat := [1304, 1305, 1307, 1308, 1309, 1310, 1311, 1313, 1333, 1335, 1337, 1338, 1339, 1340, 1341, 1342, 1346, 1351, 1352, 1400, 1500, 1600, 1700, 1800]
set_option maxRecDepth 100000 in
set_option maxHeartbeats 4000000 in
theorem frX13_sized {G : Nat → Prop} {MM : Mem} (a0 : Option Nat) (a1 : Int64) (a3 : Int32) (a4 : Int32) (a5 : Int32) (hst : ∀ k, k < 10 → G k) (hc : Cl G MM) (g_a0 : inG G a0) : okv (fun _ : Unit => True) MM G wkX13_sized (fX13_sized a0 a1 a3 a4 a5 MM) := by
  have hMM : FrG G wkX13_sized MM MM := FrG.rf hc
  have hL379 : ∀ (M : Mem) (hM : FrG G wkX13_sized MM M), okv (fun _ : Unit => True) MM G wkX13_sized (fX13_sized_L379 M) := by
    intro M hM
    unfold fX13_sized_L379
    exact k_ret hM trivial
  have hL369 : ∀ (p0 : Option Nat) (M : Mem) (g_p0 : inG G p0) (hM : FrG G wkX13_sized MM M), okv (fun _ : Unit => True) MM G wkX13_sized (fX13_sized_L369 p0 M) := by
    intro p0 M g_p0 hM
    unfold fX13_sized_L369
    refine k_bo fun v371 => ?_
    refine k_pI (by decide) (by decide) (by decide) hM g_p0 fun M376 hM376 => ?_
    exact hL379 _ hM376
  have hL293 : ∀ (p0 : Option Nat) (p3 : Int32) (M : Mem) (g_p0 : inG G p0) (hM : FrG G wkX13_sized MM M), okv (fun _ : Unit => True) MM G wkX13_sized (fX13_sized_L293 p0 p3 M) := by
    intro p0 p3 M g_p0 hM
    unfold fX13_sized_L293
    refine k_bo fun v294 => ?_
    refine k_if ?_ ?_
    · refine k_if ?_ ?_
      · exact hL379 _ hM
      · refine k_bo fun _ => ?_
        refine k_call (by decide) hM (fun hc => frX13_wants _ _ hst hc g_p0) fun v308 M308 _ hM308 => ?_
        refine k_if ?_ ?_
        · exact hL379 _ hM308
        · refine k_gR hM308 g_p0 fun v315 g_v315 => ?_
          refine k_bo fun v319 => ?_
          refine k_bo fun v323 => ?_
          refine k_bo fun v327 => ?_
          refine k_call (by decide) hM308 (fun hc => frX13_sumOf _ _ _ hst hc g_v315) fun v331 M331 _ hM331 => ?_
          refine k_bn fun v338 => ?_
          refine k_gR hM331 g_p0 fun v341 g_v341 => ?_
          refine k_bo fun v345 => ?_
          refine k_call (by decide) hM331 (fun hc => frX13_eight _ _ _ hst hc g_v341) fun v349 M349 _ hM349 => ?_
          refine k_if ?_ ?_
          · exact hL369 p0 _ g_p0 hM349
          · refine k_bo fun v362 => ?_
            refine k_bo fun _ => ?_
            refine k_call (by decide) hM349 (fun hc => frX13_fails _ _ _ hst hc g_p0) fun v365 M365 _ hM365 => ?_
            exact hL369 p0 _ g_p0 hM365
    · exact hL379 _ hM
  have hL256 : ∀ (p0 : Option Nat) (p3 : Int32) (p7 : Int32) (p8 : Int32) (p9 : Int64) (M : Mem) (g_p0 : inG G p0) (hM : FrG G wkX13_sized MM M), okv (fun _ : Unit => True) MM G wkX13_sized (fX13_sized_L256 p0 p3 p7 p8 p9 M) := by
    intro p0 p3 p7 p8 p9 M g_p0 hM
    unfold fX13_sized_L256
    refine k_bo fun v257 => ?_
    refine k_if ?_ ?_
    · refine k_if ?_ ?_
      · exact hL293 p0 p3 _ g_p0 hM
      · refine k_bo fun v271 => ?_
        refine k_bo fun v275 => ?_
        refine k_if ?_ ?_
        · exact hL293 p0 p3 _ g_p0 hM
        · refine k_bo fun _ => ?_
          refine k_call (by decide) hM (fun hc => frX13_fails _ _ _ hst hc g_p0) fun v289 M289 _ hM289 => ?_
          exact hL293 p0 p3 _ g_p0 hM289
    · exact hL293 p0 p3 _ g_p0 hM
  have hL251 : ∀ (k227 : Option Nat × Int32 × Int32 × Int32 × Int64 × Int32 → Mem → Option (Unit × Mem)) (hk227 : ∀ a M, (inG G (a.1)) → FrG G wkX13_sized MM M → okv (fun _ : Unit => True) MM G wkX13_sized (k227 a M)) (p0 : Option Nat) (p3 : Int32) (p7 : Int32) (p8 : Int32) (p9 : Int64) (q0 : Int32) (M : Mem) (g_p0 : inG G p0) (hM : FrG G wkX13_sized MM M), okv (fun _ : Unit => True) MM G wkX13_sized (fX13_sized_L251 k227 p0 p3 p7 p8 p9 q0 M) := by
    intro k227 hk227 p0 p3 p7 p8 p9 q0 M g_p0 hM
    unfold fX13_sized_L251
    refine k_bn fun v251 => ?_
    exact hk227 ((p0, p3, p7, p8, p9, v251)) _ g_p0 hM
  have hL227 : ∀ (p0 : Option Nat) (p3 : Int32) (p7 : Int32) (p8 : Int32) (p9 : Int64) (p11 : Int32) (M : Mem) (g_p0 : inG G p0) (hM : FrG G wkX13_sized MM M), okv (fun _ : Unit => True) MM G wkX13_sized (fX13_sized_L227 p0 p3 p7 p8 p9 p11 M) := by
    intro p0 p3 p7 p8 p9 p11 M g_p0 hM
    refine k_lp (T := fun a : Option Nat × Int32 × Int32 × Int32 × Int64 × Int32 => inG G (a.1)) ?_ FU ((p0, p3, p7, p8, p9, p11)) M g_p0 hM
    intro k227 hk227 a M T hM
    obtain ⟨p0, p3, p7, p8, p9, p11⟩ := a
    have g_p0 := T
    show okv (fun _ : Unit => True) MM G wkX13_sized (fX13_sized_B227 k227 p0 p3 p7 p8 p9 p11 M)
    unfold fX13_sized_B227
    refine k_if ?_ ?_
    · exact hL256 p0 p3 p7 p8 p9 _ g_p0 hM
    · refine k_bo fun v233 => ?_
      refine k_if ?_ ?_
      · refine k_bo fun _ => ?_
        refine k_call (by decide) hM (fun hc => frX13_blockAt _ hst hc g_p0) fun v240 M240 _ hM240 => ?_
        refine k_if ?_ ?_
        · exact hL251 k227 hk227 p0 p3 p7 p8 p9 1 _ g_p0 hM240
        · exact hL251 k227 hk227 p0 p3 p7 p8 p9 0 _ g_p0 hM240
      · exact hL256 p0 p3 p7 p8 p9 _ g_p0 hM
  have hL215 : ∀ (p0 : Option Nat) (p3 : Int32) (p5 : Int32) (p7 : Int32) (p8 : Int32) (p9 : Int64) (q0 : Option Nat) (q1 : Int32) (M : Mem) (g_p0 : inG G p0) (g_q0 : inG G q0) (hM : FrG G wkX13_sized MM M), okv (fun _ : Unit => True) MM G wkX13_sized (fX13_sized_L215 p0 p3 p5 p7 p8 p9 q0 q1 M) := by
    intro p0 p3 p5 p7 p8 p9 q0 q1 M g_p0 g_q0 hM
    unfold fX13_sized_L215
    refine k_pI (by decide) (by decide) (by decide) hM g_q0 fun M215 hM215 => ?_
    refine k_bo fun _ => ?_
    refine k_call (by decide) hM215 (fun hc => frX13_begin _ _ hst hc g_p0) fun v221 M221 _ hM221 => ?_
    refine k_bn fun v225 => ?_
    exact hL227 p0 p3 p7 p8 p9 v225 _ g_p0 hM221
  have hL192 : ∀ (p0 : Option Nat) (p3 : Int32) (p5 : Int32) (p7 : Int32) (p8 : Int32) (p9 : Int64) (q0 : Option Nat) (q1 : Int32) (q2 : Int32) (M : Mem) (g_p0 : inG G p0) (g_q0 : inG G q0) (hM : FrG G wkX13_sized MM M), okv (fun _ : Unit => True) MM G wkX13_sized (fX13_sized_L192 p0 p3 p5 p7 p8 p9 q0 q1 q2 M) := by
    intro p0 p3 p5 p7 p8 p9 q0 q1 q2 M g_p0 g_q0 hM
    unfold fX13_sized_L192
    refine k_wI (by decide) hM g_q0 fun M192 hM192 => ?_
    refine k_bo fun v195 => ?_
    refine k_if ?_ ?_
    · refine k_bo fun v211 => ?_
      exact hL215 p0 p3 p5 p7 p8 p9 p0 v211.toInt32 _ g_p0 g_p0 hM192
    · exact hL215 p0 p3 p5 p7 p8 p9 p0 131072 _ g_p0 g_p0 hM192
  have hL133 : ∀ (p0 : Option Nat) (p3 : Int32) (p5 : Int32) (p7 : Int32) (p8 : Int32) (p9 : Int64) (M : Mem) (g_p0 : inG G p0) (hM : FrG G wkX13_sized MM M), okv (fun _ : Unit => True) MM G wkX13_sized (fX13_sized_L133 p0 p3 p5 p7 p8 p9 M) := by
    intro p0 p3 p5 p7 p8 p9 M g_p0 hM
    unfold fX13_sized_L133
    refine k_bo fun v135 => ?_
    refine k_pI (by decide) (by decide) (by decide) hM g_p0 fun M141 hM141 => ?_
    refine k_gR hM141 g_p0 fun v145 g_v145 => ?_
    refine k_bo fun v150 => ?_
    refine k_wI (by decide) hM141 g_v145 fun M153 hM153 => ?_
    refine k_gR hM153 g_p0 fun v155 g_v155 => ?_
    refine k_bo fun v161 => ?_
    refine k_wI (by decide) hM153 g_v155 fun M169 hM169 => ?_
    refine k_gR hM169 g_p0 fun v171 g_v171 => ?_
    refine k_if ?_ ?_
    · exact hL192 p0 p3 p5 p7 p8 p9 v171 10 ((-1)) _ g_p0 g_v171 hM169
    · exact hL192 p0 p3 p5 p7 p8 p9 v171 10 (p9.toInt32 &&& 2147483647) _ g_p0 g_v171 hM169
  have hL122 : ∀ (p0 : Option Nat) (M : Mem) (g_p0 : inG G p0) (hM : FrG G wkX13_sized MM M), okv (fun _ : Unit => True) MM G wkX13_sized (fX13_sized_L122 p0 M) := by
    intro p0 M g_p0 hM
    unfold fX13_sized_L122
    refine k_bo fun v125 => ?_
    refine k_bo fun _ => ?_
    refine k_call (by decide) hM (fun hc => frX13_fails _ _ _ hst hc g_p0) fun v128 M128 _ hM128 => ?_
    exact k_ret hM128 trivial
  have hL90 : ∀ (p0 : Option Nat) (p1 : Int64) (p3 : Int32) (p4 : Int32) (p5 : Int32) (p7 : Int32) (p8 : Int32) (q0 : Int64) (q1 : Int64) (M : Mem) (g_p0 : inG G p0) (hM : FrG G wkX13_sized MM M), okv (fun _ : Unit => True) MM G wkX13_sized (fX13_sized_L90 p0 p1 p3 p4 p5 p7 p8 q0 q1 M) := by
    intro p0 p1 p3 p4 p5 p7 p8 q0 q1 M g_p0 hM
    unfold fX13_sized_L90
    refine k_bn fun v91 => ?_
    refine k_if ?_ ?_
    · exact hL133 p0 p3 p5 p7 p8 v91 _ g_p0 hM
    · refine k_pJ (by decide) (by decide) hM g_p0 fun M101 hM101 => ?_
      refine k_bo fun v105 => ?_
      refine k_if ?_ ?_
      · exact hL122 p0 _ g_p0 hM101
      · refine k_bo fun v114 => ?_
        refine k_if ?_ ?_
        · exact hL133 p0 p3 p5 p7 p8 v91 _ g_p0 hM101
        · exact hL122 p0 _ g_p0 hM101
  have hL46 : ∀ (p0 : Option Nat) (p1 : Int64) (p3 : Int32) (p4 : Int32) (p5 : Int32) (p6 : Int32) (q0 : Int32) (M : Mem) (g_p0 : inG G p0) (hM : FrG G wkX13_sized MM M), okv (fun _ : Unit => True) MM G wkX13_sized (fX13_sized_L46 p0 p1 p3 p4 p5 p6 q0 M) := by
    intro p0 p1 p3 p4 p5 p6 q0 M g_p0 hM
    unfold fX13_sized_L46
    refine k_bn fun v46 => ?_
    refine k_bo fun _ => ?_
    refine k_call (by decide) hM (fun hc => frX13_wants _ _ hst hc g_p0) fun v51 M51 _ hM51 => ?_
    refine k_if ?_ ?_
    · exact k_ret hM51 trivial
    · refine k_bo fun v59 => ?_
      refine k_bn fun v62 => ?_
      refine k_gR hM51 g_p0 fun v65 g_v65 => ?_
      refine k_bo fun v69 => ?_
      refine k_call (by decide) hM51 (fun hc => frX13_eight _ _ _ hst hc g_v65) fun v74 M74 _ hM74 => ?_
      refine k_if ?_ ?_
      · exact hL90 p0 p1 p3 p4 p5 v46 v62 v74 256 _ g_p0 hM74
      · exact hL90 p0 p1 p3 p4 p5 v46 v62 v74 0 _ g_p0 hM74
  unfold fX13_sized
  refine k_bn fun v4 => ?_
  refine k_if ?_ ?_
  · refine k_if ?_ ?_
    · exact hL46 a0 a1 a3 a4 a5 v4 0 _ g_a0 hMM
    · exact hL46 a0 a1 a3 a4 a5 v4 1 _ g_a0 hMM
  · refine k_if ?_ ?_
    · exact hL46 a0 a1 a3 a4 a5 v4 2 _ g_a0 hMM
    · refine k_if ?_ ?_
      · exact hL46 a0 a1 a3 a4 a5 v4 4 _ g_a0 hMM
      · exact hL46 a0 a1 a3 a4 a5 v4 8 _ g_a0 hMM
def wkX13_head : List Nat := [1304, 1305, 1307, 1308, 1309, 1310, 1311, 1313, 1333, 1335, 1337, 1338, 1339, 1340, 1341, 1342, 1346, 1351, 1352, 1400, 1500, 1600, 1700, 1800]
set_option maxRecDepth 100000 in
set_option maxHeartbeats 4000000 in
theorem frX13_head {G : Nat → Prop} {MM : Mem} (a0 : Option Nat) (a1 : Int64) (hst : ∀ k, k < 10 → G k) (hc : Cl G MM) (g_a0 : inG G a0) : okv (fun _ : Unit => True) MM G wkX13_head (fX13_head a0 a1 MM) := by
  have hMM : FrG G wkX13_head MM MM := FrG.rf hc
  have hL234 : ∀ (p0 : Option Nat) (p1 : Int64) (p3 : Int32) (p4 : Int32) (p5 : Int32) (p6 : Int32) (M : Mem) (g_p0 : inG G p0) (hM : FrG G wkX13_head MM M), okv (fun _ : Unit => True) MM G wkX13_head (fX13_head_L234 p0 p1 p3 p4 p5 p6 M) := by
    intro p0 p1 p3 p4 p5 p6 M g_p0 hM
    unfold fX13_head_L234
    refine k_bo fun v236 => ?_
    refine k_pI (by decide) (by decide) (by decide) hM g_p0 fun M242 hM242 => ?_
    refine k_bo fun _ => ?_
    refine k_call (by decide) hM242 (fun hc => frX13_sized _ _ _ _ _ hst hc g_p0) fun v252 M252 _ hM252 => ?_
    exact k_ret hM252 trivial
  have hL220 : ∀ (p0 : Option Nat) (p1 : Int64) (p3 : Int32) (p4 : Int32) (p5 : Int32) (p6 : Int32) (q0 : Int32) (q1 : Int32) (M : Mem) (g_p0 : inG G p0) (hM : FrG G wkX13_head MM M), okv (fun _ : Unit => True) MM G wkX13_head (fX13_head_L220 p0 p1 p3 p4 p5 p6 q0 q1 M) := by
    intro p0 p1 p3 p4 p5 p6 q0 q1 M g_p0 hM
    unfold fX13_head_L220
    refine k_if ?_ ?_
    · exact hL234 p0 p1 p3 p4 p5 p6 _ g_p0 hM
    · refine k_bo fun v226 => ?_
      refine k_bo fun _ => ?_
      refine k_call (by decide) hM (fun hc => frX13_fails _ _ _ hst hc g_p0) fun v229 M229 _ hM229 => ?_
      exact k_ret hM229 trivial
  have hL170 : ∀ (p0 : Option Nat) (p1 : Int64) (p3 : Int32) (p4 : Int32) (q0 : Int32) (M : Mem) (g_p0 : inG G p0) (hM : FrG G wkX13_head MM M), okv (fun _ : Unit => True) MM G wkX13_head (fX13_head_L170 p0 p1 p3 p4 q0 M) := by
    intro p0 p1 p3 p4 q0 M g_p0 hM
    unfold fX13_head_L170
    refine k_bn fun v170 => ?_
    refine k_bo fun _ => ?_
    refine k_call (by decide) hM (fun hc => frX13_wants _ _ hst hc g_p0) fun v175 M175 _ hM175 => ?_
    refine k_if ?_ ?_
    · exact k_ret hM175 trivial
    · refine k_gR hM175 g_p0 fun v183 g_v183 => ?_
      refine k_bo fun v187 => ?_
      refine k_call (by decide) hM175 (fun hc => frX13_eight _ _ _ hst hc g_v183) fun v192 M192 _ hM192 => ?_
      refine k_bn fun v196 => ?_
      refine k_if ?_ ?_
      · exact hL234 p0 p1 p3 p4 v170 v196 _ g_p0 hM192
      · refine k_bo fun v206 => ?_
        refine k_if ?_ ?_
        · exact hL220 p0 p1 p3 p4 v170 v196 v196 0 _ g_p0 hM192
        · refine k_bo fun v213 => ?_
          exact hL220 p0 p1 p3 p4 v170 v196 v196 v213 _ g_p0 hM192
  have hL156 : ∀ (p0 : Option Nat) (p1 : Int64) (p3 : Int32) (p4 : Int32) (M : Mem) (g_p0 : inG G p0) (hM : FrG G wkX13_head MM M), okv (fun _ : Unit => True) MM G wkX13_head (fX13_head_L156 p0 p1 p3 p4 M) := by
    intro p0 p1 p3 p4 M g_p0 hM
    unfold fX13_head_L156
    refine k_if ?_ ?_
    · exact hL170 p0 p1 p3 p4 4 _ g_p0 hM
    · exact hL170 p0 p1 p3 p4 (p3 &&& 3) _ g_p0 hM
  have hL63 : ∀ (p0 : Option Nat) (p1 : Int64) (p3 : Int32) (q0 : Int32) (M : Mem) (g_p0 : inG G p0) (hM : FrG G wkX13_head MM M), okv (fun _ : Unit => True) MM G wkX13_head (fX13_head_L63 p0 p1 p3 q0 M) := by
    intro p0 p1 p3 q0 M g_p0 hM
    unfold fX13_head_L63
    refine k_bn fun v63 => ?_
    refine k_if ?_ ?_
    · refine k_bo fun _ => ?_
      refine k_call (by decide) hM (fun hc => frX13_wants _ _ hst hc g_p0) fun v72 M72 _ hM72 => ?_
      refine k_if ?_ ?_
      · exact k_ret hM72 trivial
      · refine k_gR hM72 g_p0 fun v80 g_v80 => ?_
        refine k_bo fun v84 => ?_
        refine k_bo fun v87 => ?_
        refine k_bn fun v92 => ?_
        refine k_bo fun v101 => ?_
        refine k_bn fun v104 => ?_
        refine k_bo fun v113 => ?_
        refine k_bo fun v120 => ?_
        refine k_pJ (by decide) (by decide) hM72 g_p0 fun M123 hM123 => ?_
        refine k_bo fun v127 => ?_
        refine k_if ?_ ?_
        · refine k_bo fun v148 => ?_
          refine k_pI (by decide) (by decide) (by decide) hM123 g_p0 fun M153 hM153 => ?_
          exact hL156 p0 p1 p3 v63 _ g_p0 hM153
        · refine k_bo fun v138 => ?_
          refine k_bo fun _ => ?_
          refine k_call (by decide) hM123 (fun hc => frX13_fails _ _ _ hst hc g_p0) fun v141 M141 _ hM141 => ?_
          exact k_ret hM141 trivial
    · exact hL156 p0 p1 p3 v63 _ g_p0 hM
  unfold fX13_head
  refine k_bo fun _ => ?_
  refine k_call (by decide) hMM (fun hc => frX13_wants _ _ hst hc g_a0) fun v2 M2 _ hM2 => ?_
  refine k_if ?_ ?_
  · exact k_ret hM2 trivial
  · refine k_gR hM2 g_a0 fun v10 g_v10 => ?_
    refine k_bo fun v14 => ?_
    refine k_bo fun v17 => ?_
    refine k_bn fun v22 => ?_
    refine k_if ?_ ?_
    · refine k_bo fun v43 => ?_
      refine k_pI (by decide) (by decide) (by decide) hM2 g_a0 fun M48 hM48 => ?_
      refine k_if ?_ ?_
      · exact hL63 a0 a1 v22 0 _ g_a0 hM48
      · exact hL63 a0 a1 v22 1 _ g_a0 hM48
    · refine k_bo fun v33 => ?_
      refine k_bo fun _ => ?_
      refine k_call (by decide) hM2 (fun hc => frX13_fails _ _ _ hst hc g_a0) fun v36 M36 _ hM36 => ?_
      exact k_ret hM36 trivial
def wkX13_frame : List Nat := [1304, 1305, 1307, 1308, 1309, 1310, 1311, 1313, 1333, 1335, 1337, 1338, 1339, 1340, 1341, 1342, 1346, 1351, 1352, 1400, 1500, 1600, 1700, 1800]
set_option maxRecDepth 100000 in
set_option maxHeartbeats 4000000 in
theorem frX13_frame {G : Nat → Prop} {MM : Mem} (a0 : Option Nat) (a1 : Int64) (hst : ∀ k, k < 10 → G k) (hc : Cl G MM) (g_a0 : inG G a0) : okv (fun _ : Unit => True) MM G wkX13_frame (fX13_frame a0 a1 MM) := by
  have hMM : FrG G wkX13_frame MM MM := FrG.rf hc
  have hL166 : ∀ (M : Mem) (hM : FrG G wkX13_frame MM M), okv (fun _ : Unit => True) MM G wkX13_frame (fX13_frame_L166 M) := by
    intro M hM
    unfold fX13_frame_L166
    exact k_ret hM trivial
  have hL142 : ∀ (p0 : Option Nat) (p1 : Int64) (p3 : Int32) (p4 : Int64) (M : Mem) (g_p0 : inG G p0) (hM : FrG G wkX13_frame MM M), okv (fun _ : Unit => True) MM G wkX13_frame (fX13_frame_L142 p0 p1 p3 p4 M) := by
    intro p0 p1 p3 p4 M g_p0 hM
    unfold fX13_frame_L142
    refine k_if ?_ ?_
    · refine k_bo fun _ => ?_
      refine k_call (by decide) hM (fun hc => frX13_head _ _ hst hc g_p0) fun v163 M163 _ hM163 => ?_
      exact hL166 _ hM163
    · refine k_bo fun _ => ?_
      refine k_call (by decide) hM (fun hc => frX13_fails _ _ _ hst hc g_p0) fun v154 M154 _ hM154 => ?_
      exact hL166 _ hM154
  unfold fX13_frame
  refine k_bo fun v1 => ?_
  refine k_bn fun v4 => ?_
  refine k_bo fun _ => ?_
  refine k_call (by decide) hMM (fun hc => frX13_wants _ _ hst hc g_a0) fun v7 M7 _ hM7 => ?_
  refine k_if ?_ ?_
  · exact k_ret hM7 trivial
  · refine k_gR hM7 g_a0 fun v15 g_v15 => ?_
    refine k_bo fun v19 => ?_
    refine k_call (by decide) hM7 (fun hc => frX13_eight _ _ _ hst hc g_v15) fun v23 M23 _ hM23 => ?_
    refine k_bn fun v26 => ?_
    refine k_bo fun v30 => ?_
    refine k_pI (by decide) (by decide) (by decide) hM23 g_a0 fun M35 hM35 => ?_
    refine k_if ?_ ?_
    · exact hL142 a0 a1 v4 v26 _ g_a0 hM35
    · refine k_if ?_ ?_
      · exact hL142 a0 a1 v4 v26 _ g_a0 hM35
      · refine k_bo fun _ => ?_
        refine k_call (by decide) hM35 (fun hc => frX13_wants _ _ hst hc g_a0) fun v58 M58 _ hM58 => ?_
        refine k_if ?_ ?_
        · exact k_ret hM58 trivial
        · refine k_gR hM58 g_a0 fun v66 g_v66 => ?_
          refine k_bo fun v70 => ?_
          refine k_call (by decide) hM58 (fun hc => frX13_eight _ _ _ hst hc g_v66) fun v74 M74 _ hM74 => ?_
          refine k_bn fun v77 => ?_
          refine k_bo fun v81 => ?_
          refine k_pI (by decide) (by decide) (by decide) hM74 g_a0 fun M86 hM86 => ?_
          refine k_bo fun v90 => ?_
          refine k_bo fun v94 => ?_
          refine k_if ?_ ?_
          · refine k_bo fun v118 => ?_
            refine k_pI (by decide) (by decide) (by decide) hM86 g_a0 fun M125 hM125 => ?_
            refine k_gR hM125 g_a0 fun v129 g_v129 => ?_
            refine k_bo fun v135 => ?_
            refine k_wI (by decide) hM125 g_v129 fun M138 hM138 => ?_
            exact hL166 _ hM138
          · refine k_bo fun v108 => ?_
            refine k_bo fun _ => ?_
            refine k_call (by decide) hM86 (fun hc => frX13_fails _ _ _ hst hc g_a0) fun v111 M111 _ hM111 => ?_
            exact k_ret hM111 trivial
def wkX13_open : List Nat := [1303, 1304, 1305, 1306, 1307, 1308, 1309, 1310, 1311, 1313, 1333, 1335, 1337, 1338, 1339, 1340, 1341, 1342, 1346, 1351, 1352, 1400, 1500, 1600, 1700, 1800]
set_option maxRecDepth 100000 in
set_option maxHeartbeats 4000000 in
theorem frX13_open {G : Nat → Prop} {MM : Mem} (a0 : Option Nat) (a1 : Int64) (hst : ∀ k, k < 10 → G k) (hc : Cl G MM) (g_a0 : inG G a0) : okv (fun _ : Int32 => True) MM G wkX13_open (fX13_open a0 a1 MM) := by
  have hMM : FrG G wkX13_open MM MM := FrG.rf hc
  have hL169 : ∀ (p0 : Option Nat) (p3 : Int32) (M : Mem) (g_p0 : inG G p0) (hM : FrG G wkX13_open MM M), okv (fun _ : Int32 => True) MM G wkX13_open (fX13_open_L169 p0 p3 M) := by
    intro p0 p3 M g_p0 hM
    refine k_lp (T := fun a : Option Nat × Int32 => inG G (a.1)) ?_ FU ((p0, p3)) M g_p0 hM
    intro k169 hk169 a M T hM
    obtain ⟨p0, p3⟩ := a
    have g_p0 := T
    show okv (fun _ : Int32 => True) MM G wkX13_open (fX13_open_B169 k169 p0 p3 M)
    unfold fX13_open_B169
    refine k_bo fun v171 => ?_
    refine k_if ?_ ?_
    · refine k_bo fun v197 => ?_
      refine k_pI (by decide) (by decide) (by decide) hM g_p0 fun M200 hM200 => ?_
      refine k_bo fun v204 => ?_
      exact k_ret hM200 trivial
    · refine k_gR hM g_p0 fun v178 g_v178 => ?_
      refine k_gR hM g_p0 fun v183 g_v183 => ?_
      refine k_bo fun v187 => ?_
      refine k_wB (by decide) hM g_v178 fun M188 hM188 => ?_
      refine k_bn fun v189 => ?_
      exact hk169 ((p0, v189)) _ g_p0 hM188
  have hL125 : ∀ (p0 : Option Nat) (p3 : Int32) (M : Mem) (g_p0 : inG G p0) (hM : FrG G wkX13_open MM M), okv (fun _ : Int32 => True) MM G wkX13_open (fX13_open_L125 p0 p3 M) := by
    intro p0 p3 M g_p0 hM
    refine k_lp (T := fun a : Option Nat × Int32 => inG G (a.1)) ?_ FU ((p0, p3)) M g_p0 hM
    intro k125 hk125 a M T hM
    obtain ⟨p0, p3⟩ := a
    have g_p0 := T
    show okv (fun _ : Int32 => True) MM G wkX13_open (fX13_open_B125 k125 p0 p3 M)
    unfold fX13_open_B125
    refine k_if ?_ ?_
    · refine k_bo fun v153 => ?_
      refine k_if ?_ ?_
      · refine k_bn fun v168 => ?_
        exact hL169 p0 v168 _ g_p0 hM
      · refine k_bo fun v162 => ?_
        exact k_ret hM trivial
    · refine k_gR hM g_p0 fun v131 g_v131 => ?_
      refine k_gR hM g_p0 fun v139 g_v139 => ?_
      refine k_bo fun v143 => ?_
      refine k_wI (by decide) hM g_v131 fun M145 hM145 => ?_
      refine k_bn fun v146 => ?_
      exact hk125 ((p0, v146)) _ g_p0 hM145
  have hL123 : ∀ (p0 : Option Nat) (M : Mem) (g_p0 : inG G p0) (hM : FrG G wkX13_open MM M), okv (fun _ : Int32 => True) MM G wkX13_open (fX13_open_L123 p0 M) := by
    intro p0 M g_p0 hM
    unfold fX13_open_L123
    refine k_bn fun v124 => ?_
    exact hL125 p0 v124 _ g_p0 hM
  have hL97 : ∀ (p0 : Option Nat) (p1 : Int64) (M : Mem) (g_p0 : inG G p0) (hM : FrG G wkX13_open MM M), okv (fun _ : Int32 => True) MM G wkX13_open (fX13_open_L97 p0 p1 M) := by
    intro p0 p1 M g_p0 hM
    refine k_lp (T := fun a : Option Nat × Int64 => inG G (a.1)) ?_ FU ((p0, p1)) M g_p0 hM
    intro k97 hk97 a M T hM
    obtain ⟨p0, p1⟩ := a
    have g_p0 := T
    show okv (fun _ : Int32 => True) MM G wkX13_open (fX13_open_B97 k97 p0 p1 M)
    unfold fX13_open_B97
    refine k_bo fun v98 => ?_
    refine k_bo fun v102 => ?_
    refine k_if ?_ ?_
    · exact hL123 p0 _ g_p0 hM
    · refine k_bo fun v109 => ?_
      refine k_if ?_ ?_
      · refine k_bo fun _ => ?_
        refine k_call (by decide) hM (fun hc => frX13_frame _ _ hst hc g_p0) fun v117 M117 _ hM117 => ?_
        exact hk97 ((p0, p1)) _ g_p0 hM117
      · exact hL123 p0 _ g_p0 hM
  have hL60 : ∀ (p0 : Option Nat) (p1 : Int64) (p3 : Int32) (M : Mem) (g_p0 : inG G p0) (hM : FrG G wkX13_open MM M), okv (fun _ : Int32 => True) MM G wkX13_open (fX13_open_L60 p0 p1 p3 M) := by
    intro p0 p1 p3 M g_p0 hM
    refine k_lp (T := fun a : Option Nat × Int64 × Int32 => inG G (a.1)) ?_ FU ((p0, p1, p3)) M g_p0 hM
    intro k60 hk60 a M T hM
    obtain ⟨p0, p1, p3⟩ := a
    have g_p0 := T
    show okv (fun _ : Int32 => True) MM G wkX13_open (fX13_open_B60 k60 p0 p1 p3 M)
    unfold fX13_open_B60
    refine k_if ?_ ?_
    · refine k_gR hM g_p0 fun v86 g_v86 => ?_
      refine k_wZ (by decide) hM g_v86 fun M91 hM91 => ?_
      refine k_pI (by decide) (by decide) (by decide) hM91 g_p0 fun M94 hM94 => ?_
      exact hL97 p0 p1 _ g_p0 hM94
    · refine k_gR hM g_p0 fun v66 g_v66 => ?_
      refine k_wZ (by decide) hM g_v66 fun M71 hM71 => ?_
      refine k_gR hM71 g_p0 fun v73 g_v73 => ?_
      refine k_wJ (by decide) hM71 g_v73 fun M78 hM78 => ?_
      refine k_bn fun v79 => ?_
      exact hk60 ((p0, p1, v79)) _ g_p0 hM78
  have hL39 : ∀ (p0 : Option Nat) (p1 : Int64) (p3 : Int32) (M : Mem) (g_p0 : inG G p0) (hM : FrG G wkX13_open MM M), okv (fun _ : Int32 => True) MM G wkX13_open (fX13_open_L39 p0 p1 p3 M) := by
    intro p0 p1 p3 M g_p0 hM
    refine k_lp (T := fun a : Option Nat × Int64 × Int32 => inG G (a.1)) ?_ FU ((p0, p1, p3)) M g_p0 hM
    intro k39 hk39 a M T hM
    obtain ⟨p0, p1, p3⟩ := a
    have g_p0 := T
    show okv (fun _ : Int32 => True) MM G wkX13_open (fX13_open_B39 k39 p0 p1 p3 M)
    unfold fX13_open_B39
    refine k_if ?_ ?_
    · refine k_bn fun v59 => ?_
      exact hL60 p0 p1 v59 _ g_p0 hM
    · refine k_gR hM g_p0 fun v46 g_v46 => ?_
      refine k_wI (by decide) hM g_v46 fun M51 hM51 => ?_
      refine k_bn fun v52 => ?_
      exact hk39 ((p0, p1, v52)) _ g_p0 hM51
  unfold fX13_open
  refine k_if ?_ ?_
  · refine k_pI (by decide) (by decide) (by decide) hMM g_a0 fun M11 hM11 => ?_
    refine k_pI (by decide) (by decide) (by decide) hM11 g_a0 fun M16 hM16 => ?_
    refine k_gR hM16 g_a0 fun v21 g_v21 => ?_
    refine k_pR (by decide) (by decide) hM16 g_a0 g_v21 fun M24 hM24 => ?_
    refine k_pI (by decide) (by decide) (by decide) hM24 g_a0 fun M29 hM29 => ?_
    refine k_pI (by decide) (by decide) (by decide) hM29 g_a0 fun M34 hM34 => ?_
    refine k_bn fun v38 => ?_
    exact hL39 a0 a1 v38 _ g_a0 hM34
  · exact k_ret hMM trivial
def wkX13_told : List Nat := []
set_option maxRecDepth 100000 in
set_option maxHeartbeats 4000000 in
theorem frX13_told {G : Nat → Prop} {MM : Mem} (a0 : Option Nat) (a1 : Int32) (hst : ∀ k, k < 10 → G k) (hc : Cl G MM) (g_a0 : inG G a0) : okv (fun _ : Int32 => True) MM G wkX13_told (fX13_told a0 a1 MM) := by
  have hMM : FrG G wkX13_told MM MM := FrG.rf hc
  have hL21 : ∀ (q0 : Int32) (M : Mem) (hM : FrG G wkX13_told MM M), okv (fun _ : Int32 => True) MM G wkX13_told (fX13_told_L21 q0 M) := by
    intro q0 M hM
    unfold fX13_told_L21
    exact k_ret hM trivial
  have hL10 : ∀ (M : Mem) (hM : FrG G wkX13_told MM M), okv (fun _ : Int32 => True) MM G wkX13_told (fX13_told_L10 M) := by
    intro M hM
    unfold fX13_told_L10
    exact hL21 ((-2)) _ hM
  unfold fX13_told
  refine k_if ?_ ?_
  · exact hL10 _ hMM
  · refine k_if ?_ ?_
    · refine k_gR hMM g_a0 fun v16 g_v16 => ?_
      refine k_bo fun v20 => ?_
      exact hL21 v20 _ hMM
    · exact hL10 _ hMM
def wkX13_sequence_ : List Nat := []
set_option maxRecDepth 100000 in
set_option maxHeartbeats 4000000 in
theorem frX13_sequence_ {G : Nat → Prop} {MM : Mem} (a0 : Option Nat) (a1 : Int32) (a2 : Int32) (hst : ∀ k, k < 10 → G k) (hc : Cl G MM) (g_a0 : inG G a0) : okv (fun _ : Int32 => True) MM G wkX13_sequence_ (fX13_sequence_ a0 a1 a2 MM) := by
  have hMM : FrG G wkX13_sequence_ MM MM := FrG.rf hc
  have hL21 : ∀ (M : Mem) (hM : FrG G wkX13_sequence_ MM M), okv (fun _ : Int32 => True) MM G wkX13_sequence_ (fX13_sequence__L21 M) := by
    intro M hM
    unfold fX13_sequence__L21
    exact k_ret hM trivial
  have hL71 : ∀ (q0 : Int32) (M : Mem) (hM : FrG G wkX13_sequence_ MM M), okv (fun _ : Int32 => True) MM G wkX13_sequence_ (fX13_sequence__L71 q0 M) := by
    intro q0 M hM
    unfold fX13_sequence__L71
    exact k_ret hM trivial
  unfold fX13_sequence_
  refine k_if ?_ ?_
  · exact hL21 _ hMM
  · refine k_bo fun v6 => ?_
    refine k_if ?_ ?_
    · exact hL21 _ hMM
    · refine k_if ?_ ?_
      · exact hL21 _ hMM
      · refine k_if ?_ ?_
        · refine k_if ?_ ?_
          · refine k_gR hMM g_a0 fun v29 g_v29 => ?_
            refine k_bo fun v33 => ?_
            exact hL71 v33 _ hMM
          · refine k_if ?_ ?_
            · refine k_gR hMM g_a0 fun v43 g_v43 => ?_
              refine k_bo fun v47 => ?_
              exact hL71 v47 _ hMM
            · refine k_if ?_ ?_
              · refine k_gR hMM g_a0 fun v57 g_v57 => ?_
                refine k_bo fun v61 => ?_
                exact hL71 v61 _ hMM
              · refine k_gR hMM g_a0 fun v66 g_v66 => ?_
                refine k_bo fun v70 => ?_
                exact hL71 v70 _ hMM
        · exact hL21 _ hMM
def wkX13_table_ : List Nat := []
set_option maxRecDepth 100000 in
set_option maxHeartbeats 4000000 in
theorem frX13_table_ {G : Nat → Prop} {MM : Mem} (a0 : Option Nat) (a1 : Int32) (a2 : Int32) (a3 : Int32) (hst : ∀ k, k < 10 → G k) (hc : Cl G MM) (g_a0 : inG G a0) : okv (fun _ : Int32 => True) MM G wkX13_table_ (fX13_table_ a0 a1 a2 a3 MM) := by
  have hMM : FrG G wkX13_table_ MM MM := FrG.rf hc
  have hL18 : ∀ (M : Mem) (hM : FrG G wkX13_table_ MM M), okv (fun _ : Int32 => True) MM G wkX13_table_ (fX13_table__L18 M) := by
    intro M hM
    unfold fX13_table__L18
    exact k_ret hM trivial
  have hL50 : ∀ (M : Mem) (hM : FrG G wkX13_table_ MM M), okv (fun _ : Int32 => True) MM G wkX13_table_ (fX13_table__L50 M) := by
    intro M hM
    unfold fX13_table__L50
    exact k_ret hM trivial
  have hL111 : ∀ (q0 : Int32) (M : Mem) (hM : FrG G wkX13_table_ MM M), okv (fun _ : Int32 => True) MM G wkX13_table_ (fX13_table__L111 q0 M) := by
    intro q0 M hM
    unfold fX13_table__L111
    exact k_ret hM trivial
  unfold fX13_table_
  refine k_if ?_ ?_
  · exact hL18 _ hMM
  · refine k_if ?_ ?_
    · exact hL18 _ hMM
    · refine k_if ?_ ?_
      · exact hL18 _ hMM
      · refine k_if ?_ ?_
        · refine k_gR hMM g_a0 fun v22 g_v22 => ?_
          refine k_bo fun v26 => ?_
          refine k_if ?_ ?_
          · exact k_ret hMM trivial
          · refine k_if ?_ ?_
            · exact hL50 _ hMM
            · refine k_gR hMM g_a0 fun v41 g_v41 => ?_
              refine k_bo fun v45 => ?_
              refine k_if ?_ ?_
              · refine k_bn fun v60 => ?_
                refine k_if ?_ ?_
                · refine k_if ?_ ?_
                  · refine k_gR hMM g_a0 fun v80 g_v80 => ?_
                    refine k_bo fun v85 => ?_
                    exact hL111 v85 _ hMM
                  · refine k_if ?_ ?_
                    · refine k_gR hMM g_a0 fun v95 g_v95 => ?_
                      refine k_bo fun v100 => ?_
                      exact hL111 v100 _ hMM
                    · refine k_gR hMM g_a0 fun v105 g_v105 => ?_
                      refine k_bo fun v110 => ?_
                      exact hL111 v110 _ hMM
                · refine k_gR hMM g_a0 fun v67 g_v67 => ?_
                  refine k_bo fun v71 => ?_
                  exact hL111 v71 _ hMM
              · exact hL50 _ hMM
        · exact hL18 _ hMM
def wkX13_bits : List Nat := []
set_option maxRecDepth 100000 in
set_option maxHeartbeats 4000000 in
theorem frX13_bits {G : Nat → Prop} {MM : Mem} (a0 : Option Nat) (a1 : Int32) (hst : ∀ k, k < 10 → G k) (hc : Cl G MM) (g_a0 : inG G a0) : okv (fun _ : Int32 => True) MM G wkX13_bits (fX13_bits a0 a1 MM) := by
  have hMM : FrG G wkX13_bits MM MM := FrG.rf hc
  have hL36 : ∀ (q0 : Int32) (M : Mem) (hM : FrG G wkX13_bits MM M), okv (fun _ : Int32 => True) MM G wkX13_bits (fX13_bits_L36 q0 M) := by
    intro q0 M hM
    unfold fX13_bits_L36
    exact k_ret hM trivial
  have hL11 : ∀ (M : Mem) (hM : FrG G wkX13_bits MM M), okv (fun _ : Int32 => True) MM G wkX13_bits (fX13_bits_L11 M) := by
    intro M hM
    unfold fX13_bits_L11
    exact hL36 ((-2)) _ hM
  unfold fX13_bits
  refine k_if ?_ ?_
  · exact hL11 _ hMM
  · refine k_if ?_ ?_
    · refine k_gR hMM g_a0 fun v17 g_v17 => ?_
      refine k_bo fun v21 => ?_
      refine k_if ?_ ?_
      · exact hL36 ((-3)) _ hMM
      · refine k_gR hMM g_a0 fun v26 g_v26 => ?_
        refine k_bo fun v30 => ?_
        exact hL36 v30 _ hMM
    · exact hL11 _ hMM
def wkX13_say : List Nat := [1354, 1400]
set_option maxRecDepth 100000 in
set_option maxHeartbeats 4000000 in
theorem frX13_say {G : Nat → Prop} {MM : Mem} (a0 : Option Nat) (a1 : Int64) (a3 : Int32) (hst : ∀ k, k < 10 → G k) (hc : Cl G MM) (g_a0 : inG G a0) : okv (fun _ : Unit => True) MM G wkX13_say (fX13_say a0 a1 a3 MM) := by
  have hMM : FrG G wkX13_say MM MM := FrG.rf hc
  have hL3 : ∀ (p0 : Option Nat) (p1 : Int64) (p3 : Int32) (p4 : Int32) (M : Mem) (g_p0 : inG G p0) (hM : FrG G wkX13_say MM M), okv (fun _ : Unit => True) MM G wkX13_say (fX13_say_L3 p0 p1 p3 p4 M) := by
    intro p0 p1 p3 p4 M g_p0 hM
    refine k_lp (T := fun a : Option Nat × Int64 × Int32 × Int32 => inG G (a.1)) ?_ FU ((p0, p1, p3, p4)) M g_p0 hM
    intro k3 hk3 a M T hM
    obtain ⟨p0, p1, p3, p4⟩ := a
    have g_p0 := T
    show okv (fun _ : Unit => True) MM G wkX13_say (fX13_say_B3 k3 p0 p1 p3 p4 M)
    unfold fX13_say_B3
    refine k_if ?_ ?_
    · exact k_ret hM trivial
    · refine k_gR hM g_p0 fun v10 g_v10 => ?_
      refine k_bo fun v14 => ?_
      refine k_wB (by decide) hM g_v10 fun M26 hM26 => ?_
      refine k_bo fun v29 => ?_
      refine k_pI (by decide) (by decide) (by decide) hM26 g_p0 fun M34 hM34 => ?_
      refine k_bn fun v37 => ?_
      exact hk3 ((p0, p1, p3, v37)) _ g_p0 hM34
  unfold fX13_say
  refine k_bn fun v1 => ?_
  exact hL3 a0 a1 a3 v1 _ g_a0 hMM
def wkX13_digit : List Nat := [1356, 1400]
set_option maxRecDepth 100000 in
set_option maxHeartbeats 4000000 in
theorem frX13_digit {G : Nat → Prop} {MM : Mem} (a0 : Option Nat) (a1 : Int64) (a3 : Int32) (hst : ∀ k, k < 10 → G k) (hc : Cl G MM) (g_a0 : inG G a0) : okv (fun _ : Unit => True) MM G wkX13_digit (fX13_digit a0 a1 a3 MM) := by
  have hMM : FrG G wkX13_digit MM MM := FrG.rf hc
  have hL5 : ∀ (p0 : Option Nat) (p1 : Int64) (p4 : Int32) (M : Mem) (g_p0 : inG G p0) (hM : FrG G wkX13_digit MM M), okv (fun _ : Unit => True) MM G wkX13_digit (fX13_digit_L5 p0 p1 p4 M) := by
    intro p0 p1 p4 M g_p0 hM
    refine k_lp (T := fun a : Option Nat × Int64 × Int32 => inG G (a.1)) ?_ FU ((p0, p1, p4)) M g_p0 hM
    intro k5 hk5 a M T hM
    obtain ⟨p0, p1, p4⟩ := a
    have g_p0 := T
    show okv (fun _ : Unit => True) MM G wkX13_digit (fX13_digit_B5 k5 p0 p1 p4 M)
    unfold fX13_digit_B5
    refine k_if ?_ ?_
    · exact k_ret hM trivial
    · refine k_gR hM g_p0 fun v11 g_v11 => ?_
      refine k_bo fun v15 => ?_
      refine k_wB (by decide) hM g_v11 fun M26 hM26 => ?_
      refine k_bo fun v29 => ?_
      refine k_pI (by decide) (by decide) (by decide) hM26 g_p0 fun M34 hM34 => ?_
      refine k_bn fun v37 => ?_
      exact hk5 ((p0, p1, v37)) _ g_p0 hM34
  unfold fX13_digit
  refine k_bn fun v3 => ?_
  exact hL5 a0 a1 v3 _ g_a0 hMM
def wkX13_sayDigits : List Nat := [1354, 1356, 1400]
set_option maxRecDepth 100000 in
set_option maxHeartbeats 4000000 in
theorem frX13_sayDigits {G : Nat → Prop} {MM : Mem} (a0 : Option Nat) (hst : ∀ k, k < 10 → G k) (hc : Cl G MM) (g_a0 : inG G a0) : okv (fun _ : Unit => True) MM G wkX13_sayDigits (fX13_sayDigits a0 MM) := by
  have hMM : FrG G wkX13_sayDigits MM MM := FrG.rf hc
  have hL85 : ∀ (k12 : Option Nat × Int32 × Int32 → Mem → Option (Unit × Mem)) (hk12 : ∀ a M, (inG G (a.1)) → FrG G wkX13_sayDigits MM M → okv (fun _ : Unit => True) MM G wkX13_sayDigits (k12 a M)) (k22 : Option Nat × Int32 × Int32 × Int32 × Int32 → Mem → Option (Unit × Mem)) (hk22 : ∀ a M, (inG G (a.1)) → FrG G wkX13_sayDigits MM M → okv (fun _ : Unit => True) MM G wkX13_sayDigits (k22 a M)) (p0 : Option Nat) (p1 : Int32) (p2 : Int32) (p4 : Int32) (q0 : Int32) (q1 : Int32) (M : Mem) (g_p0 : inG G p0) (hM : FrG G wkX13_sayDigits MM M), okv (fun _ : Unit => True) MM G wkX13_sayDigits (fX13_sayDigits_L85 k12 k22 p0 p1 p2 p4 q0 q1 M) := by
    intro k12 hk12 k22 hk22 p0 p1 p2 p4 q0 q1 M g_p0 hM
    unfold fX13_sayDigits_L85
    refine k_bn fun v86 => ?_
    refine k_bn fun v87 => ?_
    exact hk22 ((p0, p1, p2, v86, v87)) _ g_p0 hM
  have hL22 : ∀ (k12 : Option Nat × Int32 × Int32 → Mem → Option (Unit × Mem)) (hk12 : ∀ a M, (inG G (a.1)) → FrG G wkX13_sayDigits MM M → okv (fun _ : Unit => True) MM G wkX13_sayDigits (k12 a M)) (p0 : Option Nat) (p1 : Int32) (p2 : Int32) (p3 : Int32) (p4 : Int32) (M : Mem) (g_p0 : inG G p0) (hM : FrG G wkX13_sayDigits MM M), okv (fun _ : Unit => True) MM G wkX13_sayDigits (fX13_sayDigits_L22 k12 p0 p1 p2 p3 p4 M) := by
    intro k12 hk12 p0 p1 p2 p3 p4 M g_p0 hM
    refine k_lp (T := fun a : Option Nat × Int32 × Int32 × Int32 × Int32 => inG G (a.1)) ?_ FU ((p0, p1, p2, p3, p4)) M g_p0 hM
    intro k22 hk22 a M T hM
    obtain ⟨p0, p1, p2, p3, p4⟩ := a
    have g_p0 := T
    show okv (fun _ : Unit => True) MM G wkX13_sayDigits (fX13_sayDigits_B22 k12 k22 p0 p1 p2 p3 p4 M)
    unfold fX13_sayDigits_B22
    refine k_if ?_ ?_
    · refine k_bo fun _ => ?_
      refine k_call (by decide) hM (fun hc => frX13_say _ _ _ hst hc g_p0) fun v97 M97 _ hM97 => ?_
      refine k_bn fun v100 => ?_
      exact hk12 ((p0, p1, v100)) _ g_p0 hM97
    · refine k_bn fun v36 => ?_
      refine k_bo fun v42 => ?_
      refine k_if ?_ ?_
      · refine k_bo fun v71 => ?_
        refine k_if ?_ ?_
        · exact hL85 k12 hk12 k22 hk22 p0 p1 p2 p4 p3 (shlI 1 p4) _ g_p0 hM
        · exact hL85 k12 hk12 k22 hk22 p0 p1 p2 p4 p3 0 _ g_p0 hM
      · refine k_gR hM g_p0 fun v49 g_v49 => ?_
        refine k_bo fun v53 => ?_
        refine k_bo fun v61 => ?_
        exact hL85 k12 hk12 k22 hk22 p0 p1 p2 p4 p3 (shlI v61 p4) _ g_p0 hM
  have hL12 : ∀ (p0 : Option Nat) (p1 : Int32) (p2 : Int32) (M : Mem) (g_p0 : inG G p0) (hM : FrG G wkX13_sayDigits MM M), okv (fun _ : Unit => True) MM G wkX13_sayDigits (fX13_sayDigits_L12 p0 p1 p2 M) := by
    intro p0 p1 p2 M g_p0 hM
    refine k_lp (T := fun a : Option Nat × Int32 × Int32 => inG G (a.1)) ?_ FU ((p0, p1, p2)) M g_p0 hM
    intro k12 hk12 a M T hM
    obtain ⟨p0, p1, p2⟩ := a
    have g_p0 := T
    show okv (fun _ : Unit => True) MM G wkX13_sayDigits (fX13_sayDigits_B12 k12 p0 p1 p2 M)
    unfold fX13_sayDigits_B12
    refine k_if ?_ ?_
    · refine k_pI (by decide) (by decide) (by decide) hM g_p0 fun M108 hM108 => ?_
      exact k_ret hM108 trivial
    · refine k_bn fun v18 => ?_
      refine k_bn fun v20 => ?_
      exact hL22 k12 hk12 p0 p1 p2 v18 v20 _ g_p0 hM
  unfold fX13_sayDigits
  refine k_bo fun v1 => ?_
  refine k_bo fun v6 => ?_
  refine k_bn fun v9 => ?_
  refine k_bn fun v11 => ?_
  exact hL12 a0 v9 v11 _ g_a0 hMM
def wkX13_areSame : List Nat := []
set_option maxRecDepth 100000 in
set_option maxHeartbeats 4000000 in
theorem frX13_areSame {G : Nat → Prop} {MM : Mem} (a0 : Option Nat) (a1 : Option Nat) (a2 : Int32) (a3 : Int32) (hst : ∀ k, k < 10 → G k) (hc : Cl G MM) (g_a0 : inG G a0) (g_a1 : inG G a1) : okv z01 MM G wkX13_areSame (fX13_areSame a0 a1 a2 a3 MM) := by
  have hMM : FrG G wkX13_areSame MM MM := FrG.rf hc
  have hL39 : ∀ (q0 : Int32) (M : Mem) (hM : FrG G wkX13_areSame MM M), okv z01 MM G wkX13_areSame (fX13_areSame_L39 q0 M) := by
    intro q0 M hM
    unfold fX13_areSame_L39
    exact k_retZ hM
  have hL5 : ∀ (p1 : Option Nat) (p2 : Int32) (p3 : Int32) (p4 : Int32) (M : Mem) (g_p1 : inG G p1) (hM : FrG G wkX13_areSame MM M), okv z01 MM G wkX13_areSame (fX13_areSame_L5 p1 p2 p3 p4 M) := by
    intro p1 p2 p3 p4 M g_p1 hM
    refine k_lp (T := fun a : Option Nat × Int32 × Int32 × Int32 => inG G (a.1)) ?_ FU ((p1, p2, p3, p4)) M g_p1 hM
    intro k5 hk5 a M T hM
    obtain ⟨p1, p2, p3, p4⟩ := a
    have g_p1 := T
    show okv z01 MM G wkX13_areSame (fX13_areSame_B5 k5 p1 p2 p3 p4 M)
    unfold fX13_areSame_B5
    refine k_if ?_ ?_
    · refine k_if ?_ ?_
      · exact hL39 0 _ hM
      · exact hL39 1 _ hM
    · refine k_bo fun v14 => ?_
      refine k_bo fun v17 => ?_
      refine k_if ?_ ?_
      · refine k_bn fun v23 => ?_
        exact hk5 ((p1, p2, p3, v23)) _ g_p1 hM
      · exact k_retZ hM
  unfold fX13_areSame
  refine k_bn fun v3 => ?_
  exact hL5 a1 a2 a3 v3 _ g_a1 hMM
def wkX13_valueOf : List Nat := []
set_option maxRecDepth 100000 in
set_option maxHeartbeats 4000000 in
theorem frX13_valueOf {G : Nat → Prop} {MM : Mem} (a0 : Option Nat) (a1 : Int32) (a2 : Int32) (hst : ∀ k, k < 10 → G k) (hc : Cl G MM) (g_a0 : inG G a0) : okv (fun _ : Int64 => True) MM G wkX13_valueOf (fX13_valueOf a0 a1 a2 MM) := by
  have hMM : FrG G wkX13_valueOf MM MM := FrG.rf hc
  have hL39 : ∀ (k2 : Option Nat × Int32 × Int32 × Int32 → Mem → Option (Int64 × Mem)) (hk2 : ∀ a M, (inG G (a.1)) → FrG G wkX13_valueOf MM M → okv (fun _ : Int64 => True) MM G wkX13_valueOf (k2 a M)) (p0 : Option Nat) (p1 : Int32) (p2 : Int32) (p3 : Int32) (q0 : Int64) (M : Mem) (g_p0 : inG G p0) (hM : FrG G wkX13_valueOf MM M), okv (fun _ : Int64 => True) MM G wkX13_valueOf (fX13_valueOf_L39 k2 p0 p1 p2 p3 q0 M) := by
    intro k2 hk2 p0 p1 p2 p3 q0 M g_p0 hM
    unfold fX13_valueOf_L39
    refine k_if ?_ ?_
    · exact k_ret hM trivial
    · refine k_bn fun v48 => ?_
      exact hk2 ((p0, p1, p2, v48)) _ g_p0 hM
  have hL2 : ∀ (p0 : Option Nat) (p1 : Int32) (p2 : Int32) (p3 : Int32) (M : Mem) (g_p0 : inG G p0) (hM : FrG G wkX13_valueOf MM M), okv (fun _ : Int64 => True) MM G wkX13_valueOf (fX13_valueOf_L2 p0 p1 p2 p3 M) := by
    intro p0 p1 p2 p3 M g_p0 hM
    refine k_lp (T := fun a : Option Nat × Int32 × Int32 × Int32 => inG G (a.1)) ?_ FU ((p0, p1, p2, p3)) M g_p0 hM
    intro k2 hk2 a M T hM
    obtain ⟨p0, p1, p2, p3⟩ := a
    have g_p0 := T
    show okv (fun _ : Int64 => True) MM G wkX13_valueOf (fX13_valueOf_B2 k2 p0 p1 p2 p3 M)
    unfold fX13_valueOf_B2
    refine k_if ?_ ?_
    · exact k_ret hM trivial
    · refine k_call (by decide) hM (fun hc => frX13_meant _ _ hst hc) fun v10 M10 _ hM10 => ?_
      refine k_bn fun v13 => ?_
      refine k_if ?_ ?_
      · refine k_gR hM10 g_p0 fun v22 g_v22 => ?_
        refine k_bo fun v26 => ?_
        exact hL39 k2 hk2 p0 p1 p2 p3 (v26 - 1) _ g_p0 hM10
      · refine k_gR hM10 g_p0 fun v33 g_v33 => ?_
        refine k_bo fun v38 => ?_
        exact hL39 k2 hk2 p0 p1 p2 p3 v38 _ g_p0 hM10
  unfold fX13_valueOf
  refine k_bn fun v1 => ?_
  exact hL2 a0 a1 a2 v1 _ g_a0 hMM
def wkX13_findActs : List Nat := [1361, 1368, 1400, 1500, 1600]
set_option maxRecDepth 100000 in
set_option maxHeartbeats 4000000 in
theorem frX13_findActs {G : Nat → Prop} {MM : Mem} (a0 : Option Nat) (a1 : Int32) (a2 : Int32) (hst : ∀ k, k < 10 → G k) (hc : Cl G MM) (g_a0 : inG G a0) : okv (fun _ : Unit => True) MM G wkX13_findActs (fX13_findActs a0 a1 a2 MM) := by
  have hMM : FrG G wkX13_findActs MM MM := FrG.rf hc
  have hL278 : ∀ (k15 : Option Nat × Int32 × Int32 × Int32 → Mem → Option (Unit × Mem)) (hk15 : ∀ a M, (inG G (a.1)) → FrG G wkX13_findActs MM M → okv (fun _ : Unit => True) MM G wkX13_findActs (k15 a M)) (p0 : Option Nat) (p2 : Int32) (p3 : Int32) (p4 : Int32) (M : Mem) (g_p0 : inG G p0) (hM : FrG G wkX13_findActs MM M), okv (fun _ : Unit => True) MM G wkX13_findActs (fX13_findActs_L278 k15 p0 p2 p3 p4 M) := by
    intro k15 hk15 p0 p2 p3 p4 M g_p0 hM
    unfold fX13_findActs_L278
    exact hk15 ((p0, p2, p3, p4)) _ g_p0 hM
  have hL154 : ∀ (k15 : Option Nat × Int32 × Int32 × Int32 → Mem → Option (Unit × Mem)) (hk15 : ∀ a M, (inG G (a.1)) → FrG G wkX13_findActs MM M → okv (fun _ : Unit => True) MM G wkX13_findActs (k15 a M)) (p0 : Option Nat) (p2 : Int32) (p3 : Int32) (p4 : Int32) (p5 : Int32) (p6 : Int32) (M : Mem) (g_p0 : inG G p0) (hM : FrG G wkX13_findActs MM M), okv (fun _ : Unit => True) MM G wkX13_findActs (fX13_findActs_L154 k15 p0 p2 p3 p4 p5 p6 M) := by
    intro k15 hk15 p0 p2 p3 p4 p5 p6 M g_p0 hM
    unfold fX13_findActs_L154
    refine k_if ?_ ?_
    · refine k_gR hM g_p0 fun v195 g_v195 => ?_
      refine k_bo fun v199 => ?_
      refine k_wI (by decide) hM g_v195 fun M203 hM203 => ?_
      refine k_gR hM203 g_p0 fun v205 g_v205 => ?_
      refine k_bo fun v209 => ?_
      refine k_wI (by decide) hM203 g_v205 fun M214 hM214 => ?_
      refine k_gR hM214 g_p0 fun v216 g_v216 => ?_
      refine k_bo fun v220 => ?_
      refine k_bo fun v225 => ?_
      refine k_bo fun _ => ?_
      refine k_call (by decide) hM214 (fun hc => frX13_valueOf _ _ _ hst hc g_p0) fun v235 M235 _ hM235 => ?_
      refine k_wJ (by decide) hM235 g_v216 fun M238 hM238 => ?_
      refine k_gR hM238 g_p0 fun v241 g_v241 => ?_
      refine k_gR hM238 g_p0 fun v245 g_v245 => ?_
      refine k_bo fun v249 => ?_
      refine k_bo fun v252 => ?_
      refine k_bo fun _ => ?_
      refine k_call (by decide) hM238 (fun hc => frX13_offsetOf _ _ _ _ hst hc g_p0 g_v241) fun v254 M254 _ hM254 => ?_
      refine k_bn fun v257 => ?_
      refine k_bo fun v261 => ?_
      refine k_pI (by decide) (by decide) (by decide) hM254 g_p0 fun M266 hM266 => ?_
      refine k_bn fun v270 => ?_
      refine k_bn fun v276 => ?_
      exact hL278 k15 hk15 p0 p2 v270 v276 _ g_p0 hM266
    · refine k_gR hM g_p0 fun v160 g_v160 => ?_
      refine k_bo fun v164 => ?_
      refine k_gR hM g_p0 fun v168 g_v168 => ?_
      refine k_bo fun v173 => ?_
      refine k_wB (by decide) hM g_v160 fun M174 hM174 => ?_
      refine k_bo fun v177 => ?_
      refine k_pI (by decide) (by decide) (by decide) hM174 g_p0 fun M182 hM182 => ?_
      refine k_bn fun v185 => ?_
      refine k_bn fun v188 => ?_
      exact hL278 k15 hk15 p0 p2 v185 v188 _ g_p0 hM182
  have hL148 : ∀ (k15 : Option Nat × Int32 × Int32 × Int32 → Mem → Option (Unit × Mem)) (hk15 : ∀ a M, (inG G (a.1)) → FrG G wkX13_findActs MM M → okv (fun _ : Unit => True) MM G wkX13_findActs (k15 a M)) (k41 : Option Nat × Int32 × Int32 × Int32 × Int32 × Int32 × Int32 × Int32 → Mem → Option (Unit × Mem)) (hk41 : ∀ a M, (inG G (a.1)) → FrG G wkX13_findActs MM M → okv (fun _ : Unit => True) MM G wkX13_findActs (k41 a M)) (p0 : Option Nat) (p2 : Int32) (p3 : Int32) (p4 : Int32) (p5 : Int32) (p6 : Int32) (p7 : Int32) (p8 : Int32) (M : Mem) (g_p0 : inG G p0) (hM : FrG G wkX13_findActs MM M), okv (fun _ : Unit => True) MM G wkX13_findActs (fX13_findActs_L148 k15 k41 p0 p2 p3 p4 p5 p6 p7 p8 M) := by
    intro k15 hk15 k41 hk41 p0 p2 p3 p4 p5 p6 p7 p8 M g_p0 hM
    unfold fX13_findActs_L148
    refine k_bn fun v148 => ?_
    exact hk41 ((p0, p2, p3, p4, p5, p6, p7, v148)) _ g_p0 hM
  have hL146 : ∀ (k15 : Option Nat × Int32 × Int32 × Int32 → Mem → Option (Unit × Mem)) (hk15 : ∀ a M, (inG G (a.1)) → FrG G wkX13_findActs MM M → okv (fun _ : Unit => True) MM G wkX13_findActs (k15 a M)) (k41 : Option Nat × Int32 × Int32 × Int32 × Int32 × Int32 × Int32 × Int32 → Mem → Option (Unit × Mem)) (hk41 : ∀ a M, (inG G (a.1)) → FrG G wkX13_findActs MM M → okv (fun _ : Unit => True) MM G wkX13_findActs (k41 a M)) (p0 : Option Nat) (p2 : Int32) (p3 : Int32) (p4 : Int32) (p5 : Int32) (p7 : Int32) (p8 : Int32) (q0 : Int32) (M : Mem) (g_p0 : inG G p0) (hM : FrG G wkX13_findActs MM M), okv (fun _ : Unit => True) MM G wkX13_findActs (fX13_findActs_L146 k15 k41 p0 p2 p3 p4 p5 p7 p8 q0 M) := by
    intro k15 hk15 k41 hk41 p0 p2 p3 p4 p5 p7 p8 q0 M g_p0 hM
    unfold fX13_findActs_L146
    refine k_bn fun v146 => ?_
    exact hL148 k15 hk15 k41 hk41 p0 p2 p3 p4 p5 v146 p7 p8 _ g_p0 hM
  have hL130 : ∀ (k15 : Option Nat × Int32 × Int32 × Int32 → Mem → Option (Unit × Mem)) (hk15 : ∀ a M, (inG G (a.1)) → FrG G wkX13_findActs MM M → okv (fun _ : Unit => True) MM G wkX13_findActs (k15 a M)) (k41 : Option Nat × Int32 × Int32 × Int32 × Int32 × Int32 × Int32 × Int32 → Mem → Option (Unit × Mem)) (hk41 : ∀ a M, (inG G (a.1)) → FrG G wkX13_findActs MM M → okv (fun _ : Unit => True) MM G wkX13_findActs (k41 a M)) (p0 : Option Nat) (p2 : Int32) (p3 : Int32) (p4 : Int32) (p6 : Int32) (p7 : Int32) (p8 : Int32) (p9 : Int32) (q0 : Int32) (M : Mem) (g_p0 : inG G p0) (hM : FrG G wkX13_findActs MM M), okv (fun _ : Unit => True) MM G wkX13_findActs (fX13_findActs_L130 k15 k41 p0 p2 p3 p4 p6 p7 p8 p9 q0 M) := by
    intro k15 hk15 k41 hk41 p0 p2 p3 p4 p6 p7 p8 p9 q0 M g_p0 hM
    unfold fX13_findActs_L130
    refine k_bn fun v130 => ?_
    refine k_if ?_ ?_
    · exact hL146 k15 hk15 k41 hk41 p0 p2 p3 p4 v130 p7 p8 p6 _ g_p0 hM
    · exact hL146 k15 hk15 k41 hk41 p0 p2 p3 p4 v130 p7 p8 p9 _ g_p0 hM
  have hL107 : ∀ (k15 : Option Nat × Int32 × Int32 × Int32 → Mem → Option (Unit × Mem)) (hk15 : ∀ a M, (inG G (a.1)) → FrG G wkX13_findActs MM M → okv (fun _ : Unit => True) MM G wkX13_findActs (k15 a M)) (k41 : Option Nat × Int32 × Int32 × Int32 × Int32 × Int32 × Int32 × Int32 → Mem → Option (Unit × Mem)) (hk41 : ∀ a M, (inG G (a.1)) → FrG G wkX13_findActs MM M → okv (fun _ : Unit => True) MM G wkX13_findActs (k41 a M)) (p0 : Option Nat) (p2 : Int32) (p3 : Int32) (p4 : Int32) (p5 : Int32) (p6 : Int32) (p7 : Int32) (p8 : Int32) (p9 : Int32) (M : Mem) (g_p0 : inG G p0) (hM : FrG G wkX13_findActs MM M), okv (fun _ : Unit => True) MM G wkX13_findActs (fX13_findActs_L107 k15 k41 p0 p2 p3 p4 p5 p6 p7 p8 p9 M) := by
    intro k15 hk15 k41 hk41 p0 p2 p3 p4 p5 p6 p7 p8 p9 M g_p0 hM
    unfold fX13_findActs_L107
    refine k_if ?_ ?_
    · exact hL148 k15 hk15 k41 hk41 p0 p2 p3 p4 p5 p6 p7 p8 _ g_p0 hM
    · refine k_bn fun v113 => ?_
      refine k_if ?_ ?_
      · exact hL130 k15 hk15 k41 hk41 p0 p2 p3 p4 p6 v113 p8 p9 p5 _ g_p0 hM
      · exact hL130 k15 hk15 k41 hk41 p0 p2 p3 p4 p6 v113 p8 p9 p8 _ g_p0 hM
  have hL64 : ∀ (k15 : Option Nat × Int32 × Int32 × Int32 → Mem → Option (Unit × Mem)) (hk15 : ∀ a M, (inG G (a.1)) → FrG G wkX13_findActs MM M → okv (fun _ : Unit => True) MM G wkX13_findActs (k15 a M)) (k41 : Option Nat × Int32 × Int32 × Int32 × Int32 × Int32 × Int32 × Int32 → Mem → Option (Unit × Mem)) (hk41 : ∀ a M, (inG G (a.1)) → FrG G wkX13_findActs MM M → okv (fun _ : Unit => True) MM G wkX13_findActs (k41 a M)) (p0 : Option Nat) (p2 : Int32) (p3 : Int32) (p4 : Int32) (p5 : Int32) (p6 : Int32) (p7 : Int32) (p8 : Int32) (p9 : Int32) (M : Mem) (g_p0 : inG G p0) (hM : FrG G wkX13_findActs MM M), okv (fun _ : Unit => True) MM G wkX13_findActs (fX13_findActs_L64 k15 k41 p0 p2 p3 p4 p5 p6 p7 p8 p9 M) := by
    intro k15 hk15 k41 hk41 p0 p2 p3 p4 p5 p6 p7 p8 p9 M g_p0 hM
    refine k_lp (T := fun a : Option Nat × Int32 × Int32 × Int32 × Int32 × Int32 × Int32 × Int32 × Int32 => inG G (a.1)) ?_ FU ((p0, p2, p3, p4, p5, p6, p7, p8, p9)) M g_p0 hM
    intro k64 hk64 a M T hM
    obtain ⟨p0, p2, p3, p4, p5, p6, p7, p8, p9⟩ := a
    have g_p0 := T
    show okv (fun _ : Unit => True) MM G wkX13_findActs (fX13_findActs_B64 k15 k41 k64 p0 p2 p3 p4 p5 p6 p7 p8 p9 M)
    unfold fX13_findActs_B64
    refine k_if ?_ ?_
    · exact hL107 k15 hk15 k41 hk41 p0 p2 p3 p4 p5 p6 p7 p8 p9 _ g_p0 hM
    · refine k_gR hM g_p0 fun v74 g_v74 => ?_
      refine k_bo fun v82 => ?_
      refine k_gR hM g_p0 fun v84 g_v84 => ?_
      refine k_bo fun v88 => ?_
      refine k_bo fun v97 => ?_
      refine k_if ?_ ?_
      · refine k_bn fun v101 => ?_
        exact hk64 ((p0, p2, p3, p4, p5, p6, p7, p8, v101)) _ g_p0 hM
      · exact hL107 k15 hk15 k41 hk41 p0 p2 p3 p4 p5 p6 p7 p8 p9 _ g_p0 hM
  have hL41 : ∀ (k15 : Option Nat × Int32 × Int32 × Int32 → Mem → Option (Unit × Mem)) (hk15 : ∀ a M, (inG G (a.1)) → FrG G wkX13_findActs MM M → okv (fun _ : Unit => True) MM G wkX13_findActs (k15 a M)) (p0 : Option Nat) (p2 : Int32) (p3 : Int32) (p4 : Int32) (p5 : Int32) (p6 : Int32) (p7 : Int32) (p8 : Int32) (M : Mem) (g_p0 : inG G p0) (hM : FrG G wkX13_findActs MM M), okv (fun _ : Unit => True) MM G wkX13_findActs (fX13_findActs_L41 k15 p0 p2 p3 p4 p5 p6 p7 p8 M) := by
    intro k15 hk15 p0 p2 p3 p4 p5 p6 p7 p8 M g_p0 hM
    refine k_lp (T := fun a : Option Nat × Int32 × Int32 × Int32 × Int32 × Int32 × Int32 × Int32 => inG G (a.1)) ?_ FU ((p0, p2, p3, p4, p5, p6, p7, p8)) M g_p0 hM
    intro k41 hk41 a M T hM
    obtain ⟨p0, p2, p3, p4, p5, p6, p7, p8⟩ := a
    have g_p0 := T
    show okv (fun _ : Unit => True) MM G wkX13_findActs (fX13_findActs_B41 k15 k41 p0 p2 p3 p4 p5 p6 p7 p8 M)
    unfold fX13_findActs_B41
    refine k_if ?_ ?_
    · exact hL154 k15 hk15 p0 p2 p3 p4 p5 p6 _ g_p0 hM
    · refine k_if ?_ ?_
      · exact hL154 k15 hk15 p0 p2 p3 p4 p5 p6 _ g_p0 hM
      · refine k_if ?_ ?_
        · exact hL154 k15 hk15 p0 p2 p3 p4 p5 p6 _ g_p0 hM
        · refine k_bn fun v62 => ?_
          exact hL64 k15 hk15 k41 hk41 p0 p2 p3 p4 p5 p6 p7 p8 v62 _ g_p0 hM
  have hL15 : ∀ (p0 : Option Nat) (p2 : Int32) (p3 : Int32) (p4 : Int32) (M : Mem) (g_p0 : inG G p0) (hM : FrG G wkX13_findActs MM M), okv (fun _ : Unit => True) MM G wkX13_findActs (fX13_findActs_L15 p0 p2 p3 p4 M) := by
    intro p0 p2 p3 p4 M g_p0 hM
    refine k_lp (T := fun a : Option Nat × Int32 × Int32 × Int32 => inG G (a.1)) ?_ FU ((p0, p2, p3, p4)) M g_p0 hM
    intro k15 hk15 a M T hM
    obtain ⟨p0, p2, p3, p4⟩ := a
    have g_p0 := T
    show okv (fun _ : Unit => True) MM G wkX13_findActs (fX13_findActs_B15 k15 p0 p2 p3 p4 M)
    unfold fX13_findActs_B15
    refine k_if ?_ ?_
    · exact k_ret hM trivial
    · refine k_bn fun v22 => ?_
      refine k_bn fun v25 => ?_
      refine k_bn fun v28 => ?_
      refine k_bo fun v31 => ?_
      refine k_bn fun v39 => ?_
      exact hL41 k15 hk15 p0 p2 p3 p4 v22 v25 v28 v39 _ g_p0 hM
  unfold fX13_findActs
  refine k_pI (by decide) (by decide) (by decide) hMM g_a0 fun M2 hM2 => ?_
  refine k_pI (by decide) (by decide) (by decide) hM2 g_a0 fun M7 hM7 => ?_
  refine k_bn fun v11 => ?_
  refine k_bn fun v13 => ?_
  exact hL15 a0 a2 v11 v13 _ g_a0 hM7
def wkX13_sayHead : List Nat := [1354, 1400]
set_option maxRecDepth 100000 in
set_option maxHeartbeats 4000000 in
theorem frX13_sayHead {G : Nat → Prop} {MM : Mem} (a0 : Option Nat) (a1 : Int32) (hst : ∀ k, k < 10 → G k) (hc : Cl G MM) (g_a0 : inG G a0) : okv (fun _ : Unit => True) MM G wkX13_sayHead (fX13_sayHead a0 a1 MM) := by
  have hMM : FrG G wkX13_sayHead MM MM := FrG.rf hc
  have hL44 : ∀ (M : Mem) (hM : FrG G wkX13_sayHead MM M), okv (fun _ : Unit => True) MM G wkX13_sayHead (fX13_sayHead_L44 M) := by
    intro M hM
    unfold fX13_sayHead_L44
    exact k_ret hM trivial
  unfold fX13_sayHead
  refine k_bo fun v1 => ?_
  refine k_if ?_ ?_
  · refine k_bo fun v34 => ?_
    refine k_bo fun _ => ?_
    refine k_call (by decide) hMM (fun hc => frX13_say _ _ _ hst hc g_a0) fun v41 M41 _ hM41 => ?_
    exact hL44 _ hM41
  · refine k_bo fun v14 => ?_
    refine k_bo fun _ => ?_
    refine k_call (by decide) hMM (fun hc => frX13_say _ _ _ hst hc g_a0) fun v21 M21 _ hM21 => ?_
    exact hL44 _ hM21
def wkX13_areCoded : List Nat := []
set_option maxRecDepth 100000 in
set_option maxHeartbeats 4000000 in
theorem frX13_areCoded {G : Nat → Prop} {MM : Mem} (a0 : Option Nat) (hst : ∀ k, k < 10 → G k) (hc : Cl G MM) (g_a0 : inG G a0) : okv z01 MM G wkX13_areCoded (fX13_areCoded a0 MM) := by
  have hMM : FrG G wkX13_areCoded MM MM := FrG.rf hc
  have hL48 : ∀ (q0 : Int32) (M : Mem) (hM : FrG G wkX13_areCoded MM M), okv z01 MM G wkX13_areCoded (fX13_areCoded_L48 q0 M) := by
    intro q0 M hM
    unfold fX13_areCoded_L48
    exact k_retZ hM
  have hL2 : ∀ (p0 : Option Nat) (p1 : Int32) (M : Mem) (g_p0 : inG G p0) (hM : FrG G wkX13_areCoded MM M), okv z01 MM G wkX13_areCoded (fX13_areCoded_L2 p0 p1 M) := by
    intro p0 p1 M g_p0 hM
    refine k_lp (T := fun a : Option Nat × Int32 => inG G (a.1)) ?_ FU ((p0, p1)) M g_p0 hM
    intro k2 hk2 a M T hM
    obtain ⟨p0, p1⟩ := a
    have g_p0 := T
    show okv z01 MM G wkX13_areCoded (fX13_areCoded_B2 k2 p0 p1 M)
    unfold fX13_areCoded_B2
    refine k_bo fun v4 => ?_
    refine k_if ?_ ?_
    · refine k_gR hM g_p0 fun v29 g_v29 => ?_
      refine k_bo fun v34 => ?_
      refine k_bo fun _ => ?_
      refine k_call (by decide) hM (fun hc => frX13_areSame _ _ _ _ hst hc g_p0 g_v29) fun v37 M37 _ hM37 => ?_
      refine k_if ?_ ?_
      · exact hL48 1 _ hM37
      · exact hL48 0 _ hM37
    · refine k_gR hM g_p0 fun v11 g_v11 => ?_
      refine k_bo fun v15 => ?_
      refine k_if ?_ ?_
      · refine k_bn fun v21 => ?_
        exact hk2 ((p0, v21)) _ g_p0 hM
      · exact k_retZ hM
  unfold fX13_areCoded
  refine k_bn fun v1 => ?_
  exact hL2 a0 v1 _ g_a0 hMM
def wkX13_least : List Nat := []
set_option maxRecDepth 100000 in
set_option maxHeartbeats 4000000 in
theorem frX13_least {G : Nat → Prop} {MM : Mem} (a0 : Option Nat) (a1 : Int32) (hst : ∀ k, k < 10 → G k) (hc : Cl G MM) (g_a0 : inG G a0) : okv (fun _ : Int32 => True) MM G wkX13_least (fX13_least a0 a1 MM) := by
  have hMM : FrG G wkX13_least MM MM := FrG.rf hc
  have hL40 : ∀ (k4 : Option Nat × Int32 × Int32 × Int32 → Mem → Option (Int32 × Mem)) (hk4 : ∀ a M, (inG G (a.1)) → FrG G wkX13_least MM M → okv (fun _ : Int32 => True) MM G wkX13_least (k4 a M)) (p0 : Option Nat) (p1 : Int32) (p2 : Int32) (p3 : Int32) (M : Mem) (g_p0 : inG G p0) (hM : FrG G wkX13_least MM M), okv (fun _ : Int32 => True) MM G wkX13_least (fX13_least_L40 k4 p0 p1 p2 p3 M) := by
    intro k4 hk4 p0 p1 p2 p3 M g_p0 hM
    unfold fX13_least_L40
    refine k_bn fun v40 => ?_
    exact hk4 ((p0, p1, p2, v40)) _ g_p0 hM
  have hL38 : ∀ (k4 : Option Nat × Int32 × Int32 × Int32 → Mem → Option (Int32 × Mem)) (hk4 : ∀ a M, (inG G (a.1)) → FrG G wkX13_least MM M → okv (fun _ : Int32 => True) MM G wkX13_least (k4 a M)) (p0 : Option Nat) (p1 : Int32) (p3 : Int32) (M : Mem) (g_p0 : inG G p0) (hM : FrG G wkX13_least MM M), okv (fun _ : Int32 => True) MM G wkX13_least (fX13_least_L38 k4 p0 p1 p3 M) := by
    intro k4 hk4 p0 p1 p3 M g_p0 hM
    unfold fX13_least_L38
    refine k_bn fun v39 => ?_
    exact hL40 k4 hk4 p0 p1 v39 p3 _ g_p0 hM
  have hL4 : ∀ (p0 : Option Nat) (p1 : Int32) (p2 : Int32) (p3 : Int32) (M : Mem) (g_p0 : inG G p0) (hM : FrG G wkX13_least MM M), okv (fun _ : Int32 => True) MM G wkX13_least (fX13_least_L4 p0 p1 p2 p3 M) := by
    intro p0 p1 p2 p3 M g_p0 hM
    refine k_lp (T := fun a : Option Nat × Int32 × Int32 × Int32 => inG G (a.1)) ?_ FU ((p0, p1, p2, p3)) M g_p0 hM
    intro k4 hk4 a M T hM
    obtain ⟨p0, p1, p2, p3⟩ := a
    have g_p0 := T
    show okv (fun _ : Int32 => True) MM G wkX13_least (fX13_least_B4 k4 p0 p1 p2 p3 M)
    unfold fX13_least_B4
    refine k_if ?_ ?_
    · exact k_ret hM trivial
    · refine k_gR hM g_p0 fun v10 g_v10 => ?_
      refine k_bo fun v14 => ?_
      refine k_if ?_ ?_
      · refine k_if ?_ ?_
        · exact hL38 k4 hk4 p0 p1 p3 _ g_p0 hM
        · refine k_gR hM g_p0 fun v23 g_v23 => ?_
          refine k_bo fun v27 => ?_
          refine k_gR hM g_p0 fun v29 g_v29 => ?_
          refine k_bo fun v33 => ?_
          refine k_if ?_ ?_
          · exact hL40 k4 hk4 p0 p1 p2 p3 _ g_p0 hM
          · exact hL38 k4 hk4 p0 p1 p3 _ g_p0 hM
      · exact hL40 k4 hk4 p0 p1 p2 p3 _ g_p0 hM
  unfold fX13_least
  refine k_bn fun v1 => ?_
  refine k_bn fun v3 => ?_
  exact hL4 a0 a1 v1 v3 _ g_a0 hMM
def wkX13_depths : List Nat := [1500, 1600, 1800]
set_option maxRecDepth 100000 in
set_option maxHeartbeats 4000000 in
theorem frX13_depths {G : Nat → Prop} {MM : Mem} (a0 : Option Nat) (hst : ∀ k, k < 10 → G k) (hc : Cl G MM) (g_a0 : inG G a0) : okv (fun _ : Int32 => True) MM G wkX13_depths (fX13_depths a0 MM) := by
  have hMM : FrG G wkX13_depths MM MM := FrG.rf hc
  have hL299 : ∀ (k53 : Option Nat → Mem → Option (Int32 × Mem)) (hk53 : ∀ a M, (inG G a) → FrG G wkX13_depths MM M → okv (fun _ : Int32 => True) MM G wkX13_depths (k53 a M)) (p0 : Option Nat) (p4 : Int32) (M : Mem) (g_p0 : inG G p0) (hM : FrG G wkX13_depths MM M), okv (fun _ : Int32 => True) MM G wkX13_depths (fX13_depths_L299 k53 p0 p4 M) := by
    intro k53 hk53 p0 p4 M g_p0 hM
    refine k_lp (T := fun a : Option Nat × Int32 => inG G (a.1)) ?_ FU ((p0, p4)) M g_p0 hM
    intro k299 hk299 a M T hM
    obtain ⟨p0, p4⟩ := a
    have g_p0 := T
    show okv (fun _ : Int32 => True) MM G wkX13_depths (fX13_depths_B299 k53 k299 p0 p4 M)
    unfold fX13_depths_B299
    refine k_if ?_ ?_
    · exact hk53 p0 _ g_p0 hM
    · refine k_gR hM g_p0 fun v308 g_v308 => ?_
      refine k_gR hM g_p0 fun v314 g_v314 => ?_
      refine k_bo fun v319 => ?_
      refine k_bo fun v325 => ?_
      refine k_wJ (by decide) hM g_v308 fun M326 hM326 => ?_
      refine k_bn fun v327 => ?_
      exact hk299 ((p0, v327)) _ g_p0 hM326
  have hL281 : ∀ (k53 : Option Nat → Mem → Option (Int32 × Mem)) (hk53 : ∀ a M, (inG G a) → FrG G wkX13_depths MM M → okv (fun _ : Int32 => True) MM G wkX13_depths (k53 a M)) (k216 : Option Nat × Int32 × Int32 → Mem → Option (Int32 × Mem)) (hk216 : ∀ a M, (inG G (a.1)) → FrG G wkX13_depths MM M → okv (fun _ : Int32 => True) MM G wkX13_depths (k216 a M)) (p0 : Option Nat) (p4 : Int32) (q0 : Int32) (M : Mem) (g_p0 : inG G p0) (hM : FrG G wkX13_depths MM M), okv (fun _ : Int32 => True) MM G wkX13_depths (fX13_depths_L281 k53 k216 p0 p4 q0 M) := by
    intro k53 hk53 k216 hk216 p0 p4 q0 M g_p0 hM
    unfold fX13_depths_L281
    refine k_bn fun v281 => ?_
    refine k_bn fun v282 => ?_
    exact hk216 ((p0, v281, v282)) _ g_p0 hM
  have hL236 : ∀ (k53 : Option Nat → Mem → Option (Int32 × Mem)) (hk53 : ∀ a M, (inG G a) → FrG G wkX13_depths MM M → okv (fun _ : Int32 => True) MM G wkX13_depths (k53 a M)) (k216 : Option Nat × Int32 × Int32 → Mem → Option (Int32 × Mem)) (hk216 : ∀ a M, (inG G (a.1)) → FrG G wkX13_depths MM M → okv (fun _ : Int32 => True) MM G wkX13_depths (k216 a M)) (p0 : Option Nat) (p3 : Int32) (p4 : Int32) (p5 : Int32) (p6 : Int32) (M : Mem) (g_p0 : inG G p0) (hM : FrG G wkX13_depths MM M), okv (fun _ : Int32 => True) MM G wkX13_depths (fX13_depths_L236 k53 k216 p0 p3 p4 p5 p6 M) := by
    intro k53 hk53 k216 hk216 p0 p3 p4 p5 p6 M g_p0 hM
    refine k_lp (T := fun a : Option Nat × Int32 × Int32 × Int32 × Int32 => inG G (a.1)) ?_ FU ((p0, p3, p4, p5, p6)) M g_p0 hM
    intro k236 hk236 a M T hM
    obtain ⟨p0, p3, p4, p5, p6⟩ := a
    have g_p0 := T
    show okv (fun _ : Int32 => True) MM G wkX13_depths (fX13_depths_B236 k53 k216 k236 p0 p3 p4 p5 p6 M)
    unfold fX13_depths_B236
    refine k_if ?_ ?_
    · refine k_gR hM g_p0 fun v257 g_v257 => ?_
      refine k_wI (by decide) hM g_v257 fun M268 hM268 => ?_
      refine k_if ?_ ?_
      · exact hL281 k53 hk53 k216 hk216 p0 p4 p3 _ g_p0 hM268
      · exact hL281 k53 hk53 k216 hk216 p0 p4 p5 _ g_p0 hM268
    · refine k_bn fun v241 => ?_
      refine k_gR hM g_p0 fun v245 g_v245 => ?_
      refine k_bo fun v250 => ?_
      refine k_bn fun v251 => ?_
      exact hk236 ((p0, p3, p4, v241, v251)) _ g_p0 hM
  have hL216 : ∀ (k53 : Option Nat → Mem → Option (Int32 × Mem)) (hk53 : ∀ a M, (inG G a) → FrG G wkX13_depths MM M → okv (fun _ : Int32 => True) MM G wkX13_depths (k53 a M)) (p0 : Option Nat) (p3 : Int32) (p4 : Int32) (M : Mem) (g_p0 : inG G p0) (hM : FrG G wkX13_depths MM M), okv (fun _ : Int32 => True) MM G wkX13_depths (fX13_depths_L216 k53 p0 p3 p4 M) := by
    intro k53 hk53 p0 p3 p4 M g_p0 hM
    refine k_lp (T := fun a : Option Nat × Int32 × Int32 => inG G (a.1)) ?_ FU ((p0, p3, p4)) M g_p0 hM
    intro k216 hk216 a M T hM
    obtain ⟨p0, p3, p4⟩ := a
    have g_p0 := T
    show okv (fun _ : Int32 => True) MM G wkX13_depths (fX13_depths_B216 k53 k216 p0 p3 p4 M)
    unfold fX13_depths_B216
    refine k_if ?_ ?_
    · refine k_if ?_ ?_
      · refine k_bn fun v297 => ?_
        exact hL299 k53 hk53 p0 v297 _ g_p0 hM
      · exact k_ret hM trivial
    · refine k_bn fun v225 => ?_
      refine k_gR hM g_p0 fun v228 g_v228 => ?_
      refine k_bo fun v233 => ?_
      refine k_bn fun v234 => ?_
      exact hL236 k53 hk53 k216 hk216 p0 p3 p4 v225 v234 _ g_p0 hM
  have hL120 : ∀ (k53 : Option Nat → Mem → Option (Int32 × Mem)) (hk53 : ∀ a M, (inG G a) → FrG G wkX13_depths MM M → okv (fun _ : Int32 => True) MM G wkX13_depths (k53 a M)) (p0 : Option Nat) (p1 : Int32) (p2 : Int32) (M : Mem) (g_p0 : inG G p0) (hM : FrG G wkX13_depths MM M), okv (fun _ : Int32 => True) MM G wkX13_depths (fX13_depths_L120 k53 p0 p1 p2 M) := by
    intro k53 hk53 p0 p1 p2 M g_p0 hM
    refine k_lp (T := fun a : Option Nat × Int32 × Int32 => inG G (a.1)) ?_ FU ((p0, p1, p2)) M g_p0 hM
    intro k120 hk120 a M T hM
    obtain ⟨p0, p1, p2⟩ := a
    have g_p0 := T
    show okv (fun _ : Int32 => True) MM G wkX13_depths (fX13_depths_B120 k53 k120 p0 p1 p2 M)
    unfold fX13_depths_B120
    refine k_if ?_ ?_
    · refine k_bn fun v212 => ?_
      refine k_bn fun v214 => ?_
      exact hL216 k53 hk53 p0 v212 v214 _ g_p0 hM
    · refine k_bo fun _ => ?_
      refine k_call (by decide) hM (fun hc => frX13_least _ _ hst hc g_p0) fun v127 M127 _ hM127 => ?_
      refine k_bn fun v130 => ?_
      refine k_gR hM127 g_p0 fun v132 g_v132 => ?_
      refine k_wZ (by decide) hM127 g_v132 fun M137 hM137 => ?_
      refine k_bo fun _ => ?_
      refine k_call (by decide) hM137 (fun hc => frX13_least _ _ hst hc g_p0) fun v140 M140 _ hM140 => ?_
      refine k_bn fun v143 => ?_
      refine k_gR hM140 g_p0 fun v146 g_v146 => ?_
      refine k_wZ (by decide) hM140 g_v146 fun M152 hM152 => ?_
      refine k_gR hM152 g_p0 fun v154 g_v154 => ?_
      refine k_gR hM152 g_p0 fun v159 g_v159 => ?_
      refine k_bo fun v163 => ?_
      refine k_gR hM152 g_p0 fun v165 g_v165 => ?_
      refine k_bo fun v170 => ?_
      refine k_wJ (by decide) hM152 g_v154 fun M172 hM172 => ?_
      refine k_gR hM172 g_p0 fun v174 g_v174 => ?_
      refine k_wZ (by decide) hM172 g_v174 fun M179 hM179 => ?_
      refine k_gR hM179 g_p0 fun v181 g_v181 => ?_
      refine k_wI (by decide) hM179 g_v181 fun M186 hM186 => ?_
      refine k_gR hM186 g_p0 fun v188 g_v188 => ?_
      refine k_wI (by decide) hM186 g_v188 fun M193 hM193 => ?_
      refine k_gR hM193 g_p0 fun v195 g_v195 => ?_
      refine k_wI (by decide) hM193 g_v195 fun M201 hM201 => ?_
      refine k_bn fun v202 => ?_
      refine k_bn fun v205 => ?_
      exact hk120 ((p0, v205, v202)) _ g_p0 hM201
  have hL105 : ∀ (k53 : Option Nat → Mem → Option (Int32 × Mem)) (hk53 : ∀ a M, (inG G a) → FrG G wkX13_depths MM M → okv (fun _ : Int32 => True) MM G wkX13_depths (k53 a M)) (k61 : Option Nat × Int32 × Int32 × Int32 → Mem → Option (Int32 × Mem)) (hk61 : ∀ a M, (inG G (a.1)) → FrG G wkX13_depths MM M → okv (fun _ : Int32 => True) MM G wkX13_depths (k61 a M)) (p0 : Option Nat) (p2 : Int32) (p3 : Int32) (q0 : Int32) (q1 : Int32) (M : Mem) (g_p0 : inG G p0) (hM : FrG G wkX13_depths MM M), okv (fun _ : Int32 => True) MM G wkX13_depths (fX13_depths_L105 k53 k61 p0 p2 p3 q0 q1 M) := by
    intro k53 hk53 k61 hk61 p0 p2 p3 q0 q1 M g_p0 hM
    unfold fX13_depths_L105
    refine k_bn fun v106 => ?_
    refine k_gR hM g_p0 fun v108 g_v108 => ?_
    refine k_wI (by decide) hM g_v108 fun M113 hM113 => ?_
    refine k_bn fun v114 => ?_
    exact hk61 ((p0, v106, p2, v114)) _ g_p0 hM113
  have hL89 : ∀ (k53 : Option Nat → Mem → Option (Int32 × Mem)) (hk53 : ∀ a M, (inG G a) → FrG G wkX13_depths MM M → okv (fun _ : Int32 => True) MM G wkX13_depths (k53 a M)) (k61 : Option Nat × Int32 × Int32 × Int32 → Mem → Option (Int32 × Mem)) (hk61 : ∀ a M, (inG G (a.1)) → FrG G wkX13_depths MM M → okv (fun _ : Int32 => True) MM G wkX13_depths (k61 a M)) (p0 : Option Nat) (p1 : Int32) (p2 : Int32) (p3 : Int32) (q0 : Option Nat) (q1 : Int32) (q2 : Int32) (M : Mem) (g_p0 : inG G p0) (g_q0 : inG G q0) (hM : FrG G wkX13_depths MM M), okv (fun _ : Int32 => True) MM G wkX13_depths (fX13_depths_L89 k53 k61 p0 p1 p2 p3 q0 q1 q2 M) := by
    intro k53 hk53 k61 hk61 p0 p1 p2 p3 q0 q1 q2 M g_p0 g_q0 hM
    unfold fX13_depths_L89
    refine k_wZ (by decide) hM g_q0 fun M89 hM89 => ?_
    refine k_gR hM89 g_p0 fun v92 g_v92 => ?_
    refine k_bo fun v96 => ?_
    refine k_if ?_ ?_
    · exact hL105 k53 hk53 k61 hk61 p0 p2 p3 p1 1 _ g_p0 hM89
    · exact hL105 k53 hk53 k61 hk61 p0 p2 p3 p1 0 _ g_p0 hM89
  have hL61 : ∀ (k53 : Option Nat → Mem → Option (Int32 × Mem)) (hk53 : ∀ a M, (inG G a) → FrG G wkX13_depths MM M → okv (fun _ : Int32 => True) MM G wkX13_depths (k53 a M)) (p0 : Option Nat) (p1 : Int32) (p2 : Int32) (p3 : Int32) (M : Mem) (g_p0 : inG G p0) (hM : FrG G wkX13_depths MM M), okv (fun _ : Int32 => True) MM G wkX13_depths (fX13_depths_L61 k53 p0 p1 p2 p3 M) := by
    intro k53 hk53 p0 p1 p2 p3 M g_p0 hM
    refine k_lp (T := fun a : Option Nat × Int32 × Int32 × Int32 => inG G (a.1)) ?_ FU ((p0, p1, p2, p3)) M g_p0 hM
    intro k61 hk61 a M T hM
    obtain ⟨p0, p1, p2, p3⟩ := a
    have g_p0 := T
    show okv (fun _ : Int32 => True) MM G wkX13_depths (fX13_depths_B61 k53 k61 p0 p1 p2 p3 M)
    unfold fX13_depths_B61
    refine k_if ?_ ?_
    · exact hL120 k53 hk53 p0 p1 p2 _ g_p0 hM
    · refine k_gR hM g_p0 fun v69 g_v69 => ?_
      refine k_gR hM g_p0 fun v74 g_v74 => ?_
      refine k_bo fun v78 => ?_
      refine k_if ?_ ?_
      · exact hL89 k53 hk53 k61 hk61 p0 p1 p2 p3 v69 p3 1 _ g_p0 g_v69 hM
      · exact hL89 k53 hk53 k61 hk61 p0 p1 p2 p3 v69 p3 0 _ g_p0 g_v69 hM
  have hL53 : ∀ (p0 : Option Nat) (M : Mem) (g_p0 : inG G p0) (hM : FrG G wkX13_depths MM M), okv (fun _ : Int32 => True) MM G wkX13_depths (fX13_depths_L53 p0 M) := by
    intro p0 M g_p0 hM
    refine k_lp (T := fun a : Option Nat => inG G a) ?_ FU p0 M g_p0 hM
    intro k53 hk53 a M T hM
    obtain ⟨p0, rfl⟩ : ∃ z, z = a := ⟨_, rfl⟩
    have g_p0 := T
    show okv (fun _ : Int32 => True) MM G wkX13_depths (fX13_depths_B53 k53 p0 M)
    unfold fX13_depths_B53
    refine k_bn fun v54 => ?_
    refine k_bn fun v58 => ?_
    refine k_bn fun v60 => ?_
    exact hL61 k53 hk53 p0 v54 v58 v60 _ g_p0 hM
  have hL24 : ∀ (p0 : Option Nat) (p1 : Int32) (M : Mem) (g_p0 : inG G p0) (hM : FrG G wkX13_depths MM M), okv (fun _ : Int32 => True) MM G wkX13_depths (fX13_depths_L24 p0 p1 M) := by
    intro p0 p1 M g_p0 hM
    refine k_lp (T := fun a : Option Nat × Int32 => inG G (a.1)) ?_ FU ((p0, p1)) M g_p0 hM
    intro k24 hk24 a M T hM
    obtain ⟨p0, p1⟩ := a
    have g_p0 := T
    show okv (fun _ : Int32 => True) MM G wkX13_depths (fX13_depths_B24 k24 p0 p1 M)
    unfold fX13_depths_B24
    refine k_bo fun v26 => ?_
    refine k_if ?_ ?_
    · exact hL53 p0 _ g_p0 hM
    · refine k_gR hM g_p0 fun v33 g_v33 => ?_
      refine k_gR hM g_p0 fun v37 g_v37 => ?_
      refine k_bo fun v41 => ?_
      refine k_bo fun v43 => ?_
      refine k_wJ (by decide) hM g_v33 fun M46 hM46 => ?_
      refine k_bn fun v47 => ?_
      exact hk24 ((p0, v47)) _ g_p0 hM46
  have hL2 : ∀ (p0 : Option Nat) (p1 : Int32) (M : Mem) (g_p0 : inG G p0) (hM : FrG G wkX13_depths MM M), okv (fun _ : Int32 => True) MM G wkX13_depths (fX13_depths_L2 p0 p1 M) := by
    intro p0 p1 M g_p0 hM
    refine k_lp (T := fun a : Option Nat × Int32 => inG G (a.1)) ?_ FU ((p0, p1)) M g_p0 hM
    intro k2 hk2 a M T hM
    obtain ⟨p0, p1⟩ := a
    have g_p0 := T
    show okv (fun _ : Int32 => True) MM G wkX13_depths (fX13_depths_B2 k2 p0 p1 M)
    unfold fX13_depths_B2
    refine k_if ?_ ?_
    · refine k_bn fun v23 => ?_
      exact hL24 p0 v23 _ g_p0 hM
    · refine k_gR hM g_p0 fun v10 g_v10 => ?_
      refine k_wJ (by decide) hM g_v10 fun M15 hM15 => ?_
      refine k_bn fun v16 => ?_
      exact hk2 ((p0, v16)) _ g_p0 hM15
  unfold fX13_depths
  refine k_bn fun v1 => ?_
  exact hL2 a0 v1 _ g_a0 hMM
def wkX13_sayCode : List Nat := [1354, 1400, 1500, 1600, 1700, 1800]
set_option maxRecDepth 100000 in
set_option maxHeartbeats 4000000 in
theorem frX13_sayCode {G : Nat → Prop} {MM : Mem} (a0 : Option Nat) (hst : ∀ k, k < 10 → G k) (hc : Cl G MM) (g_a0 : inG G a0) : okv (fun _ : Unit => True) MM G wkX13_sayCode (fX13_sayCode a0 MM) := by
  have hMM : FrG G wkX13_sayCode MM MM := FrG.rf hc
  have hL126 : ∀ (k92 : Option Nat × Int32 × Int32 → Mem → Option (Unit × Mem)) (hk92 : ∀ a M, (inG G (a.1)) → FrG G wkX13_sayCode MM M → okv (fun _ : Unit => True) MM G wkX13_sayCode (k92 a M)) (p0 : Option Nat) (p2 : Int32) (p3 : Int32) (q0 : Option Nat) (q1 : Int32) (q2 : Int32) (M : Mem) (g_p0 : inG G p0) (g_q0 : inG G q0) (hM : FrG G wkX13_sayCode MM M), okv (fun _ : Unit => True) MM G wkX13_sayCode (fX13_sayCode_L126 k92 p0 p2 p3 q0 q1 q2 M) := by
    intro k92 hk92 p0 p2 p3 q0 q1 q2 M g_p0 g_q0 hM
    unfold fX13_sayCode_L126
    refine k_bo fun _ => ?_
    refine k_call (by decide) hM (fun hc => frX13_say _ _ _ hst hc g_q0) fun v129 M129 _ hM129 => ?_
    refine k_bn fun v132 => ?_
    exact hk92 ((p0, p2, v132)) _ g_p0 hM129
  have hL92 : ∀ (p0 : Option Nat) (p2 : Int32) (p3 : Int32) (M : Mem) (g_p0 : inG G p0) (hM : FrG G wkX13_sayCode MM M), okv (fun _ : Unit => True) MM G wkX13_sayCode (fX13_sayCode_L92 p0 p2 p3 M) := by
    intro p0 p2 p3 M g_p0 hM
    refine k_lp (T := fun a : Option Nat × Int32 × Int32 => inG G (a.1)) ?_ FU ((p0, p2, p3)) M g_p0 hM
    intro k92 hk92 a M T hM
    obtain ⟨p0, p2, p3⟩ := a
    have g_p0 := T
    show okv (fun _ : Unit => True) MM G wkX13_sayCode (fX13_sayCode_B92 k92 p0 p2 p3 M)
    unfold fX13_sayCode_B92
    refine k_if ?_ ?_
    · refine k_bo fun _ => ?_
      refine k_call (by decide) hM (fun hc => frX13_codeOf _ _ _ hst hc g_p0) fun v141 M141 _ hM141 => ?_
      refine k_bn fun v144 => ?_
      exact k_ret hM141 trivial
    · refine k_gR hM g_p0 fun v99 g_v99 => ?_
      refine k_bo fun v103 => ?_
      refine k_if ?_ ?_
      · exact hL126 k92 hk92 p0 p2 p3 p0 (v103 * 16) 0 _ g_p0 g_p0 hM
      · refine k_gR hM g_p0 fun v115 g_v115 => ?_
        refine k_bo fun v121 => ?_
        exact hL126 k92 hk92 p0 p2 p3 p0 (v103 * 16) v121 _ g_p0 g_p0 hM
  have hL73 : ∀ (k30 : Option Nat × Int32 × Int32 × Int32 → Mem → Option (Unit × Mem)) (hk30 : ∀ a M, (inG G (a.1)) → FrG G wkX13_sayCode MM M → okv (fun _ : Unit => True) MM G wkX13_sayCode (k30 a M)) (p0 : Option Nat) (p1 : Int32) (p2 : Int32) (p3 : Int32) (q0 : Option Nat) (q1 : Int32) (q2 : Int32) (M : Mem) (g_p0 : inG G p0) (g_q0 : inG G q0) (hM : FrG G wkX13_sayCode MM M), okv (fun _ : Unit => True) MM G wkX13_sayCode (fX13_sayCode_L73 k30 p0 p1 p2 p3 q0 q1 q2 M) := by
    intro k30 hk30 p0 p1 p2 p3 q0 q1 q2 M g_p0 g_q0 hM
    unfold fX13_sayCode_L73
    refine k_wI (by decide) hM g_q0 fun M73 hM73 => ?_
    refine k_bn fun v74 => ?_
    exact hk30 ((p0, p1, p2, v74)) _ g_p0 hM73
  have hL30 : ∀ (p0 : Option Nat) (p1 : Int32) (p2 : Int32) (p3 : Int32) (M : Mem) (g_p0 : inG G p0) (hM : FrG G wkX13_sayCode MM M), okv (fun _ : Unit => True) MM G wkX13_sayCode (fX13_sayCode_L30 p0 p1 p2 p3 M) := by
    intro p0 p1 p2 p3 M g_p0 hM
    refine k_lp (T := fun a : Option Nat × Int32 × Int32 × Int32 => inG G (a.1)) ?_ FU ((p0, p1, p2, p3)) M g_p0 hM
    intro k30 hk30 a M T hM
    obtain ⟨p0, p1, p2, p3⟩ := a
    have g_p0 := T
    show okv (fun _ : Unit => True) MM G wkX13_sayCode (fX13_sayCode_B30 k30 p0 p1 p2 p3 M)
    unfold fX13_sayCode_B30
    refine k_if ?_ ?_
    · refine k_bo fun _ => ?_
      refine k_call (by decide) hM (fun hc => frX13_say _ _ _ hst hc g_p0) fun v87 M87 _ hM87 => ?_
      refine k_bn fun v91 => ?_
      exact hL92 p0 p2 v91 _ g_p0 hM87
    · refine k_gR hM g_p0 fun v38 g_v38 => ?_
      refine k_gR hM g_p0 fun v43 g_v43 => ?_
      refine k_bo fun v51 => ?_
      refine k_if ?_ ?_
      · exact hL73 k30 hk30 p0 p1 p2 p3 v38 p3 0 _ g_p0 g_v38 hM
      · refine k_gR hM g_p0 fun v59 g_v59 => ?_
        refine k_bo fun v67 => ?_
        exact hL73 k30 hk30 p0 p1 p2 p3 v38 p3 ((p1 + 1) - v67) _ g_p0 g_v38 hM
  have hL9 : ∀ (p0 : Option Nat) (p1 : Int32) (p2 : Int32) (M : Mem) (g_p0 : inG G p0) (hM : FrG G wkX13_sayCode MM M), okv (fun _ : Unit => True) MM G wkX13_sayCode (fX13_sayCode_L9 p0 p1 p2 M) := by
    intro p0 p1 p2 M g_p0 hM
    refine k_lp (T := fun a : Option Nat × Int32 × Int32 => inG G (a.1)) ?_ FU ((p0, p1, p2)) M g_p0 hM
    intro k9 hk9 a M T hM
    obtain ⟨p0, p1, p2⟩ := a
    have g_p0 := T
    show okv (fun _ : Unit => True) MM G wkX13_sayCode (fX13_sayCode_B9 k9 p0 p1 p2 M)
    unfold fX13_sayCode_B9
    refine k_gR hM g_p0 fun v10 g_v10 => ?_
    refine k_bo fun v18 => ?_
    refine k_if ?_ ?_
    · refine k_bn fun v22 => ?_
      exact hk9 ((p0, p1, v22)) _ g_p0 hM
    · refine k_bn fun v29 => ?_
      exact hL30 p0 p1 p2 v29 _ g_p0 hM
  unfold fX13_sayCode
  refine k_bo fun _ => ?_
  refine k_call (by decide) hMM (fun hc => frX13_depths _ hst hc g_a0) fun v1 M1 _ hM1 => ?_
  refine k_bn fun v4 => ?_
  refine k_bn fun v8 => ?_
  exact hL9 a0 v4 v8 _ g_a0 hM1
def wkX13_stream_ : List Nat := [1354, 1356, 1400]
set_option maxRecDepth 100000 in
set_option maxHeartbeats 4000000 in
theorem frX13_stream_ {G : Nat → Prop} {MM : Mem} (a0 : Option Nat) (a1 : Int32) (a2 : Int32) (hst : ∀ k, k < 10 → G k) (hc : Cl G MM) (g_a0 : inG G a0) : okv (fun _ : Unit => True) MM G wkX13_stream_ (fX13_stream_ a0 a1 a2 MM) := by
  have hMM : FrG G wkX13_stream_ MM MM := FrG.rf hc
  have hL37 : ∀ (k10 : Option Nat × Int32 × Int32 × Int32 → Mem → Option (Unit × Mem)) (hk10 : ∀ a M, (inG G (a.1)) → FrG G wkX13_stream_ MM M → okv (fun _ : Unit => True) MM G wkX13_stream_ (k10 a M)) (p0 : Option Nat) (p2 : Int32) (p3 : Int32) (p4 : Int32) (p5 : Int32) (p6 : Int32) (M : Mem) (g_p0 : inG G p0) (hM : FrG G wkX13_stream_ MM M), okv (fun _ : Unit => True) MM G wkX13_stream_ (fX13_stream__L37 k10 p0 p2 p3 p4 p5 p6 M) := by
    intro k10 hk10 p0 p2 p3 p4 p5 p6 M g_p0 hM
    refine k_lp (T := fun a : Option Nat × Int32 × Int32 × Int32 × Int32 × Int32 => inG G (a.1)) ?_ FU ((p0, p2, p3, p4, p5, p6)) M g_p0 hM
    intro k37 hk37 a M T hM
    obtain ⟨p0, p2, p3, p4, p5, p6⟩ := a
    have g_p0 := T
    show okv (fun _ : Unit => True) MM G wkX13_stream_ (fX13_stream__B37 k10 k37 p0 p2 p3 p4 p5 p6 M)
    unfold fX13_stream__B37
    refine k_gR hM g_p0 fun v38 g_v38 => ?_
    refine k_bo fun v47 => ?_
    refine k_gR hM g_p0 fun v49 g_v49 => ?_
    refine k_bo fun v54 => ?_
    refine k_if ?_ ?_
    · refine k_bo fun _ => ?_
      refine k_call (by decide) hM (fun hc => frX13_digit _ _ _ hst hc g_p0) fun v75 M75 _ hM75 => ?_
      refine k_bn fun v78 => ?_
      exact hk10 ((p0, p2, p3, v78)) _ g_p0 hM75
    · refine k_bn fun v58 => ?_
      exact hk37 ((p0, p2, p3, p4, p5, v58)) _ g_p0 hM
  have hL10 : ∀ (p0 : Option Nat) (p2 : Int32) (p3 : Int32) (p4 : Int32) (M : Mem) (g_p0 : inG G p0) (hM : FrG G wkX13_stream_ MM M), okv (fun _ : Unit => True) MM G wkX13_stream_ (fX13_stream__L10 p0 p2 p3 p4 M) := by
    intro p0 p2 p3 p4 M g_p0 hM
    refine k_lp (T := fun a : Option Nat × Int32 × Int32 × Int32 => inG G (a.1)) ?_ FU ((p0, p2, p3, p4)) M g_p0 hM
    intro k10 hk10 a M T hM
    obtain ⟨p0, p2, p3, p4⟩ := a
    have g_p0 := T
    show okv (fun _ : Unit => True) MM G wkX13_stream_ (fX13_stream__B10 k10 p0 p2 p3 p4 M)
    unfold fX13_stream__B10
    refine k_if ?_ ?_
    · refine k_bo fun _ => ?_
      refine k_call (by decide) hM (fun hc => frX13_sayDigits _ hst hc g_p0) fun v85 M85 _ hM85 => ?_
      exact k_ret hM85 trivial
    · refine k_gR hM g_p0 fun v17 g_v17 => ?_
      refine k_gR hM g_p0 fun v24 g_v24 => ?_
      refine k_bo fun v29 => ?_
      refine k_bo fun v31 => ?_
      refine k_bn fun v32 => ?_
      refine k_bn fun v35 => ?_
      exact hL37 k10 hk10 p0 p2 p3 p4 v32 v35 _ g_p0 hM
  unfold fX13_stream_
  refine k_gR hMM g_a0 fun v1 g_v1 => ?_
  refine k_bo fun v5 => ?_
  refine k_bn fun v6 => ?_
  refine k_bn fun v8 => ?_
  exact hL10 a0 a2 v6 v8 _ g_a0 hMM
def wkX13_sayStreams : List Nat := [1354, 1356, 1400]
set_option maxRecDepth 100000 in
set_option maxHeartbeats 4000000 in
theorem frX13_sayStreams {G : Nat → Prop} {MM : Mem} (a0 : Option Nat) (a1 : Int32) (hst : ∀ k, k < 10 → G k) (hc : Cl G MM) (g_a0 : inG G a0) : okv (fun _ : Int32 => True) MM G wkX13_sayStreams (fX13_sayStreams a0 a1 MM) := by
  have hMM : FrG G wkX13_sayStreams MM MM := FrG.rf hc
  have hL168 : ∀ (q0 : Int32) (M : Mem) (hM : FrG G wkX13_sayStreams MM M), okv (fun _ : Int32 => True) MM G wkX13_sayStreams (fX13_sayStreams_L168 q0 M) := by
    intro q0 M hM
    unfold fX13_sayStreams_L168
    exact k_ret hM trivial
  have hL167 : ∀ (M : Mem) (hM : FrG G wkX13_sayStreams MM M), okv (fun _ : Int32 => True) MM G wkX13_sayStreams (fX13_sayStreams_L167 M) := by
    intro M hM
    unfold fX13_sayStreams_L167
    exact hL168 2 _ hM
  have hL133 : ∀ (k45 : Option Nat × Int32 × Int32 × Int32 × Int32 → Mem → Option (Int32 × Mem)) (hk45 : ∀ a M, (inG G (a.1)) → FrG G wkX13_sayStreams MM M → okv (fun _ : Int32 => True) MM G wkX13_sayStreams (k45 a M)) (p0 : Option Nat) (p1 : Int32) (p2 : Int32) (p3 : Int32) (p4 : Int32) (M : Mem) (g_p0 : inG G p0) (hM : FrG G wkX13_sayStreams MM M), okv (fun _ : Int32 => True) MM G wkX13_sayStreams (fX13_sayStreams_L133 k45 p0 p1 p2 p3 p4 M) := by
    intro k45 hk45 p0 p1 p2 p3 p4 M g_p0 hM
    unfold fX13_sayStreams_L133
    refine k_bn fun v133 => ?_
    exact hk45 ((p0, p1, p2, p3, v133)) _ g_p0 hM
  have hL87 : ∀ (k45 : Option Nat × Int32 × Int32 × Int32 × Int32 → Mem → Option (Int32 × Mem)) (hk45 : ∀ a M, (inG G (a.1)) → FrG G wkX13_sayStreams MM M → okv (fun _ : Int32 => True) MM G wkX13_sayStreams (k45 a M)) (p0 : Option Nat) (p1 : Int32) (p2 : Int32) (p3 : Int32) (p4 : Int32) (p5 : Int32) (p6 : Int32) (M : Mem) (g_p0 : inG G p0) (hM : FrG G wkX13_sayStreams MM M), okv (fun _ : Int32 => True) MM G wkX13_sayStreams (fX13_sayStreams_L87 k45 p0 p1 p2 p3 p4 p5 p6 M) := by
    intro k45 hk45 p0 p1 p2 p3 p4 p5 p6 M g_p0 hM
    refine k_lp (T := fun a : Option Nat × Int32 × Int32 × Int32 × Int32 × Int32 × Int32 => inG G (a.1)) ?_ FU ((p0, p1, p2, p3, p4, p5, p6)) M g_p0 hM
    intro k87 hk87 a M T hM
    obtain ⟨p0, p1, p2, p3, p4, p5, p6⟩ := a
    have g_p0 := T
    show okv (fun _ : Int32 => True) MM G wkX13_sayStreams (fX13_sayStreams_B87 k45 k87 p0 p1 p2 p3 p4 p5 p6 M)
    unfold fX13_sayStreams_B87
    refine k_if ?_ ?_
    · exact hL133 k45 hk45 p0 p1 p2 p3 p4 _ g_p0 hM
    · refine k_if ?_ ?_
      · exact hL133 k45 hk45 p0 p1 p2 p3 p4 _ g_p0 hM
      · refine k_gR hM g_p0 fun v100 g_v100 => ?_
        refine k_bo fun v113 => ?_
        refine k_wB (by decide) hM g_v100 fun M126 hM126 => ?_
        refine k_bn fun v127 => ?_
        exact hk87 ((p0, p1, p2, p3, p4, p5, v127)) _ g_p0 hM126
  have hL81 : ∀ (k45 : Option Nat × Int32 × Int32 × Int32 × Int32 → Mem → Option (Int32 × Mem)) (hk45 : ∀ a M, (inG G (a.1)) → FrG G wkX13_sayStreams MM M → okv (fun _ : Int32 => True) MM G wkX13_sayStreams (k45 a M)) (p0 : Option Nat) (p1 : Int32) (p2 : Int32) (p3 : Int32) (p4 : Int32) (p5 : Int32) (q0 : Option Nat) (q1 : Int32) (q2 : Int32) (M : Mem) (g_p0 : inG G p0) (g_q0 : inG G q0) (hM : FrG G wkX13_sayStreams MM M), okv (fun _ : Int32 => True) MM G wkX13_sayStreams (fX13_sayStreams_L81 k45 p0 p1 p2 p3 p4 p5 q0 q1 q2 M) := by
    intro k45 hk45 p0 p1 p2 p3 p4 p5 q0 q1 q2 M g_p0 g_q0 hM
    unfold fX13_sayStreams_L81
    refine k_bo fun _ => ?_
    refine k_call (by decide) hM (fun hc => frX13_stream_ _ _ _ hst hc g_q0) fun v81 M81 _ hM81 => ?_
    refine k_bn fun v85 => ?_
    exact hL87 k45 hk45 p0 p1 p2 p3 p4 p5 v85 _ g_p0 hM81
  have hL45 : ∀ (p0 : Option Nat) (p1 : Int32) (p2 : Int32) (p3 : Int32) (p4 : Int32) (M : Mem) (g_p0 : inG G p0) (hM : FrG G wkX13_sayStreams MM M), okv (fun _ : Int32 => True) MM G wkX13_sayStreams (fX13_sayStreams_L45 p0 p1 p2 p3 p4 M) := by
    intro p0 p1 p2 p3 p4 M g_p0 hM
    refine k_lp (T := fun a : Option Nat × Int32 × Int32 × Int32 × Int32 => inG G (a.1)) ?_ FU ((p0, p1, p2, p3, p4)) M g_p0 hM
    intro k45 hk45 a M T hM
    obtain ⟨p0, p1, p2, p3, p4⟩ := a
    have g_p0 := T
    show okv (fun _ : Int32 => True) MM G wkX13_sayStreams (fX13_sayStreams_B45 k45 p0 p1 p2 p3 p4 M)
    unfold fX13_sayStreams_B45
    refine k_if ?_ ?_
    · refine k_bo fun v140 => ?_
      refine k_if ?_ ?_
      · exact hL167 _ hM
      · refine k_bo fun v154 => ?_
        refine k_if ?_ ?_
        · exact hL167 _ hM
        · exact hL168 1 _ hM
    · refine k_bo fun v52 => ?_
      refine k_bn fun v55 => ?_
      refine k_if ?_ ?_
      · refine k_bo fun v78 => ?_
        exact hL81 k45 hk45 p0 p1 p2 p3 p4 v55 p0 (p4 * p3) v78 _ g_p0 g_p0 hM
      · exact hL81 k45 hk45 p0 p1 p2 p3 p4 v55 p0 (p4 * p3) ((p4 + 1) * p3) _ g_p0 g_p0 hM
  unfold fX13_sayStreams
  refine k_bo fun v1 => ?_
  refine k_if ?_ ?_
  · refine k_bo fun v22 => ?_
    refine k_bn fun v25 => ?_
    refine k_bo fun _ => ?_
    refine k_call (by decide) hMM (fun hc => frX13_say _ _ _ hst hc g_a0) fun v30 M30 _ hM30 => ?_
    refine k_bo fun v34 => ?_
    refine k_bo fun v40 => ?_
    refine k_bn fun v41 => ?_
    refine k_bn fun v43 => ?_
    exact hL45 a0 a1 v25 v41 v43 _ g_a0 hM30
  · refine k_bo fun v13 => ?_
    refine k_bo fun _ => ?_
    refine k_call (by decide) hMM (fun hc => frX13_stream_ _ _ _ hst hc g_a0) fun v16 M16 _ hM16 => ?_
    exact k_ret hM16 trivial
def wkX13_sayLetters : List Nat := [1354, 1356, 1400, 1500, 1600, 1700, 1800]
set_option maxRecDepth 100000 in
set_option maxHeartbeats 4000000 in
theorem frX13_sayLetters {G : Nat → Prop} {MM : Mem} (a0 : Option Nat) (a1 : Int32) (hst : ∀ k, k < 10 → G k) (hc : Cl G MM) (g_a0 : inG G a0) : okv (fun _ : Unit => True) MM G wkX13_sayLetters (fX13_sayLetters a0 a1 MM) := by
  have hMM : FrG G wkX13_sayLetters MM MM := FrG.rf hc
  have hL268 : ∀ (p0 : Option Nat) (p2 : Int32) (M : Mem) (g_p0 : inG G p0) (hM : FrG G wkX13_sayLetters MM M), okv (fun _ : Unit => True) MM G wkX13_sayLetters (fX13_sayLetters_L268 p0 p2 M) := by
    intro p0 p2 M g_p0 hM
    refine k_lp (T := fun a : Option Nat × Int32 => inG G (a.1)) ?_ FU ((p0, p2)) M g_p0 hM
    intro k268 hk268 a M T hM
    obtain ⟨p0, p2⟩ := a
    have g_p0 := T
    show okv (fun _ : Unit => True) MM G wkX13_sayLetters (fX13_sayLetters_B268 k268 p0 p2 M)
    unfold fX13_sayLetters_B268
    refine k_bo fun v270 => ?_
    refine k_if ?_ ?_
    · exact k_ret hM trivial
    · refine k_gR hM g_p0 fun v278 g_v278 => ?_
      refine k_bo fun v282 => ?_
      refine k_bo fun _ => ?_
      refine k_call (by decide) hM (fun hc => frX13_say _ _ _ hst hc g_p0) fun v285 M285 _ hM285 => ?_
      refine k_bn fun v288 => ?_
      exact hk268 ((p0, v288)) _ g_p0 hM285
  have hL261 : ∀ (p0 : Option Nat) (M : Mem) (g_p0 : inG G p0) (hM : FrG G wkX13_sayLetters MM M), okv (fun _ : Unit => True) MM G wkX13_sayLetters (fX13_sayLetters_L261 p0 M) := by
    intro p0 M g_p0 hM
    unfold fX13_sayLetters_L261
    refine k_bo fun _ => ?_
    refine k_call (by decide) hM (fun hc => frX13_sayHead _ _ hst hc g_p0) fun v263 M263 _ hM263 => ?_
    refine k_bn fun v267 => ?_
    exact hL268 p0 v267 _ g_p0 hM263
  have hL227 : ∀ (k214 : Option Nat × Int32 × Int32 × Int64 × Int32 → Mem → Option (Unit × Mem)) (hk214 : ∀ a M, (inG G (a.1)) → FrG G wkX13_sayLetters MM M → okv (fun _ : Unit => True) MM G wkX13_sayLetters (k214 a M)) (p0 : Option Nat) (p2 : Int32) (p4 : Int32) (p6 : Int64) (p8 : Int32) (q0 : Int32) (q1 : Int32) (M : Mem) (g_p0 : inG G p0) (hM : FrG G wkX13_sayLetters MM M), okv (fun _ : Unit => True) MM G wkX13_sayLetters (fX13_sayLetters_L227 k214 p0 p2 p4 p6 p8 q0 q1 M) := by
    intro k214 hk214 p0 p2 p4 p6 p8 q0 q1 M g_p0 hM
    unfold fX13_sayLetters_L227
    refine k_if ?_ ?_
    · exact k_ret hM trivial
    · refine k_gR hM g_p0 fun v231 g_v231 => ?_
      refine k_wB (by decide) hM g_v231 fun M248 hM248 => ?_
      refine k_bn fun v249 => ?_
      exact hk214 ((p0, p2, p4, p6, v249)) _ g_p0 hM248
  have hL214 : ∀ (p0 : Option Nat) (p2 : Int32) (p4 : Int32) (p6 : Int64) (p8 : Int32) (M : Mem) (g_p0 : inG G p0) (hM : FrG G wkX13_sayLetters MM M), okv (fun _ : Unit => True) MM G wkX13_sayLetters (fX13_sayLetters_L214 p0 p2 p4 p6 p8 M) := by
    intro p0 p2 p4 p6 p8 M g_p0 hM
    refine k_lp (T := fun a : Option Nat × Int32 × Int32 × Int64 × Int32 => inG G (a.1)) ?_ FU ((p0, p2, p4, p6, p8)) M g_p0 hM
    intro k214 hk214 a M T hM
    obtain ⟨p0, p2, p4, p6, p8⟩ := a
    have g_p0 := T
    show okv (fun _ : Unit => True) MM G wkX13_sayLetters (fX13_sayLetters_B214 k214 p0 p2 p4 p6 p8 M)
    unfold fX13_sayLetters_B214
    refine k_if ?_ ?_
    · exact hL227 k214 hk214 p0 p2 p4 p6 p8 p8 4 _ g_p0 hM
    · exact hL227 k214 hk214 p0 p2 p4 p6 p8 p8 3 _ g_p0 hM
  have hL207 : ∀ (p0 : Option Nat) (p2 : Int32) (p4 : Int32) (q0 : Int64) (q1 : Int64) (q2 : Int32) (M : Mem) (g_p0 : inG G p0) (hM : FrG G wkX13_sayLetters MM M), okv (fun _ : Unit => True) MM G wkX13_sayLetters (fX13_sayLetters_L207 p0 p2 p4 q0 q1 q2 M) := by
    intro p0 p2 p4 q0 q1 q2 M g_p0 hM
    unfold fX13_sayLetters_L207
    refine k_bn fun v209 => ?_
    refine k_bn fun v212 => ?_
    exact hL214 p0 p2 p4 v209 v212 _ g_p0 hM
  have hL172 : ∀ (p0 : Option Nat) (p2 : Int32) (p4 : Int32) (p5 : Int32) (M : Mem) (g_p0 : inG G p0) (hM : FrG G wkX13_sayLetters MM M), okv (fun _ : Unit => True) MM G wkX13_sayLetters (fX13_sayLetters_L172 p0 p2 p4 p5 M) := by
    intro p0 p2 p4 p5 M g_p0 hM
    unfold fX13_sayLetters_L172
    refine k_bo fun v184 => ?_
    refine k_if ?_ ?_
    · exact hL207 p0 p2 p4 ((2 + (4 * p4.toInt64)) + (shlJ v184.toInt64 4)) p5.toInt64 18 _ g_p0 hM
    · exact hL207 p0 p2 p4 ((2 + (4 * p4.toInt64)) + (shlJ v184.toInt64 4)) p5.toInt64 14 _ g_p0 hM
  have hL132 : ∀ (p0 : Option Nat) (p2 : Int32) (p4 : Int32) (p5 : Int32) (p6 : Int32) (M : Mem) (g_p0 : inG G p0) (hM : FrG G wkX13_sayLetters MM M), okv (fun _ : Unit => True) MM G wkX13_sayLetters (fX13_sayLetters_L132 p0 p2 p4 p5 p6 M) := by
    intro p0 p2 p4 p5 p6 M g_p0 hM
    refine k_lp (T := fun a : Option Nat × Int32 × Int32 × Int32 × Int32 => inG G (a.1)) ?_ FU ((p0, p2, p4, p5, p6)) M g_p0 hM
    intro k132 hk132 a M T hM
    obtain ⟨p0, p2, p4, p5, p6⟩ := a
    have g_p0 := T
    show okv (fun _ : Unit => True) MM G wkX13_sayLetters (fX13_sayLetters_B132 k132 p0 p2 p4 p5 p6 M)
    unfold fX13_sayLetters_B132
    refine k_if ?_ ?_
    · refine k_bo fun v164 => ?_
      refine k_pI (by decide) (by decide) (by decide) hM g_p0 fun M169 hM169 => ?_
      exact hL172 p0 p2 p4 p5 _ g_p0 hM169
    · refine k_gR hM g_p0 fun v141 g_v141 => ?_
      refine k_gR hM g_p0 fun v147 g_v147 => ?_
      refine k_bo fun v154 => ?_
      refine k_wB (by decide) hM g_v141 fun M155 hM155 => ?_
      refine k_bn fun v156 => ?_
      exact hk132 ((p0, p2, p4, p5, v156)) _ g_p0 hM155
  have hL83 : ∀ (p0 : Option Nat) (p2 : Int32) (q0 : Int32) (M : Mem) (g_p0 : inG G p0) (hM : FrG G wkX13_sayLetters MM M), okv (fun _ : Unit => True) MM G wkX13_sayLetters (fX13_sayLetters_L83 p0 p2 q0 M) := by
    intro p0 p2 q0 M g_p0 hM
    unfold fX13_sayLetters_L83
    refine k_bn fun v83 => ?_
    refine k_bo fun _ => ?_
    refine k_call (by decide) hM (fun hc => frX13_say _ _ _ hst hc g_p0) fun v87 M87 _ hM87 => ?_
    refine k_bo fun _ => ?_
    refine k_call (by decide) hM87 (fun hc => frX13_sayCode _ hst hc g_p0) fun v91 M91 _ hM91 => ?_
    refine k_bo fun _ => ?_
    refine k_call (by decide) hM91 (fun hc => frX13_sayStreams _ _ hst hc g_p0) fun v96 M96 _ hM96 => ?_
    refine k_bn fun v99 => ?_
    refine k_bo fun v102 => ?_
    refine k_bn fun v109 => ?_
    refine k_bo fun v114 => ?_
    refine k_if ?_ ?_
    · refine k_pI (by decide) (by decide) (by decide) hM96 g_p0 fun M258 hM258 => ?_
      exact hL261 p0 _ g_p0 hM258
    · refine k_if ?_ ?_
      · refine k_bo fun v127 => ?_
        refine k_bn fun v130 => ?_
        exact hL132 p0 p2 v99 v109 v130 _ g_p0 hM96
      · exact hL172 p0 p2 v99 v109 _ g_p0 hM96
  have hL42 : ∀ (p0 : Option Nat) (p1 : Int32) (M : Mem) (g_p0 : inG G p0) (hM : FrG G wkX13_sayLetters MM M), okv (fun _ : Unit => True) MM G wkX13_sayLetters (fX13_sayLetters_L42 p0 p1 M) := by
    intro p0 p1 M g_p0 hM
    unfold fX13_sayLetters_L42
    refine k_if ?_ ?_
    · refine k_bo fun v48 => ?_
      refine k_if ?_ ?_
      · exact hL261 p0 _ g_p0 hM
      · refine k_bo fun _ => ?_
        refine k_call (by decide) hM (fun hc => frX13_areCoded _ hst hc g_p0) fun v57 M57 _ hM57 => ?_
        refine k_if ?_ ?_
        · exact hL261 p0 _ g_p0 hM57
        · refine k_bo fun v64 => ?_
          refine k_bn fun v67 => ?_
          refine k_bo fun v69 => ?_
          refine k_if ?_ ?_
          · exact hL83 p0 v67 3 _ g_p0 hM57
          · exact hL83 p0 v67 3 _ g_p0 hM57
    · exact hL261 p0 _ g_p0 hM
  unfold fX13_sayLetters
  refine k_bo fun v1 => ?_
  refine k_if ?_ ?_
  · exact hL42 a0 a1 _ g_a0 hMM
  · refine k_gR hMM g_a0 fun v10 g_v10 => ?_
    refine k_bo fun v15 => ?_
    refine k_bo fun _ => ?_
    refine k_call (by decide) hMM (fun hc => frX13_areSame _ _ _ _ hst hc g_a0 g_v10) fun v18 M18 _ hM18 => ?_
    refine k_if ?_ ?_
    · exact hL42 a0 a1 _ g_a0 hM18
    · refine k_bo fun _ => ?_
      refine k_call (by decide) hM18 (fun hc => frX13_sayHead _ _ hst hc g_a0) fun v26 M26 _ hM26 => ?_
      refine k_gR hM26 g_a0 fun v31 g_v31 => ?_
      refine k_bo fun v35 => ?_
      refine k_bo fun _ => ?_
      refine k_call (by decide) hM26 (fun hc => frX13_say _ _ _ hst hc g_a0) fun v38 M38 _ hM38 => ?_
      exact k_ret hM38 trivial
def wkX13_letterSymbol : List Nat := []
set_option maxRecDepth 100000 in
set_option maxHeartbeats 4000000 in
theorem frX13_letterSymbol {G : Nat → Prop} {MM : Mem} (a0 : Int32) (hst : ∀ k, k < 10 → G k) (hc : Cl G MM) : okv (fun _ : Int32 => True) MM G wkX13_letterSymbol (fX13_letterSymbol a0 MM) := by
  have hMM : FrG G wkX13_letterSymbol MM MM := FrG.rf hc
  have hL3 : ∀ (p0 : Int32) (p1 : Int32) (M : Mem) (hM : FrG G wkX13_letterSymbol MM M), okv (fun _ : Int32 => True) MM G wkX13_letterSymbol (fX13_letterSymbol_L3 p0 p1 M) := by
    intro p0 p1 M hM
    refine k_lp (T := fun a : Int32 × Int32 => True) ?_ FU ((p0, p1)) M trivial hM
    intro k3 hk3 a M T hM
    obtain ⟨p0, p1⟩ := a
    show okv (fun _ : Int32 => True) MM G wkX13_letterSymbol (fX13_letterSymbol_B3 k3 p0 p1 M)
    unfold fX13_letterSymbol_B3
    refine k_call (by decide) hM (fun hc => frX13_letterBase _ hst hc) fun v4 M4 _ hM4 => ?_
    refine k_if ?_ ?_
    · exact k_ret hM4 trivial
    · refine k_bn fun v11 => ?_
      exact hk3 ((p0, v11)) _ trivial hM4
  unfold fX13_letterSymbol
  refine k_bn fun v2 => ?_
  exact hL3 a0 v2 _ hMM
def wkX13_logLong : List Nat := []
set_option maxRecDepth 100000 in
set_option maxHeartbeats 4000000 in
theorem frX13_logLong {G : Nat → Prop} {MM : Mem} (a0 : Int64) (hst : ∀ k, k < 10 → G k) (hc : Cl G MM) : okv (fun _ : Int32 => True) MM G wkX13_logLong (fX13_logLong a0 MM) := by
  have hMM : FrG G wkX13_logLong MM MM := FrG.rf hc
  have hL2 : ∀ (p0 : Int64) (p2 : Int32) (M : Mem) (hM : FrG G wkX13_logLong MM M), okv (fun _ : Int32 => True) MM G wkX13_logLong (fX13_logLong_L2 p0 p2 M) := by
    intro p0 p2 M hM
    refine k_lp (T := fun a : Int64 × Int32 => True) ?_ FU ((p0, p2)) M trivial hM
    intro k2 hk2 a M T hM
    obtain ⟨p0, p2⟩ := a
    show okv (fun _ : Int32 => True) MM G wkX13_logLong (fX13_logLong_B2 k2 p0 p2 M)
    unfold fX13_logLong_B2
    refine k_if ?_ ?_
    · exact k_ret hM trivial
    · refine k_bn fun v10 => ?_
      exact hk2 ((p0, v10)) _ trivial hM
  unfold fX13_logLong
  refine k_bn fun v1 => ?_
  exact hL2 a0 v1 _ hMM
def wkX13_copySymbol : List Nat := []
set_option maxRecDepth 100000 in
set_option maxHeartbeats 4000000 in
theorem frX13_copySymbol {G : Nat → Prop} {MM : Mem} (a0 : Int32) (hst : ∀ k, k < 10 → G k) (hc : Cl G MM) : okv (fun _ : Int32 => True) MM G wkX13_copySymbol (fX13_copySymbol a0 MM) := by
  have hMM : FrG G wkX13_copySymbol MM MM := FrG.rf hc
  have hL3 : ∀ (p0 : Int32) (p1 : Int32) (M : Mem) (hM : FrG G wkX13_copySymbol MM M), okv (fun _ : Int32 => True) MM G wkX13_copySymbol (fX13_copySymbol_L3 p0 p1 M) := by
    intro p0 p1 M hM
    refine k_lp (T := fun a : Int32 × Int32 => True) ?_ FU ((p0, p1)) M trivial hM
    intro k3 hk3 a M T hM
    obtain ⟨p0, p1⟩ := a
    show okv (fun _ : Int32 => True) MM G wkX13_copySymbol (fX13_copySymbol_B3 k3 p0 p1 M)
    unfold fX13_copySymbol_B3
    refine k_call (by decide) hM (fun hc => frX13_copyBase _ hst hc) fun v4 M4 _ hM4 => ?_
    refine k_if ?_ ?_
    · exact k_ret hM4 trivial
    · refine k_bn fun v11 => ?_
      exact hk3 ((p0, v11)) _ trivial hM4
  unfold fX13_copySymbol
  refine k_bn fun v2 => ?_
  exact hL3 a0 v2 _ hMM
def wkX13_bit : List Nat := [1354, 1373, 1374, 1400]
set_option maxRecDepth 100000 in
set_option maxHeartbeats 4000000 in
theorem frX13_bit {G : Nat → Prop} {MM : Mem} (a0 : Option Nat) (a1 : Int32) (a2 : Int32) (hst : ∀ k, k < 10 → G k) (hc : Cl G MM) (g_a0 : inG G a0) : okv (fun _ : Unit => True) MM G wkX13_bit (fX13_bit a0 a1 a2 MM) := by
  have hMM : FrG G wkX13_bit MM MM := FrG.rf hc
  have hL65 : ∀ (k2 : Option Nat × Int32 × Int32 × Int32 → Mem → Option (Unit × Mem)) (hk2 : ∀ a M, (inG G (a.1)) → FrG G wkX13_bit MM M → okv (fun _ : Unit => True) MM G wkX13_bit (k2 a M)) (p0 : Option Nat) (p1 : Int32) (p2 : Int32) (p3 : Int32) (M : Mem) (g_p0 : inG G p0) (hM : FrG G wkX13_bit MM M), okv (fun _ : Unit => True) MM G wkX13_bit (fX13_bit_L65 k2 p0 p1 p2 p3 M) := by
    intro k2 hk2 p0 p1 p2 p3 M g_p0 hM
    unfold fX13_bit_L65
    refine k_bn fun v65 => ?_
    exact hk2 ((p0, p1, p2, v65)) _ g_p0 hM
  have hL2 : ∀ (p0 : Option Nat) (p1 : Int32) (p2 : Int32) (p3 : Int32) (M : Mem) (g_p0 : inG G p0) (hM : FrG G wkX13_bit MM M), okv (fun _ : Unit => True) MM G wkX13_bit (fX13_bit_L2 p0 p1 p2 p3 M) := by
    intro p0 p1 p2 p3 M g_p0 hM
    refine k_lp (T := fun a : Option Nat × Int32 × Int32 × Int32 => inG G (a.1)) ?_ FU ((p0, p1, p2, p3)) M g_p0 hM
    intro k2 hk2 a M T hM
    obtain ⟨p0, p1, p2, p3⟩ := a
    have g_p0 := T
    show okv (fun _ : Unit => True) MM G wkX13_bit (fX13_bit_B2 k2 p0 p1 p2 p3 M)
    unfold fX13_bit_B2
    refine k_if ?_ ?_
    · exact k_ret hM trivial
    · refine k_bo fun v9 => ?_
      refine k_bo fun v18 => ?_
      refine k_pI (by decide) (by decide) (by decide) hM g_p0 fun M23 hM23 => ?_
      refine k_bo fun v28 => ?_
      refine k_pI (by decide) (by decide) (by decide) hM23 g_p0 fun M33 hM33 => ?_
      refine k_bo fun v37 => ?_
      refine k_if ?_ ?_
      · refine k_bo fun v47 => ?_
        refine k_bo fun _ => ?_
        refine k_call (by decide) hM33 (fun hc => frX13_say _ _ _ hst hc g_p0) fun v52 M52 _ hM52 => ?_
        refine k_pI (by decide) (by decide) (by decide) hM52 g_p0 fun M57 hM57 => ?_
        refine k_pI (by decide) (by decide) (by decide) hM57 g_p0 fun M62 hM62 => ?_
        exact hL65 k2 hk2 p0 p1 p2 p3 _ g_p0 hM62
      · exact hL65 k2 hk2 p0 p1 p2 p3 _ g_p0 hM33
  unfold fX13_bit
  refine k_bn fun v1 => ?_
  exact hL2 a0 a1 a2 v1 _ g_a0 hMM
def wkX13_sayCounts : List Nat := [1354, 1373, 1374, 1400]
set_option maxRecDepth 100000 in
set_option maxHeartbeats 4000000 in
theorem frX13_sayCounts {G : Nat → Prop} {MM : Mem} (a0 : Option Nat) (a1 : Int32) (hst : ∀ k, k < 10 → G k) (hc : Cl G MM) (g_a0 : inG G a0) : okv (fun _ : Unit => True) MM G wkX13_sayCounts (fX13_sayCounts a0 a1 MM) := by
  have hMM : FrG G wkX13_sayCounts MM MM := FrG.rf hc
  have hL246 : ∀ (M : Mem) (hM : FrG G wkX13_sayCounts MM M), okv (fun _ : Unit => True) MM G wkX13_sayCounts (fX13_sayCounts_L246 M) := by
    intro M hM
    unfold fX13_sayCounts_L246
    exact k_ret hM trivial
  have hL224 : ∀ (k30 : Option Nat × Int32 × Int32 × Int32 → Mem → Option (Unit × Mem)) (hk30 : ∀ a M, (inG G (a.1)) → FrG G wkX13_sayCounts MM M → okv (fun _ : Unit => True) MM G wkX13_sayCounts (k30 a M)) (p0 : Option Nat) (p1 : Int32) (p2 : Int32) (p3 : Int32) (M : Mem) (g_p0 : inG G p0) (hM : FrG G wkX13_sayCounts MM M), okv (fun _ : Unit => True) MM G wkX13_sayCounts (fX13_sayCounts_L224 k30 p0 p1 p2 p3 M) := by
    intro k30 hk30 p0 p1 p2 p3 M g_p0 hM
    unfold fX13_sayCounts_L224
    exact hk30 ((p0, p1, p2, p3)) _ g_p0 hM
  have hL199 : ∀ (k30 : Option Nat × Int32 × Int32 × Int32 → Mem → Option (Unit × Mem)) (hk30 : ∀ a M, (inG G (a.1)) → FrG G wkX13_sayCounts MM M → okv (fun _ : Unit => True) MM G wkX13_sayCounts (k30 a M)) (p0 : Option Nat) (p1 : Int32) (p2 : Int32) (p3 : Int32) (p9 : Int32) (M : Mem) (g_p0 : inG G p0) (hM : FrG G wkX13_sayCounts MM M), okv (fun _ : Unit => True) MM G wkX13_sayCounts (fX13_sayCounts_L199 k30 p0 p1 p2 p3 p9 M) := by
    intro k30 hk30 p0 p1 p2 p3 p9 M g_p0 hM
    refine k_lp (T := fun a : Option Nat × Int32 × Int32 × Int32 × Int32 => inG G (a.1)) ?_ FU ((p0, p1, p2, p3, p9)) M g_p0 hM
    intro k199 hk199 a M T hM
    obtain ⟨p0, p1, p2, p3, p9⟩ := a
    have g_p0 := T
    show okv (fun _ : Unit => True) MM G wkX13_sayCounts (fX13_sayCounts_B199 k30 k199 p0 p1 p2 p3 p9 M)
    unfold fX13_sayCounts_B199
    refine k_if ?_ ?_
    · refine k_bo fun _ => ?_
      refine k_call (by decide) hM (fun hc => frX13_bit _ _ _ hst hc g_p0) fun v221 M221 _ hM221 => ?_
      exact hL224 k30 hk30 p0 p1 p2 p3 _ g_p0 hM221
    · refine k_bo fun _ => ?_
      refine k_call (by decide) hM (fun hc => frX13_bit _ _ _ hst hc g_p0) fun v208 M208 _ hM208 => ?_
      refine k_bn fun v211 => ?_
      exact hk199 ((p0, p1, p2, p3, v211)) _ g_p0 hM208
  have hL194 : ∀ (k30 : Option Nat × Int32 × Int32 × Int32 → Mem → Option (Unit × Mem)) (hk30 : ∀ a M, (inG G (a.1)) → FrG G wkX13_sayCounts MM M → okv (fun _ : Unit => True) MM G wkX13_sayCounts (k30 a M)) (p0 : Option Nat) (p1 : Int32) (p2 : Int32) (p3 : Int32) (p9 : Int32) (M : Mem) (g_p0 : inG G p0) (hM : FrG G wkX13_sayCounts MM M), okv (fun _ : Unit => True) MM G wkX13_sayCounts (fX13_sayCounts_L194 k30 p0 p1 p2 p3 p9 M) := by
    intro k30 hk30 p0 p1 p2 p3 p9 M g_p0 hM
    unfold fX13_sayCounts_L194
    refine k_bn fun v198 => ?_
    exact hL199 k30 hk30 p0 p1 p2 v198 p9 _ g_p0 hM
  have hL168 : ∀ (k30 : Option Nat × Int32 × Int32 × Int32 → Mem → Option (Unit × Mem)) (hk30 : ∀ a M, (inG G (a.1)) → FrG G wkX13_sayCounts MM M → okv (fun _ : Unit => True) MM G wkX13_sayCounts (k30 a M)) (p0 : Option Nat) (p1 : Int32) (p2 : Int32) (p3 : Int32) (p9 : Int32) (M : Mem) (g_p0 : inG G p0) (hM : FrG G wkX13_sayCounts MM M), okv (fun _ : Unit => True) MM G wkX13_sayCounts (fX13_sayCounts_L168 k30 p0 p1 p2 p3 p9 M) := by
    intro k30 hk30 p0 p1 p2 p3 p9 M g_p0 hM
    refine k_lp (T := fun a : Option Nat × Int32 × Int32 × Int32 × Int32 => inG G (a.1)) ?_ FU ((p0, p1, p2, p3, p9)) M g_p0 hM
    intro k168 hk168 a M T hM
    obtain ⟨p0, p1, p2, p3, p9⟩ := a
    have g_p0 := T
    show okv (fun _ : Unit => True) MM G wkX13_sayCounts (fX13_sayCounts_B168 k30 k168 p0 p1 p2 p3 p9 M)
    unfold fX13_sayCounts_B168
    refine k_if ?_ ?_
    · exact hL194 k30 hk30 p0 p1 p2 p3 p9 _ g_p0 hM
    · refine k_gR hM g_p0 fun v177 g_v177 => ?_
      refine k_bo fun v184 => ?_
      refine k_if ?_ ?_
      · refine k_bn fun v188 => ?_
        exact hk168 ((p0, p1, p2, p3, v188)) _ g_p0 hM
      · exact hL194 k30 hk30 p0 p1 p2 p3 p9 _ g_p0 hM
  have hL155 : ∀ (k30 : Option Nat × Int32 × Int32 × Int32 → Mem → Option (Unit × Mem)) (hk30 : ∀ a M, (inG G (a.1)) → FrG G wkX13_sayCounts MM M → okv (fun _ : Unit => True) MM G wkX13_sayCounts (k30 a M)) (p0 : Option Nat) (p1 : Int32) (p2 : Int32) (p3 : Int32) (q0 : Int32) (M : Mem) (g_p0 : inG G p0) (hM : FrG G wkX13_sayCounts MM M), okv (fun _ : Unit => True) MM G wkX13_sayCounts (fX13_sayCounts_L155 k30 p0 p1 p2 p3 q0 M) := by
    intro k30 hk30 p0 p1 p2 p3 q0 M g_p0 hM
    unfold fX13_sayCounts_L155
    refine k_bn fun v155 => ?_
    refine k_bn fun v157 => ?_
    refine k_if ?_ ?_
    · exact hL224 k30 hk30 p0 p1 p2 v157 _ g_p0 hM
    · refine k_bn fun v166 => ?_
      exact hL168 k30 hk30 p0 p1 p2 v157 v166 _ g_p0 hM
  have hL132 : ∀ (k30 : Option Nat × Int32 × Int32 × Int32 → Mem → Option (Unit × Mem)) (hk30 : ∀ a M, (inG G (a.1)) → FrG G wkX13_sayCounts MM M → okv (fun _ : Unit => True) MM G wkX13_sayCounts (k30 a M)) (p0 : Option Nat) (p1 : Int32) (p2 : Int32) (p3 : Int32) (M : Mem) (g_p0 : inG G p0) (hM : FrG G wkX13_sayCounts MM M), okv (fun _ : Unit => True) MM G wkX13_sayCounts (fX13_sayCounts_L132 k30 p0 p1 p2 p3 M) := by
    intro k30 hk30 p0 p1 p2 p3 M g_p0 hM
    unfold fX13_sayCounts_L132
    refine k_gR hM g_p0 fun v134 g_v134 => ?_
    refine k_bo fun v138 => ?_
    refine k_bn fun v140 => ?_
    refine k_gR hM g_p0 fun v142 g_v142 => ?_
    refine k_bo fun v146 => ?_
    refine k_if ?_ ?_
    · exact hL155 k30 hk30 p0 p1 v140 p3 1 _ g_p0 hM
    · exact hL155 k30 hk30 p0 p1 v140 p3 0 _ g_p0 hM
  have hL30 : ∀ (p0 : Option Nat) (p1 : Int32) (p2 : Int32) (p3 : Int32) (M : Mem) (g_p0 : inG G p0) (hM : FrG G wkX13_sayCounts MM M), okv (fun _ : Unit => True) MM G wkX13_sayCounts (fX13_sayCounts_L30 p0 p1 p2 p3 M) := by
    intro p0 p1 p2 p3 M g_p0 hM
    refine k_lp (T := fun a : Option Nat × Int32 × Int32 × Int32 => inG G (a.1)) ?_ FU ((p0, p1, p2, p3)) M g_p0 hM
    intro k30 hk30 a M T hM
    obtain ⟨p0, p1, p2, p3⟩ := a
    have g_p0 := T
    show okv (fun _ : Unit => True) MM G wkX13_sayCounts (fX13_sayCounts_B30 k30 p0 p1 p2 p3 M)
    unfold fX13_sayCounts_B30
    refine k_if ?_ ?_
    · refine k_bo fun v228 => ?_
      refine k_if ?_ ?_
      · exact hL246 _ hM
      · refine k_bo fun v239 => ?_
        refine k_bo fun _ => ?_
        refine k_call (by decide) hM (fun hc => frX13_bit _ _ _ hst hc g_p0) fun v243 M243 _ hM243 => ?_
        exact hL246 _ hM243
    · refine k_call (by decide) hM (fun hc => frX13_log _ hst hc) fun v37 M37 _ hM37 => ?_
      refine k_bn fun v42 => ?_
      refine k_bn fun v52 => ?_
      refine k_bn fun v60 => ?_
      refine k_gR hM37 g_p0 fun v63 g_v63 => ?_
      refine k_bo fun v67 => ?_
      refine k_bn fun v70 => ?_
      refine k_if ?_ ?_
      · refine k_if ?_ ?_
        · refine k_bo fun _ => ?_
          refine k_call (by decide) hM37 (fun hc => frX13_bit _ _ _ hst hc g_p0) fun v123 M123 _ hM123 => ?_
          refine k_bo fun _ => ?_
          refine k_call (by decide) hM123 (fun hc => frX13_bit _ _ _ hst hc g_p0) fun v129 M129 _ hM129 => ?_
          exact hL132 k30 hk30 p0 p1 p2 p3 _ g_p0 hM129
        · refine k_bo fun _ => ?_
          refine k_call (by decide) hM37 (fun hc => frX13_bit _ _ _ hst hc g_p0) fun v104 M104 _ hM104 => ?_
          exact hL132 k30 hk30 p0 p1 p2 p3 _ g_p0 hM104
      · refine k_bo fun _ => ?_
        refine k_call (by decide) hM37 (fun hc => frX13_bit _ _ _ hst hc g_p0) fun v86 M86 _ hM86 => ?_
        exact hL132 k30 hk30 p0 p1 p2 p3 _ g_p0 hM86
  unfold fX13_sayCounts
  refine k_pI (by decide) (by decide) (by decide) hMM g_a0 fun M2 hM2 => ?_
  refine k_pI (by decide) (by decide) (by decide) hM2 g_a0 fun M7 hM7 => ?_
  refine k_bo fun v12 => ?_
  refine k_bo fun _ => ?_
  refine k_call (by decide) hM7 (fun hc => frX13_bit _ _ _ hst hc g_a0) fun v18 M18 _ hM18 => ?_
  refine k_bo fun v23 => ?_
  refine k_bn fun v27 => ?_
  refine k_bn fun v29 => ?_
  exact hL30 a0 a1 v27 v29 _ g_a0 hM18
def wkX13_sayTable : List Nat := [1313, 1354, 1373, 1374, 1400, 1500, 1700, 1800]
set_option maxRecDepth 100000 in
set_option maxHeartbeats 4000000 in
theorem frX13_sayTable {G : Nat → Prop} {MM : Mem} (a0 : Option Nat) (a1 : Int32) (a2 : Int32) (hst : ∀ k, k < 10 → G k) (hc : Cl G MM) (g_a0 : inG G a0) : okv (fun _ : Int32 => True) MM G wkX13_sayTable (fX13_sayTable a0 a1 a2 MM) := by
  have hMM : FrG G wkX13_sayTable MM MM := FrG.rf hc
  have hL14 : ∀ (p0 : Option Nat) (p2 : Int32) (M : Mem) (g_p0 : inG G p0) (hM : FrG G wkX13_sayTable MM M), okv (fun _ : Int32 => True) MM G wkX13_sayTable (fX13_sayTable_L14 p0 p2 M) := by
    intro p0 p2 M g_p0 hM
    unfold fX13_sayTable_L14
    refine k_bo fun _ => ?_
    refine k_call (by decide) hM (fun hc => frX13_defaults _ _ _ hst hc g_p0) fun v20 M20 _ hM20 => ?_
    exact k_ret hM20 trivial
  have hL343 : ∀ (k260 : Option Nat × Int32 × Int32 × Int32 → Mem → Option (Int32 × Mem)) (hk260 : ∀ a M, (inG G (a.1)) → FrG G wkX13_sayTable MM M → okv (fun _ : Int32 => True) MM G wkX13_sayTable (k260 a M)) (p0 : Option Nat) (p2 : Int32) (p3 : Int32) (q0 : Int32) (M : Mem) (g_p0 : inG G p0) (hM : FrG G wkX13_sayTable MM M), okv (fun _ : Int32 => True) MM G wkX13_sayTable (fX13_sayTable_L343 k260 p0 p2 p3 q0 M) := by
    intro k260 hk260 p0 p2 p3 q0 M g_p0 hM
    unfold fX13_sayTable_L343
    refine k_bn fun v343 => ?_
    exact hk260 ((p0, p2, p3, v343)) _ g_p0 hM
  have hL328 : ∀ (k260 : Option Nat × Int32 × Int32 × Int32 → Mem → Option (Int32 × Mem)) (hk260 : ∀ a M, (inG G (a.1)) → FrG G wkX13_sayTable MM M → okv (fun _ : Int32 => True) MM G wkX13_sayTable (k260 a M)) (p0 : Option Nat) (p2 : Int32) (p3 : Int32) (p4 : Int32) (q0 : Option Nat) (q1 : Int32) (q2 : Int32) (q3 : Int32) (M : Mem) (g_p0 : inG G p0) (g_q0 : inG G q0) (hM : FrG G wkX13_sayTable MM M), okv (fun _ : Int32 => True) MM G wkX13_sayTable (fX13_sayTable_L328 k260 p0 p2 p3 p4 q0 q1 q2 q3 M) := by
    intro k260 hk260 p0 p2 p3 p4 q0 q1 q2 q3 M g_p0 g_q0 hM
    unfold fX13_sayTable_L328
    refine k_wI (by decide) hM g_q0 fun M329 hM329 => ?_
    refine k_if ?_ ?_
    · exact hL343 k260 hk260 p0 p2 p3 (p4 + 1) _ g_p0 hM329
    · exact hL343 k260 hk260 p0 p2 p3 0 _ g_p0 hM329
  have hL301 : ∀ (k260 : Option Nat × Int32 × Int32 × Int32 → Mem → Option (Int32 × Mem)) (hk260 : ∀ a M, (inG G (a.1)) → FrG G wkX13_sayTable MM M → okv (fun _ : Int32 => True) MM G wkX13_sayTable (k260 a M)) (k271 : Option Nat × Int32 × Int32 × Int32 × Int32 × Int32 → Mem → Option (Int32 × Mem)) (hk271 : ∀ a M, (inG G (a.1)) → FrG G wkX13_sayTable MM M → okv (fun _ : Int32 => True) MM G wkX13_sayTable (k271 a M)) (p0 : Option Nat) (p2 : Int32) (p3 : Int32) (p4 : Int32) (p6 : Int32) (q0 : Int32) (M : Mem) (g_p0 : inG G p0) (hM : FrG G wkX13_sayTable MM M), okv (fun _ : Int32 => True) MM G wkX13_sayTable (fX13_sayTable_L301 k260 k271 p0 p2 p3 p4 p6 q0 M) := by
    intro k260 hk260 k271 hk271 p0 p2 p3 p4 p6 q0 M g_p0 hM
    unfold fX13_sayTable_L301
    refine k_bn fun v301 => ?_
    refine k_bn fun v303 => ?_
    exact hk271 ((p0, p2, p3, p4, v301, v303)) _ g_p0 hM
  have hL271 : ∀ (k260 : Option Nat × Int32 × Int32 × Int32 → Mem → Option (Int32 × Mem)) (hk260 : ∀ a M, (inG G (a.1)) → FrG G wkX13_sayTable MM M → okv (fun _ : Int32 => True) MM G wkX13_sayTable (k260 a M)) (p0 : Option Nat) (p2 : Int32) (p3 : Int32) (p4 : Int32) (p5 : Int32) (p6 : Int32) (M : Mem) (g_p0 : inG G p0) (hM : FrG G wkX13_sayTable MM M), okv (fun _ : Int32 => True) MM G wkX13_sayTable (fX13_sayTable_L271 k260 p0 p2 p3 p4 p5 p6 M) := by
    intro k260 hk260 p0 p2 p3 p4 p5 p6 M g_p0 hM
    refine k_lp (T := fun a : Option Nat × Int32 × Int32 × Int32 × Int32 × Int32 => inG G (a.1)) ?_ FU ((p0, p2, p3, p4, p5, p6)) M g_p0 hM
    intro k271 hk271 a M T hM
    obtain ⟨p0, p2, p3, p4, p5, p6⟩ := a
    have g_p0 := T
    show okv (fun _ : Int32 => True) MM G wkX13_sayTable (fX13_sayTable_B271 k260 k271 p0 p2 p3 p4 p5 p6 M)
    unfold fX13_sayTable_B271
    refine k_if ?_ ?_
    · refine k_gR hM g_p0 fun v310 g_v310 => ?_
      refine k_bo fun v316 => ?_
      refine k_if ?_ ?_
      · exact hL328 k260 hk260 p0 p2 p3 p4 v310 p5 v316 ((-1)) _ g_p0 g_v310 hM
      · exact hL328 k260 hk260 p0 p2 p3 p4 v310 p5 v316 p4 _ g_p0 g_v310 hM
    · refine k_gR hM g_p0 fun v278 g_v278 => ?_
      refine k_bo fun v283 => ?_
      refine k_gR hM g_p0 fun v285 g_v285 => ?_
      refine k_bo fun v290 => ?_
      refine k_if ?_ ?_
      · exact hL301 k260 hk260 k271 hk271 p0 p2 p3 p4 p6 p5 _ g_p0 hM
      · exact hL301 k260 hk260 k271 hk271 p0 p2 p3 p4 p6 p6 _ g_p0 hM
  have hL260 : ∀ (p0 : Option Nat) (p2 : Int32) (p3 : Int32) (p4 : Int32) (M : Mem) (g_p0 : inG G p0) (hM : FrG G wkX13_sayTable MM M), okv (fun _ : Int32 => True) MM G wkX13_sayTable (fX13_sayTable_L260 p0 p2 p3 p4 M) := by
    intro p0 p2 p3 p4 M g_p0 hM
    refine k_lp (T := fun a : Option Nat × Int32 × Int32 × Int32 => inG G (a.1)) ?_ FU ((p0, p2, p3, p4)) M g_p0 hM
    intro k260 hk260 a M T hM
    obtain ⟨p0, p2, p3, p4⟩ := a
    have g_p0 := T
    show okv (fun _ : Int32 => True) MM G wkX13_sayTable (fX13_sayTable_B260 k260 p0 p2 p3 p4 M)
    unfold fX13_sayTable_B260
    refine k_if ?_ ?_
    · refine k_bo fun _ => ?_
      refine k_call (by decide) hM (fun hc => frX13_sayCounts _ _ hst hc g_p0) fun v350 M350 _ hM350 => ?_
      refine k_bo fun _ => ?_
      refine k_call (by decide) hM350 (fun hc => frX13_table _ _ hst hc g_p0) fun v358 M358 _ hM358 => ?_
      exact k_ret hM358 trivial
    · refine k_bn fun v266 => ?_
      refine k_bn fun v269 => ?_
      exact hL271 k260 hk260 p0 p2 p3 p4 v266 v269 _ g_p0 hM
  have hL241 : ∀ (k189 : Option Nat × Int32 × Int32 × Int32 × Int32 → Mem → Option (Int32 × Mem)) (hk189 : ∀ a M, (inG G (a.1)) → FrG G wkX13_sayTable MM M → okv (fun _ : Int32 => True) MM G wkX13_sayTable (k189 a M)) (p0 : Option Nat) (p2 : Int32) (p3 : Int32) (p4 : Int32) (p5 : Int32) (q0 : Option Nat) (q1 : Int32) (q2 : Int32) (M : Mem) (g_p0 : inG G p0) (g_q0 : inG G q0) (hM : FrG G wkX13_sayTable MM M), okv (fun _ : Int32 => True) MM G wkX13_sayTable (fX13_sayTable_L241 k189 p0 p2 p3 p4 p5 q0 q1 q2 M) := by
    intro k189 hk189 p0 p2 p3 p4 p5 q0 q1 q2 M g_p0 g_q0 hM
    unfold fX13_sayTable_L241
    refine k_wI (by decide) hM g_q0 fun M241 hM241 => ?_
    refine k_gR hM241 g_p0 fun v245 g_v245 => ?_
    refine k_bo fun v250 => ?_
    refine k_bn fun v252 => ?_
    refine k_bn fun v254 => ?_
    exact hk189 ((p0, p2, p3, v252, v254)) _ g_p0 hM241
  have hL239 : ∀ (k189 : Option Nat × Int32 × Int32 × Int32 × Int32 → Mem → Option (Int32 × Mem)) (hk189 : ∀ a M, (inG G (a.1)) → FrG G wkX13_sayTable MM M → okv (fun _ : Int32 => True) MM G wkX13_sayTable (k189 a M)) (p0 : Option Nat) (p2 : Int32) (p3 : Int32) (p4 : Int32) (p5 : Int32) (p6 : Int32) (q0 : Option Nat) (q1 : Int32) (M : Mem) (g_p0 : inG G p0) (g_q0 : inG G q0) (hM : FrG G wkX13_sayTable MM M), okv (fun _ : Int32 => True) MM G wkX13_sayTable (fX13_sayTable_L239 k189 p0 p2 p3 p4 p5 p6 q0 q1 M) := by
    intro k189 hk189 p0 p2 p3 p4 p5 p6 q0 q1 M g_p0 g_q0 hM
    unfold fX13_sayTable_L239
    exact hL241 k189 hk189 p0 p2 p3 p4 p5 q0 q1 p6 _ g_p0 g_q0 hM
  have hL189 : ∀ (p0 : Option Nat) (p2 : Int32) (p3 : Int32) (p4 : Int32) (p5 : Int32) (M : Mem) (g_p0 : inG G p0) (hM : FrG G wkX13_sayTable MM M), okv (fun _ : Int32 => True) MM G wkX13_sayTable (fX13_sayTable_L189 p0 p2 p3 p4 p5 M) := by
    intro p0 p2 p3 p4 p5 M g_p0 hM
    refine k_lp (T := fun a : Option Nat × Int32 × Int32 × Int32 × Int32 => inG G (a.1)) ?_ FU ((p0, p2, p3, p4, p5)) M g_p0 hM
    intro k189 hk189 a M T hM
    obtain ⟨p0, p2, p3, p4, p5⟩ := a
    have g_p0 := T
    show okv (fun _ : Int32 => True) MM G wkX13_sayTable (fX13_sayTable_B189 k189 p0 p2 p3 p4 p5 M)
    unfold fX13_sayTable_B189
    refine k_if ?_ ?_
    · exact hL260 p0 p2 p3 p4 _ g_p0 hM
    · refine k_gR hM g_p0 fun v196 g_v196 => ?_
      refine k_bo fun v201 => ?_
      refine k_bo fun v203 => ?_
      refine k_bo fun v208 => ?_
      refine k_bo fun v211 => ?_
      refine k_bn fun v212 => ?_
      refine k_gR hM g_p0 fun v215 g_v215 => ?_
      refine k_gR hM g_p0 fun v221 g_v221 => ?_
      refine k_bo fun v226 => ?_
      refine k_if ?_ ?_
      · exact hL239 k189 hk189 p0 p2 p3 p4 p5 v212 v215 p5 _ g_p0 g_v215 hM
      · refine k_if ?_ ?_
        · exact hL241 k189 hk189 p0 p2 p3 p4 p5 v215 p5 1 _ g_p0 g_v215 hM
        · exact hL239 k189 hk189 p0 p2 p3 p4 p5 v212 v215 p5 _ g_p0 g_v215 hM
  have hL171 : ∀ (p0 : Option Nat) (p2 : Int32) (p3 : Int32) (q0 : Option Nat) (q1 : Int32) (M : Mem) (g_p0 : inG G p0) (g_q0 : inG G q0) (hM : FrG G wkX13_sayTable MM M), okv (fun _ : Int32 => True) MM G wkX13_sayTable (fX13_sayTable_L171 p0 p2 p3 q0 q1 M) := by
    intro p0 p2 p3 q0 q1 M g_p0 g_q0 hM
    unfold fX13_sayTable_L171
    refine k_pI (by decide) (by decide) (by decide) hM g_q0 fun M171 hM171 => ?_
    refine k_bo fun v176 => ?_
    refine k_bn fun v180 => ?_
    refine k_bo fun _ => ?_
    refine k_call (by decide) hM171 (fun hc => frX13_noCounts _ hst hc g_p0) fun v183 M183 _ hM183 => ?_
    refine k_bn fun v187 => ?_
    exact hL189 p0 p2 p3 v180 v187 _ g_p0 hM183
  have hL102 : ∀ (k55 : Option Nat × Int32 × Int32 × Int32 → Mem → Option (Int32 × Mem)) (hk55 : ∀ a M, (inG G (a.1)) → FrG G wkX13_sayTable MM M → okv (fun _ : Int32 => True) MM G wkX13_sayTable (k55 a M)) (p0 : Option Nat) (p2 : Int32) (p4 : Int32) (q0 : Int32) (M : Mem) (g_p0 : inG G p0) (hM : FrG G wkX13_sayTable MM M), okv (fun _ : Int32 => True) MM G wkX13_sayTable (fX13_sayTable_L102 k55 p0 p2 p4 q0 M) := by
    intro k55 hk55 p0 p2 p4 q0 M g_p0 hM
    unfold fX13_sayTable_L102
    refine k_bn fun v102 => ?_
    refine k_bn fun v103 => ?_
    exact hk55 ((p0, p2, v102, v103)) _ g_p0 hM
  have hL55 : ∀ (p0 : Option Nat) (p2 : Int32) (p3 : Int32) (p4 : Int32) (M : Mem) (g_p0 : inG G p0) (hM : FrG G wkX13_sayTable MM M), okv (fun _ : Int32 => True) MM G wkX13_sayTable (fX13_sayTable_L55 p0 p2 p3 p4 M) := by
    intro p0 p2 p3 p4 M g_p0 hM
    refine k_lp (T := fun a : Option Nat × Int32 × Int32 × Int32 => inG G (a.1)) ?_ FU ((p0, p2, p3, p4)) M g_p0 hM
    intro k55 hk55 a M T hM
    obtain ⟨p0, p2, p3, p4⟩ := a
    have g_p0 := T
    show okv (fun _ : Int32 => True) MM G wkX13_sayTable (fX13_sayTable_B55 k55 p0 p2 p3 p4 M)
    unfold fX13_sayTable_B55
    refine k_bo fun v58 => ?_
    refine k_if ?_ ?_
    · refine k_gR hM g_p0 fun v110 g_v110 => ?_
      refine k_bo fun v114 => ?_
      refine k_bo fun v116 => ?_
      refine k_if ?_ ?_
      · refine k_bo fun _ => ?_
        refine k_call (by decide) hM (fun hc => frX13_alone _ _ _ hst hc g_p0) fun v128 M128 _ hM128 => ?_
        refine k_bo fun _ => ?_
        refine k_call (by decide) hM128 (fun hc => frX13_say _ _ _ hst hc g_p0) fun v135 M135 _ hM135 => ?_
        exact k_ret hM135 trivial
      · refine k_bo fun v142 => ?_
        refine k_if ?_ ?_
        · refine k_bo fun v155 => ?_
          refine k_if ?_ ?_
          · exact hL171 p0 p2 p3 p0 7 _ g_p0 g_p0 hM
          · exact hL171 p0 p2 p3 p0 6 _ g_p0 g_p0 hM
        · exact hL171 p0 p2 p3 p0 5 _ g_p0 g_p0 hM
    · refine k_gR hM g_p0 fun v65 g_v65 => ?_
      refine k_bo fun v76 => ?_
      refine k_bn fun v77 => ?_
      refine k_gR hM g_p0 fun v80 g_v80 => ?_
      refine k_bo fun v86 => ?_
      refine k_wI (by decide) hM g_v80 fun M89 hM89 => ?_
      refine k_if ?_ ?_
      · exact hL102 k55 hk55 p0 p2 p4 p3 _ g_p0 hM89
      · exact hL102 k55 hk55 p0 p2 p4 v77 _ g_p0 hM89
  have hL30 : ∀ (p0 : Option Nat) (p2 : Int32) (p3 : Int32) (p4 : Int32) (M : Mem) (g_p0 : inG G p0) (hM : FrG G wkX13_sayTable MM M), okv (fun _ : Int32 => True) MM G wkX13_sayTable (fX13_sayTable_L30 p0 p2 p3 p4 M) := by
    intro p0 p2 p3 p4 M g_p0 hM
    refine k_lp (T := fun a : Option Nat × Int32 × Int32 × Int32 => inG G (a.1)) ?_ FU ((p0, p2, p3, p4)) M g_p0 hM
    intro k30 hk30 a M T hM
    obtain ⟨p0, p2, p3, p4⟩ := a
    have g_p0 := T
    show okv (fun _ : Int32 => True) MM G wkX13_sayTable (fX13_sayTable_B30 k30 p0 p2 p3 p4 M)
    unfold fX13_sayTable_B30
    refine k_if ?_ ?_
    · refine k_bn fun v53 => ?_
      exact hL55 p0 p2 p3 v53 _ g_p0 hM
    · refine k_gR hM g_p0 fun v39 g_v39 => ?_
      refine k_wI (by decide) hM g_v39 fun M45 hM45 => ?_
      refine k_bn fun v46 => ?_
      exact hk30 ((p0, p2, p3, v46)) _ g_p0 hM45
  unfold fX13_sayTable
  refine k_if ?_ ?_
  · exact hL14 a0 a2 _ g_a0 hMM
  · refine k_bo fun v6 => ?_
    refine k_if ?_ ?_
    · refine k_bn fun v26 => ?_
      refine k_bn fun v28 => ?_
      exact hL30 a0 a2 v26 v28 _ g_a0 hMM
    · exact hL14 a0 a2 _ g_a0 hMM
def wkX13_states : List Nat := [1500]
set_option maxRecDepth 100000 in
set_option maxHeartbeats 4000000 in
theorem frX13_states {G : Nat → Prop} {MM : Mem} (a0 : Option Nat) (a1 : Int32) (hst : ∀ k, k < 10 → G k) (hc : Cl G MM) (g_a0 : inG G a0) : okv (fun _ : Unit => True) MM G wkX13_states (fX13_states a0 a1 MM) := by
  have hMM : FrG G wkX13_states MM MM := FrG.rf hc
  have hL171 : ∀ (k29 : Option Nat × Int32 × Int32 × Int32 × Int32 → Mem → Option (Unit × Mem)) (hk29 : ∀ a M, (inG G (a.1)) → FrG G wkX13_states MM M → okv (fun _ : Unit => True) MM G wkX13_states (k29 a M)) (p0 : Option Nat) (p1 : Int32) (p2 : Int32) (p3 : Int32) (p4 : Int32) (p6 : Int32) (M : Mem) (g_p0 : inG G p0) (hM : FrG G wkX13_states MM M), okv (fun _ : Unit => True) MM G wkX13_states (fX13_states_L171 k29 p0 p1 p2 p3 p4 p6 M) := by
    intro k29 hk29 p0 p1 p2 p3 p4 p6 M g_p0 hM
    unfold fX13_states_L171
    refine k_gR hM g_p0 fun v172 g_v172 => ?_
    refine k_wI (by decide) hM g_v172 fun M185 hM185 => ?_
    refine k_bn fun v186 => ?_
    exact hk29 ((p0, p1, p2, p3, v186)) _ g_p0 hM185
  have hL165 : ∀ (k29 : Option Nat × Int32 × Int32 × Int32 × Int32 → Mem → Option (Unit × Mem)) (hk29 : ∀ a M, (inG G (a.1)) → FrG G wkX13_states MM M → okv (fun _ : Unit => True) MM G wkX13_states (k29 a M)) (k55 : Option Nat × Int32 × Int32 × Int32 × Int32 × Int32 × Int32 × Int32 → Mem → Option (Unit × Mem)) (hk55 : ∀ a M, (inG G (a.1)) → FrG G wkX13_states MM M → okv (fun _ : Unit => True) MM G wkX13_states (k55 a M)) (p0 : Option Nat) (p1 : Int32) (p2 : Int32) (p3 : Int32) (p4 : Int32) (p5 : Int32) (p6 : Int32) (p7 : Int32) (M : Mem) (g_p0 : inG G p0) (hM : FrG G wkX13_states MM M), okv (fun _ : Unit => True) MM G wkX13_states (fX13_states_L165 k29 k55 p0 p1 p2 p3 p4 p5 p6 p7 M) := by
    intro k29 hk29 k55 hk55 p0 p1 p2 p3 p4 p5 p6 p7 M g_p0 hM
    unfold fX13_states_L165
    refine k_bn fun v165 => ?_
    exact hk55 ((p0, p1, p2, p3, p4, p5, p6, v165)) _ g_p0 hM
  have hL163 : ∀ (k29 : Option Nat × Int32 × Int32 × Int32 × Int32 → Mem → Option (Unit × Mem)) (hk29 : ∀ a M, (inG G (a.1)) → FrG G wkX13_states MM M → okv (fun _ : Unit => True) MM G wkX13_states (k29 a M)) (k55 : Option Nat × Int32 × Int32 × Int32 × Int32 × Int32 × Int32 × Int32 → Mem → Option (Unit × Mem)) (hk55 : ∀ a M, (inG G (a.1)) → FrG G wkX13_states MM M → okv (fun _ : Unit => True) MM G wkX13_states (k55 a M)) (p0 : Option Nat) (p1 : Int32) (p2 : Int32) (p3 : Int32) (p4 : Int32) (p5 : Int32) (p7 : Int32) (q0 : Int32) (M : Mem) (g_p0 : inG G p0) (hM : FrG G wkX13_states MM M), okv (fun _ : Unit => True) MM G wkX13_states (fX13_states_L163 k29 k55 p0 p1 p2 p3 p4 p5 p7 q0 M) := by
    intro k29 hk29 k55 hk55 p0 p1 p2 p3 p4 p5 p7 q0 M g_p0 hM
    unfold fX13_states_L163
    refine k_bn fun v163 => ?_
    exact hL165 k29 hk29 k55 hk55 p0 p1 p2 p3 p4 p5 v163 p7 _ g_p0 hM
  have hL157 : ∀ (k29 : Option Nat × Int32 × Int32 × Int32 × Int32 → Mem → Option (Unit × Mem)) (hk29 : ∀ a M, (inG G (a.1)) → FrG G wkX13_states MM M → okv (fun _ : Unit => True) MM G wkX13_states (k29 a M)) (k55 : Option Nat × Int32 × Int32 × Int32 × Int32 × Int32 × Int32 × Int32 → Mem → Option (Unit × Mem)) (hk55 : ∀ a M, (inG G (a.1)) → FrG G wkX13_states MM M → okv (fun _ : Unit => True) MM G wkX13_states (k55 a M)) (p0 : Option Nat) (p1 : Int32) (p2 : Int32) (p3 : Int32) (p4 : Int32) (p5 : Int32) (p7 : Int32) (M : Mem) (g_p0 : inG G p0) (hM : FrG G wkX13_states MM M), okv (fun _ : Unit => True) MM G wkX13_states (fX13_states_L157 k29 k55 p0 p1 p2 p3 p4 p5 p7 M) := by
    intro k29 hk29 k55 hk55 p0 p1 p2 p3 p4 p5 p7 M g_p0 hM
    unfold fX13_states_L157
    exact hL163 k29 hk29 k55 hk55 p0 p1 p2 p3 p4 p5 p7 p7 _ g_p0 hM
  have hL162 : ∀ (k29 : Option Nat × Int32 × Int32 × Int32 × Int32 → Mem → Option (Unit × Mem)) (hk29 : ∀ a M, (inG G (a.1)) → FrG G wkX13_states MM M → okv (fun _ : Unit => True) MM G wkX13_states (k29 a M)) (k55 : Option Nat × Int32 × Int32 × Int32 × Int32 × Int32 × Int32 × Int32 → Mem → Option (Unit × Mem)) (hk55 : ∀ a M, (inG G (a.1)) → FrG G wkX13_states MM M → okv (fun _ : Unit => True) MM G wkX13_states (k55 a M)) (p0 : Option Nat) (p1 : Int32) (p2 : Int32) (p3 : Int32) (p4 : Int32) (p5 : Int32) (p7 : Int32) (M : Mem) (g_p0 : inG G p0) (hM : FrG G wkX13_states MM M), okv (fun _ : Unit => True) MM G wkX13_states (fX13_states_L162 k29 k55 p0 p1 p2 p3 p4 p5 p7 M) := by
    intro k29 hk29 k55 hk55 p0 p1 p2 p3 p4 p5 p7 M g_p0 hM
    unfold fX13_states_L162
    exact hL163 k29 hk29 k55 hk55 p0 p1 p2 p3 p4 p5 p7 ((-1)) _ g_p0 hM
  have hL123 : ∀ (k29 : Option Nat × Int32 × Int32 × Int32 × Int32 → Mem → Option (Unit × Mem)) (hk29 : ∀ a M, (inG G (a.1)) → FrG G wkX13_states MM M → okv (fun _ : Unit => True) MM G wkX13_states (k29 a M)) (k55 : Option Nat × Int32 × Int32 × Int32 × Int32 × Int32 × Int32 × Int32 → Mem → Option (Unit × Mem)) (hk55 : ∀ a M, (inG G (a.1)) → FrG G wkX13_states MM M → okv (fun _ : Unit => True) MM G wkX13_states (k55 a M)) (p0 : Option Nat) (p1 : Int32) (p2 : Int32) (p3 : Int32) (p4 : Int32) (p5 : Int32) (p7 : Int32) (q0 : Int32) (M : Mem) (g_p0 : inG G p0) (hM : FrG G wkX13_states MM M), okv (fun _ : Unit => True) MM G wkX13_states (fX13_states_L123 k29 k55 p0 p1 p2 p3 p4 p5 p7 q0 M) := by
    intro k29 hk29 k55 hk55 p0 p1 p2 p3 p4 p5 p7 q0 M g_p0 hM
    unfold fX13_states_L123
    refine k_bn fun v123 => ?_
    refine k_bo fun v128 => ?_
    refine k_if ?_ ?_
    · exact hL157 k29 hk29 k55 hk55 p0 p1 p2 p3 p4 p5 p7 _ g_p0 hM
    · refine k_if ?_ ?_
      · exact hL162 k29 hk29 k55 hk55 p0 p1 p2 p3 p4 p5 p7 _ g_p0 hM
      · refine k_gR hM g_p0 fun v145 g_v145 => ?_
        refine k_bo fun v152 => ?_
        refine k_if ?_ ?_
        · exact hL162 k29 hk29 k55 hk55 p0 p1 p2 p3 p4 p5 p7 _ g_p0 hM
        · exact hL157 k29 hk29 k55 hk55 p0 p1 p2 p3 p4 p5 p7 _ g_p0 hM
  have hL55 : ∀ (k29 : Option Nat × Int32 × Int32 × Int32 × Int32 → Mem → Option (Unit × Mem)) (hk29 : ∀ a M, (inG G (a.1)) → FrG G wkX13_states MM M → okv (fun _ : Unit => True) MM G wkX13_states (k29 a M)) (p0 : Option Nat) (p1 : Int32) (p2 : Int32) (p3 : Int32) (p4 : Int32) (p5 : Int32) (p6 : Int32) (p7 : Int32) (M : Mem) (g_p0 : inG G p0) (hM : FrG G wkX13_states MM M), okv (fun _ : Unit => True) MM G wkX13_states (fX13_states_L55 k29 p0 p1 p2 p3 p4 p5 p6 p7 M) := by
    intro k29 hk29 p0 p1 p2 p3 p4 p5 p6 p7 M g_p0 hM
    refine k_lp (T := fun a : Option Nat × Int32 × Int32 × Int32 × Int32 × Int32 × Int32 × Int32 => inG G (a.1)) ?_ FU ((p0, p1, p2, p3, p4, p5, p6, p7)) M g_p0 hM
    intro k55 hk55 a M T hM
    obtain ⟨p0, p1, p2, p3, p4, p5, p6, p7⟩ := a
    have g_p0 := T
    show okv (fun _ : Unit => True) MM G wkX13_states (fX13_states_B55 k29 k55 p0 p1 p2 p3 p4 p5 p6 p7 M)
    unfold fX13_states_B55
    refine k_if ?_ ?_
    · exact hL171 k29 hk29 p0 p1 p2 p3 p4 p6 _ g_p0 hM
    · refine k_if ?_ ?_
      · exact hL171 k29 hk29 p0 p1 p2 p3 p4 p6 _ g_p0 hM
      · refine k_gR hM g_p0 fun v67 g_v67 => ?_
        refine k_bo fun v74 => ?_
        refine k_if ?_ ?_
        · refine k_bo fun v86 => ?_
          refine k_if ?_ ?_
          · exact hL123 k29 hk29 k55 hk55 p0 p1 p2 p3 p4 p5 p7 0 _ g_p0 hM
          · refine k_gR hM g_p0 fun v99 g_v99 => ?_
            refine k_bo fun v112 => ?_
            refine k_gR hM g_p0 fun v114 g_v114 => ?_
            refine k_bo fun v121 => ?_
            exact hL123 k29 hk29 k55 hk55 p0 p1 p2 p3 p4 p5 p7 (v112 - v121) _ g_p0 hM
        · exact hL165 k29 hk29 k55 hk55 p0 p1 p2 p3 p4 p5 p6 p7 _ g_p0 hM
  have hL29 : ∀ (p0 : Option Nat) (p1 : Int32) (p2 : Int32) (p3 : Int32) (p4 : Int32) (M : Mem) (g_p0 : inG G p0) (hM : FrG G wkX13_states MM M), okv (fun _ : Unit => True) MM G wkX13_states (fX13_states_L29 p0 p1 p2 p3 p4 M) := by
    intro p0 p1 p2 p3 p4 M g_p0 hM
    refine k_lp (T := fun a : Option Nat × Int32 × Int32 × Int32 × Int32 => inG G (a.1)) ?_ FU ((p0, p1, p2, p3, p4)) M g_p0 hM
    intro k29 hk29 a M T hM
    obtain ⟨p0, p1, p2, p3, p4⟩ := a
    have g_p0 := T
    show okv (fun _ : Unit => True) MM G wkX13_states (fX13_states_B29 k29 p0 p1 p2 p3 p4 M)
    unfold fX13_states_B29
    refine k_if ?_ ?_
    · exact k_ret hM trivial
    · refine k_gR hM g_p0 fun v35 g_v35 => ?_
      refine k_bo fun v46 => ?_
      refine k_bn fun v47 => ?_
      refine k_bn fun v50 => ?_
      refine k_bn fun v53 => ?_
      exact hL55 k29 hk29 p0 p1 p2 p3 p4 v47 v50 v53 _ g_p0 hM
  unfold fX13_states
  refine k_bn fun v8 => ?_
  refine k_gR hMM g_a0 fun v11 g_v11 => ?_
  refine k_bo fun v18 => ?_
  refine k_bn fun v20 => ?_
  refine k_bo fun v22 => ?_
  refine k_bn fun v27 => ?_
  exact hL29 a0 a1 v8 v20 v27 _ g_a0 hMM
def wkX13_goOn : List Nat := [1356, 1400]
set_option maxRecDepth 100000 in
set_option maxHeartbeats 4000000 in
theorem frX13_goOn {G : Nat → Prop} {MM : Mem} (a0 : Option Nat) (a1 : Int32) (a2 : Int32) (hst : ∀ k, k < 10 → G k) (hc : Cl G MM) (g_a0 : inG G a0) : okv (fun _ : Unit => True) MM G wkX13_goOn (fX13_goOn a0 a1 a2 MM) := by
  have hMM : FrG G wkX13_goOn MM MM := FrG.rf hc
  unfold fX13_goOn
  refine k_gR hMM g_a0 fun v9 g_v9 => ?_
  refine k_bo fun v19 => ?_
  refine k_bn fun v21 => ?_
  refine k_gR hMM g_a0 fun v24 g_v24 => ?_
  refine k_bo fun v36 => ?_
  refine k_gR hMM g_a0 fun v38 g_v38 => ?_
  refine k_bo fun v42 => ?_
  refine k_gR hMM g_a0 fun v46 g_v46 => ?_
  refine k_bo fun v50 => ?_
  refine k_bo fun _ => ?_
  refine k_call (by decide) hMM (fun hc => frX13_digit _ _ _ hst hc g_a0) fun v51 M51 _ hM51 => ?_
  exact k_ret hM51 trivial
def wkX13_saySequences : List Nat := [1313, 1354, 1356, 1373, 1374, 1400, 1500, 1700, 1800]
set_option maxRecDepth 100000 in
set_option maxHeartbeats 4000000 in
theorem frX13_saySequences {G : Nat → Prop} {MM : Mem} (a0 : Option Nat) (a1 : Int32) (hst : ∀ k, k < 10 → G k) (hc : Cl G MM) (g_a0 : inG G a0) : okv (fun _ : Unit => True) MM G wkX13_saySequences (fX13_saySequences a0 a1 MM) := by
  have hMM : FrG G wkX13_saySequences MM MM := FrG.rf hc
  have hL408 : ∀ (k268 : Option Nat × Int32 → Mem → Option (Unit × Mem)) (hk268 : ∀ a M, (inG G (a.1)) → FrG G wkX13_saySequences MM M → okv (fun _ : Unit => True) MM G wkX13_saySequences (k268 a M)) (p0 : Option Nat) (p4 : Int32) (M : Mem) (g_p0 : inG G p0) (hM : FrG G wkX13_saySequences MM M), okv (fun _ : Unit => True) MM G wkX13_saySequences (fX13_saySequences_L408 k268 p0 p4 M) := by
    intro k268 hk268 p0 p4 M g_p0 hM
    unfold fX13_saySequences_L408
    refine k_bn fun v408 => ?_
    exact hk268 ((p0, v408)) _ g_p0 hM
  have hL268 : ∀ (p0 : Option Nat) (p4 : Int32) (M : Mem) (g_p0 : inG G p0) (hM : FrG G wkX13_saySequences MM M), okv (fun _ : Unit => True) MM G wkX13_saySequences (fX13_saySequences_L268 p0 p4 M) := by
    intro p0 p4 M g_p0 hM
    refine k_lp (T := fun a : Option Nat × Int32 => inG G (a.1)) ?_ FU ((p0, p4)) M g_p0 hM
    intro k268 hk268 a M T hM
    obtain ⟨p0, p4⟩ := a
    have g_p0 := T
    show okv (fun _ : Unit => True) MM G wkX13_saySequences (fX13_saySequences_B268 k268 p0 p4 M)
    unfold fX13_saySequences_B268
    refine k_bo fun v271 => ?_
    refine k_if ?_ ?_
    · refine k_bo fun _ => ?_
      refine k_call (by decide) hM (fun hc => frX13_sayDigits _ hst hc g_p0) fun v415 M415 _ hM415 => ?_
      exact k_ret hM415 trivial
    · refine k_gR hM g_p0 fun v278 g_v278 => ?_
      refine k_bo fun v287 => ?_
      refine k_bn fun v288 => ?_
      refine k_gR hM g_p0 fun v291 g_v291 => ?_
      refine k_bo fun v300 => ?_
      refine k_bn fun v301 => ?_
      refine k_gR hM g_p0 fun v304 g_v304 => ?_
      refine k_bo fun v309 => ?_
      refine k_bn fun v310 => ?_
      refine k_gR hM g_p0 fun v314 g_v314 => ?_
      refine k_bo fun v319 => ?_
      refine k_bo fun _ => ?_
      refine k_call (by decide) hM (fun hc => frX13_digit _ _ _ hst hc g_p0) fun v327 M327 _ hM327 => ?_
      refine k_gR hM327 g_p0 fun v332 g_v332 => ?_
      refine k_bo fun v337 => ?_
      refine k_call (by decide) hM327 (fun hc => frX13_copyBase _ hst hc) fun v340 M340 _ hM340 => ?_
      refine k_call (by decide) hM340 (fun hc => frX13_copyBits _ hst hc) fun v347 M347 _ hM347 => ?_
      refine k_bo fun _ => ?_
      refine k_call (by decide) hM347 (fun hc => frX13_digit _ _ _ hst hc g_p0) fun v350 M350 _ hM350 => ?_
      refine k_gR hM350 g_p0 fun v355 g_v355 => ?_
      refine k_bo fun v360 => ?_
      refine k_call (by decide) hM350 (fun hc => frX13_letterBase _ hst hc) fun v363 M363 _ hM363 => ?_
      refine k_call (by decide) hM363 (fun hc => frX13_letterBits _ hst hc) fun v370 M370 _ hM370 => ?_
      refine k_bo fun _ => ?_
      refine k_call (by decide) hM370 (fun hc => frX13_digit _ _ _ hst hc g_p0) fun v373 M373 _ hM373 => ?_
      refine k_bo fun v379 => ?_
      refine k_if ?_ ?_
      · exact hL408 k268 hk268 p0 p4 _ g_p0 hM373
      · refine k_bo fun _ => ?_
        refine k_call (by decide) hM373 (fun hc => frX13_goOn _ _ _ hst hc g_p0) fun v391 M391 _ hM391 => ?_
        refine k_bo fun _ => ?_
        refine k_call (by decide) hM391 (fun hc => frX13_goOn _ _ _ hst hc g_p0) fun v398 M398 _ hM398 => ?_
        refine k_bo fun _ => ?_
        refine k_call (by decide) hM398 (fun hc => frX13_goOn _ _ _ hst hc g_p0) fun v405 M405 _ hM405 => ?_
        exact hL408 k268 hk268 p0 p4 _ g_p0 hM405
  have hL189 : ∀ (p0 : Option Nat) (p4 : Int32) (M : Mem) (g_p0 : inG G p0) (hM : FrG G wkX13_saySequences MM M), okv (fun _ : Unit => True) MM G wkX13_saySequences (fX13_saySequences_L189 p0 p4 M) := by
    intro p0 p4 M g_p0 hM
    refine k_lp (T := fun a : Option Nat × Int32 => inG G (a.1)) ?_ FU ((p0, p4)) M g_p0 hM
    intro k189 hk189 a M T hM
    obtain ⟨p0, p4⟩ := a
    have g_p0 := T
    show okv (fun _ : Unit => True) MM G wkX13_saySequences (fX13_saySequences_B189 k189 p0 p4 M)
    unfold fX13_saySequences_B189
    refine k_if ?_ ?_
    · refine k_gR hM g_p0 fun v209 g_v209 => ?_
      refine k_bo fun v213 => ?_
      refine k_gR hM g_p0 fun v216 g_v216 => ?_
      refine k_bo fun v221 => ?_
      refine k_bo fun _ => ?_
      refine k_call (by decide) hM (fun hc => frX13_digit _ _ _ hst hc g_p0) fun v222 M222 _ hM222 => ?_
      refine k_gR hM222 g_p0 fun v227 g_v227 => ?_
      refine k_bo fun v233 => ?_
      refine k_gR hM222 g_p0 fun v236 g_v236 => ?_
      refine k_bo fun v241 => ?_
      refine k_bo fun _ => ?_
      refine k_call (by decide) hM222 (fun hc => frX13_digit _ _ _ hst hc g_p0) fun v242 M242 _ hM242 => ?_
      refine k_gR hM242 g_p0 fun v247 g_v247 => ?_
      refine k_bo fun v253 => ?_
      refine k_gR hM242 g_p0 fun v256 g_v256 => ?_
      refine k_bo fun v261 => ?_
      refine k_bo fun _ => ?_
      refine k_call (by decide) hM242 (fun hc => frX13_digit _ _ _ hst hc g_p0) fun v262 M262 _ hM262 => ?_
      refine k_bn fun v266 => ?_
      exact hL268 p0 v266 _ g_p0 hM262
    · refine k_bo fun _ => ?_
      refine k_call (by decide) hM (fun hc => frX13_states _ _ hst hc g_p0) fun v198 M198 _ hM198 => ?_
      refine k_bn fun v201 => ?_
      exact hk189 ((p0, v201)) _ g_p0 hM198
  have hL148 : ∀ (p0 : Option Nat) (p1 : Int32) (p2 : Int32) (p3 : Int32) (p4 : Int32) (M : Mem) (g_p0 : inG G p0) (hM : FrG G wkX13_saySequences MM M), okv (fun _ : Unit => True) MM G wkX13_saySequences (fX13_saySequences_L148 p0 p1 p2 p3 p4 M) := by
    intro p0 p1 p2 p3 p4 M g_p0 hM
    refine k_lp (T := fun a : Option Nat × Int32 × Int32 × Int32 × Int32 => inG G (a.1)) ?_ FU ((p0, p1, p2, p3, p4)) M g_p0 hM
    intro k148 hk148 a M T hM
    obtain ⟨p0, p1, p2, p3, p4⟩ := a
    have g_p0 := T
    show okv (fun _ : Unit => True) MM G wkX13_saySequences (fX13_saySequences_B148 k148 p0 p1 p2 p3 p4 M)
    unfold fX13_saySequences_B148
    refine k_if ?_ ?_
    · refine k_gR hM g_p0 fun v179 g_v179 => ?_
      refine k_wB (by decide) hM g_v179 fun M185 hM185 => ?_
      refine k_bn fun v187 => ?_
      exact hL189 p0 v187 _ g_p0 hM185
    · refine k_bo fun _ => ?_
      refine k_call (by decide) hM (fun hc => frX13_sayTable _ _ _ hst hc g_p0) fun v159 M159 _ hM159 => ?_
      refine k_bn fun v171 => ?_
      refine k_bn fun v172 => ?_
      exact hk148 ((p0, p1, p2, v171, v172)) _ g_p0 hM159
  have hL65 : ∀ (p0 : Option Nat) (p1 : Int32) (p2 : Int32) (M : Mem) (g_p0 : inG G p0) (hM : FrG G wkX13_saySequences MM M), okv (fun _ : Unit => True) MM G wkX13_saySequences (fX13_saySequences_L65 p0 p1 p2 M) := by
    intro p0 p1 p2 M g_p0 hM
    refine k_lp (T := fun a : Option Nat × Int32 × Int32 => inG G (a.1)) ?_ FU ((p0, p1, p2)) M g_p0 hM
    intro k65 hk65 a M T hM
    obtain ⟨p0, p1, p2⟩ := a
    have g_p0 := T
    show okv (fun _ : Unit => True) MM G wkX13_saySequences (fX13_saySequences_B65 k65 p0 p1 p2 M)
    unfold fX13_saySequences_B65
    refine k_bo fun v67 => ?_
    refine k_if ?_ ?_
    · refine k_bo fun v133 => ?_
      refine k_bn fun v136 => ?_
      refine k_bo fun _ => ?_
      refine k_call (by decide) hM (fun hc => frX13_say _ _ _ hst hc g_p0) fun v140 M140 _ hM140 => ?_
      refine k_bn fun v144 => ?_
      refine k_bn fun v146 => ?_
      exact hL148 p0 p1 v136 v144 v146 _ g_p0 hM140
    · refine k_gR hM g_p0 fun v74 g_v74 => ?_
      refine k_gR hM g_p0 fun v79 g_v79 => ?_
      refine k_bo fun v83 => ?_
      refine k_call (by decide) hM (fun hc => frX13_letterSymbol _ hst hc) fun v84 M84 _ hM84 => ?_
      refine k_wI (by decide) hM84 g_v74 fun M87 hM87 => ?_
      refine k_gR hM87 g_p0 fun v89 g_v89 => ?_
      refine k_gR hM87 g_p0 fun v98 g_v98 => ?_
      refine k_bo fun v102 => ?_
      refine k_call (by decide) hM87 (fun hc => frX13_logLong _ hst hc) fun v103 M103 _ hM103 => ?_
      refine k_wI (by decide) hM103 g_v89 fun M106 hM106 => ?_
      refine k_gR hM106 g_p0 fun v108 g_v108 => ?_
      refine k_gR hM106 g_p0 fun v117 g_v117 => ?_
      refine k_bo fun v121 => ?_
      refine k_call (by decide) hM106 (fun hc => frX13_copySymbol _ hst hc) fun v122 M122 _ hM122 => ?_
      refine k_wI (by decide) hM122 g_v108 fun M125 hM125 => ?_
      refine k_bn fun v126 => ?_
      exact hk65 ((p0, p1, v126)) _ g_p0 hM125
  have hL55 : ∀ (p0 : Option Nat) (p1 : Int32) (M : Mem) (g_p0 : inG G p0) (hM : FrG G wkX13_saySequences MM M), okv (fun _ : Unit => True) MM G wkX13_saySequences (fX13_saySequences_L55 p0 p1 M) := by
    intro p0 p1 M g_p0 hM
    unfold fX13_saySequences_L55
    refine k_bo fun v56 => ?_
    refine k_if ?_ ?_
    · exact k_ret hM trivial
    · refine k_bn fun v64 => ?_
      exact hL65 p0 p1 v64 _ g_p0 hM
  unfold fX13_saySequences
  refine k_bo fun v1 => ?_
  refine k_if ?_ ?_
  · refine k_bo fun v28 => ?_
    refine k_bo fun v34 => ?_
    refine k_bo fun _ => ?_
    refine k_call (by decide) hMM (fun hc => frX13_say _ _ _ hst hc g_a0) fun v38 M38 _ hM38 => ?_
    refine k_bo fun v43 => ?_
    refine k_bo fun v49 => ?_
    refine k_bo fun _ => ?_
    refine k_call (by decide) hM38 (fun hc => frX13_say _ _ _ hst hc g_a0) fun v52 M52 _ hM52 => ?_
    exact hL55 a0 a1 _ g_a0 hM52
  · refine k_bo fun v12 => ?_
    refine k_bo fun _ => ?_
    refine k_call (by decide) hMM (fun hc => frX13_say _ _ _ hst hc g_a0) fun v17 M17 _ hM17 => ?_
    exact hL55 a0 a1 _ g_a0 hM17
