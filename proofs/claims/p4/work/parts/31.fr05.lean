def wkX13_sayBlock : List Nat := [1313, 1354, 1356, 1361, 1368, 1373, 1374, 1400, 1500, 1600, 1700, 1800]
set_option maxRecDepth 100000 in
set_option maxHeartbeats 4000000 in
theorem frX13_sayBlock {G : Nat → Prop} {MM : Mem} (a0 : Option Nat) (a1 : Int32) (a2 : Int32) (a3 : Int32) (hst : ∀ k, k < 10 → G k) (hc : Cl G MM) (g_a0 : inG G a0) : okv (fun _ : Unit => True) MM G wkX13_sayBlock (fX13_sayBlock a0 a1 a2 a3 MM) := by
  have hMM : FrG G wkX13_sayBlock MM MM := FrG.rf hc
  have hL249 : ∀ (p0 : Option Nat) (p3 : Int32) (p6 : Int32) (M : Mem) (g_p0 : inG G p0) (hM : FrG G wkX13_sayBlock MM M), okv (fun _ : Unit => True) MM G wkX13_sayBlock (fX13_sayBlock_L249 p0 p3 p6 M) := by
    intro p0 p3 p6 M g_p0 hM
    refine k_lp (T := fun a : Option Nat × Int32 × Int32 => inG G (a.1)) ?_ FU ((p0, p3, p6)) M g_p0 hM
    intro k249 hk249 a M T hM
    obtain ⟨p0, p3, p6⟩ := a
    have g_p0 := T
    show okv (fun _ : Unit => True) MM G wkX13_sayBlock (fX13_sayBlock_B249 k249 p0 p3 p6 M)
    unfold fX13_sayBlock_B249
    refine k_if ?_ ?_
    · exact k_ret hM trivial
    · refine k_gR hM g_p0 fun v257 g_v257 => ?_
      refine k_bo fun v262 => ?_
      refine k_bo fun _ => ?_
      refine k_call (by decide) hM (fun hc => frX13_say _ _ _ hst hc g_p0) fun v265 M265 _ hM265 => ?_
      refine k_bn fun v268 => ?_
      exact hk249 ((p0, p3, v268)) _ g_p0 hM265
  have hL232 : ∀ (p0 : Option Nat) (p2 : Int32) (p3 : Int32) (p4 : Int32) (p5 : Int32) (M : Mem) (g_p0 : inG G p0) (hM : FrG G wkX13_sayBlock MM M), okv (fun _ : Unit => True) MM G wkX13_sayBlock (fX13_sayBlock_L232 p0 p2 p3 p4 p5 M) := by
    intro p0 p2 p3 p4 p5 M g_p0 hM
    unfold fX13_sayBlock_L232
    refine k_bo fun _ => ?_
    refine k_call (by decide) hM (fun hc => frX13_say _ _ _ hst hc g_p0) fun v243 M243 _ hM243 => ?_
    refine k_bn fun v247 => ?_
    exact hL249 p0 p3 v247 _ g_p0 hM243
  have hL206 : ∀ (p0 : Option Nat) (p2 : Int32) (p3 : Int32) (p4 : Int32) (p5 : Int32) (p8 : Int32) (M : Mem) (g_p0 : inG G p0) (hM : FrG G wkX13_sayBlock MM M), okv (fun _ : Unit => True) MM G wkX13_sayBlock (fX13_sayBlock_L206 p0 p2 p3 p4 p5 p8 M) := by
    intro p0 p2 p3 p4 p5 p8 M g_p0 hM
    refine k_lp (T := fun a : Option Nat × Int32 × Int32 × Int32 × Int32 × Int32 => inG G (a.1)) ?_ FU ((p0, p2, p3, p4, p5, p8)) M g_p0 hM
    intro k206 hk206 a M T hM
    obtain ⟨p0, p2, p3, p4, p5, p8⟩ := a
    have g_p0 := T
    show okv (fun _ : Unit => True) MM G wkX13_sayBlock (fX13_sayBlock_B206 k206 p0 p2 p3 p4 p5 p8 M)
    unfold fX13_sayBlock_B206
    refine k_if ?_ ?_
    · exact hL232 p0 p2 p3 p4 p5 _ g_p0 hM
    · refine k_gR hM g_p0 fun v213 g_v213 => ?_
      refine k_gR hM g_p0 fun v219 g_v219 => ?_
      refine k_bo fun v224 => ?_
      refine k_wJ (by decide) hM g_v213 fun M225 hM225 => ?_
      refine k_bn fun v226 => ?_
      exact hk206 ((p0, p2, p3, p4, p5, v226)) _ g_p0 hM225
  have hL165 : ∀ (p0 : Option Nat) (p6 : Int32) (p8 : Int32) (p9 : Int32) (M : Mem) (g_p0 : inG G p0) (hM : FrG G wkX13_sayBlock MM M), okv (fun _ : Unit => True) MM G wkX13_sayBlock (fX13_sayBlock_L165 p0 p6 p8 p9 M) := by
    intro p0 p6 p8 p9 M g_p0 hM
    refine k_lp (T := fun a : Option Nat × Int32 × Int32 × Int32 => inG G (a.1)) ?_ FU ((p0, p6, p8, p9)) M g_p0 hM
    intro k165 hk165 a M T hM
    obtain ⟨p0, p6, p8, p9⟩ := a
    have g_p0 := T
    show okv (fun _ : Unit => True) MM G wkX13_sayBlock (fX13_sayBlock_B165 k165 p0 p6 p8 p9 M)
    unfold fX13_sayBlock_B165
    refine k_if ?_ ?_
    · exact k_ret hM trivial
    · refine k_gR hM g_p0 fun v172 g_v172 => ?_
      refine k_wB (by decide) hM g_v172 fun M189 hM189 => ?_
      refine k_bn fun v190 => ?_
      exact hk165 ((p0, p6, p8, v190)) _ g_p0 hM189
  have hL78 : ∀ (p0 : Option Nat) (p1 : Int32) (p2 : Int32) (p3 : Int32) (p4 : Int32) (p5 : Int32) (p6 : Int32) (M : Mem) (g_p0 : inG G p0) (hM : FrG G wkX13_sayBlock MM M), okv (fun _ : Unit => True) MM G wkX13_sayBlock (fX13_sayBlock_L78 p0 p1 p2 p3 p4 p5 p6 M) := by
    intro p0 p1 p2 p3 p4 p5 p6 M g_p0 hM
    refine k_lp (T := fun a : Option Nat × Int32 × Int32 × Int32 × Int32 × Int32 × Int32 => inG G (a.1)) ?_ FU ((p0, p1, p2, p3, p4, p5, p6)) M g_p0 hM
    intro k78 hk78 a M T hM
    obtain ⟨p0, p1, p2, p3, p4, p5, p6⟩ := a
    have g_p0 := T
    show okv (fun _ : Unit => True) MM G wkX13_sayBlock (fX13_sayBlock_B78 k78 p0 p1 p2 p3 p4 p5 p6 M)
    unfold fX13_sayBlock_B78
    refine k_if ?_ ?_
    · refine k_bo fun v105 => ?_
      refine k_bn fun v108 => ?_
      refine k_bo fun _ => ?_
      refine k_call (by decide) hM (fun hc => frX13_say _ _ _ hst hc g_p0) fun v113 M113 _ hM113 => ?_
      refine k_bo fun _ => ?_
      refine k_call (by decide) hM113 (fun hc => frX13_findActs _ _ _ hst hc g_p0) fun v119 M119 _ hM119 => ?_
      refine k_bo fun _ => ?_
      refine k_call (by decide) hM119 (fun hc => frX13_sayLetters _ _ hst hc g_p0) fun v124 M124 _ hM124 => ?_
      refine k_bo fun _ => ?_
      refine k_call (by decide) hM124 (fun hc => frX13_saySequences _ _ hst hc g_p0) fun v129 M129 _ hM129 => ?_
      refine k_bo fun v133 => ?_
      refine k_bn fun v141 => ?_
      refine k_if ?_ ?_
      · refine k_pI (by decide) (by decide) (by decide) hM129 g_p0 fun M200 hM200 => ?_
        refine k_bn fun v204 => ?_
        exact hL206 p0 p2 p3 p4 p5 v204 _ g_p0 hM200
      · refine k_bn fun v160 => ?_
        refine k_bn fun v163 => ?_
        exact hL165 p0 v108 v160 v163 _ g_p0 hM129
    · refine k_gR hM g_p0 fun v85 g_v85 => ?_
      refine k_gR hM g_p0 fun v91 g_v91 => ?_
      refine k_bo fun v96 => ?_
      refine k_wJ (by decide) hM g_v85 fun M97 hM97 => ?_
      refine k_bn fun v98 => ?_
      exact hk78 ((p0, p1, p2, p3, p4, p5, v98)) _ g_p0 hM97
  have hL66 : ∀ (p0 : Option Nat) (p1 : Int32) (p2 : Int32) (p3 : Int32) (p4 : Int32) (p5 : Int32) (M : Mem) (g_p0 : inG G p0) (hM : FrG G wkX13_sayBlock MM M), okv (fun _ : Unit => True) MM G wkX13_sayBlock (fX13_sayBlock_L66 p0 p1 p2 p3 p4 p5 M) := by
    intro p0 p1 p2 p3 p4 p5 M g_p0 hM
    unfold fX13_sayBlock_L66
    refine k_if ?_ ?_
    · exact hL232 p0 p2 p3 p4 p5 _ g_p0 hM
    · refine k_if ?_ ?_
      · exact hL232 p0 p2 p3 p4 p5 _ g_p0 hM
      · refine k_bn fun v76 => ?_
        exact hL78 p0 p1 p2 p3 p4 p5 v76 _ g_p0 hM
  have hL13 : ∀ (p0 : Option Nat) (p1 : Int32) (p2 : Int32) (p3 : Int32) (q0 : Int32) (M : Mem) (g_p0 : inG G p0) (hM : FrG G wkX13_sayBlock MM M), okv (fun _ : Unit => True) MM G wkX13_sayBlock (fX13_sayBlock_L13 p0 p1 p2 p3 q0 M) := by
    intro p0 p1 p2 p3 q0 M g_p0 hM
    unfold fX13_sayBlock_L13
    refine k_bn fun v13 => ?_
    refine k_bn fun v18 => ?_
    refine k_if ?_ ?_
    · exact hL66 p0 p1 p2 p3 v13 v18 _ g_p0 hM
    · refine k_gR hM g_p0 fun v26 g_v26 => ?_
      refine k_bo fun _ => ?_
      refine k_call (by decide) hM (fun hc => frX13_areSame _ _ _ _ hst hc g_p0 g_v26) fun v31 M31 _ hM31 => ?_
      refine k_if ?_ ?_
      · exact hL66 p0 p1 p2 p3 v13 v18 _ g_p0 hM31
      · refine k_bo fun _ => ?_
        refine k_call (by decide) hM31 (fun hc => frX13_say _ _ _ hst hc g_p0) fun v50 M50 _ hM50 => ?_
        refine k_gR hM50 g_p0 fun v55 g_v55 => ?_
        refine k_bo fun v59 => ?_
        refine k_bo fun _ => ?_
        refine k_call (by decide) hM50 (fun hc => frX13_say _ _ _ hst hc g_p0) fun v62 M62 _ hM62 => ?_
        exact k_ret hM62 trivial
  unfold fX13_sayBlock
  refine k_bo fun v2 => ?_
  refine k_if ?_ ?_
  · exact hL13 a0 a1 a2 a3 1 _ g_a0 hMM
  · exact hL13 a0 a1 a2 a3 0 _ g_a0 hMM
def wkX13_pack : List Nat := [1303, 1313, 1354, 1356, 1358, 1361, 1368, 1373, 1374, 1400, 1500, 1600, 1700, 1800]
set_option maxRecDepth 100000 in
set_option maxHeartbeats 4000000 in
theorem frX13_pack {G : Nat → Prop} {MM : Mem} (a0 : Option Nat) (a1 : Int32) (a2 : Int32) (hst : ∀ k, k < 10 → G k) (hc : Cl G MM) (g_a0 : inG G a0) : okv (fun _ : Int32 => True) MM G wkX13_pack (fX13_pack a0 a1 a2 MM) := by
  have hMM : FrG G wkX13_pack MM MM := FrG.rf hc
  have hL19 : ∀ (M : Mem) (hM : FrG G wkX13_pack MM M), okv (fun _ : Int32 => True) MM G wkX13_pack (fX13_pack_L19 M) := by
    intro M hM
    unfold fX13_pack_L19
    exact k_ret hM trivial
  have hL545 : ∀ (p0 : Option Nat) (p10 : Int32) (M : Mem) (g_p0 : inG G p0) (hM : FrG G wkX13_pack MM M), okv (fun _ : Int32 => True) MM G wkX13_pack (fX13_pack_L545 p0 p10 M) := by
    intro p0 p10 M g_p0 hM
    refine k_lp (T := fun a : Option Nat × Int32 => inG G (a.1)) ?_ FU ((p0, p10)) M g_p0 hM
    intro k545 hk545 a M T hM
    obtain ⟨p0, p10⟩ := a
    have g_p0 := T
    show okv (fun _ : Int32 => True) MM G wkX13_pack (fX13_pack_B545 k545 p0 p10 M)
    unfold fX13_pack_B545
    refine k_bo fun v548 => ?_
    refine k_if ?_ ?_
    · refine k_bo fun v576 => ?_
      refine k_pI (by decide) (by decide) (by decide) hM g_p0 fun M579 hM579 => ?_
      refine k_bo fun v583 => ?_
      exact k_ret hM579 trivial
    · refine k_gR hM g_p0 fun v555 g_v555 => ?_
      refine k_gR hM g_p0 fun v561 g_v561 => ?_
      refine k_bo fun v566 => ?_
      refine k_wB (by decide) hM g_v555 fun M567 hM567 => ?_
      refine k_bn fun v568 => ?_
      exact hk545 ((p0, v568)) _ g_p0 hM567
  have hL542 : ∀ (p0 : Option Nat) (M : Mem) (g_p0 : inG G p0) (hM : FrG G wkX13_pack MM M), okv (fun _ : Int32 => True) MM G wkX13_pack (fX13_pack_L542 p0 M) := by
    intro p0 M g_p0 hM
    unfold fX13_pack_L542
    refine k_bn fun v543 => ?_
    exact hL545 p0 v543 _ g_p0 hM
  have hL495 : ∀ (k469 : Option Nat × Int32 × Int32 × Int32 → Mem → Option (Int32 × Mem)) (hk469 : ∀ a M, (inG G (a.1)) → FrG G wkX13_pack MM M → okv (fun _ : Int32 => True) MM G wkX13_pack (k469 a M)) (p0 : Option Nat) (p1 : Int32) (p2 : Int32) (p9 : Int32) (q0 : Int32) (M : Mem) (g_p0 : inG G p0) (hM : FrG G wkX13_pack MM M), okv (fun _ : Int32 => True) MM G wkX13_pack (fX13_pack_L495 k469 p0 p1 p2 p9 q0 M) := by
    intro k469 hk469 p0 p1 p2 p9 q0 M g_p0 hM
    unfold fX13_pack_L495
    refine k_bn fun v495 => ?_
    refine k_bo fun _ => ?_
    refine k_call (by decide) hM (fun hc => frX13_sayBlock _ _ _ _ hst hc g_p0) fun v503 M503 _ hM503 => ?_
    refine k_bn fun v508 => ?_
    refine k_bo fun v513 => ?_
    refine k_if ?_ ?_
    · exact hk469 ((p0, p1, p2, v508)) _ g_p0 hM503
    · refine k_if ?_ ?_
      · exact hL542 p0 _ g_p0 hM503
      · refine k_gR hM503 g_p0 fun v527 g_v527 => ?_
        refine k_bo fun v532 => ?_
        refine k_call (by decide) hM503 (fun hc => frX13_sumOf _ _ _ hst hc g_v527) fun v535 M535 _ hM535 => ?_
        refine k_bo fun _ => ?_
        refine k_call (by decide) hM535 (fun hc => frX13_say _ _ _ hst hc g_p0) fun v539 M539 _ hM539 => ?_
        exact hL542 p0 _ g_p0 hM539
  have hL469 : ∀ (p0 : Option Nat) (p1 : Int32) (p2 : Int32) (p9 : Int32) (M : Mem) (g_p0 : inG G p0) (hM : FrG G wkX13_pack MM M), okv (fun _ : Int32 => True) MM G wkX13_pack (fX13_pack_L469 p0 p1 p2 p9 M) := by
    intro p0 p1 p2 p9 M g_p0 hM
    refine k_lp (T := fun a : Option Nat × Int32 × Int32 × Int32 => inG G (a.1)) ?_ FU ((p0, p1, p2, p9)) M g_p0 hM
    intro k469 hk469 a M T hM
    obtain ⟨p0, p1, p2, p9⟩ := a
    have g_p0 := T
    show okv (fun _ : Int32 => True) MM G wkX13_pack (fX13_pack_B469 k469 p0 p1 p2 p9 M)
    unfold fX13_pack_B469
    refine k_bo fun v476 => ?_
    refine k_if ?_ ?_
    · refine k_bo fun v492 => ?_
      exact hL495 k469 hk469 p0 p1 p2 p9 v492 _ g_p0 hM
    · exact hL495 k469 hk469 p0 p1 p2 p9 (p9 + 2048) _ g_p0 hM
  have hL459 : ∀ (k405 : Option Nat × Int32 × Int32 × Int32 × Int32 → Mem → Option (Int32 × Mem)) (hk405 : ∀ a M, (inG G (a.1)) → FrG G wkX13_pack MM M → okv (fun _ : Int32 => True) MM G wkX13_pack (k405 a M)) (p0 : Option Nat) (p1 : Int32) (p2 : Int32) (p3 : Int32) (p9 : Int32) (q0 : Option Nat) (q1 : Int32) (q2 : Int64) (M : Mem) (g_p0 : inG G p0) (g_q0 : inG G q0) (hM : FrG G wkX13_pack MM M), okv (fun _ : Int32 => True) MM G wkX13_pack (fX13_pack_L459 k405 p0 p1 p2 p3 p9 q0 q1 q2 M) := by
    intro k405 hk405 p0 p1 p2 p3 p9 q0 q1 q2 M g_p0 g_q0 hM
    unfold fX13_pack_L459
    refine k_wJ (by decide) hM g_q0 fun M459 hM459 => ?_
    refine k_bn fun v460 => ?_
    exact hk405 ((p0, p1, p2, p3, v460)) _ g_p0 hM459
  have hL443 : ∀ (k405 : Option Nat × Int32 × Int32 × Int32 × Int32 → Mem → Option (Int32 × Mem)) (hk405 : ∀ a M, (inG G (a.1)) → FrG G wkX13_pack MM M → okv (fun _ : Int32 => True) MM G wkX13_pack (k405 a M)) (p0 : Option Nat) (p1 : Int32) (p2 : Int32) (p3 : Int32) (p9 : Int32) (q0 : Option Nat) (q1 : Int32) (M : Mem) (g_p0 : inG G p0) (g_q0 : inG G q0) (hM : FrG G wkX13_pack MM M), okv (fun _ : Int32 => True) MM G wkX13_pack (fX13_pack_L443 k405 p0 p1 p2 p3 p9 q0 q1 M) := by
    intro k405 hk405 p0 p1 p2 p3 p9 q0 q1 M g_p0 g_q0 hM
    unfold fX13_pack_L443
    refine k_if ?_ ?_
    · exact hL459 k405 hk405 p0 p1 p2 p3 p9 q0 q1 1 _ g_p0 g_q0 hM
    · exact hL459 k405 hk405 p0 p1 p2 p3 p9 q0 q1 (4 * p9.toInt64) _ g_p0 g_q0 hM
  have hL405 : ∀ (p0 : Option Nat) (p1 : Int32) (p2 : Int32) (p3 : Int32) (p9 : Int32) (M : Mem) (g_p0 : inG G p0) (hM : FrG G wkX13_pack MM M), okv (fun _ : Int32 => True) MM G wkX13_pack (fX13_pack_L405 p0 p1 p2 p3 p9 M) := by
    intro p0 p1 p2 p3 p9 M g_p0 hM
    refine k_lp (T := fun a : Option Nat × Int32 × Int32 × Int32 × Int32 => inG G (a.1)) ?_ FU ((p0, p1, p2, p3, p9)) M g_p0 hM
    intro k405 hk405 a M T hM
    obtain ⟨p0, p1, p2, p3, p9⟩ := a
    have g_p0 := T
    show okv (fun _ : Int32 => True) MM G wkX13_pack (fX13_pack_B405 k405 p0 p1 p2 p3 p9 M)
    unfold fX13_pack_B405
    refine k_if ?_ ?_
    · refine k_bn fun v467 => ?_
      exact hL469 p0 p1 p2 v467 _ g_p0 hM
    · refine k_gR hM g_p0 fun v412 g_v412 => ?_
      refine k_if ?_ ?_
      · exact hL443 k405 hk405 p0 p1 p2 p3 p9 v412 p9 _ g_p0 g_v412 hM
      · refine k_bo fun v422 => ?_
        refine k_if ?_ ?_
        · exact hL443 k405 hk405 p0 p1 p2 p3 p9 v412 p9 _ g_p0 g_v412 hM
        · refine k_gR hM g_p0 fun v429 g_v429 => ?_
          refine k_bo fun v434 => ?_
          exact hL459 k405 hk405 p0 p1 p2 p3 p9 v412 p9 (v434.toInt64 &&& 4294967295) _ g_p0 g_v412 hM
  have hL368 : ∀ (p0 : Option Nat) (p1 : Int32) (p2 : Int32) (p3 : Int32) (p9 : Int32) (M : Mem) (g_p0 : inG G p0) (hM : FrG G wkX13_pack MM M), okv (fun _ : Int32 => True) MM G wkX13_pack (fX13_pack_L368 p0 p1 p2 p3 p9 M) := by
    intro p0 p1 p2 p3 p9 M g_p0 hM
    refine k_lp (T := fun a : Option Nat × Int32 × Int32 × Int32 × Int32 => inG G (a.1)) ?_ FU ((p0, p1, p2, p3, p9)) M g_p0 hM
    intro k368 hk368 a M T hM
    obtain ⟨p0, p1, p2, p3, p9⟩ := a
    have g_p0 := T
    show okv (fun _ : Int32 => True) MM G wkX13_pack (fX13_pack_B368 k368 p0 p1 p2 p3 p9 M)
    unfold fX13_pack_B368
    refine k_bo fun v371 => ?_
    refine k_if ?_ ?_
    · refine k_bn fun v403 => ?_
      exact hL405 p0 p1 p2 p3 v403 _ g_p0 hM
    · refine k_gR hM g_p0 fun v378 g_v378 => ?_
      refine k_bo fun v382 => ?_
      refine k_gR hM g_p0 fun v389 g_v389 => ?_
      refine k_bo fun v394 => ?_
      refine k_wB (by decide) hM g_v378 fun M395 hM395 => ?_
      refine k_bn fun v396 => ?_
      exact hk368 ((p0, p1, p2, p3, v396)) _ g_p0 hM395
  have hL336 : ∀ (p0 : Option Nat) (p1 : Int32) (p2 : Int32) (p3 : Int32) (p9 : Int32) (M : Mem) (g_p0 : inG G p0) (hM : FrG G wkX13_pack MM M), okv (fun _ : Int32 => True) MM G wkX13_pack (fX13_pack_L336 p0 p1 p2 p3 p9 M) := by
    intro p0 p1 p2 p3 p9 M g_p0 hM
    refine k_lp (T := fun a : Option Nat × Int32 × Int32 × Int32 × Int32 => inG G (a.1)) ?_ FU ((p0, p1, p2, p3, p9)) M g_p0 hM
    intro k336 hk336 a M T hM
    obtain ⟨p0, p1, p2, p3, p9⟩ := a
    have g_p0 := T
    show okv (fun _ : Int32 => True) MM G wkX13_pack (fX13_pack_B336 k336 p0 p1 p2 p3 p9 M)
    unfold fX13_pack_B336
    refine k_bo fun v339 => ?_
    refine k_if ?_ ?_
    · refine k_bn fun v366 => ?_
      exact hL368 p0 p1 p2 p3 v366 _ g_p0 hM
    · refine k_gR hM g_p0 fun v346 g_v346 => ?_
      refine k_gR hM g_p0 fun v352 g_v352 => ?_
      refine k_bo fun v357 => ?_
      refine k_wB (by decide) hM g_v346 fun M358 hM358 => ?_
      refine k_bn fun v359 => ?_
      exact hk336 ((p0, p1, p2, p3, v359)) _ g_p0 hM358
  have hL330 : ∀ (p0 : Option Nat) (p1 : Int32) (p2 : Int32) (p3 : Int32) (q0 : Option Nat) (q1 : Int32) (M : Mem) (g_p0 : inG G p0) (g_q0 : inG G q0) (hM : FrG G wkX13_pack MM M), okv (fun _ : Int32 => True) MM G wkX13_pack (fX13_pack_L330 p0 p1 p2 p3 q0 q1 M) := by
    intro p0 p1 p2 p3 q0 q1 M g_p0 g_q0 hM
    unfold fX13_pack_L330
    refine k_pI (by decide) (by decide) (by decide) hM g_q0 fun M330 hM330 => ?_
    refine k_bn fun v334 => ?_
    exact hL336 p0 p1 p2 p3 v334 _ g_p0 hM330
  have hL317 : ∀ (p0 : Option Nat) (p1 : Int32) (p2 : Int32) (p3 : Int32) (M : Mem) (g_p0 : inG G p0) (hM : FrG G wkX13_pack MM M), okv (fun _ : Int32 => True) MM G wkX13_pack (fX13_pack_L317 p0 p1 p2 p3 M) := by
    intro p0 p1 p2 p3 M g_p0 hM
    unfold fX13_pack_L317
    refine k_if ?_ ?_
    · exact hL330 p0 p1 p2 p3 p0 0 _ g_p0 g_p0 hM
    · refine k_bo fun v323 => ?_
      exact hL330 p0 p1 p2 p3 p0 v323 _ g_p0 g_p0 hM
  have hL314 : ∀ (p0 : Option Nat) (p1 : Int32) (p2 : Int32) (p3 : Int32) (q0 : Option Nat) (q1 : Int64) (q2 : Int32) (M : Mem) (g_p0 : inG G p0) (g_q0 : inG G q0) (hM : FrG G wkX13_pack MM M), okv (fun _ : Int32 => True) MM G wkX13_pack (fX13_pack_L314 p0 p1 p2 p3 q0 q1 q2 M) := by
    intro p0 p1 p2 p3 q0 q1 q2 M g_p0 g_q0 hM
    unfold fX13_pack_L314
    refine k_bo fun _ => ?_
    refine k_call (by decide) hM (fun hc => frX13_say _ _ _ hst hc g_q0) fun v314 M314 _ hM314 => ?_
    exact hL317 p0 p1 p2 p3 _ g_p0 hM314
  have hL304 : ∀ (p0 : Option Nat) (p1 : Int32) (p2 : Int32) (p3 : Int32) (p8 : Int32) (q0 : Option Nat) (q1 : Int64) (M : Mem) (g_p0 : inG G p0) (g_q0 : inG G q0) (hM : FrG G wkX13_pack MM M), okv (fun _ : Int32 => True) MM G wkX13_pack (fX13_pack_L304 p0 p1 p2 p3 p8 q0 q1 M) := by
    intro p0 p1 p2 p3 p8 q0 q1 M g_p0 g_q0 hM
    unfold fX13_pack_L304
    refine k_if ?_ ?_
    · exact hL314 p0 p1 p2 p3 q0 q1 1 _ g_p0 g_q0 hM
    · exact hL314 p0 p1 p2 p3 q0 q1 2 _ g_p0 g_q0 hM
  have hL273 : ∀ (p0 : Option Nat) (p1 : Int32) (p2 : Int32) (p3 : Int32) (p4 : Int32) (p8 : Int32) (q0 : Option Nat) (q1 : Int64) (q2 : Int32) (M : Mem) (g_p0 : inG G p0) (g_q0 : inG G q0) (hM : FrG G wkX13_pack MM M), okv (fun _ : Int32 => True) MM G wkX13_pack (fX13_pack_L273 p0 p1 p2 p3 p4 p8 q0 q1 q2 M) := by
    intro p0 p1 p2 p3 p4 p8 q0 q1 q2 M g_p0 g_q0 hM
    unfold fX13_pack_L273
    refine k_bo fun _ => ?_
    refine k_call (by decide) hM (fun hc => frX13_say _ _ _ hst hc g_q0) fun v273 M273 _ hM273 => ?_
    refine k_if ?_ ?_
    · exact hL317 p0 p1 p2 p3 _ g_p0 hM273
    · refine k_if ?_ ?_
      · refine k_bo fun v300 => ?_
        exact hL304 p0 p1 p2 p3 p8 p0 v300.toInt64 _ g_p0 g_p0 hM273
      · refine k_bo fun v288 => ?_
        exact hL304 p0 p1 p2 p3 p8 p0 ((v288 - 256).toInt64) _ g_p0 g_p0 hM273
  have hL258 : ∀ (p0 : Option Nat) (p1 : Int32) (p2 : Int32) (p3 : Int32) (p4 : Int32) (p5 : Int64) (p7 : Int32) (p8 : Int32) (M : Mem) (g_p0 : inG G p0) (hM : FrG G wkX13_pack MM M), okv (fun _ : Int32 => True) MM G wkX13_pack (fX13_pack_L258 p0 p1 p2 p3 p4 p5 p7 p8 M) := by
    intro p0 p1 p2 p3 p4 p5 p7 p8 M g_p0 hM
    unfold fX13_pack_L258
    refine k_if ?_ ?_
    · exact hL273 p0 p1 p2 p3 p4 p8 p0 p5 4 _ g_p0 g_p0 hM
    · exact hL273 p0 p1 p2 p3 p4 p8 p0 p5 p7 _ g_p0 g_p0 hM
  have hL227 : ∀ (p0 : Option Nat) (p1 : Int32) (p2 : Int32) (p3 : Int32) (p4 : Int32) (p5 : Int64) (p7 : Int32) (p8 : Int32) (p9 : Int32) (M : Mem) (g_p0 : inG G p0) (hM : FrG G wkX13_pack MM M), okv (fun _ : Int32 => True) MM G wkX13_pack (fX13_pack_L227 p0 p1 p2 p3 p4 p5 p7 p8 p9 M) := by
    intro p0 p1 p2 p3 p4 p5 p7 p8 p9 M g_p0 hM
    refine k_lp (T := fun a : Option Nat × Int32 × Int32 × Int32 × Int32 × Int64 × Int32 × Int32 × Int32 => inG G (a.1)) ?_ FU ((p0, p1, p2, p3, p4, p5, p7, p8, p9)) M g_p0 hM
    intro k227 hk227 a M T hM
    obtain ⟨p0, p1, p2, p3, p4, p5, p7, p8, p9⟩ := a
    have g_p0 := T
    show okv (fun _ : Int32 => True) MM G wkX13_pack (fX13_pack_B227 k227 p0 p1 p2 p3 p4 p5 p7 p8 p9 M)
    unfold fX13_pack_B227
    refine k_bo fun v235 => ?_
    refine k_if ?_ ?_
    · refine k_bo fun _ => ?_
      refine k_call (by decide) hM (fun hc => frX13_say _ _ _ hst hc g_p0) fun v255 M255 _ hM255 => ?_
      exact hL258 p0 p1 p2 p3 p4 p5 p7 p8 _ g_p0 hM255
    · refine k_bn fun v241 => ?_
      exact hk227 ((p0, p1, p2, p3, p4, p5, p7, p8, v241)) _ g_p0 hM
  have hL210 : ∀ (p0 : Option Nat) (p1 : Int32) (p2 : Int32) (p3 : Int32) (p4 : Int32) (p5 : Int64) (p7 : Int32) (p8 : Int32) (q0 : Option Nat) (q1 : Int32) (q2 : Int32) (M : Mem) (g_p0 : inG G p0) (g_q0 : inG G q0) (hM : FrG G wkX13_pack MM M), okv (fun _ : Int32 => True) MM G wkX13_pack (fX13_pack_L210 p0 p1 p2 p3 p4 p5 p7 p8 q0 q1 q2 M) := by
    intro p0 p1 p2 p3 p4 p5 p7 p8 q0 q1 q2 M g_p0 g_q0 hM
    unfold fX13_pack_L210
    refine k_bo fun _ => ?_
    refine k_call (by decide) hM (fun hc => frX13_say _ _ _ hst hc g_q0) fun v216 M216 _ hM216 => ?_
    refine k_if ?_ ?_
    · refine k_bn fun v225 => ?_
      exact hL227 p0 p1 p2 p3 p4 p5 p7 p8 v225 _ g_p0 hM216
    · exact hL258 p0 p1 p2 p3 p4 p5 p7 p8 _ g_p0 hM216
  have hL198 : ∀ (p0 : Option Nat) (p1 : Int32) (p2 : Int32) (p3 : Int32) (p4 : Int32) (p5 : Int64) (p7 : Int32) (p8 : Int32) (q0 : Option Nat) (q1 : Int32) (q2 : Int32) (M : Mem) (g_p0 : inG G p0) (g_q0 : inG G q0) (hM : FrG G wkX13_pack MM M), okv (fun _ : Int32 => True) MM G wkX13_pack (fX13_pack_L198 p0 p1 p2 p3 p4 p5 p7 p8 q0 q1 q2 M) := by
    intro p0 p1 p2 p3 p4 p5 p7 p8 q0 q1 q2 M g_p0 g_q0 hM
    unfold fX13_pack_L198
    refine k_if ?_ ?_
    · exact hL210 p0 p1 p2 p3 p4 p5 p7 p8 q0 (q1 + q2) 0 _ g_p0 g_q0 hM
    · exact hL210 p0 p1 p2 p3 p4 p5 p7 p8 q0 (q1 + q2) 4 _ g_p0 g_q0 hM
  have hL187 : ∀ (p0 : Option Nat) (p1 : Int32) (p2 : Int32) (p3 : Int32) (p4 : Int32) (p5 : Int64) (p7 : Int32) (p8 : Int32) (q0 : Option Nat) (q1 : Int32) (M : Mem) (g_p0 : inG G p0) (g_q0 : inG G q0) (hM : FrG G wkX13_pack MM M), okv (fun _ : Int32 => True) MM G wkX13_pack (fX13_pack_L187 p0 p1 p2 p3 p4 p5 p7 p8 q0 q1 M) := by
    intro p0 p1 p2 p3 p4 p5 p7 p8 q0 q1 M g_p0 g_q0 hM
    unfold fX13_pack_L187
    refine k_if ?_ ?_
    · exact hL198 p0 p1 p2 p3 p4 p5 p7 p8 q0 q1 0 _ g_p0 g_q0 hM
    · exact hL198 p0 p1 p2 p3 p4 p5 p7 p8 q0 q1 32 _ g_p0 g_q0 hM
  have hL165 : ∀ (p0 : Option Nat) (p1 : Int32) (p2 : Int32) (p3 : Int32) (p4 : Int32) (p5 : Int64) (p7 : Int32) (q0 : Int32) (M : Mem) (g_p0 : inG G p0) (hM : FrG G wkX13_pack MM M), okv (fun _ : Int32 => True) MM G wkX13_pack (fX13_pack_L165 p0 p1 p2 p3 p4 p5 p7 q0 M) := by
    intro p0 p1 p2 p3 p4 p5 p7 q0 M g_p0 hM
    unfold fX13_pack_L165
    refine k_bn fun v165 => ?_
    refine k_bo fun _ => ?_
    refine k_call (by decide) hM (fun hc => frX13_say _ _ _ hst hc g_p0) fun v172 M172 _ hM172 => ?_
    refine k_if ?_ ?_
    · exact hL187 p0 p1 p2 p3 p4 p5 p7 v165 p0 0 _ g_p0 g_p0 hM172
    · exact hL187 p0 p1 p2 p3 p4 p5 p7 v165 p0 64 _ g_p0 g_p0 hM172
  have hL164 : ∀ (p0 : Option Nat) (p1 : Int32) (p2 : Int32) (p3 : Int32) (p4 : Int32) (p5 : Int64) (p7 : Int32) (M : Mem) (g_p0 : inG G p0) (hM : FrG G wkX13_pack MM M), okv (fun _ : Int32 => True) MM G wkX13_pack (fX13_pack_L164 p0 p1 p2 p3 p4 p5 p7 M) := by
    intro p0 p1 p2 p3 p4 p5 p7 M g_p0 hM
    unfold fX13_pack_L164
    exact hL165 p0 p1 p2 p3 p4 p5 p7 0 _ g_p0 hM
  have hL143 : ∀ (p0 : Option Nat) (p1 : Int32) (p2 : Int32) (p3 : Int32) (p4 : Int32) (p5 : Int64) (q0 : Int32) (M : Mem) (g_p0 : inG G p0) (hM : FrG G wkX13_pack MM M), okv (fun _ : Int32 => True) MM G wkX13_pack (fX13_pack_L143 p0 p1 p2 p3 p4 p5 q0 M) := by
    intro p0 p1 p2 p3 p4 p5 q0 M g_p0 hM
    unfold fX13_pack_L143
    refine k_bn fun v143 => ?_
    refine k_if ?_ ?_
    · exact hL164 p0 p1 p2 p3 p4 p5 v143 _ g_p0 hM
    · refine k_bo fun v151 => ?_
      refine k_if ?_ ?_
      · exact hL164 p0 p1 p2 p3 p4 p5 v143 _ g_p0 hM
      · exact hL165 p0 p1 p2 p3 p4 p5 v143 1 _ g_p0 hM
  have hL103 : ∀ (p0 : Option Nat) (p1 : Int32) (p2 : Int32) (p3 : Int32) (p4 : Int32) (q0 : Int64) (M : Mem) (g_p0 : inG G p0) (hM : FrG G wkX13_pack MM M), okv (fun _ : Int32 => True) MM G wkX13_pack (fX13_pack_L103 p0 p1 p2 p3 p4 q0 M) := by
    intro p0 p1 p2 p3 p4 q0 M g_p0 hM
    unfold fX13_pack_L103
    refine k_bn fun v103 => ?_
    refine k_if ?_ ?_
    · exact hL143 p0 p1 p2 p3 p4 v103 0 _ g_p0 hM
    · refine k_if ?_ ?_
      · refine k_if ?_ ?_
        · exact hL143 p0 p1 p2 p3 p4 v103 3 _ g_p0 hM
        · exact hL143 p0 p1 p2 p3 p4 v103 2 _ g_p0 hM
      · exact hL143 p0 p1 p2 p3 p4 v103 1 _ g_p0 hM
  have hL84 : ∀ (p0 : Option Nat) (p1 : Int32) (p2 : Int32) (p3 : Int32) (q0 : Int32) (M : Mem) (g_p0 : inG G p0) (hM : FrG G wkX13_pack MM M), okv (fun _ : Int32 => True) MM G wkX13_pack (fX13_pack_L84 p0 p1 p2 p3 q0 M) := by
    intro p0 p1 p2 p3 q0 M g_p0 hM
    unfold fX13_pack_L84
    refine k_bn fun v84 => ?_
    refine k_if ?_ ?_
    · exact hL103 p0 p1 p2 p3 v84 0 _ g_p0 hM
    · refine k_bo fun v91 => ?_
      exact hL103 p0 p1 p2 p3 v84 (v91.toInt64 &&& 4294967295) _ g_p0 hM
  have hL72 : ∀ (p0 : Option Nat) (p1 : Int32) (p2 : Int32) (q0 : Int32) (M : Mem) (g_p0 : inG G p0) (hM : FrG G wkX13_pack MM M), okv (fun _ : Int32 => True) MM G wkX13_pack (fX13_pack_L72 p0 p1 p2 q0 M) := by
    intro p0 p1 p2 q0 M g_p0 hM
    unfold fX13_pack_L72
    refine k_bn fun v72 => ?_
    refine k_if ?_ ?_
    · exact hL84 p0 p1 p2 v72 0 _ g_p0 hM
    · exact hL84 p0 p1 p2 v72 1 _ g_p0 hM
  have hL38 : ∀ (p0 : Option Nat) (p1 : Int32) (p2 : Int32) (M : Mem) (g_p0 : inG G p0) (hM : FrG G wkX13_pack MM M), okv (fun _ : Int32 => True) MM G wkX13_pack (fX13_pack_L38 p0 p1 p2 M) := by
    intro p0 p1 p2 M g_p0 hM
    unfold fX13_pack_L38
    refine k_bo fun v39 => ?_
    refine k_if ?_ ?_
    · refine k_pI (by decide) (by decide) (by decide) hM g_p0 fun M53 hM53 => ?_
      refine k_pI (by decide) (by decide) (by decide) hM53 g_p0 fun M58 hM58 => ?_
      refine k_if ?_ ?_
      · exact hL72 p0 p1 p2 0 _ g_p0 hM58
      · exact hL72 p0 p1 p2 1 _ g_p0 hM58
    · exact k_ret hM trivial
  unfold fX13_pack
  refine k_if ?_ ?_
  · exact hL19 _ hMM
  · refine k_if ?_ ?_
    · exact hL19 _ hMM
    · refine k_if ?_ ?_
      · exact hL19 _ hMM
      · refine k_if ?_ ?_
        · refine k_if ?_ ?_
          · exact hL38 a0 a1 a2 _ g_a0 hMM
          · refine k_bo fun v29 => ?_
            refine k_if ?_ ?_
            · exact k_ret hMM trivial
            · exact hL38 a0 a1 a2 _ g_a0 hMM
        · exact hL19 _ hMM
