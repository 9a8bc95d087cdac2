def wkX13_mostLog : List Nat := []
set_option maxRecDepth 100000 in
set_option maxHeartbeats 4000000 in
theorem frX13_mostLog {G : Nat → Prop} {MM : Mem} (a0 : Int32) (hst : ∀ k, k < 10 → G k) (hc : Cl G MM) : okv (fun _ : Int32 => True) MM G wkX13_mostLog (fX13_mostLog a0 MM) := by
  have hMM : FrG G wkX13_mostLog MM MM := FrG.rf hc
  have hL12 : ∀ (q0 : Int32) (M : Mem) (hM : FrG G wkX13_mostLog MM M), okv (fun _ : Int32 => True) MM G wkX13_mostLog (fX13_mostLog_L12 q0 M) := by
    intro q0 M hM
    unfold fX13_mostLog_L12
    exact k_ret hM trivial
  unfold fX13_mostLog
  refine k_if ?_ ?_
  · exact hL12 8 _ hMM
  · exact hL12 9 _ hMM
def wkX13_greatest : List Nat := []
set_option maxRecDepth 100000 in
set_option maxHeartbeats 4000000 in
theorem frX13_greatest {G : Nat → Prop} {MM : Mem} (a0 : Int32) (hst : ∀ k, k < 10 → G k) (hc : Cl G MM) : okv (fun _ : Int32 => True) MM G wkX13_greatest (fX13_greatest a0 MM) := by
  have hMM : FrG G wkX13_greatest MM MM := FrG.rf hc
  have hL21 : ∀ (q0 : Int32) (M : Mem) (hM : FrG G wkX13_greatest MM M), okv (fun _ : Int32 => True) MM G wkX13_greatest (fX13_greatest_L21 q0 M) := by
    intro q0 M hM
    unfold fX13_greatest_L21
    exact k_ret hM trivial
  unfold fX13_greatest
  refine k_if ?_ ?_
  · exact hL21 35 _ hMM
  · refine k_if ?_ ?_
    · exact hL21 31 _ hMM
    · exact hL21 52 _ hMM
def wkX13_defaults : List Nat := [1313, 1400, 1500, 1700, 1800]
set_option maxRecDepth 100000 in
set_option maxHeartbeats 4000000 in
theorem frX13_defaults {G : Nat → Prop} {MM : Mem} (a0 : Option Nat) (a1 : Int32) (a2 : Int32) (hst : ∀ k, k < 10 → G k) (hc : Cl G MM) (g_a0 : inG G a0) : okv (fun _ : Unit => True) MM G wkX13_defaults (fX13_defaults a0 a1 a2 MM) := by
  have hMM : FrG G wkX13_defaults MM MM := FrG.rf hc
  have hL199 : ∀ (k21 : Option Nat × Int32 × Int32 × Int32 → Mem → Option (Unit × Mem)) (hk21 : ∀ a M, (inG G (a.1)) → FrG G wkX13_defaults MM M → okv (fun _ : Unit => True) MM G wkX13_defaults (k21 a M)) (p0 : Option Nat) (p1 : Int32) (p2 : Int32) (p3 : Int32) (M : Mem) (g_p0 : inG G p0) (hM : FrG G wkX13_defaults MM M), okv (fun _ : Unit => True) MM G wkX13_defaults (fX13_defaults_L199 k21 p0 p1 p2 p3 M) := by
    intro k21 hk21 p0 p1 p2 p3 M g_p0 hM
    unfold fX13_defaults_L199
    refine k_bn fun v199 => ?_
    exact hk21 ((p0, p1, p2, v199)) _ g_p0 hM
  have hL198 : ∀ (k21 : Option Nat × Int32 × Int32 × Int32 → Mem → Option (Unit × Mem)) (hk21 : ∀ a M, (inG G (a.1)) → FrG G wkX13_defaults MM M → okv (fun _ : Unit => True) MM G wkX13_defaults (k21 a M)) (p0 : Option Nat) (p1 : Int32) (p2 : Int32) (p3 : Int32) (q0 : Option Nat) (q1 : Int32) (q2 : Int32) (M : Mem) (g_p0 : inG G p0) (g_q0 : inG G q0) (hM : FrG G wkX13_defaults MM M), okv (fun _ : Unit => True) MM G wkX13_defaults (fX13_defaults_L198 k21 p0 p1 p2 p3 q0 q1 q2 M) := by
    intro k21 hk21 p0 p1 p2 p3 q0 q1 q2 M g_p0 g_q0 hM
    unfold fX13_defaults_L198
    refine k_wI (by decide) hM g_q0 fun M198 hM198 => ?_
    exact hL199 k21 hk21 p0 p1 p2 p3 _ g_p0 hM198
  have hL187 : ∀ (k21 : Option Nat × Int32 × Int32 × Int32 → Mem → Option (Unit × Mem)) (hk21 : ∀ a M, (inG G (a.1)) → FrG G wkX13_defaults MM M → okv (fun _ : Unit => True) MM G wkX13_defaults (k21 a M)) (p0 : Option Nat) (p1 : Int32) (p2 : Int32) (p3 : Int32) (q0 : Option Nat) (q1 : Int32) (M : Mem) (g_p0 : inG G p0) (g_q0 : inG G q0) (hM : FrG G wkX13_defaults MM M), okv (fun _ : Unit => True) MM G wkX13_defaults (fX13_defaults_L187 k21 p0 p1 p2 p3 q0 q1 M) := by
    intro k21 hk21 p0 p1 p2 p3 q0 q1 M g_p0 g_q0 hM
    unfold fX13_defaults_L187
    refine k_if ?_ ?_
    · exact hL198 k21 hk21 p0 p1 p2 p3 q0 q1 1 _ g_p0 g_q0 hM
    · exact hL198 k21 hk21 p0 p1 p2 p3 q0 q1 ((-1)) _ g_p0 g_q0 hM
  have hL145 : ∀ (k21 : Option Nat × Int32 × Int32 × Int32 → Mem → Option (Unit × Mem)) (hk21 : ∀ a M, (inG G (a.1)) → FrG G wkX13_defaults MM M → okv (fun _ : Unit => True) MM G wkX13_defaults (k21 a M)) (p0 : Option Nat) (p1 : Int32) (p2 : Int32) (p3 : Int32) (q0 : Option Nat) (q1 : Int32) (q2 : Int32) (M : Mem) (g_p0 : inG G p0) (g_q0 : inG G q0) (hM : FrG G wkX13_defaults MM M), okv (fun _ : Unit => True) MM G wkX13_defaults (fX13_defaults_L145 k21 p0 p1 p2 p3 q0 q1 q2 M) := by
    intro k21 hk21 p0 p1 p2 p3 q0 q1 q2 M g_p0 g_q0 hM
    unfold fX13_defaults_L145
    refine k_wI (by decide) hM g_q0 fun M145 hM145 => ?_
    exact hL199 k21 hk21 p0 p1 p2 p3 _ g_p0 hM145
  have hL144 : ∀ (k21 : Option Nat × Int32 × Int32 × Int32 → Mem → Option (Unit × Mem)) (hk21 : ∀ a M, (inG G (a.1)) → FrG G wkX13_defaults MM M → okv (fun _ : Unit => True) MM G wkX13_defaults (k21 a M)) (p0 : Option Nat) (p1 : Int32) (p2 : Int32) (p3 : Int32) (q0 : Option Nat) (q1 : Int32) (M : Mem) (g_p0 : inG G p0) (g_q0 : inG G q0) (hM : FrG G wkX13_defaults MM M), okv (fun _ : Unit => True) MM G wkX13_defaults (fX13_defaults_L144 k21 p0 p1 p2 p3 q0 q1 M) := by
    intro k21 hk21 p0 p1 p2 p3 q0 q1 M g_p0 g_q0 hM
    unfold fX13_defaults_L144
    exact hL145 k21 hk21 p0 p1 p2 p3 q0 q1 1 _ g_p0 g_q0 hM
  have hL104 : ∀ (k21 : Option Nat × Int32 × Int32 × Int32 → Mem → Option (Unit × Mem)) (hk21 : ∀ a M, (inG G (a.1)) → FrG G wkX13_defaults MM M → okv (fun _ : Unit => True) MM G wkX13_defaults (k21 a M)) (p0 : Option Nat) (p1 : Int32) (p2 : Int32) (p3 : Int32) (q0 : Option Nat) (q1 : Int32) (q2 : Int32) (M : Mem) (g_p0 : inG G p0) (g_q0 : inG G q0) (hM : FrG G wkX13_defaults MM M), okv (fun _ : Unit => True) MM G wkX13_defaults (fX13_defaults_L104 k21 p0 p1 p2 p3 q0 q1 q2 M) := by
    intro k21 hk21 p0 p1 p2 p3 q0 q1 q2 M g_p0 g_q0 hM
    unfold fX13_defaults_L104
    refine k_wI (by decide) hM g_q0 fun M104 hM104 => ?_
    exact hL199 k21 hk21 p0 p1 p2 p3 _ g_p0 hM104
  have hL67 : ∀ (k21 : Option Nat × Int32 × Int32 × Int32 → Mem → Option (Unit × Mem)) (hk21 : ∀ a M, (inG G (a.1)) → FrG G wkX13_defaults MM M → okv (fun _ : Unit => True) MM G wkX13_defaults (k21 a M)) (p0 : Option Nat) (p1 : Int32) (p2 : Int32) (p3 : Int32) (q0 : Option Nat) (q1 : Int32) (M : Mem) (g_p0 : inG G p0) (g_q0 : inG G q0) (hM : FrG G wkX13_defaults MM M), okv (fun _ : Unit => True) MM G wkX13_defaults (fX13_defaults_L67 k21 p0 p1 p2 p3 q0 q1 M) := by
    intro k21 hk21 p0 p1 p2 p3 q0 q1 M g_p0 g_q0 hM
    unfold fX13_defaults_L67
    exact hL104 k21 hk21 p0 p1 p2 p3 q0 q1 3 _ g_p0 g_q0 hM
  have hL99 : ∀ (k21 : Option Nat × Int32 × Int32 × Int32 → Mem → Option (Unit × Mem)) (hk21 : ∀ a M, (inG G (a.1)) → FrG G wkX13_defaults MM M → okv (fun _ : Unit => True) MM G wkX13_defaults (k21 a M)) (p0 : Option Nat) (p1 : Int32) (p2 : Int32) (p3 : Int32) (q0 : Option Nat) (q1 : Int32) (M : Mem) (g_p0 : inG G p0) (g_q0 : inG G q0) (hM : FrG G wkX13_defaults MM M), okv (fun _ : Unit => True) MM G wkX13_defaults (fX13_defaults_L99 k21 p0 p1 p2 p3 q0 q1 M) := by
    intro k21 hk21 p0 p1 p2 p3 q0 q1 M g_p0 g_q0 hM
    unfold fX13_defaults_L99
    exact hL104 k21 hk21 p0 p1 p2 p3 q0 q1 1 _ g_p0 g_q0 hM
  have hL93 : ∀ (k21 : Option Nat × Int32 × Int32 × Int32 → Mem → Option (Unit × Mem)) (hk21 : ∀ a M, (inG G (a.1)) → FrG G wkX13_defaults MM M → okv (fun _ : Unit => True) MM G wkX13_defaults (k21 a M)) (p0 : Option Nat) (p1 : Int32) (p2 : Int32) (p3 : Int32) (q0 : Option Nat) (q1 : Int32) (M : Mem) (g_p0 : inG G p0) (g_q0 : inG G q0) (hM : FrG G wkX13_defaults MM M), okv (fun _ : Unit => True) MM G wkX13_defaults (fX13_defaults_L93 k21 p0 p1 p2 p3 q0 q1 M) := by
    intro k21 hk21 p0 p1 p2 p3 q0 q1 M g_p0 g_q0 hM
    unfold fX13_defaults_L93
    refine k_if ?_ ?_
    · exact hL104 k21 hk21 p0 p1 p2 p3 q0 q1 2 _ g_p0 g_q0 hM
    · exact hL99 k21 hk21 p0 p1 p2 p3 q0 q1 _ g_p0 g_q0 hM
  have hL36 : ∀ (k21 : Option Nat × Int32 × Int32 × Int32 → Mem → Option (Unit × Mem)) (hk21 : ∀ a M, (inG G (a.1)) → FrG G wkX13_defaults MM M → okv (fun _ : Unit => True) MM G wkX13_defaults (k21 a M)) (p0 : Option Nat) (p1 : Int32) (p2 : Int32) (p3 : Int32) (q0 : Int32) (q1 : Int32) (M : Mem) (g_p0 : inG G p0) (hM : FrG G wkX13_defaults MM M), okv (fun _ : Unit => True) MM G wkX13_defaults (fX13_defaults_L36 k21 p0 p1 p2 p3 q0 q1 M) := by
    intro k21 hk21 p0 p1 p2 p3 q0 q1 M g_p0 hM
    unfold fX13_defaults_L36
    refine k_if ?_ ?_
    · refine k_bo fun _ => ?_
      refine k_call (by decide) hM (fun hc => frX13_table _ _ hst hc g_p0) fun v207 M207 _ hM207 => ?_
      exact k_ret hM207 trivial
    · refine k_if ?_ ?_
      · refine k_gR hM g_p0 fun v44 g_v44 => ?_
        refine k_if ?_ ?_
        · exact hL104 k21 hk21 p0 p1 p2 p3 v44 p3 4 _ g_p0 g_v44 hM
        · refine k_if ?_ ?_
          · exact hL67 k21 hk21 p0 p1 p2 p3 v44 p3 _ g_p0 g_v44 hM
          · refine k_if ?_ ?_
            · exact hL67 k21 hk21 p0 p1 p2 p3 v44 p3 _ g_p0 g_v44 hM
            · refine k_if ?_ ?_
              · refine k_if ?_ ?_
                · exact hL93 k21 hk21 p0 p1 p2 p3 v44 p3 _ g_p0 g_v44 hM
                · refine k_if ?_ ?_
                  · exact hL99 k21 hk21 p0 p1 p2 p3 v44 p3 _ g_p0 g_v44 hM
                  · exact hL93 k21 hk21 p0 p1 p2 p3 v44 p3 _ g_p0 g_v44 hM
              · exact hL104 k21 hk21 p0 p1 p2 p3 v44 p3 ((-1)) _ g_p0 g_v44 hM
      · refine k_if ?_ ?_
        · refine k_gR hM g_p0 fun v114 g_v114 => ?_
          refine k_if ?_ ?_
          · refine k_if ?_ ?_
            · exact hL144 k21 hk21 p0 p1 p2 p3 v114 p3 _ g_p0 g_v114 hM
            · refine k_if ?_ ?_
              · exact hL144 k21 hk21 p0 p1 p2 p3 v114 p3 _ g_p0 g_v114 hM
              · exact hL145 k21 hk21 p0 p1 p2 p3 v114 p3 2 _ g_p0 g_v114 hM
          · exact hL145 k21 hk21 p0 p1 p2 p3 v114 p3 ((-1)) _ g_p0 g_v114 hM
        · refine k_gR hM g_p0 fun v150 g_v150 => ?_
          refine k_if ?_ ?_
          · exact hL198 k21 hk21 p0 p1 p2 p3 v150 p3 4 _ g_p0 g_v150 hM
          · refine k_if ?_ ?_
            · exact hL198 k21 hk21 p0 p1 p2 p3 v150 p3 3 _ g_p0 g_v150 hM
            · refine k_if ?_ ?_
              · exact hL187 k21 hk21 p0 p1 p2 p3 v150 p3 _ g_p0 g_v150 hM
              · refine k_if ?_ ?_
                · exact hL187 k21 hk21 p0 p1 p2 p3 v150 p3 _ g_p0 g_v150 hM
                · exact hL198 k21 hk21 p0 p1 p2 p3 v150 p3 2 _ g_p0 g_v150 hM
  have hL21 : ∀ (p0 : Option Nat) (p1 : Int32) (p2 : Int32) (p3 : Int32) (M : Mem) (g_p0 : inG G p0) (hM : FrG G wkX13_defaults MM M), okv (fun _ : Unit => True) MM G wkX13_defaults (fX13_defaults_L21 p0 p1 p2 p3 M) := by
    intro p0 p1 p2 p3 M g_p0 hM
    refine k_lp (T := fun a : Option Nat × Int32 × Int32 × Int32 => inG G (a.1)) ?_ FU ((p0, p1, p2, p3)) M g_p0 hM
    intro k21 hk21 a M T hM
    obtain ⟨p0, p1, p2, p3⟩ := a
    have g_p0 := T
    show okv (fun _ : Unit => True) MM G wkX13_defaults (fX13_defaults_B21 k21 p0 p1 p2 p3 M)
    unfold fX13_defaults_B21
    refine k_if ?_ ?_
    · exact hL36 k21 hk21 p0 p1 p2 p3 p3 28 _ g_p0 hM
    · refine k_call (by decide) hM (fun hc => frX13_greatest _ hst hc) fun v33 M33 _ hM33 => ?_
      exact hL36 k21 hk21 p0 p1 p2 p3 p3 v33 _ g_p0 hM33
  have hL16 : ∀ (p0 : Option Nat) (p1 : Int32) (p2 : Int32) (q0 : Option Nat) (q1 : Int32) (M : Mem) (g_p0 : inG G p0) (g_q0 : inG G q0) (hM : FrG G wkX13_defaults MM M), okv (fun _ : Unit => True) MM G wkX13_defaults (fX13_defaults_L16 p0 p1 p2 q0 q1 M) := by
    intro p0 p1 p2 q0 q1 M g_p0 g_q0 hM
    unfold fX13_defaults_L16
    refine k_pI (by decide) (by decide) (by decide) hM g_q0 fun M16 hM16 => ?_
    refine k_bn fun v20 => ?_
    exact hL21 p0 p1 p2 v20 _ g_p0 hM16
  unfold fX13_defaults
  refine k_bo fun _ => ?_
  refine k_call (by decide) hMM (fun hc => frX13_noCounts _ hst hc g_a0) fun v1 M1 _ hM1 => ?_
  refine k_if ?_ ?_
  · exact hL16 a0 a1 a2 a0 5 _ g_a0 g_a0 hM1
  · exact hL16 a0 a1 a2 a0 6 _ g_a0 g_a0 hM1
def wkX13_copyCode : List Nat := [1500, 1700, 1800]
set_option maxRecDepth 100000 in
set_option maxHeartbeats 4000000 in
theorem frX13_copyCode {G : Nat → Prop} {MM : Mem} (a0 : Option Nat) (a1 : Int32) (a2 : Int32) (hst : ∀ k, k < 10 → G k) (hc : Cl G MM) (g_a0 : inG G a0) : okv (fun _ : Unit => True) MM G wkX13_copyCode (fX13_copyCode a0 a1 a2 MM) := by
  have hMM : FrG G wkX13_copyCode MM MM := FrG.rf hc
  have hL65 : ∀ (p0 : Option Nat) (p1 : Int32) (p2 : Int32) (p3 : Int32) (M : Mem) (g_p0 : inG G p0) (hM : FrG G wkX13_copyCode MM M), okv (fun _ : Unit => True) MM G wkX13_copyCode (fX13_copyCode_L65 p0 p1 p2 p3 M) := by
    intro p0 p1 p2 p3 M g_p0 hM
    refine k_lp (T := fun a : Option Nat × Int32 × Int32 × Int32 => inG G (a.1)) ?_ FU ((p0, p1, p2, p3)) M g_p0 hM
    intro k65 hk65 a M T hM
    obtain ⟨p0, p1, p2, p3⟩ := a
    have g_p0 := T
    show okv (fun _ : Unit => True) MM G wkX13_copyCode (fX13_copyCode_B65 k65 p0 p1 p2 p3 M)
    unfold fX13_copyCode_B65
    refine k_if ?_ ?_
    · exact k_ret hM trivial
    · refine k_gR hM g_p0 fun v73 g_v73 => ?_
      refine k_gR hM g_p0 fun v84 g_v84 => ?_
      refine k_bo fun v94 => ?_
      refine k_wS (by decide) hM g_v73 fun M95 hM95 => ?_
      refine k_bn fun v96 => ?_
      exact hk65 ((p0, p1, p2, v96)) _ g_p0 hM95
  have hL26 : ∀ (p0 : Option Nat) (p1 : Int32) (p2 : Int32) (p3 : Int32) (M : Mem) (g_p0 : inG G p0) (hM : FrG G wkX13_copyCode MM M), okv (fun _ : Unit => True) MM G wkX13_copyCode (fX13_copyCode_L26 p0 p1 p2 p3 M) := by
    intro p0 p1 p2 p3 M g_p0 hM
    refine k_lp (T := fun a : Option Nat × Int32 × Int32 × Int32 => inG G (a.1)) ?_ FU ((p0, p1, p2, p3)) M g_p0 hM
    intro k26 hk26 a M T hM
    obtain ⟨p0, p1, p2, p3⟩ := a
    have g_p0 := T
    show okv (fun _ : Unit => True) MM G wkX13_copyCode (fX13_copyCode_B26 k26 p0 p1 p2 p3 M)
    unfold fX13_copyCode_B26
    refine k_if ?_ ?_
    · refine k_bn fun v64 => ?_
      exact hL65 p0 p1 p2 v64 _ g_p0 hM
    · refine k_gR hM g_p0 fun v34 g_v34 => ?_
      refine k_gR hM g_p0 fun v45 g_v45 => ?_
      refine k_bo fun v55 => ?_
      refine k_wI (by decide) hM g_v34 fun M56 hM56 => ?_
      refine k_bn fun v57 => ?_
      exact hk26 ((p0, p1, p2, v57)) _ g_p0 hM56
  unfold fX13_copyCode
  refine k_gR hMM g_a0 fun v1 g_v1 => ?_
  refine k_gR hMM g_a0 fun v6 g_v6 => ?_
  refine k_bo fun v10 => ?_
  refine k_wZ (by decide) hMM g_v1 fun M11 hM11 => ?_
  refine k_gR hM11 g_a0 fun v13 g_v13 => ?_
  refine k_gR hM11 g_a0 fun v18 g_v18 => ?_
  refine k_bo fun v22 => ?_
  refine k_wI (by decide) hM11 g_v13 fun M23 hM23 => ?_
  refine k_bn fun v25 => ?_
  exact hL26 a0 a1 a2 v25 _ g_a0 hM23
def wkX13_toldWeights : List Nat := [1307, 1308, 1309, 1310, 1311, 1313, 1400, 1500, 1700, 1800]
set_option maxRecDepth 100000 in
set_option maxHeartbeats 4000000 in
theorem frX13_toldWeights {G : Nat → Prop} {MM : Mem} (a0 : Option Nat) (a1 : Int32) (a2 : Int32) (hst : ∀ k, k < 10 → G k) (hc : Cl G MM) (g_a0 : inG G a0) : okv (fun _ : Int32 => True) MM G wkX13_toldWeights (fX13_toldWeights a0 a1 a2 MM) := by
  have hMM : FrG G wkX13_toldWeights MM MM := FrG.rf hc
  have hL77 : ∀ (p0 : Option Nat) (p4 : Int32) (p5 : Int32) (p6 : Int32) (p7 : Int32) (p8 : Int32) (M : Mem) (g_p0 : inG G p0) (hM : FrG G wkX13_toldWeights MM M), okv (fun _ : Int32 => True) MM G wkX13_toldWeights (fX13_toldWeights_L77 p0 p4 p5 p6 p7 p8 M) := by
    intro p0 p4 p5 p6 p7 p8 M g_p0 hM
    refine k_lp (T := fun a : Option Nat × Int32 × Int32 × Int32 × Int32 × Int32 => inG G (a.1)) ?_ FU ((p0, p4, p5, p6, p7, p8)) M g_p0 hM
    intro k77 hk77 a M T hM
    obtain ⟨p0, p4, p5, p6, p7, p8⟩ := a
    have g_p0 := T
    show okv (fun _ : Int32 => True) MM G wkX13_toldWeights (fX13_toldWeights_B77 k77 p0 p4 p5 p6 p7 p8 M)
    unfold fX13_toldWeights_B77
    refine k_if ?_ ?_
    · exact k_ret hM trivial
    · refine k_if ?_ ?_
      · exact k_ret hM trivial
      · refine k_gR hM g_p0 fun v93 g_v93 => ?_
        refine k_gR hM g_p0 fun v99 g_v99 => ?_
        refine k_bo fun v107 => ?_
        refine k_wI (by decide) hM g_v93 fun M108 hM108 => ?_
        refine k_bn fun v109 => ?_
        refine k_bo fun v113 => ?_
        refine k_gR hM108 g_p0 fun v117 g_v117 => ?_
        refine k_bo fun v125 => ?_
        refine k_if ?_ ?_
        · refine k_gR hM108 g_p0 fun v166 g_v166 => ?_
          refine k_bo fun v174 => ?_
          refine k_gR hM108 g_p0 fun v177 g_v177 => ?_
          refine k_bo fun v185 => ?_
          refine k_bo fun _ => ?_
          refine k_call (by decide) hM108 (fun hc => frX13_back _ _ hst hc g_p0) fun v186 M186 _ hM186 => ?_
          refine k_bn fun v191 => ?_
          refine k_bn fun v195 => ?_
          refine k_bn fun v199 => ?_
          exact hk77 ((p0, p4, v195, v199, v109, p8)) _ g_p0 hM186
        · refine k_if ?_ ?_
          · exact k_ret hM108 trivial
          · refine k_gR hM108 g_p0 fun v140 g_v140 => ?_
            refine k_gR hM108 g_p0 fun v146 g_v146 => ?_
            refine k_bo fun v154 => ?_
            refine k_wI (by decide) hM108 g_v140 fun M155 hM155 => ?_
            refine k_bn fun v156 => ?_
            refine k_bn fun v160 => ?_
            exact hk77 ((p0, p4, p5, p6, v156, v160)) _ g_p0 hM155
  unfold fX13_toldWeights
  refine k_bo fun _ => ?_
  refine k_call (by decide) hMM (fun hc => frX13_toldCounts _ _ _ _ _ hst hc g_a0) fun v8 M8 _ hM8 => ?_
  refine k_bn fun v11 => ?_
  refine k_if ?_ ?_
  · refine k_bo fun _ => ?_
    refine k_call (by decide) hM8 (fun hc => frX13_table _ _ hst hc g_a0) fun v21 M21 _ hM21 => ?_
    refine k_bo fun _ => ?_
    refine k_call (by decide) hM21 (fun hc => frX13_reversed _ _ _ hst hc g_a0) fun v27 M27 _ hM27 => ?_
    refine k_if ?_ ?_
    · exact k_ret hM27 trivial
    · refine k_bn fun v38 => ?_
      refine k_bo fun v42 => ?_
      refine k_bo fun _ => ?_
      refine k_call (by decide) hM27 (fun hc => frX13_back _ _ hst hc g_a0) fun v45 M45 _ hM45 => ?_
      refine k_bn fun v49 => ?_
      refine k_bo fun v53 => ?_
      refine k_bo fun _ => ?_
      refine k_call (by decide) hM45 (fun hc => frX13_back _ _ hst hc g_a0) fun v56 M56 _ hM56 => ?_
      refine k_bn fun v60 => ?_
      refine k_bo fun v63 => ?_
      refine k_if ?_ ?_
      · refine k_bn fun v72 => ?_
        refine k_bn fun v75 => ?_
        exact hL77 a0 v38 v49 v60 v72 v75 _ g_a0 hM56
      · exact k_ret hM56 trivial
  · exact k_ret hM8 trivial
def wkX13_codeOf : List Nat := [1500, 1700, 1800]
set_option maxRecDepth 100000 in
set_option maxHeartbeats 4000000 in
theorem frX13_codeOf {G : Nat → Prop} {MM : Mem} (a0 : Option Nat) (a1 : Int32) (a2 : Int32) (hst : ∀ k, k < 10 → G k) (hc : Cl G MM) (g_a0 : inG G a0) : okv z01 MM G wkX13_codeOf (fX13_codeOf a0 a1 a2 MM) := by
  have hMM : FrG G wkX13_codeOf MM MM := FrG.rf hc
  have hL98 : ∀ (M : Mem) (hM : FrG G wkX13_codeOf MM M), okv z01 MM G wkX13_codeOf (fX13_codeOf_L98 M) := by
    intro M hM
    unfold fX13_codeOf_L98
    exact k_retZ hM
  have hL263 : ∀ (k196 : Option Nat × Int32 × Int32 × Int32 × Int32 × Int32 → Mem → Option (Int32 × Mem)) (hk196 : ∀ a M, (inG G (a.1)) → FrG G wkX13_codeOf MM M → okv z01 MM G wkX13_codeOf (k196 a M)) (k206 : Option Nat × Int32 × Int32 × Int32 × Int32 × Int32 × Int32 → Mem → Option (Int32 × Mem)) (hk206 : ∀ a M, (inG G (a.1)) → FrG G wkX13_codeOf MM M → okv z01 MM G wkX13_codeOf (k206 a M)) (p0 : Option Nat) (p1 : Int32) (p2 : Int32) (p4 : Int32) (p6 : Int32) (p7 : Int32) (p8 : Int32) (M : Mem) (g_p0 : inG G p0) (hM : FrG G wkX13_codeOf MM M), okv z01 MM G wkX13_codeOf (fX13_codeOf_L263 k196 k206 p0 p1 p2 p4 p6 p7 p8 M) := by
    intro k196 hk196 k206 hk206 p0 p1 p2 p4 p6 p7 p8 M g_p0 hM
    unfold fX13_codeOf_L263
    refine k_bn fun v263 => ?_
    exact hk206 ((p0, p1, p2, p4, p6, p7, v263)) _ g_p0 hM
  have hL215 : ∀ (k196 : Option Nat × Int32 × Int32 × Int32 × Int32 × Int32 → Mem → Option (Int32 × Mem)) (hk196 : ∀ a M, (inG G (a.1)) → FrG G wkX13_codeOf MM M → okv z01 MM G wkX13_codeOf (k196 a M)) (k206 : Option Nat × Int32 × Int32 × Int32 × Int32 × Int32 × Int32 → Mem → Option (Int32 × Mem)) (hk206 : ∀ a M, (inG G (a.1)) → FrG G wkX13_codeOf MM M → okv z01 MM G wkX13_codeOf (k206 a M)) (p0 : Option Nat) (p1 : Int32) (p2 : Int32) (p4 : Int32) (p6 : Int32) (p7 : Int32) (p8 : Int32) (p9 : Int32) (M : Mem) (g_p0 : inG G p0) (hM : FrG G wkX13_codeOf MM M), okv z01 MM G wkX13_codeOf (fX13_codeOf_L215 k196 k206 p0 p1 p2 p4 p6 p7 p8 p9 M) := by
    intro k196 hk196 k206 hk206 p0 p1 p2 p4 p6 p7 p8 p9 M g_p0 hM
    refine k_lp (T := fun a : Option Nat × Int32 × Int32 × Int32 × Int32 × Int32 × Int32 × Int32 => inG G (a.1)) ?_ FU ((p0, p1, p2, p4, p6, p7, p8, p9)) M g_p0 hM
    intro k215 hk215 a M T hM
    obtain ⟨p0, p1, p2, p4, p6, p7, p8, p9⟩ := a
    have g_p0 := T
    show okv z01 MM G wkX13_codeOf (fX13_codeOf_B215 k196 k206 k215 p0 p1 p2 p4 p6 p7 p8 p9 M)
    unfold fX13_codeOf_B215
    refine k_gR hM g_p0 fun v216 g_v216 => ?_
    refine k_bo fun v221 => ?_
    refine k_if ?_ ?_
    · refine k_if ?_ ?_
      · exact hL263 k196 hk196 k206 hk206 p0 p1 p2 p4 p6 p7 p8 _ g_p0 hM
      · refine k_gR hM g_p0 fun v239 g_v239 => ?_
        refine k_wS (by decide) hM g_v239 fun M253 hM253 => ?_
        refine k_bn fun v254 => ?_
        refine k_bn fun v257 => ?_
        exact hk215 ((p0, p1, p2, p4, v254, p7, p8, v257)) _ g_p0 hM253
    · exact hL263 k196 hk196 k206 hk206 p0 p1 p2 p4 p6 p7 p8 _ g_p0 hM
  have hL206 : ∀ (k196 : Option Nat × Int32 × Int32 × Int32 × Int32 × Int32 → Mem → Option (Int32 × Mem)) (hk196 : ∀ a M, (inG G (a.1)) → FrG G wkX13_codeOf MM M → okv z01 MM G wkX13_codeOf (k196 a M)) (p0 : Option Nat) (p1 : Int32) (p2 : Int32) (p4 : Int32) (p6 : Int32) (p7 : Int32) (p8 : Int32) (M : Mem) (g_p0 : inG G p0) (hM : FrG G wkX13_codeOf MM M), okv z01 MM G wkX13_codeOf (fX13_codeOf_L206 k196 p0 p1 p2 p4 p6 p7 p8 M) := by
    intro k196 hk196 p0 p1 p2 p4 p6 p7 p8 M g_p0 hM
    refine k_lp (T := fun a : Option Nat × Int32 × Int32 × Int32 × Int32 × Int32 × Int32 => inG G (a.1)) ?_ FU ((p0, p1, p2, p4, p6, p7, p8)) M g_p0 hM
    intro k206 hk206 a M T hM
    obtain ⟨p0, p1, p2, p4, p6, p7, p8⟩ := a
    have g_p0 := T
    show okv z01 MM G wkX13_codeOf (fX13_codeOf_B206 k196 k206 p0 p1 p2 p4 p6 p7 p8 M)
    unfold fX13_codeOf_B206
    refine k_if ?_ ?_
    · refine k_bn fun v269 => ?_
      exact hk196 ((p0, p1, p2, p4, p6, v269)) _ g_p0 hM
    · refine k_bn fun v213 => ?_
      exact hL215 k196 hk196 k206 hk206 p0 p1 p2 p4 p6 p7 p8 v213 _ g_p0 hM
  have hL196 : ∀ (p0 : Option Nat) (p1 : Int32) (p2 : Int32) (p4 : Int32) (p6 : Int32) (p7 : Int32) (M : Mem) (g_p0 : inG G p0) (hM : FrG G wkX13_codeOf MM M), okv z01 MM G wkX13_codeOf (fX13_codeOf_L196 p0 p1 p2 p4 p6 p7 M) := by
    intro p0 p1 p2 p4 p6 p7 M g_p0 hM
    refine k_lp (T := fun a : Option Nat × Int32 × Int32 × Int32 × Int32 × Int32 => inG G (a.1)) ?_ FU ((p0, p1, p2, p4, p6, p7)) M g_p0 hM
    intro k196 hk196 a M T hM
    obtain ⟨p0, p1, p2, p4, p6, p7⟩ := a
    have g_p0 := T
    show okv z01 MM G wkX13_codeOf (fX13_codeOf_B196 k196 p0 p1 p2 p4 p6 p7 M)
    unfold fX13_codeOf_B196
    refine k_if ?_ ?_
    · exact k_retZ hM
    · refine k_bn fun v204 => ?_
      exact hL206 k196 hk196 p0 p1 p2 p4 p6 p7 v204 _ g_p0 hM
  have hL183 : ∀ (k131 : Option Nat × Int32 × Int32 × Int32 × Int32 → Mem → Option (Int32 × Mem)) (hk131 : ∀ a M, (inG G (a.1)) → FrG G wkX13_codeOf MM M → okv z01 MM G wkX13_codeOf (k131 a M)) (p0 : Option Nat) (p1 : Int32) (p2 : Int32) (p4 : Int32) (p6 : Int32) (q0 : Option Nat) (q1 : Int32) (q2 : Int32) (M : Mem) (g_p0 : inG G p0) (g_q0 : inG G q0) (hM : FrG G wkX13_codeOf MM M), okv z01 MM G wkX13_codeOf (fX13_codeOf_L183 k131 p0 p1 p2 p4 p6 q0 q1 q2 M) := by
    intro k131 hk131 p0 p1 p2 p4 p6 q0 q1 q2 M g_p0 g_q0 hM
    unfold fX13_codeOf_L183
    refine k_wI (by decide) hM g_q0 fun M183 hM183 => ?_
    refine k_bn fun v184 => ?_
    exact hk131 ((p0, p1, p2, p4, v184)) _ g_p0 hM183
  have hL182 : ∀ (k131 : Option Nat × Int32 × Int32 × Int32 × Int32 → Mem → Option (Int32 × Mem)) (hk131 : ∀ a M, (inG G (a.1)) → FrG G wkX13_codeOf MM M → okv z01 MM G wkX13_codeOf (k131 a M)) (p0 : Option Nat) (p1 : Int32) (p2 : Int32) (p4 : Int32) (p6 : Int32) (q0 : Option Nat) (q1 : Int32) (M : Mem) (g_p0 : inG G p0) (g_q0 : inG G q0) (hM : FrG G wkX13_codeOf MM M), okv z01 MM G wkX13_codeOf (fX13_codeOf_L182 k131 p0 p1 p2 p4 p6 q0 q1 M) := by
    intro k131 hk131 p0 p1 p2 p4 p6 q0 q1 M g_p0 g_q0 hM
    unfold fX13_codeOf_L182
    exact hL183 k131 hk131 p0 p1 p2 p4 p6 q0 q1 0 _ g_p0 g_q0 hM
  have hL131 : ∀ (p0 : Option Nat) (p1 : Int32) (p2 : Int32) (p4 : Int32) (p6 : Int32) (M : Mem) (g_p0 : inG G p0) (hM : FrG G wkX13_codeOf MM M), okv z01 MM G wkX13_codeOf (fX13_codeOf_L131 p0 p1 p2 p4 p6 M) := by
    intro p0 p1 p2 p4 p6 M g_p0 hM
    refine k_lp (T := fun a : Option Nat × Int32 × Int32 × Int32 × Int32 => inG G (a.1)) ?_ FU ((p0, p1, p2, p4, p6)) M g_p0 hM
    intro k131 hk131 a M T hM
    obtain ⟨p0, p1, p2, p4, p6⟩ := a
    have g_p0 := T
    show okv z01 MM G wkX13_codeOf (fX13_codeOf_B131 k131 p0 p1 p2 p4 p6 M)
    unfold fX13_codeOf_B131
    refine k_if ?_ ?_
    · refine k_bn fun v191 => ?_
      refine k_bn fun v194 => ?_
      exact hL196 p0 p1 p2 p4 v191 v194 _ g_p0 hM
    · refine k_gR hM g_p0 fun v140 g_v140 => ?_
      refine k_if ?_ ?_
      · exact hL182 k131 hk131 p0 p1 p2 p4 p6 v140 ((256 * p1) + p6) _ g_p0 g_v140 hM
      · refine k_gR hM g_p0 fun v158 g_v158 => ?_
        refine k_bo fun v163 => ?_
        refine k_if ?_ ?_
        · exact hL182 k131 hk131 p0 p1 p2 p4 p6 v140 ((256 * p1) + p6) _ g_p0 g_v140 hM
        · refine k_gR hM g_p0 fun v172 g_v172 => ?_
          refine k_bo fun v177 => ?_
          exact hL183 k131 hk131 p0 p1 p2 p4 p6 v140 ((256 * p1) + p6) ((p4 + 1) - v177) _ g_p0 g_v140 hM
  have hL51 : ∀ (k5 : Option Nat × Int32 × Int32 × Int32 × Int32 → Mem → Option (Int32 × Mem)) (hk5 : ∀ a M, (inG G (a.1)) → FrG G wkX13_codeOf MM M → okv z01 MM G wkX13_codeOf (k5 a M)) (p0 : Option Nat) (p1 : Int32) (p2 : Int32) (p4 : Int32) (q0 : Int32) (q1 : Int32) (M : Mem) (g_p0 : inG G p0) (hM : FrG G wkX13_codeOf MM M), okv z01 MM G wkX13_codeOf (fX13_codeOf_L51 k5 p0 p1 p2 p4 q0 q1 M) := by
    intro k5 hk5 p0 p1 p2 p4 q0 q1 M g_p0 hM
    unfold fX13_codeOf_L51
    refine k_bn fun v52 => ?_
    refine k_bn fun v53 => ?_
    exact hk5 ((p0, p1, p2, v52, v53)) _ g_p0 hM
  have hL5 : ∀ (p0 : Option Nat) (p1 : Int32) (p2 : Int32) (p3 : Int32) (p4 : Int32) (M : Mem) (g_p0 : inG G p0) (hM : FrG G wkX13_codeOf MM M), okv z01 MM G wkX13_codeOf (fX13_codeOf_L5 p0 p1 p2 p3 p4 M) := by
    intro p0 p1 p2 p3 p4 M g_p0 hM
    refine k_lp (T := fun a : Option Nat × Int32 × Int32 × Int32 × Int32 => inG G (a.1)) ?_ FU ((p0, p1, p2, p3, p4)) M g_p0 hM
    intro k5 hk5 a M T hM
    obtain ⟨p0, p1, p2, p3, p4⟩ := a
    have g_p0 := T
    show okv z01 MM G wkX13_codeOf (fX13_codeOf_B5 k5 p0 p1 p2 p3 p4 M)
    unfold fX13_codeOf_B5
    refine k_if ?_ ?_
    · refine k_if ?_ ?_
      · exact k_retZ hM
      · refine k_call (by decide) hM (fun hc => frX13_log _ hst hc) fun v66 M66 _ hM66 => ?_
        refine k_bn fun v71 => ?_
        refine k_bn fun v79 => ?_
        refine k_if ?_ ?_
        · exact hL98 _ hM66
        · refine k_if ?_ ?_
          · refine k_gR hM66 g_p0 fun v101 g_v101 => ?_
            refine k_call (by decide) hM66 (fun hc => frX13_log _ hst hc) fun v107 M107 _ hM107 => ?_
            refine k_wI (by decide) hM107 g_v101 fun M112 hM112 => ?_
            refine k_gR hM112 g_p0 fun v114 g_v114 => ?_
            refine k_wZ (by decide) hM112 g_v114 fun M119 hM119 => ?_
            refine k_gR hM119 g_p0 fun v121 g_v121 => ?_
            refine k_wI (by decide) hM119 g_v121 fun M127 hM127 => ?_
            refine k_bn fun v129 => ?_
            exact hL131 p0 p1 p2 v71 v129 _ g_p0 hM127
          · exact hL98 _ hM66
    · refine k_gR hM g_p0 fun v12 g_v12 => ?_
      refine k_bo fun v17 => ?_
      refine k_if ?_ ?_
      · refine k_gR hM g_p0 fun v27 g_v27 => ?_
        refine k_bo fun v32 => ?_
        refine k_if ?_ ?_
        · exact hL51 k5 hk5 p0 p1 p2 p4 p3 0 _ g_p0 hM
        · refine k_gR hM g_p0 fun v38 g_v38 => ?_
          refine k_bo fun v43 => ?_
          exact hL51 k5 hk5 p0 p1 p2 p4 p3 (shlI 1 (v43 - 1)) _ g_p0 hM
      · exact k_retZ hM
  unfold fX13_codeOf
  refine k_bn fun v1 => ?_
  refine k_bn fun v3 => ?_
  exact hL5 a0 a1 a2 v1 v3 _ g_a0 hMM
def wkX13_code : List Nat := [1307, 1308, 1309, 1310, 1311, 1313, 1400, 1500, 1700, 1800]
set_option maxRecDepth 100000 in
set_option maxHeartbeats 4000000 in
theorem frX13_code {G : Nat → Prop} {MM : Mem} (a0 : Option Nat) (a1 : Int32) (a2 : Int32) (a3 : Int32) (hst : ∀ k, k < 10 → G k) (hc : Cl G MM) (g_a0 : inG G a0) : okv (fun _ : Int32 => True) MM G wkX13_code (fX13_code a0 a1 a2 a3 MM) := by
  have hMM : FrG G wkX13_code MM MM := FrG.rf hc
  have hL161 : ∀ (q0 : Int32) (M : Mem) (hM : FrG G wkX13_code MM M), okv (fun _ : Int32 => True) MM G wkX13_code (fX13_code_L161 q0 M) := by
    intro q0 M hM
    unfold fX13_code_L161
    exact k_ret hM trivial
  have hL160 : ∀ (M : Mem) (hM : FrG G wkX13_code MM M), okv (fun _ : Int32 => True) MM G wkX13_code (fX13_code_L160 M) := by
    intro M hM
    unfold fX13_code_L160
    exact hL161 ((-1)) _ hM
  have hL140 : ∀ (p0 : Option Nat) (p1 : Int32) (p5 : Int32) (p6 : Int32) (M : Mem) (g_p0 : inG G p0) (hM : FrG G wkX13_code MM M), okv (fun _ : Int32 => True) MM G wkX13_code (fX13_code_L140 p0 p1 p5 p6 M) := by
    intro p0 p1 p5 p6 M g_p0 hM
    unfold fX13_code_L140
    refine k_if ?_ ?_
    · exact hL160 _ hM
    · refine k_bo fun _ => ?_
      refine k_call (by decide) hM (fun hc => frX13_codeOf _ _ _ hst hc g_p0) fun v149 M149 _ hM149 => ?_
      refine k_if ?_ ?_
      · exact hL160 _ hM149
      · exact hL161 p6 _ hM149
  have hL100 : ∀ (k56 : Option Nat × Int32 × Int32 × Int32 × Int32 × Int32 → Mem → Option (Int32 × Mem)) (hk56 : ∀ a M, (inG G (a.1)) → FrG G wkX13_code MM M → okv (fun _ : Int32 => True) MM G wkX13_code (k56 a M)) (p0 : Option Nat) (p1 : Int32) (p2 : Int32) (p5 : Int32) (p6 : Int32) (p7 : Int32) (q0 : Option Nat) (q1 : Int32) (q2 : Int32) (M : Mem) (g_p0 : inG G p0) (g_q0 : inG G q0) (hM : FrG G wkX13_code MM M), okv (fun _ : Int32 => True) MM G wkX13_code (fX13_code_L100 k56 p0 p1 p2 p5 p6 p7 q0 q1 q2 M) := by
    intro k56 hk56 p0 p1 p2 p5 p6 p7 q0 q1 q2 M g_p0 g_q0 hM
    unfold fX13_code_L100
    refine k_wI (by decide) hM g_q0 fun M103 hM103 => ?_
    refine k_bn fun v104 => ?_
    exact hk56 ((p0, p1, p2, p5, p6, v104)) _ g_p0 hM103
  have hL56 : ∀ (p0 : Option Nat) (p1 : Int32) (p2 : Int32) (p5 : Int32) (p6 : Int32) (p7 : Int32) (M : Mem) (g_p0 : inG G p0) (hM : FrG G wkX13_code MM M), okv (fun _ : Int32 => True) MM G wkX13_code (fX13_code_L56 p0 p1 p2 p5 p6 p7 M) := by
    intro p0 p1 p2 p5 p6 p7 M g_p0 hM
    refine k_lp (T := fun a : Option Nat × Int32 × Int32 × Int32 × Int32 × Int32 => inG G (a.1)) ?_ FU ((p0, p1, p2, p5, p6, p7)) M g_p0 hM
    intro k56 hk56 a M T hM
    obtain ⟨p0, p1, p2, p5, p6, p7⟩ := a
    have g_p0 := T
    show okv (fun _ : Int32 => True) MM G wkX13_code (fX13_code_B56 k56 p0 p1 p2 p5 p6 p7 M)
    unfold fX13_code_B56
    refine k_if ?_ ?_
    · exact hL140 p0 p1 p5 p6 _ g_p0 hM
    · refine k_gR hM g_p0 fun v64 g_v64 => ?_
      refine k_bo fun v73 => ?_
      refine k_bo fun v75 => ?_
      refine k_bn fun v76 => ?_
      refine k_gR hM g_p0 fun v79 g_v79 => ?_
      refine k_bo fun v87 => ?_
      refine k_if ?_ ?_
      · exact hL100 k56 hk56 p0 p1 p2 p5 p6 p7 v79 p7 (shrI v76 4) _ g_p0 g_v79 hM
      · exact hL100 k56 hk56 p0 p1 p2 p5 p6 p7 v79 p7 v76 _ g_p0 g_v79 hM
  unfold fX13_code
  refine k_if ?_ ?_
  · refine k_gR hMM g_a0 fun v8 g_v8 => ?_
    refine k_bo fun v12 => ?_
    refine k_bn fun v17 => ?_
    refine k_if ?_ ?_
    · refine k_bn fun v119 => ?_
      refine k_if ?_ ?_
      · refine k_bo fun _ => ?_
        refine k_call (by decide) hMM (fun hc => frX13_toldWeights _ _ _ hst hc g_a0) fun v135 M135 _ hM135 => ?_
        refine k_bn fun v138 => ?_
        exact hL140 a0 a1 v138 v119 _ g_a0 hM135
      · exact k_ret hMM trivial
    · refine k_bn fun v31 => ?_
      refine k_bo fun v41 => ?_
      refine k_bn fun v43 => ?_
      refine k_if ?_ ?_
      · refine k_bn fun v54 => ?_
        exact hL56 a0 a1 a2 v31 v43 v54 _ g_a0 hMM
      · exact k_ret hMM trivial
  · exact k_ret hMM trivial
def wkX13_content : List Nat := [1326, 1400]
set_option maxRecDepth 100000 in
set_option maxHeartbeats 4000000 in
theorem frX13_content {G : Nat → Prop} {MM : Mem} (a0 : Option Nat) (a1 : Int32) (hst : ∀ k, k < 10 → G k) (hc : Cl G MM) (g_a0 : inG G a0) : okv (fun _ : Unit => True) MM G wkX13_content (fX13_content a0 a1 MM) := by
  have hMM : FrG G wkX13_content MM MM := FrG.rf hc
  have hL12 : ∀ (p0 : Option Nat) (p1 : Int32) (p2 : Int32) (M : Mem) (g_p0 : inG G p0) (hM : FrG G wkX13_content MM M), okv (fun _ : Unit => True) MM G wkX13_content (fX13_content_L12 p0 p1 p2 M) := by
    intro p0 p1 p2 M g_p0 hM
    refine k_lp (T := fun a : Option Nat × Int32 × Int32 => inG G (a.1)) ?_ FU ((p0, p1, p2)) M g_p0 hM
    intro k12 hk12 a M T hM
    obtain ⟨p0, p1, p2⟩ := a
    have g_p0 := T
    show okv (fun _ : Unit => True) MM G wkX13_content (fX13_content_B12 k12 p0 p1 p2 M)
    unfold fX13_content_B12
    refine k_bo fun v14 => ?_
    refine k_if ?_ ?_
    · exact k_ret hM trivial
    · refine k_gR hM g_p0 fun v21 g_v21 => ?_
      refine k_gR hM g_p0 fun v26 g_v26 => ?_
      refine k_bo fun v32 => ?_
      refine k_wB (by decide) hM g_v21 fun M33 hM33 => ?_
      refine k_bn fun v34 => ?_
      exact hk12 ((p0, p1, v34)) _ g_p0 hM33
  unfold fX13_content
  refine k_bo fun v2 => ?_
  refine k_pI (by decide) (by decide) (by decide) hMM g_a0 fun M7 hM7 => ?_
  refine k_bn fun v11 => ?_
  exact hL12 a0 a1 v11 _ g_a0 hM7
def wkX13_tabled : List Nat := [1306, 1307, 1308, 1309, 1310, 1311, 1313, 1400, 1500, 1700, 1800]
set_option maxRecDepth 100000 in
set_option maxHeartbeats 4000000 in
theorem frX13_tabled {G : Nat → Prop} {MM : Mem} (a0 : Option Nat) (hst : ∀ k, k < 10 → G k) (hc : Cl G MM) (g_a0 : inG G a0) : okv (fun _ : Int32 => True) MM G wkX13_tabled (fX13_tabled a0 MM) := by
  have hMM : FrG G wkX13_tabled MM MM := FrG.rf hc
  have hL31 : ∀ (M : Mem) (hM : FrG G wkX13_tabled MM M), okv (fun _ : Int32 => True) MM G wkX13_tabled (fX13_tabled_L31 M) := by
    intro M hM
    unfold fX13_tabled_L31
    exact k_ret hM trivial
  have hL126 : ∀ (M : Mem) (hM : FrG G wkX13_tabled MM M), okv (fun _ : Int32 => True) MM G wkX13_tabled (fX13_tabled_L126 M) := by
    intro M hM
    unfold fX13_tabled_L126
    exact k_ret hM trivial
  have hL170 : ∀ (M : Mem) (hM : FrG G wkX13_tabled MM M), okv (fun _ : Int32 => True) MM G wkX13_tabled (fX13_tabled_L170 M) := by
    intro M hM
    unfold fX13_tabled_L170
    exact k_ret hM trivial
  have hL130 : ∀ (p0 : Option Nat) (p1 : Int32) (p2 : Int32) (M : Mem) (g_p0 : inG G p0) (hM : FrG G wkX13_tabled MM M), okv (fun _ : Int32 => True) MM G wkX13_tabled (fX13_tabled_L130 p0 p1 p2 M) := by
    intro p0 p1 p2 M g_p0 hM
    refine k_lp (T := fun a : Option Nat × Int32 × Int32 => inG G (a.1)) ?_ FU ((p0, p1, p2)) M g_p0 hM
    intro k130 hk130 a M T hM
    obtain ⟨p0, p1, p2⟩ := a
    have g_p0 := T
    show okv (fun _ : Int32 => True) MM G wkX13_tabled (fX13_tabled_B130 k130 p0 p1 p2 M)
    unfold fX13_tabled_B130
    refine k_if ?_ ?_
    · exact k_ret hM trivial
    · refine k_gR hM g_p0 fun v136 g_v136 => ?_
      refine k_call (by decide) hM (fun hc => frX13_eight _ _ _ hst hc g_v136) fun v145 M145 _ hM145 => ?_
      refine k_bn fun v148 => ?_
      refine k_if ?_ ?_
      · exact hL170 _ hM145
      · refine k_bo fun v157 => ?_
        refine k_if ?_ ?_
        · refine k_bn fun v172 => ?_
          exact hk130 ((p0, p1, v172)) _ g_p0 hM145
        · exact hL170 _ hM145
  have hL111 : ∀ (p0 : Option Nat) (p1 : Int32) (M : Mem) (g_p0 : inG G p0) (hM : FrG G wkX13_tabled MM M), okv (fun _ : Int32 => True) MM G wkX13_tabled (fX13_tabled_L111 p0 p1 M) := by
    intro p0 p1 M g_p0 hM
    unfold fX13_tabled_L111
    refine k_if ?_ ?_
    · exact hL126 _ hM
    · refine k_bo fun v116 => ?_
      refine k_if ?_ ?_
      · refine k_bn fun v129 => ?_
        exact hL130 p0 p1 v129 _ g_p0 hM
      · exact hL126 _ hM
  have hL105 : ∀ (k47 : Option Nat × Int32 × Int32 → Mem → Option (Int32 × Mem)) (hk47 : ∀ a M, (inG G (a.1)) → FrG G wkX13_tabled MM M → okv (fun _ : Int32 => True) MM G wkX13_tabled (k47 a M)) (p0 : Option Nat) (p1 : Int32) (p2 : Int32) (M : Mem) (g_p0 : inG G p0) (hM : FrG G wkX13_tabled MM M), okv (fun _ : Int32 => True) MM G wkX13_tabled (fX13_tabled_L105 k47 p0 p1 p2 M) := by
    intro k47 hk47 p0 p1 p2 M g_p0 hM
    unfold fX13_tabled_L105
    refine k_bn fun v105 => ?_
    exact hk47 ((p0, p1, v105)) _ g_p0 hM
  have hL74 : ∀ (k47 : Option Nat × Int32 × Int32 → Mem → Option (Int32 × Mem)) (hk47 : ∀ a M, (inG G (a.1)) → FrG G wkX13_tabled MM M → okv (fun _ : Int32 => True) MM G wkX13_tabled (k47 a M)) (p0 : Option Nat) (p1 : Int32) (p2 : Int32) (q0 : Int32) (M : Mem) (g_p0 : inG G p0) (hM : FrG G wkX13_tabled MM M), okv (fun _ : Int32 => True) MM G wkX13_tabled (fX13_tabled_L74 k47 p0 p1 p2 q0 M) := by
    intro k47 hk47 p0 p1 p2 q0 M g_p0 hM
    unfold fX13_tabled_L74
    refine k_bn fun v74 => ?_
    refine k_bo fun v78 => ?_
    refine k_call (by decide) hM (fun hc => frX13_greatest _ hst hc) fun v82 M82 _ hM82 => ?_
    refine k_call (by decide) hM82 (fun hc => frX13_mostLog _ hst hc) fun v86 M86 _ hM86 => ?_
    refine k_bo fun _ => ?_
    refine k_call (by decide) hM86 (fun hc => frX13_toldCounts _ _ _ _ _ hst hc g_p0) fun v89 M89 _ hM89 => ?_
    refine k_bn fun v92 => ?_
    refine k_if ?_ ?_
    · exact hL105 k47 hk47 p0 v92 p2 _ g_p0 hM89
    · refine k_bo fun _ => ?_
      refine k_call (by decide) hM89 (fun hc => frX13_table _ _ hst hc g_p0) fun v102 M102 _ hM102 => ?_
      exact hL105 k47 hk47 p0 v92 p2 _ g_p0 hM102
  have hL47 : ∀ (p0 : Option Nat) (p1 : Int32) (p2 : Int32) (M : Mem) (g_p0 : inG G p0) (hM : FrG G wkX13_tabled MM M), okv (fun _ : Int32 => True) MM G wkX13_tabled (fX13_tabled_L47 p0 p1 p2 M) := by
    intro p0 p1 p2 M g_p0 hM
    refine k_lp (T := fun a : Option Nat × Int32 × Int32 => inG G (a.1)) ?_ FU ((p0, p1, p2)) M g_p0 hM
    intro k47 hk47 a M T hM
    obtain ⟨p0, p1, p2⟩ := a
    have g_p0 := T
    show okv (fun _ : Int32 => True) MM G wkX13_tabled (fX13_tabled_B47 k47 p0 p1 p2 M)
    unfold fX13_tabled_B47
    refine k_if ?_ ?_
    · exact hL111 p0 p1 _ g_p0 hM
    · refine k_if ?_ ?_
      · exact hL111 p0 p1 _ g_p0 hM
      · refine k_if ?_ ?_
        · exact hL74 k47 hk47 p0 p1 p2 1 _ g_p0 hM
        · refine k_if ?_ ?_
          · exact hL74 k47 hk47 p0 p1 p2 2 _ g_p0 hM
          · exact hL74 k47 hk47 p0 p1 p2 0 _ g_p0 hM
  unfold fX13_tabled
  refine k_gR hMM g_a0 fun v2 g_v2 => ?_
  refine k_pR (by decide) (by decide) hMM g_a0 g_v2 fun M5 hM5 => ?_
  refine k_bo fun v9 => ?_
  refine k_if ?_ ?_
  · exact hL31 _ hM5
  · refine k_gR hM5 g_a0 fun v18 g_v18 => ?_
    refine k_call (by decide) hM5 (fun hc => frX13_eight _ _ _ hst hc g_v18) fun v23 M23 _ hM23 => ?_
    refine k_if ?_ ?_
    · exact hL31 _ hM23
    · refine k_bo fun v38 => ?_
      refine k_bo fun _ => ?_
      refine k_call (by decide) hM23 (fun hc => frX13_code _ _ _ _ hst hc g_a0) fun v41 M41 _ hM41 => ?_
      refine k_bn fun v44 => ?_
      refine k_bn fun v46 => ?_
      exact hL47 a0 v44 v46 _ g_a0 hM41
def wkX13_keep : List Nat := [1304, 1305, 1306, 1307, 1308, 1309, 1310, 1311, 1313, 1326, 1327, 1328, 1329, 1400, 1500, 1700, 1800]
set_option maxRecDepth 100000 in
set_option maxHeartbeats 4000000 in
theorem frX13_keep {G : Nat → Prop} {MM : Mem} (a0 : Option Nat) (hst : ∀ k, k < 10 → G k) (hc : Cl G MM) (g_a0 : inG G a0) : okv (fun _ : Int32 => True) MM G wkX13_keep (fX13_keep a0 MM) := by
  have hMM : FrG G wkX13_keep MM MM := FrG.rf hc
  have hL71 : ∀ (p0 : Option Nat) (M : Mem) (g_p0 : inG G p0) (hM : FrG G wkX13_keep MM M), okv (fun _ : Int32 => True) MM G wkX13_keep (fX13_keep_L71 p0 M) := by
    intro p0 M g_p0 hM
    unfold fX13_keep_L71
    refine k_pZ (by decide) (by decide) hM g_p0 fun M73 hM73 => ?_
    refine k_pZ (by decide) (by decide) hM73 g_p0 fun M78 hM78 => ?_
    refine k_pI (by decide) (by decide) (by decide) hM78 g_p0 fun M83 hM83 => ?_
    refine k_bo fun _ => ?_
    refine k_call (by decide) hM83 (fun hc => frX13_content _ _ hst hc g_p0) fun v88 M88 _ hM88 => ?_
    exact k_ret hM88 trivial
  have hL145 : ∀ (p0 : Option Nat) (p1 : Int32) (p2 : Int32) (M : Mem) (g_p0 : inG G p0) (hM : FrG G wkX13_keep MM M), okv (fun _ : Int32 => True) MM G wkX13_keep (fX13_keep_L145 p0 p1 p2 M) := by
    intro p0 p1 p2 M g_p0 hM
    refine k_lp (T := fun a : Option Nat × Int32 × Int32 => inG G (a.1)) ?_ FU ((p0, p1, p2)) M g_p0 hM
    intro k145 hk145 a M T hM
    obtain ⟨p0, p1, p2⟩ := a
    have g_p0 := T
    show okv (fun _ : Int32 => True) MM G wkX13_keep (fX13_keep_B145 k145 p0 p1 p2 M)
    unfold fX13_keep_B145
    refine k_if ?_ ?_
    · refine k_pZ (by decide) (by decide) hM g_p0 fun M178 hM178 => ?_
      refine k_pZ (by decide) (by decide) hM178 g_p0 fun M183 hM183 => ?_
      refine k_gR hM183 g_p0 fun v188 g_v188 => ?_
      refine k_call (by decide) hM183 (fun hc => frX13_eight _ _ _ hst hc g_v188) fun v193 M193 _ hM193 => ?_
      refine k_pI (by decide) (by decide) (by decide) hM193 g_p0 fun M197 hM197 => ?_
      refine k_bo fun _ => ?_
      refine k_call (by decide) hM197 (fun hc => frX13_content _ _ hst hc g_p0) fun v205 M205 _ hM205 => ?_
      refine k_bo fun v209 => ?_
      exact k_ret hM205 trivial
    · refine k_gR hM g_p0 fun v151 g_v151 => ?_
      refine k_gR hM g_p0 fun v156 g_v156 => ?_
      refine k_call (by decide) hM (fun hc => frX13_eight _ _ _ hst hc g_v156) fun v165 M165 _ hM165 => ?_
      refine k_wI (by decide) hM165 g_v151 fun M169 hM169 => ?_
      refine k_bn fun v170 => ?_
      exact hk145 ((p0, p1, v170)) _ g_p0 hM169
  have hL115 : ∀ (p0 : Option Nat) (p1 : Int32) (p2 : Int32) (M : Mem) (g_p0 : inG G p0) (hM : FrG G wkX13_keep MM M), okv (fun _ : Int32 => True) MM G wkX13_keep (fX13_keep_L115 p0 p1 p2 M) := by
    intro p0 p1 p2 M g_p0 hM
    refine k_lp (T := fun a : Option Nat × Int32 × Int32 => inG G (a.1)) ?_ FU ((p0, p1, p2)) M g_p0 hM
    intro k115 hk115 a M T hM
    obtain ⟨p0, p1, p2⟩ := a
    have g_p0 := T
    show okv (fun _ : Int32 => True) MM G wkX13_keep (fX13_keep_B115 k115 p0 p1 p2 M)
    unfold fX13_keep_B115
    refine k_if ?_ ?_
    · refine k_bo fun _ => ?_
      refine k_call (by decide) hM (fun hc => frX13_copyCode _ _ _ hst hc g_p0) fun v140 M140 _ hM140 => ?_
      refine k_bn fun v144 => ?_
      exact hL145 p0 p1 v144 _ g_p0 hM140
    · refine k_bo fun _ => ?_
      refine k_call (by decide) hM (fun hc => frX13_copyTable _ _ _ hst hc g_p0) fun v128 M128 _ hM128 => ?_
      refine k_bn fun v131 => ?_
      exact hk115 ((p0, p1, v131)) _ g_p0 hM128
  unfold fX13_keep
  refine k_bo fun v1 => ?_
  refine k_if ?_ ?_
  · refine k_pI (by decide) (by decide) (by decide) hMM g_a0 fun M15 hM15 => ?_
    refine k_pI (by decide) (by decide) (by decide) hM15 g_a0 fun M20 hM20 => ?_
    refine k_bo fun v24 => ?_
    refine k_if ?_ ?_
    · refine k_pZ (by decide) (by decide) hM20 g_a0 fun M32 hM32 => ?_
      refine k_pZ (by decide) (by decide) hM32 g_a0 fun M37 hM37 => ?_
      refine k_pI (by decide) (by decide) (by decide) hM37 g_a0 fun M42 hM42 => ?_
      exact k_ret hM42 trivial
    · refine k_bo fun v48 => ?_
      refine k_if ?_ ?_
      · exact hL71 a0 _ g_a0 hM20
      · refine k_gR hM20 g_a0 fun v56 g_v56 => ?_
        refine k_call (by decide) hM20 (fun hc => frX13_eight _ _ _ hst hc g_v56) fun v61 M61 _ hM61 => ?_
        refine k_if ?_ ?_
        · refine k_bo fun _ => ?_
          refine k_call (by decide) hM61 (fun hc => frX13_tabled _ hst hc g_a0) fun v94 M94 _ hM94 => ?_
          refine k_bn fun v97 => ?_
          refine k_if ?_ ?_
          · refine k_bn fun v114 => ?_
            exact hL115 a0 v97 v114 _ g_a0 hM94
          · refine k_bo fun _ => ?_
            refine k_call (by decide) hM94 (fun hc => frX13_fails _ _ _ hst hc g_a0) fun v106 M106 _ hM106 => ?_
            exact k_ret hM106 trivial
        · exact hL71 a0 _ g_a0 hM61
  · exact k_ret hMM trivial
def wkX13_wants : List Nat := [1304, 1305]
set_option maxRecDepth 100000 in
set_option maxHeartbeats 4000000 in
theorem frX13_wants {G : Nat → Prop} {MM : Mem} (a0 : Option Nat) (a1 : Int32) (hst : ∀ k, k < 10 → G k) (hc : Cl G MM) (g_a0 : inG G a0) : okv z01 MM G wkX13_wants (fX13_wants a0 a1 MM) := by
  have hMM : FrG G wkX13_wants MM MM := FrG.rf hc
  have hL30 : ∀ (q0 : Int32) (M : Mem) (hM : FrG G wkX13_wants MM M), okv z01 MM G wkX13_wants (fX13_wants_L30 q0 M) := by
    intro q0 M hM
    unfold fX13_wants_L30
    exact k_retZ hM
  have hL25 : ∀ (M : Mem) (hM : FrG G wkX13_wants MM M), okv z01 MM G wkX13_wants (fX13_wants_L25 M) := by
    intro M hM
    unfold fX13_wants_L25
    exact hL30 1 _ hM
  unfold fX13_wants
  refine k_bo fun v1 => ?_
  refine k_bo fun v5 => ?_
  refine k_if ?_ ?_
  · exact hL25 _ hMM
  · refine k_bo fun v16 => ?_
    refine k_bo fun _ => ?_
    refine k_call (by decide) hMM (fun hc => frX13_fails _ _ _ hst hc g_a0) fun v19 M19 _ hM19 => ?_
    refine k_if ?_ ?_
    · exact hL30 0 _ hM19
    · exact hL25 _ hM19
def wkX13_begin : List Nat := [1339, 1340, 1400, 1500, 1600, 1700, 1800]
set_option maxRecDepth 100000 in
set_option maxHeartbeats 4000000 in
theorem frX13_begin {G : Nat → Prop} {MM : Mem} (a0 : Option Nat) (a1 : Int32) (hst : ∀ k, k < 10 → G k) (hc : Cl G MM) (g_a0 : inG G a0) : okv (fun _ : Unit => True) MM G wkX13_begin (fX13_begin a0 a1 MM) := by
  have hMM : FrG G wkX13_begin MM MM := FrG.rf hc
  have hL139 : ∀ (M : Mem) (hM : FrG G wkX13_begin MM M), okv (fun _ : Unit => True) MM G wkX13_begin (fX13_begin_L139 M) := by
    intro M hM
    unfold fX13_begin_L139
    exact k_ret hM trivial
  have hL116 : ∀ (k54 : Option Nat × Int32 × Int32 → Mem → Option (Unit × Mem)) (hk54 : ∀ a M, (inG G (a.1)) → FrG G wkX13_begin MM M → okv (fun _ : Unit => True) MM G wkX13_begin (k54 a M)) (p0 : Option Nat) (p2 : Int32) (p3 : Int32) (M : Mem) (g_p0 : inG G p0) (hM : FrG G wkX13_begin MM M), okv (fun _ : Unit => True) MM G wkX13_begin (fX13_begin_L116 k54 p0 p2 p3 M) := by
    intro k54 hk54 p0 p2 p3 M g_p0 hM
    unfold fX13_begin_L116
    refine k_bn fun v116 => ?_
    exact hk54 ((p0, p2, v116)) _ g_p0 hM
  have hL103 : ∀ (k54 : Option Nat × Int32 × Int32 → Mem → Option (Unit × Mem)) (hk54 : ∀ a M, (inG G (a.1)) → FrG G wkX13_begin MM M → okv (fun _ : Unit => True) MM G wkX13_begin (k54 a M)) (p0 : Option Nat) (p2 : Int32) (p3 : Int32) (q0 : Option Nat) (q1 : Int32) (q2 : Int64) (M : Mem) (g_p0 : inG G p0) (g_q0 : inG G q0) (hM : FrG G wkX13_begin MM M), okv (fun _ : Unit => True) MM G wkX13_begin (fX13_begin_L103 k54 p0 p2 p3 q0 q1 q2 M) := by
    intro k54 hk54 p0 p2 p3 q0 q1 q2 M g_p0 g_q0 hM
    unfold fX13_begin_L103
    refine k_wJ (by decide) hM g_q0 fun M103 hM103 => ?_
    refine k_if ?_ ?_
    · exact hL116 k54 hk54 p0 p2 p3 _ g_p0 hM103
    · refine k_bo fun _ => ?_
      refine k_call (by decide) hM103 (fun hc => frX13_copyTable _ _ _ hst hc g_p0) fun v113 M113 _ hM113 => ?_
      exact hL116 k54 hk54 p0 p2 p3 _ g_p0 hM113
  have hL54 : ∀ (p0 : Option Nat) (p2 : Int32) (p3 : Int32) (M : Mem) (g_p0 : inG G p0) (hM : FrG G wkX13_begin MM M), okv (fun _ : Unit => True) MM G wkX13_begin (fX13_begin_L54 p0 p2 p3 M) := by
    intro p0 p2 p3 M g_p0 hM
    refine k_lp (T := fun a : Option Nat × Int32 × Int32 => inG G (a.1)) ?_ FU ((p0, p2, p3)) M g_p0 hM
    intro k54 hk54 a M T hM
    obtain ⟨p0, p2, p3⟩ := a
    have g_p0 := T
    show okv (fun _ : Unit => True) MM G wkX13_begin (fX13_begin_B54 k54 p0 p2 p3 M)
    unfold fX13_begin_B54
    refine k_if ?_ ?_
    · refine k_gR hM g_p0 fun v123 g_v123 => ?_
      refine k_wZ (by decide) hM g_v123 fun M128 hM128 => ?_
      refine k_if ?_ ?_
      · exact hL139 _ hM128
      · refine k_bo fun _ => ?_
        refine k_call (by decide) hM128 (fun hc => frX13_copyCode _ _ _ hst hc g_p0) fun v136 M136 _ hM136 => ?_
        exact hL139 _ hM136
    · refine k_gR hM g_p0 fun v60 g_v60 => ?_
      refine k_wZ (by decide) hM g_v60 fun M65 hM65 => ?_
      refine k_gR hM65 g_p0 fun v67 g_v67 => ?_
      refine k_if ?_ ?_
      · refine k_if ?_ ?_
        · exact hL103 k54 hk54 p0 p2 p3 v67 p3 1 _ g_p0 g_v67 hM65
        · exact hL103 k54 hk54 p0 p2 p3 v67 p3 (4 * p3.toInt64) _ g_p0 g_v67 hM65
      · refine k_gR hM65 g_p0 fun v76 g_v76 => ?_
        refine k_bo fun v80 => ?_
        exact hL103 k54 hk54 p0 p2 p3 v67 p3 (v80.toInt64 &&& 4294967295) _ g_p0 g_v67 hM65
  have hL51 : ∀ (p0 : Option Nat) (q0 : Int32) (M : Mem) (g_p0 : inG G p0) (hM : FrG G wkX13_begin MM M), okv (fun _ : Unit => True) MM G wkX13_begin (fX13_begin_L51 p0 q0 M) := by
    intro p0 q0 M g_p0 hM
    unfold fX13_begin_L51
    refine k_bn fun v51 => ?_
    refine k_bn fun v53 => ?_
    exact hL54 p0 v51 v53 _ g_p0 hM
  have hL50 : ∀ (p0 : Option Nat) (M : Mem) (g_p0 : inG G p0) (hM : FrG G wkX13_begin MM M), okv (fun _ : Unit => True) MM G wkX13_begin (fX13_begin_L50 p0 M) := by
    intro p0 M g_p0 hM
    unfold fX13_begin_L50
    exact hL51 p0 0 _ g_p0 hM
  have hL29 : ∀ (p0 : Option Nat) (q0 : Option Nat) (q1 : Int32) (M : Mem) (g_p0 : inG G p0) (g_q0 : inG G q0) (hM : FrG G wkX13_begin MM M), okv (fun _ : Unit => True) MM G wkX13_begin (fX13_begin_L29 p0 q0 q1 M) := by
    intro p0 q0 q1 M g_p0 g_q0 hM
    unfold fX13_begin_L29
    refine k_pZ (by decide) (by decide) hM g_q0 fun M29 hM29 => ?_
    refine k_bo fun v33 => ?_
    refine k_if ?_ ?_
    · exact hL50 p0 _ g_p0 hM29
    · refine k_bo fun v40 => ?_
      refine k_if ?_ ?_
      · exact hL50 p0 _ g_p0 hM29
      · exact hL51 p0 1 _ g_p0 hM29
  have hL28 : ∀ (p0 : Option Nat) (q0 : Option Nat) (M : Mem) (g_p0 : inG G p0) (g_q0 : inG G q0) (hM : FrG G wkX13_begin MM M), okv (fun _ : Unit => True) MM G wkX13_begin (fX13_begin_L28 p0 q0 M) := by
    intro p0 q0 M g_p0 g_q0 hM
    unfold fX13_begin_L28
    exact hL29 p0 q0 0 _ g_p0 g_q0 hM
  unfold fX13_begin
  refine k_bo fun v2 => ?_
  refine k_pI (by decide) (by decide) (by decide) hMM g_a0 fun M5 hM5 => ?_
  refine k_bo fun v10 => ?_
  refine k_if ?_ ?_
  · exact hL28 a0 a0 _ g_a0 g_a0 hM5
  · refine k_bo fun v17 => ?_
    refine k_if ?_ ?_
    · exact hL29 a0 a0 1 _ g_a0 g_a0 hM5
    · exact hL28 a0 a0 _ g_a0 g_a0 hM5
def wkX13_stream : List Nat := [1309, 1310, 1311, 1400]
set_option maxRecDepth 100000 in
set_option maxHeartbeats 4000000 in
theorem frX13_stream {G : Nat → Prop} {MM : Mem} (a0 : Option Nat) (a1 : Int32) (a2 : Int32) (a3 : Int32) (a4 : Int32) (hst : ∀ k, k < 10 → G k) (hc : Cl G MM) (g_a0 : inG G a0) : okv z01 MM G wkX13_stream (fX13_stream a0 a1 a2 a3 a4 MM) := by
  have hMM : FrG G wkX13_stream MM MM := FrG.rf hc
  have hL136 : ∀ (q0 : Int32) (M : Mem) (hM : FrG G wkX13_stream MM M), okv z01 MM G wkX13_stream (fX13_stream_L136 q0 M) := by
    intro q0 M hM
    unfold fX13_stream_L136
    exact k_retZ hM
  have hL47 : ∀ (k22 : Option Nat × Int32 × Int32 × Int32 × Int32 → Mem → Option (Int32 × Mem)) (hk22 : ∀ a M, (inG G (a.1)) → FrG G wkX13_stream MM M → okv z01 MM G wkX13_stream (k22 a M)) (p0 : Option Nat) (p3 : Int32) (p4 : Int32) (p5 : Int32) (p6 : Int32) (q0 : Int32) (M : Mem) (g_p0 : inG G p0) (hM : FrG G wkX13_stream MM M), okv z01 MM G wkX13_stream (fX13_stream_L47 k22 p0 p3 p4 p5 p6 q0 M) := by
    intro k22 hk22 p0 p3 p4 p5 p6 q0 M g_p0 hM
    unfold fX13_stream_L47
    refine k_bn fun v47 => ?_
    refine k_bo fun v50 => ?_
    refine k_bn fun v53 => ?_
    refine k_bo fun _ => ?_
    refine k_call (by decide) hM (fun hc => frX13_back _ _ hst hc g_p0) fun v58 M58 _ hM58 => ?_
    refine k_bn fun v68 => ?_
    refine k_gR hM58 g_p0 fun v71 g_v71 => ?_
    refine k_bo fun v76 => ?_
    refine k_bn fun v77 => ?_
    refine k_gR hM58 g_p0 fun v80 g_v80 => ?_
    refine k_bo fun v85 => ?_
    refine k_bn fun v86 => ?_
    refine k_if ?_ ?_
    · refine k_pI (by decide) (by decide) (by decide) hM58 g_p0 fun M103 hM103 => ?_
      refine k_gR hM103 g_p0 fun v107 g_v107 => ?_
      refine k_wB (by decide) hM103 g_v107 fun M117 hM117 => ?_
      refine k_bn fun v118 => ?_
      exact hk22 ((p0, p3, p4, p5, v118)) _ g_p0 hM117
    · exact k_retZ hM58
  have hL22 : ∀ (p0 : Option Nat) (p3 : Int32) (p4 : Int32) (p5 : Int32) (p6 : Int32) (M : Mem) (g_p0 : inG G p0) (hM : FrG G wkX13_stream MM M), okv z01 MM G wkX13_stream (fX13_stream_L22 p0 p3 p4 p5 p6 M) := by
    intro p0 p3 p4 p5 p6 M g_p0 hM
    refine k_lp (T := fun a : Option Nat × Int32 × Int32 × Int32 × Int32 => inG G (a.1)) ?_ FU ((p0, p3, p4, p5, p6)) M g_p0 hM
    intro k22 hk22 a M T hM
    obtain ⟨p0, p3, p4, p5, p6⟩ := a
    have g_p0 := T
    show okv z01 MM G wkX13_stream (fX13_stream_B22 k22 p0 p3 p4 p5 p6 M)
    unfold fX13_stream_B22
    refine k_if ?_ ?_
    · refine k_bo fun v125 => ?_
      refine k_if ?_ ?_
      · exact hL136 1 _ hM
      · exact hL136 0 _ hM
    · refine k_bo fun v30 => ?_
      refine k_if ?_ ?_
      · exact hL47 k22 hk22 p0 p3 p4 p5 p6 p5 _ g_p0 hM
      · refine k_bo fun v39 => ?_
        exact hL47 k22 hk22 p0 p3 p4 p5 p6 v39 _ g_p0 hM
  unfold fX13_stream
  refine k_bo fun _ => ?_
  refine k_call (by decide) hMM (fun hc => frX13_reversed _ _ _ hst hc g_a0) fun v3 M3 _ hM3 => ?_
  refine k_if ?_ ?_
  · exact k_retZ hM3
  · refine k_gR hM3 g_a0 fun v12 g_v12 => ?_
    refine k_bo fun v16 => ?_
    refine k_bn fun v17 => ?_
    refine k_bn fun v20 => ?_
    exact hL22 a0 a3 a4 v17 v20 _ g_a0 hM3
def wkX13_streams : List Nat := [1309, 1310, 1311, 1400]
set_option maxRecDepth 100000 in
set_option maxHeartbeats 4000000 in
theorem frX13_streams {G : Nat → Prop} {MM : Mem} (a0 : Option Nat) (a1 : Int32) (a2 : Int32) (a3 : Int32) (hst : ∀ k, k < 10 → G k) (hc : Cl G MM) (g_a0 : inG G a0) : okv z01 MM G wkX13_streams (fX13_streams a0 a1 a2 a3 MM) := by
  have hMM : FrG G wkX13_streams MM MM := FrG.rf hc
  have hL99 : ∀ (M : Mem) (hM : FrG G wkX13_streams MM M), okv z01 MM G wkX13_streams (fX13_streams_L99 M) := by
    intro M hM
    unfold fX13_streams_L99
    exact k_retZ hM
  have hL173 : ∀ (k104 : Option Nat × Int32 × Int32 × Int32 × Int32 × Int32 → Mem → Option (Int32 × Mem)) (hk104 : ∀ a M, (inG G (a.1)) → FrG G wkX13_streams MM M → okv z01 MM G wkX13_streams (k104 a M)) (p0 : Option Nat) (p1 : Int32) (p2 : Int32) (p4 : Int32) (p5 : Int32) (p7 : Int32) (p8 : Int32) (q0 : Option Nat) (q1 : Int32) (q2 : Int32) (q3 : Int32) (q4 : Int32) (M : Mem) (g_p0 : inG G p0) (g_q0 : inG G q0) (hM : FrG G wkX13_streams MM M), okv z01 MM G wkX13_streams (fX13_streams_L173 k104 p0 p1 p2 p4 p5 p7 p8 q0 q1 q2 q3 q4 M) := by
    intro k104 hk104 p0 p1 p2 p4 p5 p7 p8 q0 q1 q2 q3 q4 M g_p0 g_q0 hM
    unfold fX13_streams_L173
    refine k_bo fun _ => ?_
    refine k_call (by decide) hM (fun hc => frX13_stream _ _ _ _ _ hst hc g_q0) fun v173 M173 _ hM173 => ?_
    refine k_if ?_ ?_
    · exact k_retZ hM173
    · refine k_bn fun v186 => ?_
      refine k_bn fun v188 => ?_
      exact hk104 ((p0, p1, p2, p4, v186, v188)) _ g_p0 hM173
  have hL138 : ∀ (k104 : Option Nat × Int32 × Int32 × Int32 × Int32 × Int32 → Mem → Option (Int32 × Mem)) (hk104 : ∀ a M, (inG G (a.1)) → FrG G wkX13_streams MM M → okv z01 MM G wkX13_streams (k104 a M)) (p0 : Option Nat) (p1 : Int32) (p2 : Int32) (p4 : Int32) (p5 : Int32) (p7 : Int32) (q0 : Int32) (M : Mem) (g_p0 : inG G p0) (hM : FrG G wkX13_streams MM M), okv z01 MM G wkX13_streams (fX13_streams_L138 k104 p0 p1 p2 p4 p5 p7 q0 M) := by
    intro k104 hk104 p0 p1 p2 p4 p5 p7 q0 M g_p0 hM
    unfold fX13_streams_L138
    refine k_bn fun v138 => ?_
    refine k_if ?_ ?_
    · refine k_bo fun v165 => ?_
      exact hL173 k104 hk104 p0 p1 p2 p4 p5 p7 v138 p0 p5 (p5 + v138) (p7 * p4) (v165 - (3 * p4)) _ g_p0 g_p0 hM
    · exact hL173 k104 hk104 p0 p1 p2 p4 p5 p7 v138 p0 p5 (p5 + v138) (p7 * p4) p4 _ g_p0 g_p0 hM
  have hL104 : ∀ (p0 : Option Nat) (p1 : Int32) (p2 : Int32) (p4 : Int32) (p5 : Int32) (p7 : Int32) (M : Mem) (g_p0 : inG G p0) (hM : FrG G wkX13_streams MM M), okv z01 MM G wkX13_streams (fX13_streams_L104 p0 p1 p2 p4 p5 p7 M) := by
    intro p0 p1 p2 p4 p5 p7 M g_p0 hM
    refine k_lp (T := fun a : Option Nat × Int32 × Int32 × Int32 × Int32 × Int32 => inG G (a.1)) ?_ FU ((p0, p1, p2, p4, p5, p7)) M g_p0 hM
    intro k104 hk104 a M T hM
    obtain ⟨p0, p1, p2, p4, p5, p7⟩ := a
    have g_p0 := T
    show okv z01 MM G wkX13_streams (fX13_streams_B104 k104 p0 p1 p2 p4 p5 p7 M)
    unfold fX13_streams_B104
    refine k_if ?_ ?_
    · exact k_retZ hM
    · refine k_if ?_ ?_
      · exact hL138 k104 hk104 p0 p1 p2 p4 p5 p7 (p2 - p5) _ g_p0 hM
      · refine k_gR hM g_p0 fun v117 g_v117 => ?_
        refine k_call (by decide) hM (fun hc => frX13_eight _ _ _ hst hc g_v117) fun v127 M127 _ hM127 => ?_
        exact hL138 k104 hk104 p0 p1 p2 p4 p5 p7 v127.toInt32 _ g_p0 hM127
  unfold fX13_streams
  refine k_if ?_ ?_
  · refine k_bo fun v9 => ?_
    refine k_bo fun _ => ?_
    refine k_call (by decide) hMM (fun hc => frX13_stream _ _ _ _ _ hst hc g_a0) fun v12 M12 _ hM12 => ?_
    exact k_retZ hM12
  · refine k_if ?_ ?_
    · refine k_bo fun v27 => ?_
      refine k_bo fun v33 => ?_
      refine k_bn fun v34 => ?_
      refine k_bn fun v40 => ?_
      refine k_gR hMM g_a0 fun v43 g_v43 => ?_
      refine k_call (by decide) hMM (fun hc => frX13_eight _ _ _ hst hc g_v43) fun v48 M48 _ hM48 => ?_
      refine k_gR hM48 g_a0 fun v52 g_v52 => ?_
      refine k_call (by decide) hM48 (fun hc => frX13_eight _ _ _ hst hc g_v52) fun v59 M59 _ hM59 => ?_
      refine k_gR hM59 g_a0 fun v64 g_v64 => ?_
      refine k_call (by decide) hM59 (fun hc => frX13_eight _ _ _ hst hc g_v64) fun v71 M71 _ hM71 => ?_
      refine k_bn fun v76 => ?_
      refine k_if ?_ ?_
      · exact hL99 _ hM71
      · refine k_bo fun v88 => ?_
        refine k_if ?_ ?_
        · refine k_bn fun v102 => ?_
          exact hL104 a0 a1 a2 v34 v40 v102 _ g_a0 hM71
        · exact hL99 _ hM71
    · exact k_retZ hMM
def wkX13_lettersFrom : List Nat := [1304, 1305, 1307, 1308, 1309, 1310, 1311, 1313, 1337, 1400, 1500, 1700, 1800]
set_option maxRecDepth 100000 in
set_option maxHeartbeats 4000000 in
theorem frX13_lettersFrom {G : Nat → Prop} {MM : Mem} (a0 : Option Nat) (a1 : Int32) (a2 : Int32) (hst : ∀ k, k < 10 → G k) (hc : Cl G MM) (g_a0 : inG G a0) : okv (fun _ : Int32 => True) MM G wkX13_lettersFrom (fX13_lettersFrom a0 a1 a2 MM) := by
  have hMM : FrG G wkX13_lettersFrom MM MM := FrG.rf hc
  have hL314 : ∀ (p0 : Option Nat) (p1 : Int32) (M : Mem) (g_p0 : inG G p0) (hM : FrG G wkX13_lettersFrom MM M), okv (fun _ : Int32 => True) MM G wkX13_lettersFrom (fX13_lettersFrom_L314 p0 p1 M) := by
    intro p0 p1 M g_p0 hM
    unfold fX13_lettersFrom_L314
    refine k_bo fun _ => ?_
    refine k_call (by decide) hM (fun hc => frX13_fails _ _ _ hst hc g_p0) fun v318 M318 _ hM318 => ?_
    exact k_ret hM318 trivial
  have hL420 : ∀ (p8 : Int32) (p10 : Int32) (M : Mem) (hM : FrG G wkX13_lettersFrom MM M), okv (fun _ : Int32 => True) MM G wkX13_lettersFrom (fX13_lettersFrom_L420 p8 p10 M) := by
    intro p8 p10 M hM
    unfold fX13_lettersFrom_L420
    exact k_ret hM trivial
  have hL405 : ∀ (p0 : Option Nat) (p8 : Int32) (p10 : Int32) (p11 : Int32) (q0 : Option Nat) (q1 : Int32) (q2 : Int32) (q3 : Int32) (M : Mem) (g_p0 : inG G p0) (g_q0 : inG G q0) (hM : FrG G wkX13_lettersFrom MM M), okv (fun _ : Int32 => True) MM G wkX13_lettersFrom (fX13_lettersFrom_L405 p0 p8 p10 p11 q0 q1 q2 q3 M) := by
    intro p0 p8 p10 p11 q0 q1 q2 q3 M g_p0 g_q0 hM
    unfold fX13_lettersFrom_L405
    refine k_bo fun _ => ?_
    refine k_call (by decide) hM (fun hc => frX13_streams _ _ _ _ hst hc g_q0) fun v405 M405 _ hM405 => ?_
    refine k_if ?_ ?_
    · refine k_bo fun _ => ?_
      refine k_call (by decide) hM405 (fun hc => frX13_fails _ _ _ hst hc g_p0) fun v416 M416 _ hM416 => ?_
      exact hL420 p8 p10 _ hM416
    · exact hL420 p8 p10 _ hM405
  have hL387 : ∀ (p0 : Option Nat) (p4 : Int32) (p8 : Int32) (p10 : Int32) (p11 : Int32) (M : Mem) (g_p0 : inG G p0) (hM : FrG G wkX13_lettersFrom MM M), okv (fun _ : Int32 => True) MM G wkX13_lettersFrom (fX13_lettersFrom_L387 p0 p4 p8 p10 p11 M) := by
    intro p0 p4 p8 p10 p11 M g_p0 hM
    unfold fX13_lettersFrom_L387
    refine k_if ?_ ?_
    · exact hL405 p0 p8 p10 p11 p0 p11 (p8 + p10) 0 _ g_p0 g_p0 hM
    · exact hL405 p0 p8 p10 p11 p0 p11 (p8 + p10) 1 _ g_p0 g_p0 hM
  have hL348 : ∀ (p0 : Option Nat) (p1 : Int32) (p3 : Int32) (p4 : Int32) (p8 : Int32) (p10 : Int32) (M : Mem) (g_p0 : inG G p0) (hM : FrG G wkX13_lettersFrom MM M), okv (fun _ : Int32 => True) MM G wkX13_lettersFrom (fX13_lettersFrom_L348 p0 p1 p3 p4 p8 p10 M) := by
    intro p0 p1 p3 p4 p8 p10 M g_p0 hM
    unfold fX13_lettersFrom_L348
    refine k_bn fun v350 => ?_
    refine k_if ?_ ?_
    · refine k_bo fun _ => ?_
      refine k_call (by decide) hM (fun hc => frX13_code _ _ _ _ hst hc g_p0) fun v366 M366 _ hM366 => ?_
      refine k_bn fun v369 => ?_
      refine k_if ?_ ?_
      · exact hL387 p0 p4 p8 p10 v369 _ g_p0 hM366
      · refine k_bo fun _ => ?_
        refine k_call (by decide) hM366 (fun hc => frX13_fails _ _ _ hst hc g_p0) fun v381 M381 _ hM381 => ?_
        exact k_ret hM381 trivial
    · exact hL387 p0 p4 p8 p10 v350 _ g_p0 hM
  have hL259 : ∀ (p0 : Option Nat) (p1 : Int32) (p2 : Int32) (p3 : Int32) (p4 : Int32) (p6 : Int64) (p8 : Int32) (q0 : Int32) (M : Mem) (g_p0 : inG G p0) (hM : FrG G wkX13_lettersFrom MM M), okv (fun _ : Int32 => True) MM G wkX13_lettersFrom (fX13_lettersFrom_L259 p0 p1 p2 p3 p4 p6 p8 q0 M) := by
    intro p0 p1 p2 p3 p4 p6 p8 q0 M g_p0 hM
    unfold fX13_lettersFrom_L259
    refine k_bn fun v259 => ?_
    refine k_pI (by decide) (by decide) (by decide) hM g_p0 fun M274 hM274 => ?_
    refine k_bn fun v292 => ?_
    refine k_bo fun v295 => ?_
    refine k_bo fun v299 => ?_
    refine k_if ?_ ?_
    · exact hL314 p0 p1 _ g_p0 hM274
    · refine k_if ?_ ?_
      · refine k_if ?_ ?_
        · refine k_gR hM274 g_p0 fun v330 g_v330 => ?_
          refine k_bo fun v334 => ?_
          refine k_if ?_ ?_
          · refine k_bo fun _ => ?_
            refine k_call (by decide) hM274 (fun hc => frX13_fails _ _ _ hst hc g_p0) fun v342 M342 _ hM342 => ?_
            exact k_ret hM342 trivial
          · exact hL348 p0 p1 p3 p4 p8 v292 _ g_p0 hM274
        · exact hL348 p0 p1 p3 p4 p8 v292 _ g_p0 hM274
      · exact hL314 p0 p1 _ g_p0 hM274
  have hL175 : ∀ (p0 : Option Nat) (p1 : Int32) (M : Mem) (g_p0 : inG G p0) (hM : FrG G wkX13_lettersFrom MM M), okv (fun _ : Int32 => True) MM G wkX13_lettersFrom (fX13_lettersFrom_L175 p0 p1 M) := by
    intro p0 p1 M g_p0 hM
    unfold fX13_lettersFrom_L175
    refine k_bo fun _ => ?_
    refine k_call (by decide) hM (fun hc => frX13_fails _ _ _ hst hc g_p0) fun v179 M179 _ hM179 => ?_
    exact k_ret hM179 trivial
  have hL221 : ∀ (k188 : Option Nat × Int32 × Int32 × Int32 × Int32 → Mem → Option (Int32 × Mem)) (hk188 : ∀ a M, (inG G (a.1)) → FrG G wkX13_lettersFrom MM M → okv (fun _ : Int32 => True) MM G wkX13_lettersFrom (k188 a M)) (p0 : Option Nat) (p3 : Int32) (p8 : Int32) (p9 : Int32) (p10 : Int32) (q0 : Option Nat) (q1 : Int32) (q2 : Option Nat) (q3 : Int32) (M : Mem) (g_p0 : inG G p0) (g_q0 : inG G q0) (g_q2 : inG G q2) (hM : FrG G wkX13_lettersFrom MM M), okv (fun _ : Int32 => True) MM G wkX13_lettersFrom (fX13_lettersFrom_L221 k188 p0 p3 p8 p9 p10 q0 q1 q2 q3 M) := by
    intro k188 hk188 p0 p3 p8 p9 p10 q0 q1 q2 q3 M g_p0 g_q0 g_q2 hM
    unfold fX13_lettersFrom_L221
    refine k_bo fun v221 => ?_
    refine k_wB (by decide) hM g_q0 fun M222 hM222 => ?_
    refine k_bn fun v223 => ?_
    exact hk188 ((p0, p3, p8, p9, v223)) _ g_p0 hM222
  have hL188 : ∀ (p0 : Option Nat) (p3 : Int32) (p8 : Int32) (p9 : Int32) (p10 : Int32) (M : Mem) (g_p0 : inG G p0) (hM : FrG G wkX13_lettersFrom MM M), okv (fun _ : Int32 => True) MM G wkX13_lettersFrom (fX13_lettersFrom_L188 p0 p3 p8 p9 p10 M) := by
    intro p0 p3 p8 p9 p10 M g_p0 hM
    refine k_lp (T := fun a : Option Nat × Int32 × Int32 × Int32 × Int32 => inG G (a.1)) ?_ FU ((p0, p3, p8, p9, p10)) M g_p0 hM
    intro k188 hk188 a M T hM
    obtain ⟨p0, p3, p8, p9, p10⟩ := a
    have g_p0 := T
    show okv (fun _ : Int32 => True) MM G wkX13_lettersFrom (fX13_lettersFrom_B188 k188 p0 p3 p8 p9 p10 M)
    unfold fX13_lettersFrom_B188
    refine k_bo fun v191 => ?_
    refine k_if ?_ ?_
    · exact k_ret hM trivial
    · refine k_gR hM g_p0 fun v198 g_v198 => ?_
      refine k_gR hM g_p0 fun v204 g_v204 => ?_
      refine k_if ?_ ?_
      · exact hL221 k188 hk188 p0 p3 p8 p9 p10 v198 p10 v204 (p8 + p10) _ g_p0 g_v198 g_v204 hM
      · exact hL221 k188 hk188 p0 p3 p8 p9 p10 v198 p10 v204 p8 _ g_p0 g_v198 g_v204 hM
  have hL153 : ∀ (p0 : Option Nat) (p1 : Int32) (p2 : Int32) (p3 : Int32) (p8 : Int32) (q0 : Int32) (M : Mem) (g_p0 : inG G p0) (hM : FrG G wkX13_lettersFrom MM M), okv (fun _ : Int32 => True) MM G wkX13_lettersFrom (fX13_lettersFrom_L153 p0 p1 p2 p3 p8 q0 M) := by
    intro p0 p1 p2 p3 p8 q0 M g_p0 hM
    unfold fX13_lettersFrom_L153
    refine k_bn fun v153 => ?_
    refine k_bo fun v156 => ?_
    refine k_bo fun v160 => ?_
    refine k_if ?_ ?_
    · exact hL175 p0 p1 _ g_p0 hM
    · refine k_if ?_ ?_
      · refine k_bn fun v186 => ?_
        exact hL188 p0 p3 p8 v153 v186 _ g_p0 hM
      · exact hL175 p0 p1 _ g_p0 hM
  have hL136 : ∀ (p0 : Option Nat) (p1 : Int32) (p2 : Int32) (p3 : Int32) (p8 : Int32) (q0 : Option Nat) (q1 : Int64) (q2 : Int32) (M : Mem) (g_p0 : inG G p0) (g_q0 : inG G q0) (hM : FrG G wkX13_lettersFrom MM M), okv (fun _ : Int32 => True) MM G wkX13_lettersFrom (fX13_lettersFrom_L136 p0 p1 p2 p3 p8 q0 q1 q2 M) := by
    intro p0 p1 p2 p3 p8 q0 q1 q2 M g_p0 g_q0 hM
    unfold fX13_lettersFrom_L136
    refine k_pI (by decide) (by decide) (by decide) hM g_q0 fun M138 hM138 => ?_
    refine k_if ?_ ?_
    · refine k_bo fun v146 => ?_
      exact hL153 p0 p1 p2 p3 p8 v146 _ g_p0 hM138
    · exact hL153 p0 p1 p2 p3 p8 1 _ g_p0 hM138
  have hL79 : ∀ (p0 : Option Nat) (p1 : Int32) (p2 : Int32) (p3 : Int32) (p4 : Int32) (q0 : Int32) (M : Mem) (g_p0 : inG G p0) (hM : FrG G wkX13_lettersFrom MM M), okv (fun _ : Int32 => True) MM G wkX13_lettersFrom (fX13_lettersFrom_L79 p0 p1 p2 p3 p4 q0 M) := by
    intro p0 p1 p2 p3 p4 q0 M g_p0 hM
    unfold fX13_lettersFrom_L79
    refine k_bn fun v79 => ?_
    refine k_if ?_ ?_
    · refine k_gR hM g_p0 fun v100 g_v100 => ?_
      refine k_call (by decide) hM (fun hc => frX13_eight _ _ _ hst hc g_v100) fun v106 M106 _ hM106 => ?_
      refine k_bn fun v109 => ?_
      refine k_bn fun v115 => ?_
      refine k_if ?_ ?_
      · refine k_if ?_ ?_
        · refine k_if ?_ ?_
          · exact hL259 p0 p1 p2 p3 p4 v109 v115 14 _ g_p0 hM106
          · exact hL259 p0 p1 p2 p3 p4 v109 v115 18 _ g_p0 hM106
        · exact hL259 p0 p1 p2 p3 p4 v109 v115 10 _ g_p0 hM106
      · refine k_if ?_ ?_
        · exact hL136 p0 p1 p2 p3 v115 p0 v109 3 _ g_p0 g_p0 hM106
        · exact hL136 p0 p1 p2 p3 v115 p0 v109 4 _ g_p0 g_p0 hM106
    · refine k_bo fun _ => ?_
      refine k_call (by decide) hM (fun hc => frX13_fails _ _ _ hst hc g_p0) fun v93 M93 _ hM93 => ?_
      exact k_ret hM93 trivial
  unfold fX13_lettersFrom
  refine k_if ?_ ?_
  · refine k_gR hMM g_a0 fun v16 g_v16 => ?_
    refine k_bo fun v20 => ?_
    refine k_bn fun v23 => ?_
    refine k_gR hMM g_a0 fun v25 g_v25 => ?_
    refine k_bo fun v29 => ?_
    refine k_bn fun v34 => ?_
    refine k_if ?_ ?_
    · refine k_if ?_ ?_
      · exact hL79 a0 a1 a2 v23 v34 (v34 + 2) _ g_a0 hMM
      · exact hL79 a0 a1 a2 v23 v34 3 _ g_a0 hMM
    · refine k_if ?_ ?_
      · exact hL79 a0 a1 a2 v23 v34 2 _ g_a0 hMM
      · refine k_if ?_ ?_
        · exact hL79 a0 a1 a2 v23 v34 3 _ g_a0 hMM
        · exact hL79 a0 a1 a2 v23 v34 1 _ g_a0 hMM
  · refine k_bo fun _ => ?_
    refine k_call (by decide) hMM (fun hc => frX13_fails _ _ _ hst hc g_a0) fun v9 M9 _ hM9 => ?_
    exact k_ret hM9 trivial
def wkX13_toldTable : List Nat := [1304, 1305, 1307, 1308, 1309, 1313, 1352, 1400, 1500, 1700, 1800]
set_option maxRecDepth 100000 in
set_option maxHeartbeats 4000000 in
theorem frX13_toldTable {G : Nat → Prop} {MM : Mem} (a0 : Option Nat) (a1 : Int32) (a2 : Int32) (a3 : Int32) (a4 : Int32) (hst : ∀ k, k < 10 → G k) (hc : Cl G MM) (g_a0 : inG G a0) : okv z01 MM G wkX13_toldTable (fX13_toldTable a0 a1 a2 a3 a4 MM) := by
  have hMM : FrG G wkX13_toldTable MM MM := FrG.rf hc
  have hL166 : ∀ (M : Mem) (hM : FrG G wkX13_toldTable MM M), okv z01 MM G wkX13_toldTable (fX13_toldTable_L166 M) := by
    intro M hM
    unfold fX13_toldTable_L166
    exact k_retZ hM
  have hL77 : ∀ (p0 : Option Nat) (M : Mem) (g_p0 : inG G p0) (hM : FrG G wkX13_toldTable MM M), okv z01 MM G wkX13_toldTable (fX13_toldTable_L77 p0 M) := by
    intro p0 M g_p0 hM
    unfold fX13_toldTable_L77
    refine k_bo fun v81 => ?_
    refine k_bo fun _ => ?_
    refine k_call (by decide) hM (fun hc => frX13_fails _ _ _ hst hc g_p0) fun v84 M84 _ hM84 => ?_
    exact k_retZ hM84
  have hL42 : ∀ (q0 : Int32) (M : Mem) (hM : FrG G wkX13_toldTable MM M), okv z01 MM G wkX13_toldTable (fX13_toldTable_L42 q0 M) := by
    intro q0 M hM
    unfold fX13_toldTable_L42
    exact k_retZ hM
  have hL37 : ∀ (M : Mem) (hM : FrG G wkX13_toldTable MM M), okv z01 MM G wkX13_toldTable (fX13_toldTable_L37 M) := by
    intro M hM
    unfold fX13_toldTable_L37
    exact hL42 1 _ hM
  unfold fX13_toldTable
  refine k_if ?_ ?_
  · refine k_bo fun _ => ?_
    refine k_call (by decide) hMM (fun hc => frX13_defaults _ _ _ hst hc g_a0) fun v7 M7 _ hM7 => ?_
    exact hL166 _ hM7
  · refine k_if ?_ ?_
    · refine k_gR hMM g_a0 fun v19 g_v19 => ?_
      refine k_bo fun v23 => ?_
      refine k_if ?_ ?_
      · refine k_bo fun _ => ?_
        refine k_call (by decide) hMM (fun hc => frX13_fails _ _ _ hst hc g_a0) fun v31 M31 _ hM31 => ?_
        refine k_if ?_ ?_
        · exact hL42 0 _ hM31
        · exact hL37 _ hM31
      · exact hL37 _ hMM
    · refine k_if ?_ ?_
      · refine k_bo fun v49 => ?_
        refine k_if ?_ ?_
        · exact hL77 a0 _ g_a0 hMM
        · refine k_gR hMM g_a0 fun v58 g_v58 => ?_
          refine k_bo fun v62 => ?_
          refine k_bo fun v65 => ?_
          refine k_call (by decide) hMM (fun hc => frX13_greatest _ hst hc) fun v71 M71 _ hM71 => ?_
          refine k_if ?_ ?_
          · refine k_gR hM71 g_a0 fun v91 g_v91 => ?_
            refine k_bo fun v95 => ?_
            refine k_bo fun v98 => ?_
            refine k_bo fun _ => ?_
            refine k_call (by decide) hM71 (fun hc => frX13_alone _ _ _ hst hc g_a0) fun v103 M103 _ hM103 => ?_
            refine k_bo fun v108 => ?_
            refine k_pI (by decide) (by decide) (by decide) hM103 g_a0 fun M113 hM113 => ?_
            exact hL166 _ hM113
          · exact hL77 a0 _ g_a0 hM71
      · refine k_bo fun v121 => ?_
        refine k_call (by decide) hMM (fun hc => frX13_greatest _ hst hc) fun v127 M127 _ hM127 => ?_
        refine k_call (by decide) hM127 (fun hc => frX13_mostLog _ hst hc) fun v131 M131 _ hM131 => ?_
        refine k_bo fun _ => ?_
        refine k_call (by decide) hM131 (fun hc => frX13_toldCounts _ _ _ _ _ hst hc g_a0) fun v134 M134 _ hM134 => ?_
        refine k_bn fun v137 => ?_
        refine k_if ?_ ?_
        · refine k_bo fun _ => ?_
          refine k_call (by decide) hM134 (fun hc => frX13_table _ _ hst hc g_a0) fun v157 M157 _ hM157 => ?_
          refine k_pI (by decide) (by decide) (by decide) hM157 g_a0 fun M163 hM163 => ?_
          exact hL166 _ hM163
        · refine k_bo fun v148 => ?_
          refine k_bo fun _ => ?_
          refine k_call (by decide) hM134 (fun hc => frX13_fails _ _ _ hst hc g_a0) fun v151 M151 _ hM151 => ?_
          exact k_retZ hM151
def wkX13_copyBase : List Nat := []
set_option maxRecDepth 100000 in
set_option maxHeartbeats 4000000 in
theorem frX13_copyBase {G : Nat → Prop} {MM : Mem} (a0 : Int32) (hst : ∀ k, k < 10 → G k) (hc : Cl G MM) : okv (fun _ : Int32 => True) MM G wkX13_copyBase (fX13_copyBase a0 MM) := by
  have hMM : FrG G wkX13_copyBase MM MM := FrG.rf hc
  have hL112 : ∀ (q0 : Int32) (M : Mem) (hM : FrG G wkX13_copyBase MM M), okv (fun _ : Int32 => True) MM G wkX13_copyBase (fX13_copyBase_L112 q0 M) := by
    intro q0 M hM
    unfold fX13_copyBase_L112
    exact k_ret hM trivial
  unfold fX13_copyBase
  refine k_if ?_ ?_
  · refine k_if ?_ ?_
    · refine k_if ?_ ?_
      · exact k_ret hMM trivial
      · refine k_if ?_ ?_
        · exact hL112 43 _ hMM
        · refine k_if ?_ ?_
          · exact hL112 47 _ hMM
          · refine k_if ?_ ?_
            · exact hL112 51 _ hMM
            · refine k_if ?_ ?_
              · exact hL112 59 _ hMM
              · refine k_if ?_ ?_
                · exact hL112 67 _ hMM
                · refine k_if ?_ ?_
                  · exact hL112 83 _ hMM
                  · refine k_if ?_ ?_
                    · exact hL112 99 _ hMM
                    · exact hL112 131 _ hMM
    · exact k_ret hMM trivial
  · exact k_ret hMM trivial
def wkX13_copyBits : List Nat := []
set_option maxRecDepth 100000 in
set_option maxHeartbeats 4000000 in
theorem frX13_copyBits {G : Nat → Prop} {MM : Mem} (a0 : Int32) (hst : ∀ k, k < 10 → G k) (hc : Cl G MM) : okv (fun _ : Int32 => True) MM G wkX13_copyBits (fX13_copyBits a0 MM) := by
  have hMM : FrG G wkX13_copyBits MM MM := FrG.rf hc
  have hL64 : ∀ (q0 : Int32) (M : Mem) (hM : FrG G wkX13_copyBits MM M), okv (fun _ : Int32 => True) MM G wkX13_copyBits (fX13_copyBits_L64 q0 M) := by
    intro q0 M hM
    unfold fX13_copyBits_L64
    exact k_ret hM trivial
  unfold fX13_copyBits
  refine k_if ?_ ?_
  · refine k_if ?_ ?_
    · refine k_if ?_ ?_
      · refine k_if ?_ ?_
        · refine k_if ?_ ?_
          · refine k_if ?_ ?_
            · exact hL64 5 _ hMM
            · exact hL64 (a0 - 36) _ hMM
          · exact hL64 4 _ hMM
        · exact hL64 3 _ hMM
      · exact hL64 2 _ hMM
    · exact hL64 1 _ hMM
  · exact hL64 0 _ hMM
def wkX13_letterBase : List Nat := []
set_option maxRecDepth 100000 in
set_option maxHeartbeats 4000000 in
theorem frX13_letterBase {G : Nat → Prop} {MM : Mem} (a0 : Int32) (hst : ∀ k, k < 10 → G k) (hc : Cl G MM) : okv (fun _ : Int32 => True) MM G wkX13_letterBase (fX13_letterBase a0 MM) := by
  have hMM : FrG G wkX13_letterBase MM MM := FrG.rf hc
  have hL86 : ∀ (q0 : Int32) (M : Mem) (hM : FrG G wkX13_letterBase MM M), okv (fun _ : Int32 => True) MM G wkX13_letterBase (fX13_letterBase_L86 q0 M) := by
    intro q0 M hM
    unfold fX13_letterBase_L86
    exact k_ret hM trivial
  unfold fX13_letterBase
  refine k_if ?_ ?_
  · refine k_if ?_ ?_
    · refine k_if ?_ ?_
      · exact hL86 24 _ hMM
      · refine k_if ?_ ?_
        · exact hL86 28 _ hMM
        · refine k_if ?_ ?_
          · exact hL86 32 _ hMM
          · refine k_if ?_ ?_
            · exact hL86 40 _ hMM
            · refine k_if ?_ ?_
              · exact hL86 48 _ hMM
              · exact hL86 (shlI 64 (a0 - 25)) _ hMM
    · exact k_ret hMM trivial
  · exact k_ret hMM trivial
def wkX13_letterBits : List Nat := []
set_option maxRecDepth 100000 in
set_option maxHeartbeats 4000000 in
theorem frX13_letterBits {G : Nat → Prop} {MM : Mem} (a0 : Int32) (hst : ∀ k, k < 10 → G k) (hc : Cl G MM) : okv (fun _ : Int32 => True) MM G wkX13_letterBits (fX13_letterBits a0 MM) := by
  have hMM : FrG G wkX13_letterBits MM MM := FrG.rf hc
  have hL54 : ∀ (q0 : Int32) (M : Mem) (hM : FrG G wkX13_letterBits MM M), okv (fun _ : Int32 => True) MM G wkX13_letterBits (fX13_letterBits_L54 q0 M) := by
    intro q0 M hM
    unfold fX13_letterBits_L54
    exact k_ret hM trivial
  unfold fX13_letterBits
  refine k_if ?_ ?_
  · refine k_if ?_ ?_
    · refine k_if ?_ ?_
      · refine k_if ?_ ?_
        · refine k_if ?_ ?_
          · exact hL54 4 _ hMM
          · exact hL54 (a0 - 19) _ hMM
        · exact hL54 3 _ hMM
      · exact hL54 2 _ hMM
    · exact hL54 1 _ hMM
  · exact hL54 0 _ hMM
def wkX13_meant : List Nat := []
set_option maxRecDepth 100000 in
set_option maxHeartbeats 4000000 in
theorem frX13_meant {G : Nat → Prop} {MM : Mem} (a0 : Int64) (a2 : Int32) (hst : ∀ k, k < 10 → G k) (hc : Cl G MM) : okv (fun _ : Int32 => True) MM G wkX13_meant (fX13_meant a0 a2 MM) := by
  have hMM : FrG G wkX13_meant MM MM := FrG.rf hc
  have hL24 : ∀ (q0 : Int32) (M : Mem) (hM : FrG G wkX13_meant MM M), okv (fun _ : Int32 => True) MM G wkX13_meant (fX13_meant_L24 q0 M) := by
    intro q0 M hM
    unfold fX13_meant_L24
    exact k_ret hM trivial
  have hL23 : ∀ (q0 : Int32) (q1 : Int32) (M : Mem) (hM : FrG G wkX13_meant MM M), okv (fun _ : Int32 => True) MM G wkX13_meant (fX13_meant_L23 q0 q1 M) := by
    intro q0 q1 M hM
    unfold fX13_meant_L23
    exact hL24 (q0 - q1) _ hM
  unfold fX13_meant
  refine k_if ?_ ?_
  · refine k_if ?_ ?_
    · exact hL23 a0.toInt32 0 _ hMM
    · exact hL23 a0.toInt32 1 _ hMM
  · exact hL24 4 _ hMM
def wkX13_offsetOf : List Nat := [1600]
set_option maxRecDepth 100000 in
set_option maxHeartbeats 4000000 in
theorem frX13_offsetOf {G : Nat → Prop} {MM : Mem} (a0 : Option Nat) (a1 : Option Nat) (a2 : Int64) (a4 : Int32) (hst : ∀ k, k < 10 → G k) (hc : Cl G MM) (g_a0 : inG G a0) (g_a1 : inG G a1) : okv (fun _ : Int64 => True) MM G wkX13_offsetOf (fX13_offsetOf a0 a1 a2 a4 MM) := by
  have hMM : FrG G wkX13_offsetOf MM MM := FrG.rf hc
  have hL65 : ∀ (p1 : Option Nat) (p6 : Int64) (M : Mem) (g_p1 : inG G p1) (hM : FrG G wkX13_offsetOf MM M), okv (fun _ : Int64 => True) MM G wkX13_offsetOf (fX13_offsetOf_L65 p1 p6 M) := by
    intro p1 p6 M g_p1 hM
    unfold fX13_offsetOf_L65
    refine k_wJ (by decide) hM g_p1 fun M69 hM69 => ?_
    exact k_ret hM69 trivial
  have hL54 : ∀ (p1 : Option Nat) (p5 : Int32) (p6 : Int64) (M : Mem) (g_p1 : inG G p1) (hM : FrG G wkX13_offsetOf MM M), okv (fun _ : Int64 => True) MM G wkX13_offsetOf (fX13_offsetOf_L54 p1 p5 p6 M) := by
    intro p1 p5 p6 M g_p1 hM
    unfold fX13_offsetOf_L54
    refine k_if ?_ ?_
    · exact hL65 p1 p6 _ g_p1 hM
    · refine k_bo fun v63 => ?_
      refine k_wJ (by decide) hM g_p1 fun M64 hM64 => ?_
      exact hL65 p1 p6 _ g_p1 hM64
  have hL40 : ∀ (p1 : Option Nat) (p5 : Int32) (q0 : Int64) (M : Mem) (g_p1 : inG G p1) (hM : FrG G wkX13_offsetOf MM M), okv (fun _ : Int64 => True) MM G wkX13_offsetOf (fX13_offsetOf_L40 p1 p5 q0 M) := by
    intro p1 p5 q0 M g_p1 hM
    unfold fX13_offsetOf_L40
    refine k_bn fun v40 => ?_
    refine k_if ?_ ?_
    · exact hL54 p1 p5 v40 _ g_p1 hM
    · refine k_bo fun v52 => ?_
      refine k_wJ (by decide) hM g_p1 fun M53 hM53 => ?_
      exact hL54 p1 p5 v40 _ g_p1 hM53
  unfold fX13_offsetOf
  refine k_call (by decide) hMM (fun hc => frX13_meant _ _ hst hc) fun v3 M3 _ hM3 => ?_
  refine k_bn fun v6 => ?_
  refine k_if ?_ ?_
  · exact hL40 a1 v6 (a2 - 3) _ g_a1 hM3
  · refine k_if ?_ ?_
    · refine k_bo fun v30 => ?_
      exact hL40 a1 v6 (v30 - 1) _ g_a1 hM3
    · refine k_bo fun v39 => ?_
      exact hL40 a1 v6 v39 _ g_a1 hM3
def wkX13_sequence : List Nat := [1304, 1305, 1335, 1338, 1346, 1400, 1500, 1600]
set_option maxRecDepth 100000 in
set_option maxHeartbeats 4000000 in
theorem frX13_sequence {G : Nat → Prop} {MM : Mem} (a0 : Option Nat) (a1 : Int32) (a2 : Int32) (a3 : Int64) (a5 : Int32) (hst : ∀ k, k < 10 → G k) (hc : Cl G MM) (g_a0 : inG G a0) : okv (fun _ : Unit => True) MM G wkX13_sequence (fX13_sequence a0 a1 a2 a3 a5 MM) := by
  have hMM : FrG G wkX13_sequence MM MM := FrG.rf hc
  have hL170 : ∀ (p0 : Option Nat) (p5 : Int32) (M : Mem) (g_p0 : inG G p0) (hM : FrG G wkX13_sequence MM M), okv (fun _ : Unit => True) MM G wkX13_sequence (fX13_sequence_L170 p0 p5 M) := by
    intro p0 p5 M g_p0 hM
    unfold fX13_sequence_L170
    refine k_bo fun _ => ?_
    refine k_call (by decide) hM (fun hc => frX13_fails _ _ _ hst hc g_p0) fun v175 M175 _ hM175 => ?_
    exact k_ret hM175 trivial
  have hL465 : ∀ (p0 : Option Nat) (M : Mem) (g_p0 : inG G p0) (hM : FrG G wkX13_sequence MM M), okv (fun _ : Unit => True) MM G wkX13_sequence (fX13_sequence_L465 p0 M) := by
    intro p0 M g_p0 hM
    unfold fX13_sequence_L465
    refine k_gR hM g_p0 fun v466 g_v466 => ?_
    refine k_bo fun v471 => ?_
    refine k_wI (by decide) hM g_v466 fun M474 hM474 => ?_
    exact k_ret hM474 trivial
  have hL385 : ∀ (k278 : Option Nat × Int32 × Int32 × Int64 × Int64 × Int32 → Mem → Option (Unit × Mem)) (hk278 : ∀ a M, (inG G (a.1)) → FrG G wkX13_sequence MM M → okv (fun _ : Unit => True) MM G wkX13_sequence (k278 a M)) (p0 : Option Nat) (p1 : Int32) (p2 : Int32) (p3 : Int64) (p7 : Int64) (p14 : Int32) (q0 : Option Nat) (q1 : Int32) (q2 : Int32) (M : Mem) (g_p0 : inG G p0) (g_q0 : inG G q0) (hM : FrG G wkX13_sequence MM M), okv (fun _ : Unit => True) MM G wkX13_sequence (fX13_sequence_L385 k278 p0 p1 p2 p3 p7 p14 q0 q1 q2 M) := by
    intro k278 hk278 p0 p1 p2 p3 p7 p14 q0 q1 q2 M g_p0 g_q0 hM
    unfold fX13_sequence_L385
    refine k_wB (by decide) hM g_q0 fun M385 hM385 => ?_
    refine k_bo fun v388 => ?_
    refine k_pI (by decide) (by decide) (by decide) hM385 g_p0 fun M393 hM393 => ?_
    refine k_bn fun v396 => ?_
    exact hk278 ((p0, p1, p2, p3, p7, v396)) _ g_p0 hM393
  have hL278 : ∀ (p0 : Option Nat) (p1 : Int32) (p2 : Int32) (p3 : Int64) (p7 : Int64) (p14 : Int32) (M : Mem) (g_p0 : inG G p0) (hM : FrG G wkX13_sequence MM M), okv (fun _ : Unit => True) MM G wkX13_sequence (fX13_sequence_L278 p0 p1 p2 p3 p7 p14 M) := by
    intro p0 p1 p2 p3 p7 p14 M g_p0 hM
    refine k_lp (T := fun a : Option Nat × Int32 × Int32 × Int64 × Int64 × Int32 => inG G (a.1)) ?_ FU ((p0, p1, p2, p3, p7, p14)) M g_p0 hM
    intro k278 hk278 a M T hM
    obtain ⟨p0, p1, p2, p3, p7, p14⟩ := a
    have g_p0 := T
    show okv (fun _ : Unit => True) MM G wkX13_sequence (fX13_sequence_B278 k278 p0 p1 p2 p3 p7 p14 M)
    unfold fX13_sequence_B278
    refine k_if ?_ ?_
    · refine k_bo fun v403 => ?_
      refine k_if ?_ ?_
      · exact hL465 p0 _ g_p0 hM
      · refine k_gR hM g_p0 fun v413 g_v413 => ?_
        refine k_bo fun v417 => ?_
        refine k_wI (by decide) hM g_v413 fun M421 hM421 => ?_
        refine k_gR hM421 g_p0 fun v423 g_v423 => ?_
        refine k_bo fun v427 => ?_
        refine k_wI (by decide) hM421 g_v423 fun M431 hM431 => ?_
        refine k_gR hM431 g_p0 fun v433 g_v433 => ?_
        refine k_bo fun v437 => ?_
        refine k_wI (by decide) hM431 g_v433 fun M442 hM442 => ?_
        refine k_gR hM442 g_p0 fun v444 g_v444 => ?_
        refine k_bo fun v448 => ?_
        refine k_wI (by decide) hM442 g_v444 fun M454 hM454 => ?_
        refine k_bo fun v457 => ?_
        refine k_pI (by decide) (by decide) (by decide) hM454 g_p0 fun M462 hM462 => ?_
        exact hL465 p0 _ g_p0 hM462
    · refine k_bo fun v285 => ?_
      refine k_bo fun v289 => ?_
      refine k_bo fun v294 => ?_
      refine k_bn fun v302 => ?_
      refine k_bn fun v307 => ?_
      refine k_gR hM g_p0 fun v310 g_v310 => ?_
      refine k_bo fun v314 => ?_
      refine k_if ?_ ?_
      · refine k_bo fun v342 => ?_
        refine k_bo fun v346 => ?_
        refine k_if ?_ ?_
        · refine k_gR hM g_p0 fun v369 g_v369 => ?_
          refine k_bo fun v375 => ?_
          refine k_bo fun v379 => ?_
          refine k_bo fun v384 => ?_
          exact hL385 k278 hk278 p0 p1 p2 p3 p7 p14 v310 v314 v384 _ g_p0 g_v310 hM
        · refine k_gR hM g_p0 fun v354 g_v354 => ?_
          refine k_bo fun v358 => ?_
          refine k_bo fun v364 => ?_
          exact hL385 k278 hk278 p0 p1 p2 p3 p7 p14 v310 v314 v364 _ g_p0 g_v310 hM
      · refine k_gR hM g_p0 fun v325 g_v325 => ?_
        refine k_bo fun v329 => ?_
        refine k_bo fun v335 => ?_
        exact hL385 k278 hk278 p0 p1 p2 p3 p7 p14 v310 v314 v335 _ g_p0 g_v310 hM
  have hL225 : ∀ (p0 : Option Nat) (p1 : Int32) (p2 : Int32) (p3 : Int64) (p7 : Int64) (p14 : Int32) (M : Mem) (g_p0 : inG G p0) (hM : FrG G wkX13_sequence MM M), okv (fun _ : Unit => True) MM G wkX13_sequence (fX13_sequence_L225 p0 p1 p2 p3 p7 p14 M) := by
    intro p0 p1 p2 p3 p7 p14 M g_p0 hM
    refine k_lp (T := fun a : Option Nat × Int32 × Int32 × Int64 × Int64 × Int32 => inG G (a.1)) ?_ FU ((p0, p1, p2, p3, p7, p14)) M g_p0 hM
    intro k225 hk225 a M T hM
    obtain ⟨p0, p1, p2, p3, p7, p14⟩ := a
    have g_p0 := T
    show okv (fun _ : Unit => True) MM G wkX13_sequence (fX13_sequence_B225 k225 p0 p1 p2 p3 p7 p14 M)
    unfold fX13_sequence_B225
    refine k_if ?_ ?_
    · refine k_bn fun v276 => ?_
      exact hL278 p0 p1 p2 p3 p7 v276 _ g_p0 hM
    · refine k_gR hM g_p0 fun v232 g_v232 => ?_
      refine k_bo fun v236 => ?_
      refine k_gR hM g_p0 fun v240 g_v240 => ?_
      refine k_bo fun v244 => ?_
      refine k_bo fun v247 => ?_
      refine k_wB (by decide) hM g_v232 fun M248 hM248 => ?_
      refine k_bo fun v251 => ?_
      refine k_pI (by decide) (by decide) (by decide) hM248 g_p0 fun M256 hM256 => ?_
      refine k_bo fun v261 => ?_
      refine k_pI (by decide) (by decide) (by decide) hM256 g_p0 fun M266 hM266 => ?_
      refine k_bn fun v269 => ?_
      exact hk225 ((p0, p1, p2, p3, p7, v269)) _ g_p0 hM266
  have hL180 : ∀ (p0 : Option Nat) (p1 : Int32) (p2 : Int32) (p3 : Int64) (p5 : Int32) (M : Mem) (g_p0 : inG G p0) (hM : FrG G wkX13_sequence MM M), okv (fun _ : Unit => True) MM G wkX13_sequence (fX13_sequence_L180 p0 p1 p2 p3 p5 M) := by
    intro p0 p1 p2 p3 p5 M g_p0 hM
    unfold fX13_sequence_L180
    refine k_bo fun v181 => ?_
    refine k_bo fun v192 => ?_
    refine k_if ?_ ?_
    · refine k_gR hM g_p0 fun v212 g_v212 => ?_
      refine k_bo fun _ => ?_
      refine k_call (by decide) hM (fun hc => frX13_offsetOf _ _ _ _ hst hc g_p0 g_v212) fun v217 M217 _ hM217 => ?_
      refine k_bn fun v220 => ?_
      refine k_bn fun v223 => ?_
      exact hL225 p0 p1 p2 p3 v220 v223 _ g_p0 hM217
    · refine k_bo fun _ => ?_
      refine k_call (by decide) hM (fun hc => frX13_fails _ _ _ hst hc g_p0) fun v205 M205 _ hM205 => ?_
      exact k_ret hM205 trivial
  have hL155 : ∀ (p0 : Option Nat) (p1 : Int32) (p2 : Int32) (p3 : Int64) (p5 : Int32) (p9 : Int64) (p13 : Int32) (M : Mem) (g_p0 : inG G p0) (hM : FrG G wkX13_sequence MM M), okv (fun _ : Unit => True) MM G wkX13_sequence (fX13_sequence_L155 p0 p1 p2 p3 p5 p9 p13 M) := by
    intro p0 p1 p2 p3 p5 p9 p13 M g_p0 hM
    unfold fX13_sequence_L155
    refine k_if ?_ ?_
    · exact hL180 p0 p1 p2 p3 p5 _ g_p0 hM
    · refine k_bo fun v163 => ?_
      refine k_if ?_ ?_
      · exact hL180 p0 p1 p2 p3 p5 _ g_p0 hM
      · exact hL170 p0 p5 _ g_p0 hM
  have hL120 : ∀ (p0 : Option Nat) (p1 : Int32) (p2 : Int32) (p3 : Int64) (p5 : Int32) (p7 : Int64) (p9 : Int64) (p11 : Int64) (q0 : Int32) (M : Mem) (g_p0 : inG G p0) (hM : FrG G wkX13_sequence MM M), okv (fun _ : Unit => True) MM G wkX13_sequence (fX13_sequence_L120 p0 p1 p2 p3 p5 p7 p9 p11 q0 M) := by
    intro p0 p1 p2 p3 p5 p7 p9 p11 q0 M g_p0 hM
    unfold fX13_sequence_L120
    refine k_bn fun v120 => ?_
    refine k_if ?_ ?_
    · exact hL170 p0 p5 _ g_p0 hM
    · refine k_if ?_ ?_
      · exact hL170 p0 p5 _ g_p0 hM
      · refine k_if ?_ ?_
        · refine k_bo fun v148 => ?_
          refine k_if ?_ ?_
          · exact hL170 p0 p5 _ g_p0 hM
          · exact hL155 p0 p1 p2 p3 p5 p9 v120 _ g_p0 hM
        · exact hL155 p0 p1 p2 p3 p5 p9 v120 _ g_p0 hM
  have hL105 : ∀ (p0 : Option Nat) (p1 : Int32) (p2 : Int32) (p3 : Int64) (p5 : Int32) (p7 : Int64) (p9 : Int64) (q0 : Int64) (M : Mem) (g_p0 : inG G p0) (hM : FrG G wkX13_sequence MM M), okv (fun _ : Unit => True) MM G wkX13_sequence (fX13_sequence_L105 p0 p1 p2 p3 p5 p7 p9 q0 M) := by
    intro p0 p1 p2 p3 p5 p7 p9 q0 M g_p0 hM
    unfold fX13_sequence_L105
    refine k_bn fun v105 => ?_
    refine k_if ?_ ?_
    · exact hL120 p0 p1 p2 p3 p5 p7 p9 v105 0 _ g_p0 hM
    · exact hL120 p0 p1 p2 p3 p5 p7 p9 v105 1 _ g_p0 hM
  have hL68 : ∀ (p0 : Option Nat) (p1 : Int32) (p2 : Int32) (p3 : Int64) (p5 : Int32) (q0 : Int64) (M : Mem) (g_p0 : inG G p0) (hM : FrG G wkX13_sequence MM M), okv (fun _ : Unit => True) MM G wkX13_sequence (fX13_sequence_L68 p0 p1 p2 p3 p5 q0 M) := by
    intro p0 p1 p2 p3 p5 q0 M g_p0 hM
    unfold fX13_sequence_L68
    refine k_bn fun v68 => ?_
    refine k_bo fun v71 => ?_
    refine k_bo fun v75 => ?_
    refine k_bo fun v80 => ?_
    refine k_bn fun v87 => ?_
    refine k_bo fun v90 => ?_
    refine k_if ?_ ?_
    · exact hL105 p0 p1 p2 p3 p5 v68 v87 0 _ g_p0 hM
    · refine k_bo fun v97 => ?_
      exact hL105 p0 p1 p2 p3 p5 v68 v87 v97.toInt64 _ g_p0 hM
  unfold fX13_sequence
  refine k_bo fun v2 => ?_
  refine k_bo fun v6 => ?_
  refine k_if ?_ ?_
  · refine k_call (by decide) hMM (fun hc => frX13_meant _ _ hst hc) fun v25 M25 _ hM25 => ?_
    refine k_bn fun v28 => ?_
    refine k_if ?_ ?_
    · exact hL68 a0 a1 a2 a3 a5 (a3 - 3) _ g_a0 hM25
    · refine k_if ?_ ?_
      · refine k_gR hM25 g_a0 fun v51 g_v51 => ?_
        refine k_bo fun v55 => ?_
        exact hL68 a0 a1 a2 a3 a5 (v55 - 1) _ g_a0 hM25
      · refine k_gR hM25 g_a0 fun v62 g_v62 => ?_
        refine k_bo fun v67 => ?_
        exact hL68 a0 a1 a2 a3 a5 v67 _ g_a0 hM25
  · refine k_bo fun _ => ?_
    refine k_call (by decide) hMM (fun hc => frX13_fails _ _ _ hst hc g_a0) fun v18 M18 _ hM18 => ?_
    exact k_ret hM18 trivial
def wkX13_all : List Nat := [1304, 1305, 1309, 1310, 1311, 1335, 1338, 1346, 1400, 1500, 1600]
set_option maxRecDepth 100000 in
set_option maxHeartbeats 4000000 in
theorem frX13_all {G : Nat → Prop} {MM : Mem} (a0 : Option Nat) (a1 : Int32) (a2 : Int32) (a3 : Int32) (hst : ∀ k, k < 10 → G k) (hc : Cl G MM) (g_a0 : inG G a0) : okv (fun _ : Unit => True) MM G wkX13_all (fX13_all a0 a1 a2 a3 MM) := by
  have hMM : FrG G wkX13_all MM MM := FrG.rf hc
  have hL327 : ∀ (M : Mem) (hM : FrG G wkX13_all MM M), okv (fun _ : Unit => True) MM G wkX13_all (fX13_all_L327 M) := by
    intro M hM
    unfold fX13_all_L327
    exact k_ret hM trivial
  have hL305 : ∀ (p0 : Option Nat) (p2 : Int32) (M : Mem) (g_p0 : inG G p0) (hM : FrG G wkX13_all MM M), okv (fun _ : Unit => True) MM G wkX13_all (fX13_all_L305 p0 p2 M) := by
    intro p0 p2 M g_p0 hM
    unfold fX13_all_L305
    refine k_bo fun v306 => ?_
    refine k_if ?_ ?_
    · refine k_bo fun v313 => ?_
      refine k_if ?_ ?_
      · exact hL327 _ hM
      · refine k_bo fun _ => ?_
        refine k_call (by decide) hM (fun hc => frX13_fails _ _ _ hst hc g_p0) fun v323 M323 _ hM323 => ?_
        exact hL327 _ hM323
    · exact hL327 _ hM
  have hL299 : ∀ (k76 : Option Nat × Int32 × Int32 × Int32 × Int32 × Int32 × Int32 → Mem → Option (Unit × Mem)) (hk76 : ∀ a M, (inG G (a.1)) → FrG G wkX13_all MM M → okv (fun _ : Unit => True) MM G wkX13_all (k76 a M)) (p0 : Option Nat) (p1 : Int32) (p2 : Int32) (p4 : Int32) (p5 : Int32) (p6 : Int32) (p7 : Int32) (M : Mem) (g_p0 : inG G p0) (hM : FrG G wkX13_all MM M), okv (fun _ : Unit => True) MM G wkX13_all (fX13_all_L299 k76 p0 p1 p2 p4 p5 p6 p7 M) := by
    intro k76 hk76 p0 p1 p2 p4 p5 p6 p7 M g_p0 hM
    unfold fX13_all_L299
    refine k_bn fun v299 => ?_
    exact hk76 ((p0, p1, p2, p4, p5, p6, v299)) _ g_p0 hM
  have hL270 : ∀ (k76 : Option Nat × Int32 × Int32 × Int32 × Int32 × Int32 × Int32 → Mem → Option (Unit × Mem)) (hk76 : ∀ a M, (inG G (a.1)) → FrG G wkX13_all MM M → okv (fun _ : Unit => True) MM G wkX13_all (k76 a M)) (p0 : Option Nat) (p1 : Int32) (p2 : Int32) (p4 : Int32) (p5 : Int32) (p6 : Int32) (p7 : Int32) (p11 : Int64) (p13 : Int32) (p14 : Int32) (M : Mem) (g_p0 : inG G p0) (hM : FrG G wkX13_all MM M), okv (fun _ : Unit => True) MM G wkX13_all (fX13_all_L270 k76 p0 p1 p2 p4 p5 p6 p7 p11 p13 p14 M) := by
    intro k76 hk76 p0 p1 p2 p4 p5 p6 p7 p11 p13 p14 M g_p0 hM
    unfold fX13_all_L270
    refine k_bo fun v271 => ?_
    refine k_if ?_ ?_
    · refine k_bo fun _ => ?_
      refine k_call (by decide) hM (fun hc => frX13_sequence _ _ _ _ _ hst hc g_p0) fun v296 M296 _ hM296 => ?_
      exact hL299 k76 hk76 p0 p1 p2 p4 p5 p6 p7 _ g_p0 hM296
    · refine k_bo fun _ => ?_
      refine k_call (by decide) hM (fun hc => frX13_fails _ _ _ hst hc g_p0) fun v281 M281 _ hM281 => ?_
      exact hL299 k76 hk76 p0 p1 p2 p4 p5 p6 p7 _ g_p0 hM281
  have hL76 : ∀ (p0 : Option Nat) (p1 : Int32) (p2 : Int32) (p4 : Int32) (p5 : Int32) (p6 : Int32) (p7 : Int32) (M : Mem) (g_p0 : inG G p0) (hM : FrG G wkX13_all MM M), okv (fun _ : Unit => True) MM G wkX13_all (fX13_all_L76 p0 p1 p2 p4 p5 p6 p7 M) := by
    intro p0 p1 p2 p4 p5 p6 p7 M g_p0 hM
    refine k_lp (T := fun a : Option Nat × Int32 × Int32 × Int32 × Int32 × Int32 × Int32 => inG G (a.1)) ?_ FU ((p0, p1, p2, p4, p5, p6, p7)) M g_p0 hM
    intro k76 hk76 a M T hM
    obtain ⟨p0, p1, p2, p4, p5, p6, p7⟩ := a
    have g_p0 := T
    show okv (fun _ : Unit => True) MM G wkX13_all (fX13_all_B76 k76 p0 p1 p2 p4 p5 p6 p7 M)
    unfold fX13_all_B76
    refine k_if ?_ ?_
    · exact hL305 p0 p2 _ g_p0 hM
    · refine k_bo fun v83 => ?_
      refine k_if ?_ ?_
      · refine k_gR hM g_p0 fun v90 g_v90 => ?_
        refine k_bo fun v99 => ?_
        refine k_bn fun v100 => ?_
        refine k_gR hM g_p0 fun v103 g_v103 => ?_
        refine k_bo fun v112 => ?_
        refine k_bn fun v113 => ?_
        refine k_gR hM g_p0 fun v116 g_v116 => ?_
        refine k_bo fun v121 => ?_
        refine k_bn fun v122 => ?_
        refine k_bo fun _ => ?_
        refine k_call (by decide) hM (fun hc => frX13_back _ _ hst hc g_p0) fun v131 M131 _ hM131 => ?_
        refine k_bn fun v135 => ?_
        refine k_call (by decide) hM131 (fun hc => frX13_copyBase _ hst hc) fun v139 M139 _ hM139 => ?_
        refine k_call (by decide) hM139 (fun hc => frX13_copyBits _ hst hc) fun v145 M145 _ hM145 => ?_
        refine k_bo fun _ => ?_
        refine k_call (by decide) hM145 (fun hc => frX13_back _ _ hst hc g_p0) fun v148 M148 _ hM148 => ?_
        refine k_bn fun v153 => ?_
        refine k_call (by decide) hM148 (fun hc => frX13_letterBase _ hst hc) fun v157 M157 _ hM157 => ?_
        refine k_call (by decide) hM157 (fun hc => frX13_letterBits _ hst hc) fun v163 M163 _ hM163 => ?_
        refine k_bo fun _ => ?_
        refine k_call (by decide) hM163 (fun hc => frX13_back _ _ hst hc g_p0) fun v166 M166 _ hM166 => ?_
        refine k_bn fun v171 => ?_
        refine k_bo fun v174 => ?_
        refine k_if ?_ ?_
        · refine k_if ?_ ?_
          · exact hL270 k76 hk76 p0 p1 p2 p4 p5 p6 p7 v135 v153 v171 _ g_p0 hM166
          · refine k_gR hM166 g_p0 fun v189 g_v189 => ?_
            refine k_bo fun v194 => ?_
            refine k_gR hM166 g_p0 fun v197 g_v197 => ?_
            refine k_bo fun v202 => ?_
            refine k_bo fun _ => ?_
            refine k_call (by decide) hM166 (fun hc => frX13_back _ _ hst hc g_p0) fun v203 M203 _ hM203 => ?_
            refine k_bn fun v208 => ?_
            refine k_gR hM203 g_p0 fun v211 g_v211 => ?_
            refine k_bo fun v220 => ?_
            refine k_gR hM203 g_p0 fun v223 g_v223 => ?_
            refine k_bo fun v232 => ?_
            refine k_bo fun _ => ?_
            refine k_call (by decide) hM203 (fun hc => frX13_back _ _ hst hc g_p0) fun v233 M233 _ hM233 => ?_
            refine k_bn fun v238 => ?_
            refine k_gR hM233 g_p0 fun v241 g_v241 => ?_
            refine k_bo fun v250 => ?_
            refine k_gR hM233 g_p0 fun v253 g_v253 => ?_
            refine k_bo fun v262 => ?_
            refine k_bo fun _ => ?_
            refine k_call (by decide) hM233 (fun hc => frX13_back _ _ hst hc g_p0) fun v263 M263 _ hM263 => ?_
            refine k_bn fun v268 => ?_
            exact hL270 k76 hk76 p0 p1 p2 v208 v268 v238 p7 v135 v153 v171 _ g_p0 hM263
        · exact hL270 k76 hk76 p0 p1 p2 p4 p5 p6 p7 v135 v153 v171 _ g_p0 hM166
      · exact hL305 p0 p2 _ g_p0 hM
  unfold fX13_all
  refine k_bo fun _ => ?_
  refine k_call (by decide) hMM (fun hc => frX13_reversed _ _ _ hst hc g_a0) fun v3 M3 _ hM3 => ?_
  refine k_if ?_ ?_
  · refine k_bo fun _ => ?_
    refine k_call (by decide) hM3 (fun hc => frX13_fails _ _ _ hst hc g_a0) fun v13 M13 _ hM13 => ?_
    exact k_ret hM13 trivial
  · refine k_gR hM3 g_a0 fun v20 g_v20 => ?_
    refine k_bo fun v24 => ?_
    refine k_bo fun _ => ?_
    refine k_call (by decide) hM3 (fun hc => frX13_back _ _ hst hc g_a0) fun v25 M25 _ hM25 => ?_
    refine k_bn fun v29 => ?_
    refine k_gR hM25 g_a0 fun v33 g_v33 => ?_
    refine k_bo fun v37 => ?_
    refine k_bo fun _ => ?_
    refine k_call (by decide) hM25 (fun hc => frX13_back _ _ hst hc g_a0) fun v38 M38 _ hM38 => ?_
    refine k_bn fun v42 => ?_
    refine k_gR hM38 g_a0 fun v46 g_v46 => ?_
    refine k_bo fun v50 => ?_
    refine k_bo fun _ => ?_
    refine k_call (by decide) hM38 (fun hc => frX13_back _ _ hst hc g_a0) fun v51 M51 _ hM51 => ?_
    refine k_bn fun v55 => ?_
    refine k_bo fun v58 => ?_
    refine k_if ?_ ?_
    · refine k_bn fun v74 => ?_
      exact hL76 a0 a1 a2 v29 v42 v55 v74 _ g_a0 hM51
    · refine k_bo fun _ => ?_
      refine k_call (by decide) hM51 (fun hc => frX13_fails _ _ _ hst hc g_a0) fun v68 M68 _ hM68 => ?_
      exact k_ret hM68 trivial
def wkX13_sections : List Nat := [1304, 1305, 1307, 1308, 1309, 1310, 1311, 1313, 1335, 1338, 1346, 1352, 1400, 1500, 1600, 1700, 1800]
set_option maxRecDepth 100000 in
set_option maxHeartbeats 4000000 in
theorem frX13_sections {G : Nat → Prop} {MM : Mem} (a0 : Option Nat) (a1 : Int32) (a2 : Int32) (hst : ∀ k, k < 10 → G k) (hc : Cl G MM) (g_a0 : inG G a0) : okv (fun _ : Unit => True) MM G wkX13_sections (fX13_sections a0 a1 a2 MM) := by
  have hMM : FrG G wkX13_sections MM MM := FrG.rf hc
  have hL177 : ∀ (p0 : Option Nat) (p1 : Int32) (M : Mem) (g_p0 : inG G p0) (hM : FrG G wkX13_sections MM M), okv (fun _ : Unit => True) MM G wkX13_sections (fX13_sections_L177 p0 p1 M) := by
    intro p0 p1 M g_p0 hM
    unfold fX13_sections_L177
    refine k_bo fun _ => ?_
    refine k_call (by decide) hM (fun hc => frX13_fails _ _ _ hst hc g_p0) fun v181 M181 _ hM181 => ?_
    exact k_ret hM181 trivial
  have hL256 : ∀ (M : Mem) (hM : FrG G wkX13_sections MM M), okv (fun _ : Unit => True) MM G wkX13_sections (fX13_sections_L256 M) := by
    intro M hM
    unfold fX13_sections_L256
    exact k_ret hM trivial
  have hL309 : ∀ (p0 : Option Nat) (M : Mem) (g_p0 : inG G p0) (hM : FrG G wkX13_sections MM M), okv (fun _ : Unit => True) MM G wkX13_sections (fX13_sections_L309 p0 M) := by
    intro p0 M g_p0 hM
    refine k_lp (T := fun a : Option Nat => inG G a) ?_ FU p0 M g_p0 hM
    intro k309 hk309 a M T hM
    obtain ⟨p0, rfl⟩ : ∃ z, z = a := ⟨_, rfl⟩
    have g_p0 := T
    show okv (fun _ : Unit => True) MM G wkX13_sections (fX13_sections_B309 k309 p0 M)
    unfold fX13_sections_B309
    refine k_bo fun v310 => ?_
    refine k_bo fun v314 => ?_
    refine k_if ?_ ?_
    · exact k_ret hM trivial
    · refine k_gR hM g_p0 fun v321 g_v321 => ?_
      refine k_bo fun v325 => ?_
      refine k_gR hM g_p0 fun v329 g_v329 => ?_
      refine k_bo fun v333 => ?_
      refine k_bo fun v336 => ?_
      refine k_wB (by decide) hM g_v321 fun M337 hM337 => ?_
      refine k_bo fun v340 => ?_
      refine k_pI (by decide) (by decide) (by decide) hM337 g_p0 fun M345 hM345 => ?_
      refine k_bo fun v350 => ?_
      refine k_pI (by decide) (by decide) (by decide) hM345 g_p0 fun M355 hM355 => ?_
      exact hk309 p0 _ g_p0 hM355
  have hL268 : ∀ (p0 : Option Nat) (M : Mem) (g_p0 : inG G p0) (hM : FrG G wkX13_sections MM M), okv (fun _ : Unit => True) MM G wkX13_sections (fX13_sections_L268 p0 M) := by
    intro p0 M g_p0 hM
    unfold fX13_sections_L268
    refine k_bo fun v269 => ?_
    refine k_if ?_ ?_
    · refine k_bo fun v277 => ?_
      refine k_bo fun v281 => ?_
      refine k_bo fun v286 => ?_
      refine k_bo fun v291 => ?_
      refine k_if ?_ ?_
      · exact hL309 p0 _ g_p0 hM
      · refine k_bo fun v301 => ?_
        refine k_bo fun _ => ?_
        refine k_call (by decide) hM (fun hc => frX13_fails _ _ _ hst hc g_p0) fun v304 M304 _ hM304 => ?_
        exact k_ret hM304 trivial
    · exact k_ret hM trivial
  have hL131 : ∀ (p0 : Option Nat) (p1 : Int32) (p2 : Int32) (p4 : Int32) (q0 : Int32) (M : Mem) (g_p0 : inG G p0) (hM : FrG G wkX13_sections MM M), okv (fun _ : Unit => True) MM G wkX13_sections (fX13_sections_L131 p0 p1 p2 p4 q0 M) := by
    intro p0 p1 p2 p4 q0 M g_p0 hM
    unfold fX13_sections_L131
    refine k_bn fun v131 => ?_
    refine k_if ?_ ?_
    · refine k_if ?_ ?_
      · exact hL268 p0 _ g_p0 hM
      · refine k_bo fun _ => ?_
        refine k_call (by decide) hM (fun hc => frX13_fails _ _ _ hst hc g_p0) fun v150 M150 _ hM150 => ?_
        exact k_ret hM150 trivial
    · refine k_if ?_ ?_
      · exact hL177 p0 p1 _ g_p0 hM
      · refine k_gR hM g_p0 fun v164 g_v164 => ?_
        refine k_bo fun v171 => ?_
        refine k_if ?_ ?_
        · refine k_gR hM g_p0 fun v187 g_v187 => ?_
          refine k_bo fun v194 => ?_
          refine k_bn fun v195 => ?_
          refine k_pI (by decide) (by decide) (by decide) hM g_p0 fun M204 hM204 => ?_
          refine k_bo fun _ => ?_
          refine k_call (by decide) hM204 (fun hc => frX13_toldTable _ _ _ _ _ hst hc g_p0) fun v218 M218 _ hM218 => ?_
          refine k_if ?_ ?_
          · exact hL256 _ hM218
          · refine k_bo fun _ => ?_
            refine k_call (by decide) hM218 (fun hc => frX13_toldTable _ _ _ _ _ hst hc g_p0) fun v234 M234 _ hM234 => ?_
            refine k_if ?_ ?_
            · exact hL256 _ hM234
            · refine k_bo fun _ => ?_
              refine k_call (by decide) hM234 (fun hc => frX13_toldTable _ _ _ _ _ hst hc g_p0) fun v250 M250 _ hM250 => ?_
              refine k_if ?_ ?_
              · exact hL256 _ hM250
              · refine k_bo fun v261 => ?_
                refine k_bo fun _ => ?_
                refine k_call (by decide) hM250 (fun hc => frX13_all _ _ _ _ hst hc g_p0) fun v265 M265 _ hM265 => ?_
                exact hL268 p0 _ g_p0 hM265
        · exact hL177 p0 p1 _ g_p0 hM
  have hL53 : ∀ (p0 : Option Nat) (p1 : Int32) (p2 : Int32) (p3 : Int32) (q0 : Int32) (M : Mem) (g_p0 : inG G p0) (hM : FrG G wkX13_sections MM M), okv (fun _ : Unit => True) MM G wkX13_sections (fX13_sections_L53 p0 p1 p2 p3 q0 M) := by
    intro p0 p1 p2 p3 q0 M g_p0 hM
    unfold fX13_sections_L53
    refine k_bn fun v53 => ?_
    refine k_if ?_ ?_
    · refine k_if ?_ ?_
      · refine k_if ?_ ?_
        · refine k_gR hM g_p0 fun v116 g_v116 => ?_
          refine k_call (by decide) hM (fun hc => frX13_eight _ _ _ hst hc g_v116) fun v123 M123 _ hM123 => ?_
          exact hL131 p0 p1 p2 v53 (v123.toInt32 + 32512) _ g_p0 hM123
        · refine k_gR hM g_p0 fun v100 g_v100 => ?_
          refine k_bo fun v106 => ?_
          exact hL131 p0 p1 p2 v53 ((256 * (p3 - 128)) + (v106 &&& 255)) _ g_p0 hM
      · exact hL131 p0 p1 p2 v53 p3 _ g_p0 hM
    · refine k_bo fun _ => ?_
      refine k_call (by decide) hM (fun hc => frX13_fails _ _ _ hst hc g_p0) fun v67 M67 _ hM67 => ?_
      exact k_ret hM67 trivial
  unfold fX13_sections
  refine k_pI (by decide) (by decide) (by decide) hMM g_a0 fun M2 hM2 => ?_
  refine k_if ?_ ?_
  · refine k_gR hM2 g_a0 fun v20 g_v20 => ?_
    refine k_bo fun v24 => ?_
    refine k_bn fun v29 => ?_
    refine k_if ?_ ?_
    · refine k_if ?_ ?_
      · exact hL53 a0 a1 a2 v29 3 _ g_a0 hM2
      · exact hL53 a0 a1 a2 v29 2 _ g_a0 hM2
    · exact hL53 a0 a1 a2 v29 1 _ g_a0 hM2
  · refine k_bo fun _ => ?_
    refine k_call (by decide) hM2 (fun hc => frX13_fails _ _ _ hst hc g_a0) fun v14 M14 _ hM14 => ?_
    exact k_ret hM14 trivial
def wkX13_packed : List Nat := [1304, 1305, 1307, 1308, 1309, 1310, 1311, 1313, 1335, 1337, 1338, 1346, 1352, 1400, 1500, 1600, 1700, 1800]
set_option maxRecDepth 100000 in
set_option maxHeartbeats 4000000 in
theorem frX13_packed {G : Nat → Prop} {MM : Mem} (a0 : Option Nat) (a1 : Int32) (a2 : Int32) (hst : ∀ k, k < 10 → G k) (hc : Cl G MM) (g_a0 : inG G a0) : okv (fun _ : Unit => True) MM G wkX13_packed (fX13_packed a0 a1 a2 MM) := by
  have hMM : FrG G wkX13_packed MM MM := FrG.rf hc
  have hL33 : ∀ (M : Mem) (hM : FrG G wkX13_packed MM M), okv (fun _ : Unit => True) MM G wkX13_packed (fX13_packed_L33 M) := by
    intro M hM
    unfold fX13_packed_L33
    exact k_ret hM trivial
  unfold fX13_packed
  refine k_bo fun _ => ?_
  refine k_call (by decide) hMM (fun hc => frX13_lettersFrom _ _ _ hst hc g_a0) fun v3 M3 _ hM3 => ?_
  refine k_bn fun v6 => ?_
  refine k_bo fun v8 => ?_
  refine k_if ?_ ?_
  · refine k_gR hM3 g_a0 fun v15 g_v15 => ?_
    refine k_bo fun v20 => ?_
    refine k_bo fun v22 => ?_
    refine k_wI (by decide) hM3 g_v15 fun M26 hM26 => ?_
    refine k_bo fun _ => ?_
    refine k_call (by decide) hM26 (fun hc => frX13_sections _ _ _ hst hc g_a0) fun v30 M30 _ hM30 => ?_
    exact hL33 _ hM30
  · exact hL33 _ hM3
def wkX13_blockAt : List Nat := [1304, 1305, 1307, 1308, 1309, 1310, 1311, 1313, 1333, 1335, 1337, 1338, 1346, 1351, 1352, 1400, 1500, 1600, 1700, 1800]
set_option maxRecDepth 100000 in
set_option maxHeartbeats 4000000 in
theorem frX13_blockAt {G : Nat → Prop} {MM : Mem} (a0 : Option Nat) (hst : ∀ k, k < 10 → G k) (hc : Cl G MM) (g_a0 : inG G a0) : okv z01 MM G wkX13_blockAt (fX13_blockAt a0 MM) := by
  have hMM : FrG G wkX13_blockAt MM MM := FrG.rf hc
  have hL64 : ∀ (p0 : Option Nat) (p1 : Int32) (M : Mem) (g_p0 : inG G p0) (hM : FrG G wkX13_blockAt MM M), okv z01 MM G wkX13_blockAt (fX13_blockAt_L64 p0 p1 M) := by
    intro p0 p1 M g_p0 hM
    unfold fX13_blockAt_L64
    refine k_bo fun _ => ?_
    refine k_call (by decide) hM (fun hc => frX13_fails _ _ _ hst hc g_p0) fun v68 M68 _ hM68 => ?_
    exact k_retZ hM68
  have hL324 : ∀ (q0 : Int32) (M : Mem) (hM : FrG G wkX13_blockAt MM M), okv z01 MM G wkX13_blockAt (fX13_blockAt_L324 q0 M) := by
    intro q0 M hM
    unfold fX13_blockAt_L324
    exact k_retZ hM
  have hL308 : ∀ (p2 : Int32) (q0 : Option Nat) (q1 : Int32) (q2 : Int32) (M : Mem) (g_q0 : inG G q0) (hM : FrG G wkX13_blockAt MM M), okv z01 MM G wkX13_blockAt (fX13_blockAt_L308 p2 q0 q1 q2 M) := by
    intro p2 q0 q1 q2 M g_q0 hM
    unfold fX13_blockAt_L308
    refine k_pI (by decide) (by decide) (by decide) hM g_q0 fun M309 hM309 => ?_
    refine k_if ?_ ?_
    · exact hL324 1 _ hM309
    · exact hL324 0 _ hM309
  have hL277 : ∀ (p0 : Option Nat) (p2 : Int32) (p3 : Int32) (p4 : Int32) (q0 : Option Nat) (q1 : Int32) (q2 : Int32) (q3 : Int32) (M : Mem) (g_p0 : inG G p0) (g_q0 : inG G q0) (hM : FrG G wkX13_blockAt MM M), okv z01 MM G wkX13_blockAt (fX13_blockAt_L277 p0 p2 p3 p4 q0 q1 q2 q3 M) := by
    intro p0 p2 p3 p4 q0 q1 q2 q3 M g_p0 g_q0 hM
    unfold fX13_blockAt_L277
    refine k_wI (by decide) hM g_q0 fun M278 hM278 => ?_
    refine k_gR hM278 g_p0 fun v280 g_v280 => ?_
    refine k_bo fun v285 => ?_
    refine k_bo fun v287 => ?_
    refine k_wI (by decide) hM278 g_v280 fun M291 hM291 => ?_
    refine k_bo fun v294 => ?_
    refine k_if ?_ ?_
    · exact hL308 p2 p0 v294 1 _ g_p0 hM291
    · exact hL308 p2 p0 v294 p4 _ g_p0 hM291
  have hL219 : ∀ (p0 : Option Nat) (p2 : Int32) (p3 : Int32) (p4 : Int32) (p5 : Int32) (M : Mem) (g_p0 : inG G p0) (hM : FrG G wkX13_blockAt MM M), okv z01 MM G wkX13_blockAt (fX13_blockAt_L219 p0 p2 p3 p4 p5 M) := by
    intro p0 p2 p3 p4 p5 M g_p0 hM
    refine k_lp (T := fun a : Option Nat × Int32 × Int32 × Int32 × Int32 => inG G (a.1)) ?_ FU ((p0, p2, p3, p4, p5)) M g_p0 hM
    intro k219 hk219 a M T hM
    obtain ⟨p0, p2, p3, p4, p5⟩ := a
    have g_p0 := T
    show okv z01 MM G wkX13_blockAt (fX13_blockAt_B219 k219 p0 p2 p3 p4 p5 M)
    unfold fX13_blockAt_B219
    refine k_bo fun v222 => ?_
    refine k_if ?_ ?_
    · refine k_gR hM g_p0 fun v261 g_v261 => ?_
      refine k_bo fun v266 => ?_
      refine k_if ?_ ?_
      · exact hL277 p0 p2 p3 p4 v261 2 v266 1 _ g_p0 g_v261 hM
      · exact hL277 p0 p2 p3 p4 v261 2 v266 0 _ g_p0 g_v261 hM
    · refine k_gR hM g_p0 fun v229 g_v229 => ?_
      refine k_bo fun v233 => ?_
      refine k_gR hM g_p0 fun v237 g_v237 => ?_
      refine k_bo fun v242 => ?_
      refine k_wB (by decide) hM g_v229 fun M243 hM243 => ?_
      refine k_bo fun v246 => ?_
      refine k_pI (by decide) (by decide) (by decide) hM243 g_p0 fun M251 hM251 => ?_
      refine k_bn fun v254 => ?_
      exact hk219 ((p0, p2, p3, p4, v254)) _ g_p0 hM251
  have hL191 : ∀ (p0 : Option Nat) (p1 : Int32) (p2 : Int32) (p3 : Int32) (p4 : Int32) (M : Mem) (g_p0 : inG G p0) (hM : FrG G wkX13_blockAt MM M), okv z01 MM G wkX13_blockAt (fX13_blockAt_L191 p0 p1 p2 p3 p4 M) := by
    intro p0 p1 p2 p3 p4 M g_p0 hM
    unfold fX13_blockAt_L191
    refine k_bo fun v192 => ?_
    refine k_bo fun v196 => ?_
    refine k_if ?_ ?_
    · refine k_bn fun v217 => ?_
      exact hL219 p0 p2 p3 p4 v217 _ g_p0 hM
    · refine k_bo fun _ => ?_
      refine k_call (by decide) hM (fun hc => frX13_fails _ _ _ hst hc g_p0) fun v210 M210 _ hM210 => ?_
      exact k_retZ hM210
  have hL183 : ∀ (k147 : Option Nat × Int32 × Int32 × Int32 × Int32 × Int32 → Mem → Option (Int32 × Mem)) (hk147 : ∀ a M, (inG G (a.1)) → FrG G wkX13_blockAt MM M → okv z01 MM G wkX13_blockAt (k147 a M)) (p0 : Option Nat) (p1 : Int32) (p2 : Int32) (p3 : Int32) (p4 : Int32) (p5 : Int32) (q0 : Option Nat) (q1 : Int32) (q2 : Option Nat) (q3 : Int32) (M : Mem) (g_p0 : inG G p0) (g_q0 : inG G q0) (g_q2 : inG G q2) (hM : FrG G wkX13_blockAt MM M), okv z01 MM G wkX13_blockAt (fX13_blockAt_L183 k147 p0 p1 p2 p3 p4 p5 q0 q1 q2 q3 M) := by
    intro k147 hk147 p0 p1 p2 p3 p4 p5 q0 q1 q2 q3 M g_p0 g_q0 g_q2 hM
    unfold fX13_blockAt_L183
    refine k_bo fun v183 => ?_
    refine k_wB (by decide) hM g_q0 fun M184 hM184 => ?_
    refine k_bn fun v185 => ?_
    exact hk147 ((p0, p1, p2, p3, p4, v185)) _ g_p0 hM184
  have hL147 : ∀ (p0 : Option Nat) (p1 : Int32) (p2 : Int32) (p3 : Int32) (p4 : Int32) (p5 : Int32) (M : Mem) (g_p0 : inG G p0) (hM : FrG G wkX13_blockAt MM M), okv z01 MM G wkX13_blockAt (fX13_blockAt_L147 p0 p1 p2 p3 p4 p5 M) := by
    intro p0 p1 p2 p3 p4 p5 M g_p0 hM
    refine k_lp (T := fun a : Option Nat × Int32 × Int32 × Int32 × Int32 × Int32 => inG G (a.1)) ?_ FU ((p0, p1, p2, p3, p4, p5)) M g_p0 hM
    intro k147 hk147 a M T hM
    obtain ⟨p0, p1, p2, p3, p4, p5⟩ := a
    have g_p0 := T
    show okv z01 MM G wkX13_blockAt (fX13_blockAt_B147 k147 p0 p1 p2 p3 p4 p5 M)
    unfold fX13_blockAt_B147
    refine k_if ?_ ?_
    · exact hL191 p0 p1 p2 p3 p4 _ g_p0 hM
    · refine k_gR hM g_p0 fun v155 g_v155 => ?_
      refine k_gR hM g_p0 fun v161 g_v161 => ?_
      refine k_if ?_ ?_
      · refine k_bo fun v170 => ?_
        exact hL183 k147 hk147 p0 p1 p2 p3 p4 p5 v155 p5 v161 v170 _ g_p0 g_v155 g_v161 hM
      · refine k_bo fun v177 => ?_
        exact hL183 k147 hk147 p0 p1 p2 p3 p4 p5 v155 p5 v161 (v177 + p5) _ g_p0 g_v155 g_v161 hM
  have hL96 : ∀ (p0 : Option Nat) (p1 : Int32) (p2 : Int32) (p3 : Int32) (p4 : Int32) (q0 : Option Nat) (q1 : Int32) (M : Mem) (g_p0 : inG G p0) (g_q0 : inG G q0) (hM : FrG G wkX13_blockAt MM M), okv z01 MM G wkX13_blockAt (fX13_blockAt_L96 p0 p1 p2 p3 p4 q0 q1 M) := by
    intro p0 p1 p2 p3 p4 q0 q1 M g_p0 g_q0 hM
    unfold fX13_blockAt_L96
    refine k_bo fun _ => ?_
    refine k_call (by decide) hM (fun hc => frX13_wants _ _ hst hc g_q0) fun v96 M96 _ hM96 => ?_
    refine k_if ?_ ?_
    · exact k_retZ hM96
    · refine k_if ?_ ?_
      · refine k_pI (by decide) (by decide) (by decide) hM96 g_p0 fun M111 hM111 => ?_
        refine k_bo fun v116 => ?_
        refine k_bo fun v120 => ?_
        refine k_bo fun _ => ?_
        refine k_call (by decide) hM111 (fun hc => frX13_packed _ _ _ hst hc g_p0) fun v126 M126 _ hM126 => ?_
        refine k_bo fun v130 => ?_
        refine k_if ?_ ?_
        · exact hL191 p0 p1 p2 p3 p4 _ g_p0 hM126
        · exact k_retZ hM126
      · refine k_pI (by decide) (by decide) (by decide) hM96 g_p0 fun M141 hM141 => ?_
        refine k_bn fun v145 => ?_
        exact hL147 p0 p1 p2 p3 p4 v145 _ g_p0 hM141
  unfold fX13_blockAt
  refine k_bo fun v1 => ?_
  refine k_bn fun v4 => ?_
  refine k_bo fun _ => ?_
  refine k_call (by decide) hMM (fun hc => frX13_wants _ _ hst hc g_a0) fun v7 M7 _ hM7 => ?_
  refine k_if ?_ ?_
  · exact k_retZ hM7
  · refine k_gR hM7 g_a0 fun v16 g_v16 => ?_
    refine k_bo fun v20 => ?_
    refine k_call (by decide) hM7 (fun hc => frX13_eight _ _ _ hst hc g_v16) fun v24 M24 _ hM24 => ?_
    refine k_bn fun v28 => ?_
    refine k_gR hM24 g_a0 fun v30 g_v30 => ?_
    refine k_bo fun v35 => ?_
    refine k_wI (by decide) hM24 g_v30 fun M38 hM38 => ?_
    refine k_bn fun v44 => ?_
    refine k_bn fun v48 => ?_
    refine k_if ?_ ?_
    · exact hL64 a0 v4 _ g_a0 hM38
    · refine k_bo fun v58 => ?_
      refine k_if ?_ ?_
      · refine k_bo fun v76 => ?_
        refine k_pI (by decide) (by decide) (by decide) hM38 g_a0 fun M81 hM81 => ?_
        refine k_if ?_ ?_
        · exact hL96 a0 v4 v28 v44 v48 a0 1 _ g_a0 g_a0 hM81
        · exact hL96 a0 v4 v28 v44 v48 a0 v48 _ g_a0 g_a0 hM81
      · exact hL64 a0 v4 _ g_a0 hM38
