def wkX8_get : List Nat := []
set_option maxRecDepth 100000 in
set_option maxHeartbeats 4000000 in
theorem frX8_get {G : Nat → Prop} {MM : Mem} (a0 : Option Nat) (a1 : Int32) (hst : ∀ k, k < 10 → G k) (hc : Cl G MM) (g_a0 : inG G a0) : okv (fun _ : Int32 => True) MM G wkX8_get (fX8_get a0 a1 MM) := by
  have hMM : FrG G wkX8_get MM MM := FrG.rf hc
  have hL27 : ∀ (q0 : Int32) (M : Mem) (hM : FrG G wkX8_get MM M), okv (fun _ : Int32 => True) MM G wkX8_get (fX8_get_L27 q0 M) := by
    intro q0 M hM
    unfold fX8_get_L27
    exact k_ret hM trivial
  have hL26 : ∀ (M : Mem) (hM : FrG G wkX8_get MM M), okv (fun _ : Int32 => True) MM G wkX8_get (fX8_get_L26 M) := by
    intro M hM
    unfold fX8_get_L26
    exact hL27 0 _ hM
  unfold fX8_get
  refine k_if ?_ ?_
  · exact hL26 _ hMM
  · refine k_gR hMM g_a0 fun v6 g_v6 => ?_
    refine k_bo fun v9 => ?_
    refine k_if ?_ ?_
    · exact hL26 _ hMM
    · refine k_gR hMM g_a0 fun v14 g_v14 => ?_
      refine k_bo fun v18 => ?_
      exact hL27 (v18 &&& 255) _ hMM
def wkX12_logOf : List Nat := []
set_option maxRecDepth 100000 in
set_option maxHeartbeats 4000000 in
theorem frX12_logOf {G : Nat → Prop} {MM : Mem} (a0 : Int64) (hst : ∀ k, k < 10 → G k) (hc : Cl G MM) : okv (fun _ : Int32 => True) MM G wkX12_logOf (fX12_logOf a0 MM) := by
  have hMM : FrG G wkX12_logOf MM MM := FrG.rf hc
  have hL29 : ∀ (p2 : Int32) (M : Mem) (hM : FrG G wkX12_logOf MM M), okv (fun _ : Int32 => True) MM G wkX12_logOf (fX12_logOf_L29 p2 M) := by
    intro p2 M hM
    unfold fX12_logOf_L29
    exact k_ret hM trivial
  have hL4 : ∀ (p0 : Int64) (p2 : Int32) (p3 : Int32) (M : Mem) (hM : FrG G wkX12_logOf MM M), okv (fun _ : Int32 => True) MM G wkX12_logOf (fX12_logOf_L4 p0 p2 p3 M) := by
    intro p0 p2 p3 M hM
    refine k_lp (T := fun a : Int64 × Int32 × Int32 => True) ?_ FU ((p0, p2, p3)) M trivial hM
    intro k4 hk4 a M T hM
    obtain ⟨p0, p2, p3⟩ := a
    show okv (fun _ : Int32 => True) MM G wkX12_logOf (fX12_logOf_B4 k4 p0 p2 p3 M)
    unfold fX12_logOf_B4
    refine k_if ?_ ?_
    · exact hL29 p2 _ hM
    · refine k_if ?_ ?_
      · exact hL29 p2 _ hM
      · refine k_bn fun v22 => ?_
        refine k_bn fun v23 => ?_
        exact hk4 ((p0, v22, v23)) _ trivial hM
  unfold fX12_logOf
  refine k_bn fun v1 => ?_
  refine k_bn fun v3 => ?_
  exact hL4 a0 v1 v3 _ hMM
def wkX0_begin : List Nat := [0, 1, 2, 3]
set_option maxRecDepth 100000 in
set_option maxHeartbeats 4000000 in
theorem frX0_begin {G : Nat → Prop} {MM : Mem} (a0 : Option Nat) (a1 : Option Nat) (a2 : Int32) (a3 : Int32) (hst : ∀ k, k < 10 → G k) (hc : Cl G MM) (g_a0 : inG G a0) (g_a1 : inG G a1) : okv z01 MM G wkX0_begin (fX0_begin a0 a1 a2 a3 MM) := by
  have hMM : FrG G wkX0_begin MM MM := FrG.rf hc
  have hL38 : ∀ (M : Mem) (hM : FrG G wkX0_begin MM M), okv z01 MM G wkX0_begin (fX0_begin_L38 M) := by
    intro M hM
    unfold fX0_begin_L38
    exact k_retZ hM
  unfold fX0_begin
  refine k_gR hMM g_a1 fun v2 g_v2 => ?_
  refine k_pR (by decide) (by decide) hMM g_a0 g_v2 fun M5 hM5 => ?_
  refine k_pI (by decide) (by decide) (by decide) hM5 g_a0 fun M10 hM10 => ?_
  refine k_pI (by decide) (by decide) (by decide) hM10 g_a0 fun M15 hM15 => ?_
  refine k_pZ (by decide) (by decide) hM15 g_a0 fun M20 hM20 => ?_
  refine k_if ?_ ?_
  · exact hL38 _ hM20
  · refine k_bo fun _ => ?_
    refine k_call (by decide) hM20 (fun hc => frX8_get _ _ hst hc g_a1) fun v32 M32 _ hM32 => ?_
    refine k_if ?_ ?_
    · exact hL38 _ hM32
    · refine k_bo fun _ => ?_
      refine k_call (by decide) hM32 (fun hc => frX8_get _ _ hst hc g_a1) fun v53 M53 _ hM53 => ?_
      refine k_call (by decide) hM53 (fun hc => frX12_logOf _ hst hc) fun v57 M57 _ hM57 => ?_
      refine k_pI (by decide) (by decide) (by decide) hM57 g_a0 fun M61 hM61 => ?_
      exact k_retZ hM61
def wkX0_bitsFrom : List Nat := []
set_option maxRecDepth 100000 in
set_option maxHeartbeats 4000000 in
theorem frX0_bitsFrom {G : Nat → Prop} {MM : Mem} (a0 : Option Nat) (a1 : Int32) (a2 : Int32) (hst : ∀ k, k < 10 → G k) (hc : Cl G MM) (g_a0 : inG G a0) : okv (fun _ : Int64 => True) MM G wkX0_bitsFrom (fX0_bitsFrom a0 a1 a2 MM) := by
  have hMM : FrG G wkX0_bitsFrom MM MM := FrG.rf hc
  have hL58 : ∀ (k15 : Option Nat × Int32 × Int32 × Int32 × Int64 × Int32 → Mem → Option (Int64 × Mem)) (hk15 : ∀ a M, (inG G (a.1)) → FrG G wkX0_bitsFrom MM M → okv (fun _ : Int64 => True) MM G wkX0_bitsFrom (k15 a M)) (p0 : Option Nat) (p1 : Int32) (p2 : Int32) (p3 : Int32) (p4 : Int64) (p6 : Int32) (M : Mem) (g_p0 : inG G p0) (hM : FrG G wkX0_bitsFrom MM M), okv (fun _ : Int64 => True) MM G wkX0_bitsFrom (fX0_bitsFrom_L58 k15 p0 p1 p2 p3 p4 p6 M) := by
    intro k15 hk15 p0 p1 p2 p3 p4 p6 M g_p0 hM
    unfold fX0_bitsFrom_L58
    refine k_bn fun v58 => ?_
    refine k_bn fun v61 => ?_
    exact hk15 ((p0, p1, p2, v58, p4, v61)) _ g_p0 hM
  have hL15 : ∀ (p0 : Option Nat) (p1 : Int32) (p2 : Int32) (p3 : Int32) (p4 : Int64) (p6 : Int32) (M : Mem) (g_p0 : inG G p0) (hM : FrG G wkX0_bitsFrom MM M), okv (fun _ : Int64 => True) MM G wkX0_bitsFrom (fX0_bitsFrom_L15 p0 p1 p2 p3 p4 p6 M) := by
    intro p0 p1 p2 p3 p4 p6 M g_p0 hM
    refine k_lp (T := fun a : Option Nat × Int32 × Int32 × Int32 × Int64 × Int32 => inG G (a.1)) ?_ FU ((p0, p1, p2, p3, p4, p6)) M g_p0 hM
    intro k15 hk15 a M T hM
    obtain ⟨p0, p1, p2, p3, p4, p6⟩ := a
    have g_p0 := T
    show okv (fun _ : Int64 => True) MM G wkX0_bitsFrom (fX0_bitsFrom_B15 k15 p0 p1 p2 p3 p4 p6 M)
    unfold fX0_bitsFrom_B15
    refine k_if ?_ ?_
    · exact k_ret hM trivial
    · refine k_if ?_ ?_
      · exact hL58 k15 hk15 p0 p1 p2 p3 p4 p6 _ g_p0 hM
      · refine k_gR hM g_p0 fun v32 g_v32 => ?_
        refine k_bo fun v35 => ?_
        refine k_if ?_ ?_
        · exact hL58 k15 hk15 p0 p1 p2 p3 p4 p6 _ g_p0 hM
        · refine k_gR hM g_p0 fun v42 g_v42 => ?_
          refine k_bo fun v46 => ?_
          refine k_bn fun v56 => ?_
          exact hL58 k15 hk15 p0 p1 p2 p3 v56 p6 _ g_p0 hM
  unfold fX0_bitsFrom
  refine k_bo fun v1 => ?_
  refine k_bn fun v8 => ?_
  refine k_bn fun v10 => ?_
  refine k_bn fun v13 => ?_
  exact hL15 a0 a1 a2 v8 v10 v13 _ g_a0 hMM
def wkX0_take : List Nat := [2, 3]
set_option maxRecDepth 100000 in
set_option maxHeartbeats 4000000 in
theorem frX0_take {G : Nat → Prop} {MM : Mem} (a0 : Option Nat) (a1 : Int32) (hst : ∀ k, k < 10 → G k) (hc : Cl G MM) (g_a0 : inG G a0) : okv (fun _ : Int64 => True) MM G wkX0_take (fX0_take a0 a1 MM) := by
  have hMM : FrG G wkX0_take MM MM := FrG.rf hc
  unfold fX0_take
  refine k_bo fun v2 => ?_
  refine k_if ?_ ?_
  · refine k_bo fun v17 => ?_
    refine k_pI (by decide) (by decide) (by decide) hMM g_a0 fun M22 hM22 => ?_
    refine k_bo fun v27 => ?_
    refine k_bo fun _ => ?_
    refine k_call (by decide) hM22 (fun hc => frX0_bitsFrom _ _ _ hst hc g_a0) fun v31 M31 _ hM31 => ?_
    exact k_ret hM31 trivial
  · refine k_pZ (by decide) (by decide) hMM g_a0 fun M10 hM10 => ?_
    exact k_ret hM10 trivial
def wkX0_look : List Nat := []
set_option maxRecDepth 100000 in
set_option maxHeartbeats 4000000 in
theorem frX0_look {G : Nat → Prop} {MM : Mem} (a0 : Option Nat) (a1 : Int32) (hst : ∀ k, k < 10 → G k) (hc : Cl G MM) (g_a0 : inG G a0) : okv (fun _ : Int32 => True) MM G wkX0_look (fX0_look a0 a1 MM) := by
  have hMM : FrG G wkX0_look MM MM := FrG.rf hc
  unfold fX0_look
  refine k_bo fun v2 => ?_
  refine k_bn fun v8 => ?_
  refine k_bo fun v11 => ?_
  refine k_bo fun _ => ?_
  refine k_call (by decide) hMM (fun hc => frX0_bitsFrom _ _ _ hst hc g_a0) fun v17 M17 _ hM17 => ?_
  exact k_ret hM17 trivial
def wkJ7_fill_53178 : List Nat := [1500]
set_option maxRecDepth 100000 in
set_option maxHeartbeats 4000000 in
theorem frJ7_fill_53178 {G : Nat → Prop} {MM : Mem} (a0 : Option Nat) (a1 : Int32) (hst : ∀ k, k < 10 → G k) (hc : Cl G MM) (g_a0 : inG G a0) : okv (fun _ : Unit => True) MM G wkJ7_fill_53178 (fJ7_fill_53178 a0 a1 MM) := by
  have hMM : FrG G wkJ7_fill_53178 MM MM := FrG.rf hc
  have hL5 : ∀ (p0 : Option Nat) (p1 : Int32) (p2 : Int32) (p3 : Int32) (M : Mem) (g_p0 : inG G p0) (hM : FrG G wkJ7_fill_53178 MM M), okv (fun _ : Unit => True) MM G wkJ7_fill_53178 (fJ7_fill_53178_L5 p0 p1 p2 p3 M) := by
    intro p0 p1 p2 p3 M g_p0 hM
    refine k_lp (T := fun a : Option Nat × Int32 × Int32 × Int32 => inG G (a.1)) ?_ FU ((p0, p1, p2, p3)) M g_p0 hM
    intro k5 hk5 a M T hM
    obtain ⟨p0, p1, p2, p3⟩ := a
    have g_p0 := T
    show okv (fun _ : Unit => True) MM G wkJ7_fill_53178 (fJ7_fill_53178_B5 k5 p0 p1 p2 p3 M)
    unfold fJ7_fill_53178_B5
    refine k_if ?_ ?_
    · exact k_ret hM trivial
    · refine k_wI (by decide) hM g_p0 fun M13 hM13 => ?_
      refine k_bn fun v14 => ?_
      exact hk5 ((p0, p1, v14, p3)) _ g_p0 hM13
  unfold fJ7_fill_53178
  refine k_bn fun v1 => ?_
  refine k_bo fun v3 => ?_
  refine k_bn fun v4 => ?_
  exact hL5 a0 a1 v1 v4 _ g_a0 hMM
def wkX1_build : List Nat := [100, 1500]
set_option maxRecDepth 100000 in
set_option maxHeartbeats 4000000 in
theorem frX1_build {G : Nat → Prop} {MM : Mem} (a0 : Option Nat) (a1 : Option Nat) (hst : ∀ k, k < 10 → G k) (hc : Cl G MM) (g_a0 : inG G a0) (g_a1 : inG G a1) : okv (fun _ : Unit => True) MM G wkX1_build (fX1_build a0 a1 MM) := by
  have hMM : FrG G wkX1_build MM MM := FrG.rf hc
  have hL127 : ∀ (k20 : Option Nat × Option Nat × Int32 × Int32 → Mem → Option (Unit × Mem)) (hk20 : ∀ a M, (inG G (a.1) ∧ inG G (a.2.1)) → FrG G wkX1_build MM M → okv (fun _ : Unit => True) MM G wkX1_build (k20 a M)) (p0 : Option Nat) (p1 : Option Nat) (p2 : Int32) (p3 : Int32) (M : Mem) (g_p0 : inG G p0) (g_p1 : inG G p1) (hM : FrG G wkX1_build MM M), okv (fun _ : Unit => True) MM G wkX1_build (fX1_build_L127 k20 p0 p1 p2 p3 M) := by
    intro k20 hk20 p0 p1 p2 p3 M g_p0 g_p1 hM
    unfold fX1_build_L127
    refine k_bn fun v127 => ?_
    exact hk20 ((p0, p1, p2, v127)) _ ⟨g_p0, g_p1⟩ hM
  have hL121 : ∀ (k20 : Option Nat × Option Nat × Int32 × Int32 → Mem → Option (Unit × Mem)) (hk20 : ∀ a M, (inG G (a.1) ∧ inG G (a.2.1)) → FrG G wkX1_build MM M → okv (fun _ : Unit => True) MM G wkX1_build (k20 a M)) (k31 : Option Nat × Option Nat × Int32 × Int32 × Int32 → Mem → Option (Unit × Mem)) (hk31 : ∀ a M, (inG G (a.1) ∧ inG G (a.2.1)) → FrG G wkX1_build MM M → okv (fun _ : Unit => True) MM G wkX1_build (k31 a M)) (p0 : Option Nat) (p1 : Option Nat) (p2 : Int32) (p3 : Int32) (p4 : Int32) (M : Mem) (g_p0 : inG G p0) (g_p1 : inG G p1) (hM : FrG G wkX1_build MM M), okv (fun _ : Unit => True) MM G wkX1_build (fX1_build_L121 k20 k31 p0 p1 p2 p3 p4 M) := by
    intro k20 hk20 k31 hk31 p0 p1 p2 p3 p4 M g_p0 g_p1 hM
    unfold fX1_build_L121
    refine k_bn fun v121 => ?_
    exact hk31 ((p0, p1, p2, p3, v121)) _ ⟨g_p0, g_p1⟩ hM
  have hL101 : ∀ (k20 : Option Nat × Option Nat × Int32 × Int32 → Mem → Option (Unit × Mem)) (hk20 : ∀ a M, (inG G (a.1) ∧ inG G (a.2.1)) → FrG G wkX1_build MM M → okv (fun _ : Unit => True) MM G wkX1_build (k20 a M)) (k31 : Option Nat × Option Nat × Int32 × Int32 × Int32 → Mem → Option (Unit × Mem)) (hk31 : ∀ a M, (inG G (a.1) ∧ inG G (a.2.1)) → FrG G wkX1_build MM M → okv (fun _ : Unit => True) MM G wkX1_build (k31 a M)) (p0 : Option Nat) (p1 : Option Nat) (p2 : Int32) (p3 : Int32) (p4 : Int32) (p5 : Int32) (M : Mem) (g_p0 : inG G p0) (g_p1 : inG G p1) (hM : FrG G wkX1_build MM M), okv (fun _ : Unit => True) MM G wkX1_build (fX1_build_L101 k20 k31 p0 p1 p2 p3 p4 p5 M) := by
    intro k20 hk20 k31 hk31 p0 p1 p2 p3 p4 p5 M g_p0 g_p1 hM
    refine k_lp (T := fun a : Option Nat × Option Nat × Int32 × Int32 × Int32 × Int32 => inG G (a.1) ∧ inG G (a.2.1)) ?_ FU ((p0, p1, p2, p3, p4, p5)) M ⟨g_p0, g_p1⟩ hM
    intro k101 hk101 a M T hM
    obtain ⟨p0, p1, p2, p3, p4, p5⟩ := a
    obtain ⟨g_p0, g_p1⟩ := T
    show okv (fun _ : Unit => True) MM G wkX1_build (fX1_build_B101 k20 k31 k101 p0 p1 p2 p3 p4 p5 M)
    unfold fX1_build_B101
    refine k_if ?_ ?_
    · exact hL121 k20 hk20 k31 hk31 p0 p1 p2 p3 p4 _ g_p0 g_p1 hM
    · refine k_gR hM g_p0 fun v108 g_v108 => ?_
      refine k_wI (by decide) hM g_v108 fun M114 hM114 => ?_
      refine k_bn fun v115 => ?_
      exact hk101 ((p0, p1, v115, p3, p4, p5)) _ ⟨g_p0, g_p1⟩ hM114
  have hL31 : ∀ (k20 : Option Nat × Option Nat × Int32 × Int32 → Mem → Option (Unit × Mem)) (hk20 : ∀ a M, (inG G (a.1) ∧ inG G (a.2.1)) → FrG G wkX1_build MM M → okv (fun _ : Unit => True) MM G wkX1_build (k20 a M)) (p0 : Option Nat) (p1 : Option Nat) (p2 : Int32) (p3 : Int32) (p4 : Int32) (M : Mem) (g_p0 : inG G p0) (g_p1 : inG G p1) (hM : FrG G wkX1_build MM M), okv (fun _ : Unit => True) MM G wkX1_build (fX1_build_L31 k20 p0 p1 p2 p3 p4 M) := by
    intro k20 hk20 p0 p1 p2 p3 p4 M g_p0 g_p1 hM
    refine k_lp (T := fun a : Option Nat × Option Nat × Int32 × Int32 × Int32 => inG G (a.1) ∧ inG G (a.2.1)) ?_ FU ((p0, p1, p2, p3, p4)) M ⟨g_p0, g_p1⟩ hM
    intro k31 hk31 a M T hM
    obtain ⟨p0, p1, p2, p3, p4⟩ := a
    obtain ⟨g_p0, g_p1⟩ := T
    show okv (fun _ : Unit => True) MM G wkX1_build (fX1_build_B31 k20 k31 p0 p1 p2 p3 p4 M)
    unfold fX1_build_B31
    refine k_bo fun v34 => ?_
    refine k_if ?_ ?_
    · exact hL127 k20 hk20 p0 p1 p2 p3 _ g_p0 g_p1 hM
    · refine k_if ?_ ?_
      · exact hL127 k20 hk20 p0 p1 p2 p3 _ g_p0 g_p1 hM
      · refine k_gR hM g_p1 fun v49 g_v49 => ?_
        refine k_bo fun v54 => ?_
        refine k_if ?_ ?_
        · refine k_gR hM g_p0 fun v60 g_v60 => ?_
          refine k_bo fun v66 => ?_
          refine k_wI (by decide) hM g_v60 fun M73 hM73 => ?_
          refine k_gR hM73 g_p0 fun v75 g_v75 => ?_
          refine k_wI (by decide) hM73 g_v75 fun M85 hM85 => ?_
          refine k_bn fun v99 => ?_
          exact hL101 k20 hk20 k31 hk31 p0 p1 p2 p3 p4 v99 _ g_p0 g_p1 hM85
        · exact hL121 k20 hk20 k31 hk31 p0 p1 p2 p3 p4 _ g_p0 g_p1 hM
  have hL20 : ∀ (p0 : Option Nat) (p1 : Option Nat) (p2 : Int32) (p3 : Int32) (M : Mem) (g_p0 : inG G p0) (g_p1 : inG G p1) (hM : FrG G wkX1_build MM M), okv (fun _ : Unit => True) MM G wkX1_build (fX1_build_L20 p0 p1 p2 p3 M) := by
    intro p0 p1 p2 p3 M g_p0 g_p1 hM
    refine k_lp (T := fun a : Option Nat × Option Nat × Int32 × Int32 => inG G (a.1) ∧ inG G (a.2.1)) ?_ FU ((p0, p1, p2, p3)) M ⟨g_p0, g_p1⟩ hM
    intro k20 hk20 a M T hM
    obtain ⟨p0, p1, p2, p3⟩ := a
    obtain ⟨g_p0, g_p1⟩ := T
    show okv (fun _ : Unit => True) MM G wkX1_build (fX1_build_B20 k20 p0 p1 p2 p3 M)
    unfold fX1_build_B20
    refine k_bo fun v22 => ?_
    refine k_if ?_ ?_
    · exact k_ret hM trivial
    · refine k_bn fun v29 => ?_
      exact hL31 k20 hk20 p0 p1 p2 p3 v29 _ g_p0 g_p1 hM
  unfold fX1_build
  refine k_bo fun v2 => ?_
  refine k_pI (by decide) (by decide) (by decide) hMM g_a0 fun M5 hM5 => ?_
  refine k_gR hM5 g_a0 fun v9 g_v9 => ?_
  refine k_call (by decide) hM5 (fun hc => frJ7_fill_53178 _ _ hst hc g_v9) fun v13 M13 _ hM13 => ?_
  refine k_bn fun v17 => ?_
  refine k_bn fun v19 => ?_
  exact hL20 a0 a1 v17 v19 _ g_a0 g_a1 hM13
def wkX1_symbolOf : List Nat := []
set_option maxRecDepth 100000 in
set_option maxHeartbeats 4000000 in
theorem frX1_symbolOf {G : Nat → Prop} {MM : Mem} (a0 : Option Nat) (a1 : Int32) (hst : ∀ k, k < 10 → G k) (hc : Cl G MM) (g_a0 : inG G a0) : okv (fun _ : Int32 => True) MM G wkX1_symbolOf (fX1_symbolOf a0 a1 MM) := by
  have hMM : FrG G wkX1_symbolOf MM MM := FrG.rf hc
  have hL21 : ∀ (q0 : Int32) (M : Mem) (hM : FrG G wkX1_symbolOf MM M), okv (fun _ : Int32 => True) MM G wkX1_symbolOf (fX1_symbolOf_L21 q0 M) := by
    intro q0 M hM
    unfold fX1_symbolOf_L21
    exact k_ret hM trivial
  have hL20 : ∀ (M : Mem) (hM : FrG G wkX1_symbolOf MM M), okv (fun _ : Int32 => True) MM G wkX1_symbolOf (fX1_symbolOf_L20 M) := by
    intro M hM
    unfold fX1_symbolOf_L20
    exact hL21 0 _ hM
  unfold fX1_symbolOf
  refine k_if ?_ ?_
  · exact hL20 _ hMM
  · refine k_if ?_ ?_
    · exact hL20 _ hMM
    · refine k_gR hMM g_a0 fun v12 g_v12 => ?_
      refine k_bo fun v16 => ?_
      exact hL21 v16 _ hMM
def wkX1_lengthOf : List Nat := []
set_option maxRecDepth 100000 in
set_option maxHeartbeats 4000000 in
theorem frX1_lengthOf {G : Nat → Prop} {MM : Mem} (a0 : Option Nat) (a1 : Option Nat) (a2 : Int32) (a3 : Int32) (hst : ∀ k, k < 10 → G k) (hc : Cl G MM) (g_a0 : inG G a0) (g_a1 : inG G a1) : okv (fun _ : Int32 => True) MM G wkX1_lengthOf (fX1_lengthOf a0 a1 a2 a3 MM) := by
  have hMM : FrG G wkX1_lengthOf MM MM := FrG.rf hc
  have hL6 : ∀ (p0 : Option Nat) (p1 : Option Nat) (p3 : Int32) (p4 : Int32) (p5 : Int32) (M : Mem) (g_p0 : inG G p0) (g_p1 : inG G p1) (hM : FrG G wkX1_lengthOf MM M), okv (fun _ : Int32 => True) MM G wkX1_lengthOf (fX1_lengthOf_L6 p0 p1 p3 p4 p5 M) := by
    intro p0 p1 p3 p4 p5 M g_p0 g_p1 hM
    refine k_lp (T := fun a : Option Nat × Option Nat × Int32 × Int32 × Int32 => inG G (a.1) ∧ inG G (a.2.1)) ?_ FU ((p0, p1, p3, p4, p5)) M ⟨g_p0, g_p1⟩ hM
    intro k6 hk6 a M T hM
    obtain ⟨p0, p1, p3, p4, p5⟩ := a
    obtain ⟨g_p0, g_p1⟩ := T
    show okv (fun _ : Int32 => True) MM G wkX1_lengthOf (fX1_lengthOf_B6 k6 p0 p1 p3 p4 p5 M)
    unfold fX1_lengthOf_B6
    refine k_if ?_ ?_
    · refine k_bo fun v38 => ?_
      exact k_ret hM trivial
    · refine k_gR hM g_p0 fun v15 g_v15 => ?_
      refine k_bo fun _ => ?_
      refine k_call (by decide) hM (fun hc => frX8_get _ _ hst hc g_p1) fun v21 M21 _ hM21 => ?_
      refine k_bo fun v24 => ?_
      refine k_bn fun v26 => ?_
      refine k_bn fun v28 => ?_
      exact hk6 ((p0, p1, p3, v26, v28)) _ ⟨g_p0, g_p1⟩ hM21
  unfold fX1_lengthOf
  refine k_bn fun v1 => ?_
  refine k_bn fun v4 => ?_
  exact hL6 a0 a1 a3 v1 v4 _ g_a0 g_a1 hMM
def wkX12_rememberFirst : List Nat := [1500]
set_option maxRecDepth 100000 in
set_option maxHeartbeats 4000000 in
theorem frX12_rememberFirst {G : Nat → Prop} {MM : Mem} (a0 : Option Nat) (a1 : Option Nat) (hst : ∀ k, k < 10 → G k) (hc : Cl G MM) (g_a0 : inG G a0) (g_a1 : inG G a1) : okv (fun _ : Unit => True) MM G wkX12_rememberFirst (fX12_rememberFirst a0 a1 MM) := by
  have hMM : FrG G wkX12_rememberFirst MM MM := FrG.rf hc
  have hL51 : ∀ (q0 : Option Nat) (q1 : Int32) (q2 : Int32) (M : Mem) (g_q0 : inG G q0) (hM : FrG G wkX12_rememberFirst MM M), okv (fun _ : Unit => True) MM G wkX12_rememberFirst (fX12_rememberFirst_L51 q0 q1 q2 M) := by
    intro q0 q1 q2 M g_q0 hM
    unfold fX12_rememberFirst_L51
    refine k_wI (by decide) hM g_q0 fun M51 hM51 => ?_
    exact k_ret hM51 trivial
  have hL33 : ∀ (p0 : Option Nat) (p1 : Option Nat) (q0 : Option Nat) (q1 : Int32) (q2 : Int32) (M : Mem) (g_p0 : inG G p0) (g_p1 : inG G p1) (g_q0 : inG G q0) (hM : FrG G wkX12_rememberFirst MM M), okv (fun _ : Unit => True) MM G wkX12_rememberFirst (fX12_rememberFirst_L33 p0 p1 q0 q1 q2 M) := by
    intro p0 p1 q0 q1 q2 M g_p0 g_p1 g_q0 hM
    unfold fX12_rememberFirst_L33
    refine k_wI (by decide) hM g_q0 fun M33 hM33 => ?_
    refine k_if ?_ ?_
    · exact hL51 p0 2 8 _ g_p0 hM33
    · refine k_gR hM33 g_p1 fun v46 g_v46 => ?_
      refine k_bo fun v50 => ?_
      exact hL51 p0 2 v50 _ g_p0 hM33
  have hL16 : ∀ (p0 : Option Nat) (p1 : Option Nat) (q0 : Option Nat) (q1 : Int32) (q2 : Int32) (M : Mem) (g_p0 : inG G p0) (g_p1 : inG G p1) (g_q0 : inG G q0) (hM : FrG G wkX12_rememberFirst MM M), okv (fun _ : Unit => True) MM G wkX12_rememberFirst (fX12_rememberFirst_L16 p0 p1 q0 q1 q2 M) := by
    intro p0 p1 q0 q1 q2 M g_p0 g_p1 g_q0 hM
    unfold fX12_rememberFirst_L16
    refine k_wI (by decide) hM g_q0 fun M16 hM16 => ?_
    refine k_if ?_ ?_
    · exact hL33 p0 p1 p0 1 4 _ g_p0 g_p1 g_p0 hM16
    · refine k_gR hM16 g_p1 fun v28 g_v28 => ?_
      refine k_bo fun v32 => ?_
      exact hL33 p0 p1 p0 1 v32 _ g_p0 g_p1 g_p0 hM16
  unfold fX12_rememberFirst
  refine k_if ?_ ?_
  · exact hL16 a0 a1 a0 0 1 _ g_a0 g_a1 g_a0 hMM
  · refine k_gR hMM g_a1 fun v11 g_v11 => ?_
    refine k_bo fun v15 => ?_
    exact hL16 a0 a1 a0 0 v15 _ g_a0 g_a1 g_a0 hMM
def wkX8_number : List Nat := []
set_option maxRecDepth 100000 in
set_option maxHeartbeats 4000000 in
theorem frX8_number {G : Nat → Prop} {MM : Mem} (a0 : Option Nat) (a1 : Int32) (a2 : Int32) (hst : ∀ k, k < 10 → G k) (hc : Cl G MM) (g_a0 : inG G a0) : okv (fun _ : Int64 => True) MM G wkX8_number (fX8_number a0 a1 a2 MM) := by
  have hMM : FrG G wkX8_number MM MM := FrG.rf hc
  have hL7 : ∀ (p0 : Option Nat) (p1 : Int32) (p3 : Int64) (p5 : Int32) (M : Mem) (g_p0 : inG G p0) (hM : FrG G wkX8_number MM M), okv (fun _ : Int64 => True) MM G wkX8_number (fX8_number_L7 p0 p1 p3 p5 M) := by
    intro p0 p1 p3 p5 M g_p0 hM
    refine k_lp (T := fun a : Option Nat × Int32 × Int64 × Int32 => inG G (a.1)) ?_ FU ((p0, p1, p3, p5)) M g_p0 hM
    intro k7 hk7 a M T hM
    obtain ⟨p0, p1, p3, p5⟩ := a
    have g_p0 := T
    show okv (fun _ : Int64 => True) MM G wkX8_number (fX8_number_B7 k7 p0 p1 p3 p5 M)
    unfold fX8_number_B7
    refine k_if ?_ ?_
    · exact k_ret hM trivial
    · refine k_bo fun _ => ?_
      refine k_call (by decide) hM (fun hc => frX8_get _ _ hst hc g_p0) fun v21 M21 _ hM21 => ?_
      refine k_bn fun v26 => ?_
      refine k_bn fun v27 => ?_
      exact hk7 ((p0, p1, v26, v27)) _ g_p0 hM21
  unfold fX8_number
  refine k_bn fun v1 => ?_
  refine k_bn fun v5 => ?_
  exact hL7 a0 a1 v1 v5 _ g_a0 hMM
def wkX11_readHalves : List Nat := [1101, 1500]
set_option maxRecDepth 100000 in
set_option maxHeartbeats 4000000 in
theorem frX11_readHalves {G : Nat → Prop} {MM : Mem} (a0 : Option Nat) (a1 : Option Nat) (a2 : Int32) (a3 : Int32) (hst : ∀ k, k < 10 → G k) (hc : Cl G MM) (g_a0 : inG G a0) (g_a1 : inG G a1) : okv (fun _ : Unit => True) MM G wkX11_readHalves (fX11_readHalves a0 a1 a2 a3 MM) := by
  have hMM : FrG G wkX11_readHalves MM MM := FrG.rf hc
  have hL51 : ∀ (k14 : Option Nat × Option Nat × Int32 × Int32 → Mem → Option (Unit × Mem)) (hk14 : ∀ a M, (inG G (a.1) ∧ inG G (a.2.1)) → FrG G wkX11_readHalves MM M → okv (fun _ : Unit => True) MM G wkX11_readHalves (k14 a M)) (p0 : Option Nat) (p1 : Option Nat) (p2 : Int32) (p4 : Int32) (q0 : Option Nat) (q1 : Int32) (q2 : Int32) (q3 : Int32) (M : Mem) (g_p0 : inG G p0) (g_p1 : inG G p1) (g_q0 : inG G q0) (hM : FrG G wkX11_readHalves MM M), okv (fun _ : Unit => True) MM G wkX11_readHalves (fX11_readHalves_L51 k14 p0 p1 p2 p4 q0 q1 q2 q3 M) := by
    intro k14 hk14 p0 p1 p2 p4 q0 q1 q2 q3 M g_p0 g_p1 g_q0 hM
    unfold fX11_readHalves_L51
    refine k_wI (by decide) hM g_q0 fun M55 hM55 => ?_
    refine k_bn fun v56 => ?_
    exact hk14 ((p0, p1, p2, v56)) _ ⟨g_p0, g_p1⟩ hM55
  have hL14 : ∀ (p0 : Option Nat) (p1 : Option Nat) (p2 : Int32) (p4 : Int32) (M : Mem) (g_p0 : inG G p0) (g_p1 : inG G p1) (hM : FrG G wkX11_readHalves MM M), okv (fun _ : Unit => True) MM G wkX11_readHalves (fX11_readHalves_L14 p0 p1 p2 p4 M) := by
    intro p0 p1 p2 p4 M g_p0 g_p1 hM
    refine k_lp (T := fun a : Option Nat × Option Nat × Int32 × Int32 => inG G (a.1) ∧ inG G (a.2.1)) ?_ FU ((p0, p1, p2, p4)) M ⟨g_p0, g_p1⟩ hM
    intro k14 hk14 a M T hM
    obtain ⟨p0, p1, p2, p4⟩ := a
    obtain ⟨g_p0, g_p1⟩ := T
    show okv (fun _ : Unit => True) MM G wkX11_readHalves (fX11_readHalves_B14 k14 p0 p1 p2 p4 M)
    unfold fX11_readHalves_B14
    refine k_bo fun v17 => ?_
    refine k_if ?_ ?_
    · exact k_ret hM trivial
    · refine k_gR hM g_p0 fun v24 g_v24 => ?_
      refine k_bo fun v34 => ?_
      refine k_bo fun _ => ?_
      refine k_call (by decide) hM (fun hc => frX8_get _ _ hst hc g_p1) fun v36 M36 _ hM36 => ?_
      refine k_bo fun v42 => ?_
      refine k_if ?_ ?_
      · exact hL51 k14 hk14 p0 p1 p2 p4 v24 p4 v36 4 _ g_p0 g_p1 g_v24 hM36
      · exact hL51 k14 hk14 p0 p1 p2 p4 v24 p4 v36 0 _ g_p0 g_p1 g_v24 hM36
  unfold fX11_readHalves
  refine k_pI (by decide) (by decide) (by decide) hMM g_a0 fun M8 hM8 => ?_
  refine k_bn fun v12 => ?_
  exact hL14 a0 a1 a2 v12 _ g_a0 g_a1 hM8
def wkX10_takeBits : List Nat := [1006, 1008]
set_option maxRecDepth 100000 in
set_option maxHeartbeats 4000000 in
theorem frX10_takeBits {G : Nat → Prop} {MM : Mem} (a0 : Option Nat) (a1 : Int32) (hst : ∀ k, k < 10 → G k) (hc : Cl G MM) (g_a0 : inG G a0) : okv (fun _ : Int32 => True) MM G wkX10_takeBits (fX10_takeBits a0 a1 MM) := by
  have hMM : FrG G wkX10_takeBits MM MM := FrG.rf hc
  have hL78 : ∀ (k24 : Option Nat × Int32 × Int32 × Int32 → Mem → Option (Int32 × Mem)) (hk24 : ∀ a M, (inG G (a.1)) → FrG G wkX10_takeBits MM M → okv (fun _ : Int32 => True) MM G wkX10_takeBits (k24 a M)) (p0 : Option Nat) (p1 : Int32) (p2 : Int32) (p3 : Int32) (M : Mem) (g_p0 : inG G p0) (hM : FrG G wkX10_takeBits MM M), okv (fun _ : Int32 => True) MM G wkX10_takeBits (fX10_takeBits_L78 k24 p0 p1 p2 p3 M) := by
    intro k24 hk24 p0 p1 p2 p3 M g_p0 hM
    unfold fX10_takeBits_L78
    refine k_bn fun v78 => ?_
    exact hk24 ((p0, p1, p2, v78)) _ g_p0 hM
  have hL24 : ∀ (p0 : Option Nat) (p1 : Int32) (p2 : Int32) (p3 : Int32) (M : Mem) (g_p0 : inG G p0) (hM : FrG G wkX10_takeBits MM M), okv (fun _ : Int32 => True) MM G wkX10_takeBits (fX10_takeBits_L24 p0 p1 p2 p3 M) := by
    intro p0 p1 p2 p3 M g_p0 hM
    refine k_lp (T := fun a : Option Nat × Int32 × Int32 × Int32 => inG G (a.1)) ?_ FU ((p0, p1, p2, p3)) M g_p0 hM
    intro k24 hk24 a M T hM
    obtain ⟨p0, p1, p2, p3⟩ := a
    have g_p0 := T
    show okv (fun _ : Int32 => True) MM G wkX10_takeBits (fX10_takeBits_B24 k24 p0 p1 p2 p3 M)
    unfold fX10_takeBits_B24
    refine k_if ?_ ?_
    · refine k_bo fun v86 => ?_
      refine k_pI (by decide) (by decide) (by decide) hM g_p0 fun M91 hM91 => ?_
      exact k_ret hM91 trivial
    · refine k_bo fun v30 => ?_
      refine k_bn fun v37 => ?_
      refine k_if ?_ ?_
      · exact hL78 k24 hk24 p0 p1 p2 p3 _ g_p0 hM
      · refine k_gR hM g_p0 fun v47 g_v47 => ?_
        refine k_bo fun v50 => ?_
        refine k_if ?_ ?_
        · exact hL78 k24 hk24 p0 p1 p2 p3 _ g_p0 hM
        · refine k_gR hM g_p0 fun v56 g_v56 => ?_
          refine k_bo fun v61 => ?_
          refine k_bo fun v63 => ?_
          refine k_bn fun v77 => ?_
          exact hL78 k24 hk24 p0 p1 v77 p3 _ g_p0 hM
  unfold fX10_takeBits
  refine k_bo fun v1 => ?_
  refine k_bo fun v7 => ?_
  refine k_if ?_ ?_
  · refine k_bn fun v21 => ?_
    refine k_bn fun v23 => ?_
    exact hL24 a0 a1 v21 v23 _ g_a0 hMM
  · refine k_pZ (by decide) (by decide) hMM g_a0 fun M15 hM15 => ?_
    exact k_ret hM15 trivial
def wkX10_takeCount : List Nat := [1006, 1008]
set_option maxRecDepth 100000 in
set_option maxHeartbeats 4000000 in
theorem frX10_takeCount {G : Nat → Prop} {MM : Mem} (a0 : Option Nat) (a1 : Int32) (hst : ∀ k, k < 10 → G k) (hc : Cl G MM) (g_a0 : inG G a0) : okv (fun _ : Int32 => True) MM G wkX10_takeCount (fX10_takeCount a0 a1 MM) := by
  have hMM : FrG G wkX10_takeCount MM MM := FrG.rf hc
  have hL54 : ∀ (p4 : Int32) (M : Mem) (hM : FrG G wkX10_takeCount MM M), okv (fun _ : Int32 => True) MM G wkX10_takeCount (fX10_takeCount_L54 p4 M) := by
    intro p4 M hM
    unfold fX10_takeCount_L54
    exact k_ret hM trivial
  unfold fX10_takeCount
  refine k_call (by decide) hMM (fun hc => frX12_logOf _ hst hc) fun v4 M4 _ hM4 => ?_
  refine k_bn fun v9 => ?_
  refine k_bn fun v17 => ?_
  refine k_bo fun _ => ?_
  refine k_call (by decide) hM4 (fun hc => frX10_takeBits _ _ hst hc g_a0) fun v22 M22 _ hM22 => ?_
  refine k_bn fun v25 => ?_
  refine k_if ?_ ?_
  · exact hL54 v25 _ hM22
  · refine k_bo fun _ => ?_
    refine k_call (by decide) hM22 (fun hc => frX10_takeBits _ _ hst hc g_a0) fun v35 M35 _ hM35 => ?_
    refine k_if ?_ ?_
    · refine k_bn fun v52 => ?_
      exact hL54 v52 _ hM35
    · exact hL54 v25 _ hM35
def wkX10_spread : List Nat := [1500]
set_option maxRecDepth 100000 in
set_option maxHeartbeats 4000000 in
theorem frX10_spread {G : Nat → Prop} {MM : Mem} (a0 : Option Nat) (a1 : Int32) (a2 : Int32) (hst : ∀ k, k < 10 → G k) (hc : Cl G MM) (g_a0 : inG G a0) : okv (fun _ : Unit => True) MM G wkX10_spread (fX10_spread a0 a1 a2 MM) := by
  have hMM : FrG G wkX10_spread MM MM := FrG.rf hc
  have hL91 : ∀ (k17 : Option Nat × Int32 × Int32 × Int32 × Int32 × Int32 → Mem → Option (Unit × Mem)) (hk17 : ∀ a M, (inG G (a.1)) → FrG G wkX10_spread MM M → okv (fun _ : Unit => True) MM G wkX10_spread (k17 a M)) (k29 : Option Nat × Int32 × Int32 × Int32 × Int32 × Int32 × Int32 → Mem → Option (Unit × Mem)) (hk29 : ∀ a M, (inG G (a.1)) → FrG G wkX10_spread MM M → okv (fun _ : Unit => True) MM G wkX10_spread (k29 a M)) (p0 : Option Nat) (p1 : Int32) (p2 : Int32) (p3 : Int32) (p4 : Int32) (p5 : Int32) (p6 : Int32) (M : Mem) (g_p0 : inG G p0) (hM : FrG G wkX10_spread MM M), okv (fun _ : Unit => True) MM G wkX10_spread (fX10_spread_L91 k17 k29 p0 p1 p2 p3 p4 p5 p6 M) := by
    intro k17 hk17 k29 hk29 p0 p1 p2 p3 p4 p5 p6 M g_p0 hM
    unfold fX10_spread_L91
    refine k_bn fun v91 => ?_
    exact hk29 ((p0, p1, p2, p3, p4, p5, v91)) _ g_p0 hM
  have hL63 : ∀ (k17 : Option Nat × Int32 × Int32 × Int32 × Int32 × Int32 → Mem → Option (Unit × Mem)) (hk17 : ∀ a M, (inG G (a.1)) → FrG G wkX10_spread MM M → okv (fun _ : Unit => True) MM G wkX10_spread (k17 a M)) (k29 : Option Nat × Int32 × Int32 × Int32 × Int32 × Int32 × Int32 → Mem → Option (Unit × Mem)) (hk29 : ∀ a M, (inG G (a.1)) → FrG G wkX10_spread MM M → okv (fun _ : Unit => True) MM G wkX10_spread (k29 a M)) (p0 : Option Nat) (p1 : Int32) (p2 : Int32) (p3 : Int32) (p4 : Int32) (p5 : Int32) (p6 : Int32) (p7 : Int32) (M : Mem) (g_p0 : inG G p0) (hM : FrG G wkX10_spread MM M), okv (fun _ : Unit => True) MM G wkX10_spread (fX10_spread_L63 k17 k29 p0 p1 p2 p3 p4 p5 p6 p7 M) := by
    intro k17 hk17 k29 hk29 p0 p1 p2 p3 p4 p5 p6 p7 M g_p0 hM
    refine k_lp (T := fun a : Option Nat × Int32 × Int32 × Int32 × Int32 × Int32 × Int32 × Int32 => inG G (a.1)) ?_ FU ((p0, p1, p2, p3, p4, p5, p6, p7)) M g_p0 hM
    intro k63 hk63 a M T hM
    obtain ⟨p0, p1, p2, p3, p4, p5, p6, p7⟩ := a
    have g_p0 := T
    show okv (fun _ : Unit => True) MM G wkX10_spread (fX10_spread_B63 k17 k29 k63 p0 p1 p2 p3 p4 p5 p6 p7 M)
    unfold fX10_spread_B63
    refine k_if ?_ ?_
    · exact hL91 k17 hk17 k29 hk29 p0 p1 p2 p3 p4 p5 p6 _ g_p0 hM
    · refine k_if ?_ ?_
      · exact hL91 k17 hk17 k29 hk29 p0 p1 p2 p3 p4 p5 p6 _ g_p0 hM
      · refine k_bn fun v83 => ?_
        refine k_bn fun v85 => ?_
        exact hk63 ((p0, p1, p2, p3, v83, p5, p6, v85)) _ g_p0 hM
  have hL29 : ∀ (k17 : Option Nat × Int32 × Int32 × Int32 × Int32 × Int32 → Mem → Option (Unit × Mem)) (hk17 : ∀ a M, (inG G (a.1)) → FrG G wkX10_spread MM M → okv (fun _ : Unit => True) MM G wkX10_spread (k17 a M)) (p0 : Option Nat) (p1 : Int32) (p2 : Int32) (p3 : Int32) (p4 : Int32) (p5 : Int32) (p6 : Int32) (M : Mem) (g_p0 : inG G p0) (hM : FrG G wkX10_spread MM M), okv (fun _ : Unit => True) MM G wkX10_spread (fX10_spread_L29 k17 p0 p1 p2 p3 p4 p5 p6 M) := by
    intro k17 hk17 p0 p1 p2 p3 p4 p5 p6 M g_p0 hM
    refine k_lp (T := fun a : Option Nat × Int32 × Int32 × Int32 × Int32 × Int32 × Int32 => inG G (a.1)) ?_ FU ((p0, p1, p2, p3, p4, p5, p6)) M g_p0 hM
    intro k29 hk29 a M T hM
    obtain ⟨p0, p1, p2, p3, p4, p5, p6⟩ := a
    have g_p0 := T
    show okv (fun _ : Unit => True) MM G wkX10_spread (fX10_spread_B29 k17 k29 p0 p1 p2 p3 p4 p5 p6 M)
    unfold fX10_spread_B29
    refine k_gR hM g_p0 fun v32 g_v32 => ?_
    refine k_bo fun v37 => ?_
    refine k_if ?_ ?_
    · refine k_bn fun v97 => ?_
      exact hk17 ((p0, p1, p2, p3, p4, v97)) _ g_p0 hM
    · refine k_gR hM g_p0 fun v42 g_v42 => ?_
      refine k_wI (by decide) hM g_v42 fun M49 hM49 => ?_
      refine k_bn fun v58 => ?_
      refine k_bn fun v61 => ?_
      exact hL63 k17 hk17 k29 hk29 p0 p1 p2 p3 v58 p5 p6 v61 _ g_p0 hM49
  have hL17 : ∀ (p0 : Option Nat) (p1 : Int32) (p2 : Int32) (p3 : Int32) (p4 : Int32) (p5 : Int32) (M : Mem) (g_p0 : inG G p0) (hM : FrG G wkX10_spread MM M), okv (fun _ : Unit => True) MM G wkX10_spread (fX10_spread_L17 p0 p1 p2 p3 p4 p5 M) := by
    intro p0 p1 p2 p3 p4 p5 M g_p0 hM
    refine k_lp (T := fun a : Option Nat × Int32 × Int32 × Int32 × Int32 × Int32 => inG G (a.1)) ?_ FU ((p0, p1, p2, p3, p4, p5)) M g_p0 hM
    intro k17 hk17 a M T hM
    obtain ⟨p0, p1, p2, p3, p4, p5⟩ := a
    have g_p0 := T
    show okv (fun _ : Unit => True) MM G wkX10_spread (fX10_spread_B17 k17 p0 p1 p2 p3 p4 p5 M)
    unfold fX10_spread_B17
    refine k_bo fun v20 => ?_
    refine k_if ?_ ?_
    · exact k_ret hM trivial
    · refine k_bn fun v27 => ?_
      exact hL29 k17 hk17 p0 p1 p2 p3 p4 p5 v27 _ g_p0 hM
  unfold fX10_spread
  refine k_bo fun v2 => ?_
  refine k_bo fun v6 => ?_
  refine k_bn fun v10 => ?_
  refine k_bn fun v12 => ?_
  refine k_bn fun v15 => ?_
  exact hL17 a0 a1 a2 v10 v12 v15 _ g_a0 hMM
def wkX10_symbolAt : List Nat := []
set_option maxRecDepth 100000 in
set_option maxHeartbeats 4000000 in
theorem frX10_symbolAt {G : Nat → Prop} {MM : Mem} (a0 : Option Nat) (a1 : Int32) (hst : ∀ k, k < 10 → G k) (hc : Cl G MM) (g_a0 : inG G a0) : okv (fun _ : Int32 => True) MM G wkX10_symbolAt (fX10_symbolAt a0 a1 MM) := by
  have hMM : FrG G wkX10_symbolAt MM MM := FrG.rf hc
  have hL25 : ∀ (q0 : Int32) (M : Mem) (hM : FrG G wkX10_symbolAt MM M), okv (fun _ : Int32 => True) MM G wkX10_symbolAt (fX10_symbolAt_L25 q0 M) := by
    intro q0 M hM
    unfold fX10_symbolAt_L25
    exact k_ret hM trivial
  have hL24 : ∀ (M : Mem) (hM : FrG G wkX10_symbolAt MM M), okv (fun _ : Int32 => True) MM G wkX10_symbolAt (fX10_symbolAt_L24 M) := by
    intro M hM
    unfold fX10_symbolAt_L24
    exact hL25 0 _ hM
  unfold fX10_symbolAt
  refine k_if ?_ ?_
  · exact hL24 _ hMM
  · refine k_if ?_ ?_
    · exact hL24 _ hMM
    · refine k_gR hMM g_a0 fun v12 g_v12 => ?_
      refine k_bo fun v16 => ?_
      exact hL25 (v16 &&& 255) _ hMM
def wkX10_build : List Nat := [1000, 1500]
set_option maxRecDepth 100000 in
set_option maxHeartbeats 4000000 in
theorem frX10_build {G : Nat → Prop} {MM : Mem} (a0 : Option Nat) (a1 : Int32) (hst : ∀ k, k < 10 → G k) (hc : Cl G MM) (g_a0 : inG G a0) : okv (fun _ : Unit => True) MM G wkX10_build (fX10_build a0 a1 MM) := by
  have hMM : FrG G wkX10_build MM MM := FrG.rf hc
  have hL91 : ∀ (p0 : Option Nat) (p2 : Int32) (p4 : Int32) (M : Mem) (g_p0 : inG G p0) (hM : FrG G wkX10_build MM M), okv (fun _ : Unit => True) MM G wkX10_build (fX10_build_L91 p0 p2 p4 M) := by
    intro p0 p2 p4 M g_p0 hM
    refine k_lp (T := fun a : Option Nat × Int32 × Int32 => inG G (a.1)) ?_ FU ((p0, p2, p4)) M g_p0 hM
    intro k91 hk91 a M T hM
    obtain ⟨p0, p2, p4⟩ := a
    have g_p0 := T
    show okv (fun _ : Unit => True) MM G wkX10_build (fX10_build_B91 k91 p0 p2 p4 M)
    unfold fX10_build_B91
    refine k_if ?_ ?_
    · exact k_ret hM trivial
    · refine k_bo fun _ => ?_
      refine k_call (by decide) hM (fun hc => frX10_symbolAt _ _ hst hc g_p0) fun v100 M100 _ hM100 => ?_
      refine k_bn fun v103 => ?_
      refine k_gR hM100 g_p0 fun v106 g_v106 => ?_
      refine k_bo fun v111 => ?_
      refine k_bn fun v112 => ?_
      refine k_gR hM100 g_p0 fun v115 g_v115 => ?_
      refine k_bo fun v121 => ?_
      refine k_wI (by decide) hM100 g_v115 fun M124 hM124 => ?_
      refine k_bo fun v126 => ?_
      refine k_call (by decide) hM124 (fun hc => frX12_logOf _ hst hc) fun v132 M132 _ hM132 => ?_
      refine k_bn fun v136 => ?_
      refine k_gR hM132 g_p0 fun v139 g_v139 => ?_
      refine k_wI (by decide) hM132 g_v139 fun M163 hM163 => ?_
      refine k_bn fun v164 => ?_
      exact hk91 ((p0, p2, v164)) _ g_p0 hM163
  have hL76 : ∀ (k25 : Option Nat × Int32 × Int32 × Int32 → Mem → Option (Unit × Mem)) (hk25 : ∀ a M, (inG G (a.1)) → FrG G wkX10_build MM M → okv (fun _ : Unit => True) MM G wkX10_build (k25 a M)) (p0 : Option Nat) (p2 : Int32) (p3 : Int32) (p4 : Int32) (M : Mem) (g_p0 : inG G p0) (hM : FrG G wkX10_build MM M), okv (fun _ : Unit => True) MM G wkX10_build (fX10_build_L76 k25 p0 p2 p3 p4 M) := by
    intro k25 hk25 p0 p2 p3 p4 M g_p0 hM
    unfold fX10_build_L76
    refine k_bn fun v76 => ?_
    exact hk25 ((p0, p2, p3, v76)) _ g_p0 hM
  have hL25 : ∀ (p0 : Option Nat) (p2 : Int32) (p3 : Int32) (p4 : Int32) (M : Mem) (g_p0 : inG G p0) (hM : FrG G wkX10_build MM M), okv (fun _ : Unit => True) MM G wkX10_build (fX10_build_L25 p0 p2 p3 p4 M) := by
    intro p0 p2 p3 p4 M g_p0 hM
    refine k_lp (T := fun a : Option Nat × Int32 × Int32 × Int32 => inG G (a.1)) ?_ FU ((p0, p2, p3, p4)) M g_p0 hM
    intro k25 hk25 a M T hM
    obtain ⟨p0, p2, p3, p4⟩ := a
    have g_p0 := T
    show okv (fun _ : Unit => True) MM G wkX10_build (fX10_build_B25 k25 p0 p2 p3 p4 M)
    unfold fX10_build_B25
    refine k_bo fun v28 => ?_
    refine k_if ?_ ?_
    · refine k_bo fun _ => ?_
      refine k_call (by decide) hM (fun hc => frX10_spread _ _ _ hst hc g_p0) fun v85 M85 _ hM85 => ?_
      refine k_bn fun v89 => ?_
      exact hL91 p0 p2 v89 _ g_p0 hM85
    · refine k_gR hM g_p0 fun v35 g_v35 => ?_
      refine k_gR hM g_p0 fun v41 g_v41 => ?_
      refine k_bo fun v46 => ?_
      refine k_wI (by decide) hM g_v35 fun M50 hM50 => ?_
      refine k_gR hM50 g_p0 fun v52 g_v52 => ?_
      refine k_bo fun v57 => ?_
      refine k_if ?_ ?_
      · exact hL76 k25 hk25 p0 p2 p3 p4 _ g_p0 hM50
      · refine k_if ?_ ?_
        · exact hL76 k25 hk25 p0 p2 p3 p4 _ g_p0 hM50
        · refine k_gR hM50 g_p0 fun v66 g_v66 => ?_
          refine k_wI (by decide) hM50 g_v66 fun M72 hM72 => ?_
          refine k_bn fun v73 => ?_
          exact hL76 k25 hk25 p0 p2 v73 p4 _ g_p0 hM72
  unfold fX10_build
  refine k_pI (by decide) (by decide) (by decide) hMM g_a0 fun M2 hM2 => ?_
  refine k_bo fun v7 => ?_
  refine k_bn fun v17 => ?_
  refine k_bn fun v21 => ?_
  refine k_bn fun v23 => ?_
  exact hL25 a0 v17 v21 v23 _ g_a0 hM2
def wkX10_read : List Nat := [1000, 1004, 1005, 1006, 1007, 1008, 1500]
set_option maxRecDepth 100000 in
set_option maxHeartbeats 4000000 in
theorem frX10_read {G : Nat → Prop} {MM : Mem} (a0 : Option Nat) (a1 : Option Nat) (a2 : Int32) (a3 : Int32) (a4 : Int32) (a5 : Int32) (hst : ∀ k, k < 10 → G k) (hc : Cl G MM) (g_a0 : inG G a0) (g_a1 : inG G a1) : okv (fun _ : Int32 => True) MM G wkX10_read (fX10_read a0 a1 a2 a3 a4 a5 MM) := by
  have hMM : FrG G wkX10_read MM MM := FrG.rf hc
  have hL72 : ∀ (M : Mem) (hM : FrG G wkX10_read MM M), okv (fun _ : Int32 => True) MM G wkX10_read (fX10_read_L72 M) := by
    intro M hM
    unfold fX10_read_L72
    exact k_ret hM trivial
  have hL257 : ∀ (M : Mem) (hM : FrG G wkX10_read MM M), okv (fun _ : Int32 => True) MM G wkX10_read (fX10_read_L257 M) := by
    intro M hM
    unfold fX10_read_L257
    exact k_ret hM trivial
  have hL245 : ∀ (p0 : Option Nat) (p6 : Int32) (p7 : Int32) (M : Mem) (g_p0 : inG G p0) (hM : FrG G wkX10_read MM M), okv (fun _ : Int32 => True) MM G wkX10_read (fX10_read_L245 p0 p6 p7 M) := by
    intro p0 p6 p7 M g_p0 hM
    unfold fX10_read_L245
    refine k_bo fun v246 => ?_
    refine k_if ?_ ?_
    · refine k_if ?_ ?_
      · refine k_bo fun _ => ?_
        refine k_call (by decide) hM (fun hc => frX10_build _ _ hst hc g_p0) fun v262 M262 _ hM262 => ?_
        refine k_bo fun v266 => ?_
        refine k_bo fun v274 => ?_
        exact k_ret hM262 trivial
      · exact hL257 _ hM
    · exact hL257 _ hM
  have hL239 : ∀ (k86 : Option Nat × Int32 × Int32 × Int32 × Int32 × Int32 → Mem → Option (Int32 × Mem)) (hk86 : ∀ a M, (inG G (a.1)) → FrG G wkX10_read MM M → okv (fun _ : Int32 => True) MM G wkX10_read (k86 a M)) (p0 : Option Nat) (p4 : Int32) (p6 : Int32) (p7 : Int32) (p8 : Int32) (p9 : Int32) (M : Mem) (g_p0 : inG G p0) (hM : FrG G wkX10_read MM M), okv (fun _ : Int32 => True) MM G wkX10_read (fX10_read_L239 k86 p0 p4 p6 p7 p8 p9 M) := by
    intro k86 hk86 p0 p4 p6 p7 p8 p9 M g_p0 hM
    unfold fX10_read_L239
    refine k_bn fun v239 => ?_
    exact hk86 ((p0, p4, p6, p7, p8, v239)) _ g_p0 hM
  have hL237 : ∀ (k86 : Option Nat × Int32 × Int32 × Int32 × Int32 × Int32 → Mem → Option (Int32 × Mem)) (hk86 : ∀ a M, (inG G (a.1)) → FrG G wkX10_read MM M → okv (fun _ : Int32 => True) MM G wkX10_read (k86 a M)) (p0 : Option Nat) (p4 : Int32) (p6 : Int32) (p7 : Int32) (p9 : Int32) (q0 : Int32) (M : Mem) (g_p0 : inG G p0) (hM : FrG G wkX10_read MM M), okv (fun _ : Int32 => True) MM G wkX10_read (fX10_read_L237 k86 p0 p4 p6 p7 p9 q0 M) := by
    intro k86 hk86 p0 p4 p6 p7 p9 q0 M g_p0 hM
    unfold fX10_read_L237
    refine k_bn fun v237 => ?_
    exact hL239 k86 hk86 p0 p4 p6 p7 v237 p9 _ g_p0 hM
  have hL183 : ∀ (k86 : Option Nat × Int32 × Int32 × Int32 × Int32 × Int32 → Mem → Option (Int32 × Mem)) (hk86 : ∀ a M, (inG G (a.1)) → FrG G wkX10_read MM M → okv (fun _ : Int32 => True) MM G wkX10_read (k86 a M)) (p0 : Option Nat) (p4 : Int32) (p6 : Int32) (p7 : Int32) (p9 : Int32) (q0 : Int32) (M : Mem) (g_p0 : inG G p0) (hM : FrG G wkX10_read MM M), okv (fun _ : Int32 => True) MM G wkX10_read (fX10_read_L183 k86 p0 p4 p6 p7 p9 q0 M) := by
    intro k86 hk86 p0 p4 p6 p7 p9 q0 M g_p0 hM
    unfold fX10_read_L183
    refine k_bn fun v183 => ?_
    exact hL239 k86 hk86 p0 p4 p6 p7 v183 p9 _ g_p0 hM
  have hL172 : ∀ (k86 : Option Nat × Int32 × Int32 × Int32 × Int32 × Int32 → Mem → Option (Int32 × Mem)) (hk86 : ∀ a M, (inG G (a.1)) → FrG G wkX10_read MM M → okv (fun _ : Int32 => True) MM G wkX10_read (k86 a M)) (p0 : Option Nat) (p4 : Int32) (p6 : Int32) (p7 : Int32) (p9 : Int32) (p10 : Int32) (M : Mem) (g_p0 : inG G p0) (hM : FrG G wkX10_read MM M), okv (fun _ : Int32 => True) MM G wkX10_read (fX10_read_L172 k86 p0 p4 p6 p7 p9 p10 M) := by
    intro k86 hk86 p0 p4 p6 p7 p9 p10 M g_p0 hM
    unfold fX10_read_L172
    refine k_if ?_ ?_
    · exact hL183 k86 hk86 p0 p4 p6 p7 p9 1 _ g_p0 hM
    · exact hL183 k86 hk86 p0 p4 p6 p7 p9 0 _ g_p0 hM
  have hL130 : ∀ (k86 : Option Nat × Int32 × Int32 × Int32 × Int32 × Int32 → Mem → Option (Int32 × Mem)) (hk86 : ∀ a M, (inG G (a.1)) → FrG G wkX10_read MM M → okv (fun _ : Int32 => True) MM G wkX10_read (k86 a M)) (p0 : Option Nat) (p4 : Int32) (p6 : Int32) (p7 : Int32) (p9 : Int32) (p10 : Int32) (p11 : Int32) (M : Mem) (g_p0 : inG G p0) (hM : FrG G wkX10_read MM M), okv (fun _ : Int32 => True) MM G wkX10_read (fX10_read_L130 k86 p0 p4 p6 p7 p9 p10 p11 M) := by
    intro k86 hk86 p0 p4 p6 p7 p9 p10 p11 M g_p0 hM
    refine k_lp (T := fun a : Option Nat × Int32 × Int32 × Int32 × Int32 × Int32 × Int32 => inG G (a.1)) ?_ FU ((p0, p4, p6, p7, p9, p10, p11)) M g_p0 hM
    intro k130 hk130 a M T hM
    obtain ⟨p0, p4, p6, p7, p9, p10, p11⟩ := a
    have g_p0 := T
    show okv (fun _ : Int32 => True) MM G wkX10_read (fX10_read_B130 k86 k130 p0 p4 p6 p7 p9 p10 p11 M)
    unfold fX10_read_B130
    refine k_if ?_ ?_
    · exact hL172 k86 hk86 p0 p4 p6 p7 p9 p10 _ g_p0 hM
    · refine k_bo fun v138 => ?_
      refine k_if ?_ ?_
      · exact hL172 k86 hk86 p0 p4 p6 p7 p9 p10 _ g_p0 hM
      · refine k_gR hM g_p0 fun v147 g_v147 => ?_
        refine k_bo fun v151 => ?_
        refine k_wI (by decide) hM g_v147 fun M155 hM155 => ?_
        refine k_bo fun v158 => ?_
        refine k_pI (by decide) (by decide) (by decide) hM155 g_p0 fun M163 hM163 => ?_
        refine k_bn fun v166 => ?_
        exact hk130 ((p0, p4, p6, p7, p9, p10, v166)) _ g_p0 hM163
  have hL86 : ∀ (p0 : Option Nat) (p4 : Int32) (p6 : Int32) (p7 : Int32) (p8 : Int32) (p9 : Int32) (M : Mem) (g_p0 : inG G p0) (hM : FrG G wkX10_read MM M), okv (fun _ : Int32 => True) MM G wkX10_read (fX10_read_L86 p0 p4 p6 p7 p8 p9 M) := by
    intro p0 p4 p6 p7 p8 p9 M g_p0 hM
    refine k_lp (T := fun a : Option Nat × Int32 × Int32 × Int32 × Int32 × Int32 => inG G (a.1)) ?_ FU ((p0, p4, p6, p7, p8, p9)) M g_p0 hM
    intro k86 hk86 a M T hM
    obtain ⟨p0, p4, p6, p7, p8, p9⟩ := a
    have g_p0 := T
    show okv (fun _ : Int32 => True) MM G wkX10_read (fX10_read_B86 k86 p0 p4 p6 p7 p8 p9 M)
    unfold fX10_read_B86
    refine k_if ?_ ?_
    · exact hL245 p0 p6 p7 _ g_p0 hM
    · refine k_if ?_ ?_
      · exact hL245 p0 p6 p7 _ g_p0 hM
      · refine k_bo fun v100 => ?_
        refine k_if ?_ ?_
        · exact hL245 p0 p6 p7 _ g_p0 hM
        · refine k_bo fun v109 => ?_
          refine k_if ?_ ?_
          · refine k_if ?_ ?_
            · refine k_bo fun _ => ?_
              refine k_call (by decide) hM (fun hc => frX10_takeCount _ _ hst hc g_p0) fun v191 M191 _ hM191 => ?_
              refine k_bn fun v194 => ?_
              refine k_gR hM191 g_p0 fun v197 g_v197 => ?_
              refine k_bo fun v201 => ?_
              refine k_wI (by decide) hM191 g_v197 fun M206 hM206 => ?_
              refine k_bo fun v209 => ?_
              refine k_pI (by decide) (by decide) (by decide) hM206 g_p0 fun M214 hM214 => ?_
              refine k_bn fun v225 => ?_
              refine k_if ?_ ?_
              · exact hL237 k86 hk86 p0 p4 p6 v225 p9 1 _ g_p0 hM214
              · exact hL237 k86 hk86 p0 p4 p6 v225 p9 0 _ g_p0 hM214
            · refine k_bo fun _ => ?_
              refine k_call (by decide) hM (fun hc => frX10_takeBits _ _ hst hc g_p0) fun v122 M122 _ hM122 => ?_
              refine k_bn fun v125 => ?_
              refine k_bn fun v128 => ?_
              exact hL130 k86 hk86 p0 p4 p6 p7 p9 v125 v128 _ g_p0 hM122
          · exact hL245 p0 p6 p7 _ g_p0 hM
  unfold fX10_read
  refine k_gR hMM g_a1 fun v2 g_v2 => ?_
  refine k_pR (by decide) (by decide) hMM g_a0 g_v2 fun M5 hM5 => ?_
  refine k_pI (by decide) (by decide) (by decide) hM5 g_a0 fun M13 hM13 => ?_
  refine k_pI (by decide) (by decide) (by decide) hM13 g_a0 fun M21 hM21 => ?_
  refine k_pZ (by decide) (by decide) hM21 g_a0 fun M26 hM26 => ?_
  refine k_pI (by decide) (by decide) (by decide) hM26 g_a0 fun M31 hM31 => ?_
  refine k_bo fun _ => ?_
  refine k_call (by decide) hM31 (fun hc => frX10_takeBits _ _ hst hc g_a0) fun v37 M37 _ hM37 => ?_
  refine k_bn fun v41 => ?_
  refine k_bo fun v44 => ?_
  refine k_if ?_ ?_
  · refine k_if ?_ ?_
    · exact hL72 _ hM37
    · refine k_if ?_ ?_
      · exact hL72 _ hM37
      · refine k_if ?_ ?_
        · refine k_bn fun v78 => ?_
          refine k_bn fun v81 => ?_
          refine k_bn fun v84 => ?_
          exact hL86 a0 a4 v41 v78 v81 v84 _ g_a0 hM37
        · exact hL72 _ hM37
  · exact hL72 _ hM37
def wkX10_bitsAt : List Nat := []
set_option maxRecDepth 100000 in
set_option maxHeartbeats 4000000 in
theorem frX10_bitsAt {G : Nat → Prop} {MM : Mem} (a0 : Option Nat) (a1 : Int32) (hst : ∀ k, k < 10 → G k) (hc : Cl G MM) (g_a0 : inG G a0) : okv (fun _ : Int32 => True) MM G wkX10_bitsAt (fX10_bitsAt a0 a1 MM) := by
  have hMM : FrG G wkX10_bitsAt MM MM := FrG.rf hc
  have hL28 : ∀ (q0 : Int32) (M : Mem) (hM : FrG G wkX10_bitsAt MM M), okv (fun _ : Int32 => True) MM G wkX10_bitsAt (fX10_bitsAt_L28 q0 M) := by
    intro q0 M hM
    unfold fX10_bitsAt_L28
    exact k_ret hM trivial
  have hL27 : ∀ (M : Mem) (hM : FrG G wkX10_bitsAt MM M), okv (fun _ : Int32 => True) MM G wkX10_bitsAt (fX10_bitsAt_L27 M) := by
    intro M hM
    unfold fX10_bitsAt_L27
    exact hL28 0 _ hM
  unfold fX10_bitsAt
  refine k_if ?_ ?_
  · exact hL27 _ hMM
  · refine k_if ?_ ?_
    · exact hL27 _ hMM
    · refine k_gR hMM g_a0 fun v12 g_v12 => ?_
      refine k_bo fun v16 => ?_
      exact hL28 ((shrI v16 8) &&& 255) _ hMM
def wkX11_endWith : List Nat := [1101, 1500]
set_option maxRecDepth 100000 in
set_option maxHeartbeats 4000000 in
theorem frX11_endWith {G : Nat → Prop} {MM : Mem} (a0 : Option Nat) (a1 : Int32) (hst : ∀ k, k < 10 → G k) (hc : Cl G MM) (g_a0 : inG G a0) : okv z01 MM G wkX11_endWith (fX11_endWith a0 a1 MM) := by
  have hMM : FrG G wkX11_endWith MM MM := FrG.rf hc
  unfold fX11_endWith
  refine k_gR hMM g_a0 fun v1 g_v1 => ?_
  refine k_bo fun v5 => ?_
  refine k_wI (by decide) hMM g_v1 fun M15 hM15 => ?_
  refine k_bo fun v18 => ?_
  refine k_pI (by decide) (by decide) (by decide) hM15 g_a0 fun M23 hM23 => ?_
  exact k_retZ hM23
def wkX10_baseAt : List Nat := []
set_option maxRecDepth 100000 in
set_option maxHeartbeats 4000000 in
theorem frX10_baseAt {G : Nat → Prop} {MM : Mem} (a0 : Option Nat) (a1 : Int32) (hst : ∀ k, k < 10 → G k) (hc : Cl G MM) (g_a0 : inG G a0) : okv (fun _ : Int32 => True) MM G wkX10_baseAt (fX10_baseAt a0 a1 MM) := by
  have hMM : FrG G wkX10_baseAt MM MM := FrG.rf hc
  have hL24 : ∀ (q0 : Int32) (M : Mem) (hM : FrG G wkX10_baseAt MM M), okv (fun _ : Int32 => True) MM G wkX10_baseAt (fX10_baseAt_L24 q0 M) := by
    intro q0 M hM
    unfold fX10_baseAt_L24
    exact k_ret hM trivial
  have hL23 : ∀ (M : Mem) (hM : FrG G wkX10_baseAt MM M), okv (fun _ : Int32 => True) MM G wkX10_baseAt (fX10_baseAt_L23 M) := by
    intro M hM
    unfold fX10_baseAt_L23
    exact hL24 0 _ hM
  unfold fX10_baseAt
  refine k_if ?_ ?_
  · exact hL23 _ hMM
  · refine k_if ?_ ?_
    · exact hL23 _ hMM
    · refine k_gR hMM g_a0 fun v12 g_v12 => ?_
      refine k_bo fun v16 => ?_
      exact hL24 (shrI v16 16) _ hMM
def wkX11_readInTurn : List Nat := [2, 3, 1101, 1500]
set_option maxRecDepth 100000 in
set_option maxHeartbeats 4000000 in
theorem frX11_readInTurn {G : Nat → Prop} {MM : Mem} (a0 : Option Nat) (hst : ∀ k, k < 10 → G k) (hc : Cl G MM) (g_a0 : inG G a0) : okv z01 MM G wkX11_readInTurn (fX11_readInTurn a0 MM) := by
  have hMM : FrG G wkX11_readInTurn MM MM := FrG.rf hc
  have hL46 : ∀ (p0 : Option Nat) (p1 : Int32) (p2 : Int32) (p3 : Int32) (M : Mem) (g_p0 : inG G p0) (hM : FrG G wkX11_readInTurn MM M), okv z01 MM G wkX11_readInTurn (fX11_readInTurn_L46 p0 p1 p2 p3 M) := by
    intro p0 p1 p2 p3 M g_p0 hM
    refine k_lp (T := fun a : Option Nat × Int32 × Int32 × Int32 => inG G (a.1)) ?_ FU ((p0, p1, p2, p3)) M g_p0 hM
    intro k46 hk46 a M T hM
    obtain ⟨p0, p1, p2, p3⟩ := a
    have g_p0 := T
    show okv z01 MM G wkX11_readInTurn (fX11_readInTurn_B46 k46 p0 p1 p2 p3 M)
    unfold fX11_readInTurn_B46
    refine k_if ?_ ?_
    · exact k_retZ hM
    · refine k_gR hM g_p0 fun v54 g_v54 => ?_
      refine k_gR hM g_p0 fun v59 g_v59 => ?_
      refine k_bo fun _ => ?_
      refine k_call (by decide) hM (fun hc => frX10_symbolAt _ _ hst hc g_v59) fun v63 M63 _ hM63 => ?_
      refine k_wI (by decide) hM63 g_v54 fun M66 hM66 => ?_
      refine k_pI (by decide) (by decide) (by decide) hM66 g_p0 fun M71 hM71 => ?_
      refine k_gR hM71 g_p0 fun v75 g_v75 => ?_
      refine k_bo fun _ => ?_
      refine k_call (by decide) hM71 (fun hc => frX10_bitsAt _ _ hst hc g_v75) fun v79 M79 _ hM79 => ?_
      refine k_gR hM79 g_p0 fun v83 g_v83 => ?_
      refine k_bo fun v86 => ?_
      refine k_if ?_ ?_
      · refine k_gR hM79 g_p0 fun v106 g_v106 => ?_
        refine k_bo fun _ => ?_
        refine k_call (by decide) hM79 (fun hc => frX10_baseAt _ _ hst hc g_v106) fun v110 M110 _ hM110 => ?_
        refine k_gR hM110 g_p0 fun v114 g_v114 => ?_
        refine k_gR hM110 g_p0 fun v118 g_v118 => ?_
        refine k_bo fun _ => ?_
        refine k_call (by decide) hM110 (fun hc => frX10_bitsAt _ _ hst hc g_v118) fun v122 M122 _ hM122 => ?_
        refine k_bo fun _ => ?_
        refine k_call (by decide) hM122 (fun hc => frX0_take _ _ hst hc g_v114) fun v125 M125 _ hM125 => ?_
        refine k_bn fun v130 => ?_
        refine k_bn fun v133 => ?_
        refine k_bn fun v136 => ?_
        refine k_bn fun v137 => ?_
        exact hk46 ((p0, v133, v136, v137)) _ g_p0 hM125
      · refine k_gR hM79 g_p0 fun v94 g_v94 => ?_
        refine k_bo fun _ => ?_
        refine k_call (by decide) hM79 (fun hc => frX10_symbolAt _ _ hst hc g_v94) fun v98 M98 _ hM98 => ?_
        refine k_bo fun _ => ?_
        refine k_call (by decide) hM98 (fun hc => frX11_endWith _ _ hst hc g_p0) fun v101 M101 _ hM101 => ?_
        exact k_retZ hM101
  unfold fX11_readInTurn
  refine k_gR hMM g_a0 fun v1 g_v1 => ?_
  refine k_gR hMM g_a0 fun v5 g_v5 => ?_
  refine k_bo fun v8 => ?_
  refine k_bo fun _ => ?_
  refine k_call (by decide) hMM (fun hc => frX0_take _ _ hst hc g_v1) fun v11 M11 _ hM11 => ?_
  refine k_bn fun v15 => ?_
  refine k_gR hM11 g_a0 fun v17 g_v17 => ?_
  refine k_gR hM11 g_a0 fun v21 g_v21 => ?_
  refine k_bo fun v24 => ?_
  refine k_bo fun _ => ?_
  refine k_call (by decide) hM11 (fun hc => frX0_take _ _ hst hc g_v17) fun v27 M27 _ hM27 => ?_
  refine k_bn fun v31 => ?_
  refine k_gR hM27 g_a0 fun v33 g_v33 => ?_
  refine k_bo fun v36 => ?_
  refine k_if ?_ ?_
  · refine k_bn fun v45 => ?_
    exact hL46 a0 v15 v31 v45 _ g_a0 hM27
  · exact k_retZ hM27
def wkX11_complete : List Nat := [1101, 1102, 1500]
set_option maxRecDepth 100000 in
set_option maxHeartbeats 4000000 in
theorem frX11_complete {G : Nat → Prop} {MM : Mem} (a0 : Option Nat) (hst : ∀ k, k < 10 → G k) (hc : Cl G MM) (g_a0 : inG G a0) : okv z01 MM G wkX11_complete (fX11_complete a0 MM) := by
  have hMM : FrG G wkX11_complete MM MM := FrG.rf hc
  have hL98 : ∀ (M : Mem) (hM : FrG G wkX11_complete MM M), okv z01 MM G wkX11_complete (fX11_complete_L98 M) := by
    intro M hM
    unfold fX11_complete_L98
    exact k_retZ hM
  have hL49 : ∀ (k4 : Option Nat × Int32 × Int32 → Mem → Option (Int32 × Mem)) (hk4 : ∀ a M, (inG G (a.1)) → FrG G wkX11_complete MM M → okv z01 MM G wkX11_complete (k4 a M)) (p0 : Option Nat) (p2 : Int32) (q0 : Int32) (q1 : Int32) (M : Mem) (g_p0 : inG G p0) (hM : FrG G wkX11_complete MM M), okv z01 MM G wkX11_complete (fX11_complete_L49 k4 p0 p2 q0 q1 M) := by
    intro k4 hk4 p0 p2 q0 q1 M g_p0 hM
    unfold fX11_complete_L49
    refine k_bn fun v50 => ?_
    refine k_bn fun v51 => ?_
    exact hk4 ((p0, v50, v51)) _ g_p0 hM
  have hL4 : ∀ (p0 : Option Nat) (p1 : Int32) (p2 : Int32) (M : Mem) (g_p0 : inG G p0) (hM : FrG G wkX11_complete MM M), okv z01 MM G wkX11_complete (fX11_complete_L4 p0 p1 p2 M) := by
    intro p0 p1 p2 M g_p0 hM
    refine k_lp (T := fun a : Option Nat × Int32 × Int32 => inG G (a.1)) ?_ FU ((p0, p1, p2)) M g_p0 hM
    intro k4 hk4 a M T hM
    obtain ⟨p0, p1, p2⟩ := a
    have g_p0 := T
    show okv z01 MM G wkX11_complete (fX11_complete_B4 k4 p0 p1 p2 M)
    unfold fX11_complete_B4
    refine k_bo fun v6 => ?_
    refine k_if ?_ ?_
    · refine k_call (by decide) hM (fun hc => frX12_logOf _ hst hc) fun v60 M60 _ hM60 => ?_
      refine k_pI (by decide) (by decide) (by decide) hM60 g_p0 fun M65 hM65 => ?_
      refine k_bo fun v70 => ?_
      refine k_bn fun v76 => ?_
      refine k_if ?_ ?_
      · exact hL98 _ hM65
      · refine k_bo fun v82 => ?_
        refine k_if ?_ ?_
        · exact hL98 _ hM65
        · refine k_if ?_ ?_
          · refine k_call (by decide) hM65 (fun hc => frX12_logOf _ hst hc) fun v103 M103 _ hM103 => ?_
            refine k_bo fun _ => ?_
            refine k_call (by decide) hM103 (fun hc => frX11_endWith _ _ hst hc g_p0) fun v108 M108 _ hM108 => ?_
            exact k_retZ hM108
          · exact hL98 _ hM65
    · refine k_gR hM g_p0 fun v13 g_v13 => ?_
      refine k_bo fun v17 => ?_
      refine k_if ?_ ?_
      · refine k_gR hM g_p0 fun v27 g_v27 => ?_
        refine k_bo fun v31 => ?_
        refine k_if ?_ ?_
        · exact hL49 k4 hk4 p0 p2 p1 0 _ g_p0 hM
        · refine k_gR hM g_p0 fun v41 g_v41 => ?_
          refine k_bo fun v45 => ?_
          exact hL49 k4 hk4 p0 p2 p1 (shlI 1 (v45 - 1)) _ g_p0 hM
      · exact k_retZ hM
  unfold fX11_complete
  refine k_bn fun v1 => ?_
  refine k_bn fun v3 => ?_
  exact hL4 a0 v1 v3 _ g_a0 hMM
def wkX11_read : List Nat := [0, 1, 2, 3, 1000, 1004, 1005, 1006, 1007, 1008, 1101, 1102, 1500]
set_option maxRecDepth 100000 in
set_option maxHeartbeats 4000000 in
theorem frX11_read {G : Nat → Prop} {MM : Mem} (a0 : Option Nat) (a1 : Option Nat) (a2 : Int32) (a3 : Int32) (hst : ∀ k, k < 10 → G k) (hc : Cl G MM) (g_a0 : inG G a0) (g_a1 : inG G a1) : okv (fun _ : Int32 => True) MM G wkX11_read (fX11_read a0 a1 a2 a3 MM) := by
  have hMM : FrG G wkX11_read MM MM := FrG.rf hc
  have hL117 : ∀ (M : Mem) (hM : FrG G wkX11_read MM M), okv (fun _ : Int32 => True) MM G wkX11_read (fX11_read_L117 M) := by
    intro M hM
    unfold fX11_read_L117
    exact k_ret hM trivial
  have hL132 : ∀ (q0 : Int32) (M : Mem) (hM : FrG G wkX11_read MM M), okv (fun _ : Int32 => True) MM G wkX11_read (fX11_read_L132 q0 M) := by
    intro q0 M hM
    unfold fX11_read_L132
    exact k_ret hM trivial
  have hL119 : ∀ (p0 : Option Nat) (p5 : Int32) (M : Mem) (g_p0 : inG G p0) (hM : FrG G wkX11_read MM M), okv (fun _ : Int32 => True) MM G wkX11_read (fX11_read_L119 p0 p5 M) := by
    intro p0 p5 M g_p0 hM
    unfold fX11_read_L119
    refine k_bo fun _ => ?_
    refine k_call (by decide) hM (fun hc => frX11_complete _ hst hc g_p0) fun v120 M120 _ hM120 => ?_
    refine k_if ?_ ?_
    · exact hL132 ((-1)) _ hM120
    · exact hL132 p5 _ hM120
  have hL36 : ∀ (p0 : Option Nat) (p1 : Option Nat) (p2 : Int32) (p3 : Int32) (p4 : Int32) (q0 : Int32) (q1 : Int32) (M : Mem) (g_p0 : inG G p0) (g_p1 : inG G p1) (hM : FrG G wkX11_read MM M), okv (fun _ : Int32 => True) MM G wkX11_read (fX11_read_L36 p0 p1 p2 p3 p4 q0 q1 M) := by
    intro p0 p1 p2 p3 p4 q0 q1 M g_p0 g_p1 hM
    unfold fX11_read_L36
    refine k_bn fun v37 => ?_
    refine k_if ?_ ?_
    · refine k_if ?_ ?_
      · refine k_gR hM g_p0 fun v71 g_v71 => ?_
        refine k_bo fun _ => ?_
        refine k_call (by decide) hM (fun hc => frX10_read _ _ _ _ _ _ hst hc g_v71 g_p1) fun v85 M85 _ hM85 => ?_
        refine k_bn fun v88 => ?_
        refine k_if ?_ ?_
        · exact hL117 _ hM85
        · refine k_gR hM85 g_p0 fun v96 g_v96 => ?_
          refine k_bo fun _ => ?_
          refine k_call (by decide) hM85 (fun hc => frX0_begin _ _ _ _ hst hc g_v96 g_p1) fun v104 M104 _ hM104 => ?_
          refine k_if ?_ ?_
          · exact hL117 _ hM104
          · refine k_bo fun _ => ?_
            refine k_call (by decide) hM104 (fun hc => frX11_readInTurn _ hst hc g_p0) fun v111 M111 _ hM111 => ?_
            refine k_if ?_ ?_
            · exact hL117 _ hM111
            · exact hL119 p0 v37 _ g_p0 hM111
      · refine k_bo fun _ => ?_
        refine k_call (by decide) hM (fun hc => frX11_readHalves _ _ _ _ hst hc g_p0 g_p1) fun v64 M64 _ hM64 => ?_
        exact hL119 p0 v37 _ g_p0 hM64
    · exact k_ret hM trivial
  unfold fX11_read
  refine k_if ?_ ?_
  · refine k_bo fun _ => ?_
    refine k_call (by decide) hMM (fun hc => frX8_get _ _ hst hc g_a1) fun v9 M9 _ hM9 => ?_
    refine k_bn fun v12 => ?_
    refine k_if ?_ ?_
    · exact hL36 a0 a1 a2 a3 v12 (a2 + 1) v12 _ g_a0 g_a1 hM9
    · refine k_bo fun v30 => ?_
      exact hL36 a0 a1 a2 a3 v12 (a2 + 1) v30 _ g_a0 g_a1 hM9
  · exact k_ret hMM trivial
def wkX2_readTable : List Nat := [1000, 1004, 1005, 1006, 1007, 1008, 1500]
set_option maxRecDepth 100000 in
set_option maxHeartbeats 4000000 in
theorem frX2_readTable {G : Nat → Prop} {MM : Mem} (a0 : Option Nat) (a1 : Option Nat) (a2 : Int32) (a3 : Int32) (hst : ∀ k, k < 10 → G k) (hc : Cl G MM) (g_a0 : inG G a0) (g_a1 : inG G a1) : okv (fun _ : Int32 => True) MM G wkX2_readTable (fX2_readTable a0 a1 a2 a3 MM) := by
  have hMM : FrG G wkX2_readTable MM MM := FrG.rf hc
  have hL33 : ∀ (q0 : Int32) (M : Mem) (hM : FrG G wkX2_readTable MM M), okv (fun _ : Int32 => True) MM G wkX2_readTable (fX2_readTable_L33 q0 M) := by
    intro q0 M hM
    unfold fX2_readTable_L33
    exact k_ret hM trivial
  unfold fX2_readTable
  refine k_if ?_ ?_
  · refine k_gR hMM g_a0 fun v9 g_v9 => ?_
    refine k_aR hMM g_v9 fun v13 g_v13 => ?_
    refine k_bo fun v17 => ?_
    refine k_bo fun v24 => ?_
    refine k_bo fun v29 => ?_
    refine k_bo fun _ => ?_
    refine k_call (by decide) hMM (fun hc => frX10_read _ _ _ _ _ _ hst hc g_v13 g_a1) fun v30 M30 _ hM30 => ?_
    exact hL33 v30 _ hM30
  · exact hL33 ((-1)) _ hMM
def wkX2_readRemembered : List Nat := [1500]
set_option maxRecDepth 100000 in
set_option maxHeartbeats 4000000 in
theorem frX2_readRemembered {G : Nat → Prop} {MM : Mem} (a0 : Option Nat) (a1 : Option Nat) (a2 : Int32) (hst : ∀ k, k < 10 → G k) (hc : Cl G MM) (g_a0 : inG G a0) (g_a1 : inG G a1) : okv z01 MM G wkX2_readRemembered (fX2_readRemembered a0 a1 a2 MM) := by
  have hMM : FrG G wkX2_readRemembered MM MM := FrG.rf hc
  have hL42 : ∀ (M : Mem) (hM : FrG G wkX2_readRemembered MM M), okv z01 MM G wkX2_readRemembered (fX2_readRemembered_L42 M) := by
    intro M hM
    unfold fX2_readRemembered_L42
    exact k_retZ hM
  have hL2 : ∀ (p0 : Option Nat) (p1 : Option Nat) (p2 : Int32) (p3 : Int32) (M : Mem) (g_p0 : inG G p0) (g_p1 : inG G p1) (hM : FrG G wkX2_readRemembered MM M), okv z01 MM G wkX2_readRemembered (fX2_readRemembered_L2 p0 p1 p2 p3 M) := by
    intro p0 p1 p2 p3 M g_p0 g_p1 hM
    refine k_lp (T := fun a : Option Nat × Option Nat × Int32 × Int32 => inG G (a.1) ∧ inG G (a.2.1)) ?_ FU ((p0, p1, p2, p3)) M ⟨g_p0, g_p1⟩ hM
    intro k2 hk2 a M T hM
    obtain ⟨p0, p1, p2, p3⟩ := a
    obtain ⟨g_p0, g_p1⟩ := T
    show okv z01 MM G wkX2_readRemembered (fX2_readRemembered_B2 k2 p0 p1 p2 p3 M)
    unfold fX2_readRemembered_B2
    refine k_if ?_ ?_
    · exact k_retZ hM
    · refine k_bo fun _ => ?_
      refine k_call (by decide) hM (fun hc => frX8_number _ _ _ hst hc g_p1) fun v14 M14 _ hM14 => ?_
      refine k_bn fun v17 => ?_
      refine k_if ?_ ?_
      · exact hL42 _ hM14
      · refine k_bo fun v29 => ?_
        refine k_bo fun v33 => ?_
        refine k_if ?_ ?_
        · refine k_gR hM14 g_p0 fun v45 g_v45 => ?_
          refine k_wI (by decide) hM14 g_v45 fun M52 hM52 => ?_
          refine k_bn fun v53 => ?_
          exact hk2 ((p0, p1, p2, v53)) _ ⟨g_p0, g_p1⟩ hM52
        · exact hL42 _ hM14
  unfold fX2_readRemembered
  refine k_bn fun v1 => ?_
  exact hL2 a0 a1 a2 v1 _ g_a0 g_a1 hMM
def wkX2_read : List Nat := [0, 1, 2, 3, 100, 200, 201, 206, 1000, 1004, 1005, 1006, 1007, 1008, 1101, 1102, 1500]
set_option maxRecDepth 100000 in
set_option maxHeartbeats 4000000 in
theorem frX2_read {G : Nat → Prop} {MM : Mem} (a0 : Option Nat) (a1 : Option Nat) (a2 : Option Nat) (hst : ∀ k, k < 10 → G k) (hc : Cl G MM) (g_a0 : inG G a0) (g_a1 : inG G a1) (g_a2 : inG G a2) : okv z01 MM G wkX2_read (fX2_read a0 a1 a2 MM) := by
  have hMM : FrG G wkX2_read MM MM := FrG.rf hc
  have hL177 : ∀ (q0 : Int32) (M : Mem) (hM : FrG G wkX2_read MM M), okv z01 MM G wkX2_read (fX2_read_L177 q0 M) := by
    intro q0 M hM
    unfold fX2_read_L177
    exact k_retZ hM
  have hL176 : ∀ (M : Mem) (hM : FrG G wkX2_read MM M), okv z01 MM G wkX2_read (fX2_read_L176 M) := by
    intro M hM
    unfold fX2_read_L176
    exact hL177 0 _ hM
  have hL78 : ∀ (p0 : Option Nat) (p1 : Option Nat) (p2 : Option Nat) (q0 : Option Nat) (q1 : Int32) (M : Mem) (g_p0 : inG G p0) (g_p1 : inG G p1) (g_p2 : inG G p2) (g_q0 : inG G q0) (hM : FrG G wkX2_read MM M), okv z01 MM G wkX2_read (fX2_read_L78 p0 p1 p2 q0 q1 M) := by
    intro p0 p1 p2 q0 q1 M g_p0 g_p1 g_p2 g_q0 hM
    unfold fX2_read_L78
    refine k_pI (by decide) (by decide) (by decide) hM g_q0 fun M78 hM78 => ?_
    refine k_bo fun v82 => ?_
    refine k_if ?_ ?_
    · exact k_retZ hM78
    · refine k_bo fun v95 => ?_
      refine k_bo fun _ => ?_
      refine k_call (by decide) hM78 (fun hc => frX11_read _ _ _ _ hst hc g_p2 g_p1) fun v98 M98 _ hM98 => ?_
      refine k_bn fun v101 => ?_
      refine k_if ?_ ?_
      · refine k_gR hM98 g_p0 fun v109 g_v109 => ?_
        refine k_bo fun _ => ?_
        refine k_call (by decide) hM98 (fun hc => frX1_build _ _ hst hc g_v109 g_p2) fun v113 M113 _ hM113 => ?_
        refine k_bo fun _ => ?_
        refine k_call (by decide) hM113 (fun hc => frX2_readTable _ _ _ _ hst hc g_p0 g_p1) fun v120 M120 _ hM120 => ?_
        refine k_bn fun v123 => ?_
        refine k_bo fun _ => ?_
        refine k_call (by decide) hM120 (fun hc => frX2_readTable _ _ _ _ hst hc g_p0 g_p1) fun v128 M128 _ hM128 => ?_
        refine k_bn fun v131 => ?_
        refine k_bo fun _ => ?_
        refine k_call (by decide) hM128 (fun hc => frX2_readTable _ _ _ _ hst hc g_p0 g_p1) fun v136 M136 _ hM136 => ?_
        refine k_bn fun v139 => ?_
        refine k_pI (by decide) (by decide) (by decide) hM136 g_p0 fun M145 hM145 => ?_
        refine k_if ?_ ?_
        · exact hL176 _ hM145
        · refine k_bo fun v153 => ?_
          refine k_bo fun v157 => ?_
          refine k_if ?_ ?_
          · exact hL176 _ hM145
          · refine k_bo fun _ => ?_
            refine k_call (by decide) hM145 (fun hc => frX2_readRemembered _ _ _ hst hc g_p0 g_p1) fun v166 M166 _ hM166 => ?_
            refine k_if ?_ ?_
            · exact hL176 _ hM166
            · exact hL177 1 _ hM166
      · exact k_retZ hM98
  have hL45 : ∀ (p0 : Option Nat) (p1 : Option Nat) (p2 : Option Nat) (q0 : Option Nat) (q1 : Int32) (M : Mem) (g_p0 : inG G p0) (g_p1 : inG G p1) (g_p2 : inG G p2) (g_q0 : inG G q0) (hM : FrG G wkX2_read MM M), okv z01 MM G wkX2_read (fX2_read_L45 p0 p1 p2 q0 q1 M) := by
    intro p0 p1 p2 q0 q1 M g_p0 g_p1 g_p2 g_q0 hM
    unfold fX2_read_L45
    refine k_pZ (by decide) (by decide) hM g_q0 fun M45 hM45 => ?_
    refine k_bo fun v49 => ?_
    refine k_if ?_ ?_
    · exact k_retZ hM45
    · refine k_bo fun v59 => ?_
      refine k_if ?_ ?_
      · refine k_bo fun _ => ?_
        refine k_call (by decide) hM45 (fun hc => frX8_number _ _ _ hst hc g_p1) fun v74 M74 _ hM74 => ?_
        exact hL78 p0 p1 p2 p0 v74.toInt32 _ g_p0 g_p1 g_p2 g_p0 hM74
      · exact hL78 p0 p1 p2 p0 0 _ g_p0 g_p1 g_p2 g_p0 hM45
  have hL44 : ∀ (p0 : Option Nat) (p1 : Option Nat) (p2 : Option Nat) (q0 : Option Nat) (M : Mem) (g_p0 : inG G p0) (g_p1 : inG G p1) (g_p2 : inG G p2) (g_q0 : inG G q0) (hM : FrG G wkX2_read MM M), okv z01 MM G wkX2_read (fX2_read_L44 p0 p1 p2 q0 M) := by
    intro p0 p1 p2 q0 M g_p0 g_p1 g_p2 g_q0 hM
    unfold fX2_read_L44
    exact hL45 p0 p1 p2 q0 0 _ g_p0 g_p1 g_p2 g_q0 hM
  unfold fX2_read
  refine k_gR hMM g_a0 fun v1 g_v1 => ?_
  refine k_call (by decide) hMM (fun hc => frX12_rememberFirst _ _ hst hc g_v1 inG_none) fun v5 M5 _ hM5 => ?_
  refine k_pI (by decide) (by decide) (by decide) hM5 g_a0 fun M10 hM10 => ?_
  refine k_pI (by decide) (by decide) (by decide) hM10 g_a0 fun M15 hM15 => ?_
  refine k_bo fun v20 => ?_
  refine k_if ?_ ?_
  · exact hL44 a0 a1 a2 a0 _ g_a0 g_a1 g_a2 g_a0 hM15
  · refine k_bo fun _ => ?_
    refine k_call (by decide) hM15 (fun hc => frX8_number _ _ _ hst hc g_a1) fun v30 M30 _ hM30 => ?_
    refine k_if ?_ ?_
    · exact hL45 a0 a1 a2 a0 1 _ g_a0 g_a1 g_a2 g_a0 hM30
    · exact hL44 a0 a1 a2 a0 _ g_a0 g_a1 g_a2 g_a0 hM30
def wkX8_addFrom : List Nat := [801, 1400]
set_option maxRecDepth 100000 in
set_option maxHeartbeats 4000000 in
theorem frX8_addFrom {G : Nat → Prop} {MM : Mem} (a0 : Option Nat) (a1 : Option Nat) (a2 : Int32) (a3 : Int32) (hst : ∀ k, k < 10 → G k) (hc : Cl G MM) (g_a0 : inG G a0) (g_a1 : inG G a1) : okv (fun _ : Unit => True) MM G wkX8_addFrom (fX8_addFrom a0 a1 a2 a3 MM) := by
  have hMM : FrG G wkX8_addFrom MM MM := FrG.rf hc
  have hL19 : ∀ (p0 : Option Nat) (p1 : Option Nat) (p2 : Int32) (p3 : Int32) (p4 : Int32) (p5 : Int32) (M : Mem) (g_p0 : inG G p0) (g_p1 : inG G p1) (hM : FrG G wkX8_addFrom MM M), okv (fun _ : Unit => True) MM G wkX8_addFrom (fX8_addFrom_L19 p0 p1 p2 p3 p4 p5 M) := by
    intro p0 p1 p2 p3 p4 p5 M g_p0 g_p1 hM
    refine k_lp (T := fun a : Option Nat × Option Nat × Int32 × Int32 × Int32 × Int32 => inG G (a.1) ∧ inG G (a.2.1)) ?_ FU ((p0, p1, p2, p3, p4, p5)) M ⟨g_p0, g_p1⟩ hM
    intro k19 hk19 a M T hM
    obtain ⟨p0, p1, p2, p3, p4, p5⟩ := a
    obtain ⟨g_p0, g_p1⟩ := T
    show okv (fun _ : Unit => True) MM G wkX8_addFrom (fX8_addFrom_B19 k19 p0 p1 p2 p3 p4 p5 M)
    unfold fX8_addFrom_B19
    refine k_if ?_ ?_
    · refine k_bo fun v55 => ?_
      refine k_pI (by decide) (by decide) (by decide) hM g_p0 fun M60 hM60 => ?_
      exact k_ret hM60 trivial
    · refine k_gR hM g_p0 fun v27 g_v27 => ?_
      refine k_bo fun v31 => ?_
      refine k_bo fun _ => ?_
      refine k_call (by decide) hM (fun hc => frX8_get _ _ hst hc g_p1) fun v42 M42 _ hM42 => ?_
      refine k_wB (by decide) hM42 g_v27 fun M46 hM46 => ?_
      refine k_bn fun v47 => ?_
      exact hk19 ((p0, p1, p2, p3, p4, v47)) _ ⟨g_p0, g_p1⟩ hM46
  unfold fX8_addFrom
  refine k_gR hMM g_a0 fun v2 g_v2 => ?_
  refine k_bo fun v5 => ?_
  refine k_bo fun v7 => ?_
  refine k_bn fun v14 => ?_
  refine k_bn fun v17 => ?_
  exact hL19 a0 a1 a2 a3 v14 v17 _ g_a0 g_a1 hMM
def wkX2_takeContent : List Nat := [801, 1400]
set_option maxRecDepth 100000 in
set_option maxHeartbeats 4000000 in
theorem frX2_takeContent {G : Nat → Prop} {MM : Mem} (a0 : Option Nat) (a1 : Option Nat) (hst : ∀ k, k < 10 → G k) (hc : Cl G MM) (g_a0 : inG G a0) (g_a1 : inG G a1) : okv (fun _ : Unit => True) MM G wkX2_takeContent (fX2_takeContent a0 a1 MM) := by
  have hMM : FrG G wkX2_takeContent MM MM := FrG.rf hc
  unfold fX2_takeContent
  refine k_gR hMM g_a0 fun v1 g_v1 => ?_
  refine k_pI (by decide) (by decide) (by decide) hMM g_v1 fun M5 hM5 => ?_
  refine k_gR hM5 g_a0 fun v9 g_v9 => ?_
  refine k_bo fun v14 => ?_
  refine k_bo fun v18 => ?_
  refine k_bo fun v22 => ?_
  refine k_bo fun _ => ?_
  refine k_call (by decide) hM5 (fun hc => frX8_addFrom _ _ _ _ hst hc g_v9 g_a1) fun v26 M26 _ hM26 => ?_
  exact k_ret hM26 trivial
def wkX3_begin : List Nat := [308, 309, 801, 1400, 1500]
set_option maxRecDepth 100000 in
set_option maxHeartbeats 4000000 in
theorem frX3_begin {G : Nat → Prop} {MM : Mem} (a0 : Option Nat) (a1 : Option Nat) (a2 : Option Nat) (hst : ∀ k, k < 10 → G k) (hc : Cl G MM) (g_a0 : inG G a0) (g_a1 : inG G a1) (g_a2 : inG G a2) : okv (fun _ : Unit => True) MM G wkX3_begin (fX3_begin a0 a1 a2 MM) := by
  have hMM : FrG G wkX3_begin MM MM := FrG.rf hc
  have hL25 : ∀ (p0 : Option Nat) (p1 : Option Nat) (M : Mem) (g_p0 : inG G p0) (g_p1 : inG G p1) (hM : FrG G wkX3_begin MM M), okv (fun _ : Unit => True) MM G wkX3_begin (fX3_begin_L25 p0 p1 M) := by
    intro p0 p1 M g_p0 g_p1 hM
    unfold fX3_begin_L25
    refine k_gR hM g_p0 fun v27 g_v27 => ?_
    refine k_bo fun v30 => ?_
    refine k_pI (by decide) (by decide) (by decide) hM g_p0 fun M33 hM33 => ?_
    refine k_gR hM33 g_p0 fun v37 g_v37 => ?_
    refine k_bo fun v43 => ?_
    refine k_bo fun _ => ?_
    refine k_call (by decide) hM33 (fun hc => frX8_addFrom _ _ _ _ hst hc g_v37 g_p1) fun v46 M46 _ hM46 => ?_
    refine k_gR hM46 g_p0 fun v50 g_v50 => ?_
    refine k_call (by decide) hM46 (fun hc => frJ7_fill_53178 _ _ hst hc g_v50) fun v54 M54 _ hM54 => ?_
    refine k_pI (by decide) (by decide) (by decide) hM54 g_p0 fun M59 hM59 => ?_
    exact k_ret hM59 trivial
  unfold fX3_begin
  refine k_gR hMM g_a0 fun v1 g_v1 => ?_
  refine k_pI (by decide) (by decide) (by decide) hMM g_v1 fun M5 hM5 => ?_
  refine k_if ?_ ?_
  · exact hL25 a0 a1 _ g_a0 g_a1 hM5
  · refine k_gR hM5 g_a0 fun v13 g_v13 => ?_
    refine k_bo fun v19 => ?_
    refine k_bo fun _ => ?_
    refine k_call (by decide) hM5 (fun hc => frX8_addFrom _ _ _ _ hst hc g_v13 g_a2) fun v22 M22 _ hM22 => ?_
    exact hL25 a0 a1 _ g_a0 g_a1 hM22
def wkX3_chainOf : List Nat := []
set_option maxRecDepth 100000 in
set_option maxHeartbeats 4000000 in
theorem frX3_chainOf {G : Nat → Prop} {MM : Mem} (a0 : Option Nat) (a1 : Int32) (hst : ∀ k, k < 10 → G k) (hc : Cl G MM) (g_a0 : inG G a0) : okv (fun _ : Int32 => True) MM G wkX3_chainOf (fX3_chainOf a0 a1 MM) := by
  have hMM : FrG G wkX3_chainOf MM MM := FrG.rf hc
  unfold fX3_chainOf
  refine k_gR hMM g_a0 fun v1 g_v1 => ?_
  refine k_bo fun _ => ?_
  refine k_call (by decide) hMM (fun hc => frX8_get _ _ hst hc g_v1) fun v5 M5 _ hM5 => ?_
  refine k_gR hM5 g_a0 fun v9 g_v9 => ?_
  refine k_bo fun _ => ?_
  refine k_call (by decide) hM5 (fun hc => frX8_get _ _ hst hc g_v9) fun v15 M15 _ hM15 => ?_
  refine k_gR hM15 g_a0 fun v23 g_v23 => ?_
  refine k_bo fun _ => ?_
  refine k_call (by decide) hM15 (fun hc => frX8_get _ _ hst hc g_v23) fun v29 M29 _ hM29 => ?_
  refine k_gR hM29 g_a0 fun v37 g_v37 => ?_
  refine k_bo fun _ => ?_
  refine k_call (by decide) hM29 (fun hc => frX8_get _ _ hst hc g_v37) fun v43 M43 _ hM43 => ?_
  refine k_bn fun v50 => ?_
  exact k_ret hM43 trivial
def wkX3_linkUpTo : List Nat := [309, 1500]
set_option maxRecDepth 100000 in
set_option maxHeartbeats 4000000 in
theorem frX3_linkUpTo {G : Nat → Prop} {MM : Mem} (a0 : Option Nat) (a1 : Int32) (hst : ∀ k, k < 10 → G k) (hc : Cl G MM) (g_a0 : inG G a0) : okv (fun _ : Unit => True) MM G wkX3_linkUpTo (fX3_linkUpTo a0 a1 MM) := by
  have hMM : FrG G wkX3_linkUpTo MM MM := FrG.rf hc
  have hL67 : ∀ (M : Mem) (hM : FrG G wkX3_linkUpTo MM M), okv (fun _ : Unit => True) MM G wkX3_linkUpTo (fX3_linkUpTo_L67 M) := by
    intro M hM
    unfold fX3_linkUpTo_L67
    exact k_ret hM trivial
  have hL0 : ∀ (p0 : Option Nat) (p1 : Int32) (M : Mem) (g_p0 : inG G p0) (hM : FrG G wkX3_linkUpTo MM M), okv (fun _ : Unit => True) MM G wkX3_linkUpTo (fX3_linkUpTo_L0 p0 p1 M) := by
    intro p0 p1 M g_p0 hM
    refine k_lp (T := fun a : Option Nat × Int32 => inG G (a.1)) ?_ FU ((p0, p1)) M g_p0 hM
    intro k0 hk0 a M T hM
    obtain ⟨p0, p1⟩ := a
    have g_p0 := T
    show okv (fun _ : Unit => True) MM G wkX3_linkUpTo (fX3_linkUpTo_B0 k0 p0 p1 M)
    unfold fX3_linkUpTo_B0
    refine k_bo fun v1 => ?_
    refine k_if ?_ ?_
    · exact hL67 _ hM
    · refine k_bo fun v9 => ?_
      refine k_gR hM g_p0 fun v13 g_v13 => ?_
      refine k_bo fun v16 => ?_
      refine k_if ?_ ?_
      · exact hL67 _ hM
      · refine k_bo fun v22 => ?_
        refine k_bo fun _ => ?_
        refine k_call (by decide) hM (fun hc => frX3_chainOf _ _ hst hc g_p0) fun v25 M25 _ hM25 => ?_
        refine k_bn fun v28 => ?_
        refine k_gR hM25 g_p0 fun v30 g_v30 => ?_
        refine k_bo fun v34 => ?_
        refine k_gR hM25 g_p0 fun v38 g_v38 => ?_
        refine k_bo fun v42 => ?_
        refine k_wI (by decide) hM25 g_v30 fun M43 hM43 => ?_
        refine k_gR hM43 g_p0 fun v45 g_v45 => ?_
        refine k_bo fun v50 => ?_
        refine k_wI (by decide) hM43 g_v45 fun M53 hM53 => ?_
        refine k_bo fun v56 => ?_
        refine k_pI (by decide) (by decide) (by decide) hM53 g_p0 fun M61 hM61 => ?_
        exact hk0 ((p0, p1)) _ g_p0 hM61
  unfold fX3_linkUpTo
  exact hL0 a0 a1 _ g_a0 hMM
def wkX3_sameFrom : List Nat := []
set_option maxRecDepth 100000 in
set_option maxHeartbeats 4000000 in
theorem frX3_sameFrom {G : Nat → Prop} {MM : Mem} (a0 : Option Nat) (a1 : Int32) (a2 : Int32) (a3 : Int32) (hst : ∀ k, k < 10 → G k) (hc : Cl G MM) (g_a0 : inG G a0) : okv (fun _ : Int32 => True) MM G wkX3_sameFrom (fX3_sameFrom a0 a1 a2 a3 MM) := by
  have hMM : FrG G wkX3_sameFrom MM MM := FrG.rf hc
  have hL48 : ∀ (p4 : Int32) (M : Mem) (hM : FrG G wkX3_sameFrom MM M), okv (fun _ : Int32 => True) MM G wkX3_sameFrom (fX3_sameFrom_L48 p4 M) := by
    intro p4 M hM
    unfold fX3_sameFrom_L48
    exact k_ret hM trivial
  have hL6 : ∀ (p0 : Option Nat) (p1 : Int32) (p2 : Int32) (p3 : Int32) (p4 : Int32) (p5 : Int32) (M : Mem) (g_p0 : inG G p0) (hM : FrG G wkX3_sameFrom MM M), okv (fun _ : Int32 => True) MM G wkX3_sameFrom (fX3_sameFrom_L6 p0 p1 p2 p3 p4 p5 M) := by
    intro p0 p1 p2 p3 p4 p5 M g_p0 hM
    refine k_lp (T := fun a : Option Nat × Int32 × Int32 × Int32 × Int32 × Int32 => inG G (a.1)) ?_ FU ((p0, p1, p2, p3, p4, p5)) M g_p0 hM
    intro k6 hk6 a M T hM
    obtain ⟨p0, p1, p2, p3, p4, p5⟩ := a
    have g_p0 := T
    show okv (fun _ : Int32 => True) MM G wkX3_sameFrom (fX3_sameFrom_B6 k6 p0 p1 p2 p3 p4 p5 M)
    unfold fX3_sameFrom_B6
    refine k_if ?_ ?_
    · exact hL48 p4 _ hM
    · refine k_gR hM g_p0 fun v15 g_v15 => ?_
      refine k_bo fun _ => ?_
      refine k_call (by decide) hM (fun hc => frX8_get _ _ hst hc g_v15) fun v22 M22 _ hM22 => ?_
      refine k_gR hM22 g_p0 fun v26 g_v26 => ?_
      refine k_bo fun _ => ?_
      refine k_call (by decide) hM22 (fun hc => frX8_get _ _ hst hc g_v26) fun v33 M33 _ hM33 => ?_
      refine k_if ?_ ?_
      · refine k_bn fun v39 => ?_
        refine k_bn fun v42 => ?_
        exact hk6 ((p0, p1, p2, p3, v39, v42)) _ g_p0 hM33
      · exact hL48 p4 _ hM33
  unfold fX3_sameFrom
  refine k_bn fun v1 => ?_
  refine k_bn fun v4 => ?_
  exact hL6 a0 a1 a2 a3 v1 v4 _ g_a0 hMM
def wkX3_findBest : List Nat := [309, 310, 311, 1500]
set_option maxRecDepth 100000 in
set_option maxHeartbeats 4000000 in
theorem frX3_findBest {G : Nat → Prop} {MM : Mem} (a0 : Option Nat) (a1 : Int32) (a2 : Int32) (hst : ∀ k, k < 10 → G k) (hc : Cl G MM) (g_a0 : inG G a0) : okv (fun _ : Unit => True) MM G wkX3_findBest (fX3_findBest a0 a1 a2 MM) := by
  have hMM : FrG G wkX3_findBest MM MM := FrG.rf hc
  have hL125 : ∀ (M : Mem) (hM : FrG G wkX3_findBest MM M), okv (fun _ : Unit => True) MM G wkX3_findBest (fX3_findBest_L125 M) := by
    intro M hM
    unfold fX3_findBest_L125
    exact k_ret hM trivial
  have hL117 : ∀ (k35 : Option Nat × Int32 × Int32 × Int32 × Int32 × Int32 → Mem → Option (Unit × Mem)) (hk35 : ∀ a M, (inG G (a.1)) → FrG G wkX3_findBest MM M → okv (fun _ : Unit => True) MM G wkX3_findBest (k35 a M)) (p0 : Option Nat) (p1 : Int32) (p2 : Int32) (p3 : Int32) (p5 : Int32) (q0 : Int32) (M : Mem) (g_p0 : inG G p0) (hM : FrG G wkX3_findBest MM M), okv (fun _ : Unit => True) MM G wkX3_findBest (fX3_findBest_L117 k35 p0 p1 p2 p3 p5 q0 M) := by
    intro k35 hk35 p0 p1 p2 p3 p5 q0 M g_p0 hM
    unfold fX3_findBest_L117
    refine k_bn fun v117 => ?_
    refine k_bn fun v119 => ?_
    exact hk35 ((p0, p1, p2, p3, v117, v119)) _ g_p0 hM
  have hL96 : ∀ (k35 : Option Nat × Int32 × Int32 × Int32 × Int32 × Int32 → Mem → Option (Unit × Mem)) (hk35 : ∀ a M, (inG G (a.1)) → FrG G wkX3_findBest MM M → okv (fun _ : Unit => True) MM G wkX3_findBest (k35 a M)) (p0 : Option Nat) (p1 : Int32) (p2 : Int32) (p3 : Int32) (p4 : Int32) (p5 : Int32) (M : Mem) (g_p0 : inG G p0) (hM : FrG G wkX3_findBest MM M), okv (fun _ : Unit => True) MM G wkX3_findBest (fX3_findBest_L96 k35 p0 p1 p2 p3 p4 p5 M) := by
    intro k35 hk35 p0 p1 p2 p3 p4 p5 M g_p0 hM
    unfold fX3_findBest_L96
    refine k_gR hM g_p0 fun v99 g_v99 => ?_
    refine k_bo fun v102 => ?_
    refine k_if ?_ ?_
    · exact hL117 k35 hk35 p0 p1 p2 p3 p5 ((-1)) _ g_p0 hM
    · refine k_gR hM g_p0 fun v107 g_v107 => ?_
      refine k_bo fun v112 => ?_
      exact hL117 k35 hk35 p0 p1 p2 p3 p5 v112 _ g_p0 hM
  have hL35 : ∀ (p0 : Option Nat) (p1 : Int32) (p2 : Int32) (p3 : Int32) (p4 : Int32) (p5 : Int32) (M : Mem) (g_p0 : inG G p0) (hM : FrG G wkX3_findBest MM M), okv (fun _ : Unit => True) MM G wkX3_findBest (fX3_findBest_L35 p0 p1 p2 p3 p4 p5 M) := by
    intro p0 p1 p2 p3 p4 p5 M g_p0 hM
    refine k_lp (T := fun a : Option Nat × Int32 × Int32 × Int32 × Int32 × Int32 => inG G (a.1)) ?_ FU ((p0, p1, p2, p3, p4, p5)) M g_p0 hM
    intro k35 hk35 a M T hM
    obtain ⟨p0, p1, p2, p3, p4, p5⟩ := a
    have g_p0 := T
    show okv (fun _ : Unit => True) MM G wkX3_findBest (fX3_findBest_B35 k35 p0 p1 p2 p3 p4 p5 M)
    unfold fX3_findBest_B35
    refine k_gR hM g_p0 fun v38 g_v38 => ?_
    refine k_bo fun v41 => ?_
    refine k_if ?_ ?_
    · exact hL125 _ hM
    · refine k_if ?_ ?_
      · exact hL125 _ hM
      · refine k_if ?_ ?_
        · exact hL125 _ hM
        · refine k_bo fun _ => ?_
          refine k_call (by decide) hM (fun hc => frX3_sameFrom _ _ _ _ hst hc g_p0) fun v61 M61 _ hM61 => ?_
          refine k_bn fun v64 => ?_
          refine k_if ?_ ?_
          · exact hL96 k35 hk35 p0 p1 p2 p3 p4 p5 _ g_p0 hM61
          · refine k_bn fun v72 => ?_
            refine k_bo fun v78 => ?_
            refine k_if ?_ ?_
            · exact hL96 k35 hk35 p0 p1 p2 v72 p4 p5 _ g_p0 hM61
            · refine k_pI (by decide) (by decide) (by decide) hM61 g_p0 fun M87 hM87 => ?_
              refine k_pI (by decide) (by decide) (by decide) hM87 g_p0 fun M93 hM93 => ?_
              exact hL96 k35 hk35 p0 p1 p2 v72 p4 p5 _ g_p0 hM93
  unfold fX3_findBest
  refine k_pI (by decide) (by decide) (by decide) hMM g_a0 fun M2 hM2 => ?_
  refine k_if ?_ ?_
  · refine k_bo fun _ => ?_
    refine k_call (by decide) hM2 (fun hc => frX3_linkUpTo _ _ hst hc g_a0) fun v15 M15 _ hM15 => ?_
    refine k_bn fun v19 => ?_
    refine k_gR hM15 g_a0 fun v21 g_v21 => ?_
    refine k_bo fun _ => ?_
    refine k_call (by decide) hM15 (fun hc => frX3_chainOf _ _ hst hc g_a0) fun v26 M26 _ hM26 => ?_
    refine k_bo fun v29 => ?_
    refine k_bn fun v30 => ?_
    refine k_bn fun v33 => ?_
    exact hL35 a0 a1 a2 v19 v30 v33 _ g_a0 hM26
  · exact k_ret hM2 trivial
def wkX8_add : List Nat := [801, 1400]
set_option maxRecDepth 100000 in
set_option maxHeartbeats 4000000 in
theorem frX8_add {G : Nat → Prop} {MM : Mem} (a0 : Option Nat) (a1 : Int32) (hst : ∀ k, k < 10 → G k) (hc : Cl G MM) (g_a0 : inG G a0) : okv (fun _ : Unit => True) MM G wkX8_add (fX8_add a0 a1 MM) := by
  have hMM : FrG G wkX8_add MM MM := FrG.rf hc
  have hL30 : ∀ (p0 : Option Nat) (M : Mem) (g_p0 : inG G p0) (hM : FrG G wkX8_add MM M), okv (fun _ : Unit => True) MM G wkX8_add (fX8_add_L30 p0 M) := by
    intro p0 M g_p0 hM
    unfold fX8_add_L30
    refine k_bo fun v32 => ?_
    refine k_pI (by decide) (by decide) (by decide) hM g_p0 fun M37 hM37 => ?_
    exact k_ret hM37 trivial
  unfold fX8_add
  refine k_bo fun v1 => ?_
  refine k_if ?_ ?_
  · exact hL30 a0 _ g_a0 hMM
  · refine k_bo fun v8 => ?_
    refine k_gR hMM g_a0 fun v12 g_v12 => ?_
    refine k_bo fun v15 => ?_
    refine k_if ?_ ?_
    · exact hL30 a0 _ g_a0 hMM
    · refine k_gR hMM g_a0 fun v20 g_v20 => ?_
      refine k_bo fun v24 => ?_
      refine k_wB (by decide) hMM g_v20 fun M29 hM29 => ?_
      exact hL30 a0 _ g_a0 hM29
def wkX3_find : List Nat := [301, 309, 310, 311, 801, 1400, 1500]
set_option maxRecDepth 100000 in
set_option maxHeartbeats 4000000 in
theorem frX3_find {G : Nat → Prop} {MM : Mem} (a0 : Option Nat) (a1 : Int32) (a2 : Int32) (hst : ∀ k, k < 10 → G k) (hc : Cl G MM) (g_a0 : inG G a0) : okv (fun _ : Unit => True) MM G wkX3_find (fX3_find a0 a1 a2 MM) := by
  have hMM : FrG G wkX3_find MM MM := FrG.rf hc
  have hL165 : ∀ (M : Mem) (hM : FrG G wkX3_find MM M), okv (fun _ : Unit => True) MM G wkX3_find (fX3_find_L165 M) := by
    intro M hM
    unfold fX3_find_L165
    exact k_ret hM trivial
  have hL159 : ∀ (k34 : Option Nat × Int32 × Int32 × Int32 × Int32 → Mem → Option (Unit × Mem)) (hk34 : ∀ a M, (inG G (a.1)) → FrG G wkX3_find MM M → okv (fun _ : Unit => True) MM G wkX3_find (k34 a M)) (p0 : Option Nat) (p3 : Int32) (p4 : Int32) (p5 : Int32) (p6 : Int32) (M : Mem) (g_p0 : inG G p0) (hM : FrG G wkX3_find MM M), okv (fun _ : Unit => True) MM G wkX3_find (fX3_find_L159 k34 p0 p3 p4 p5 p6 M) := by
    intro k34 hk34 p0 p3 p4 p5 p6 M g_p0 hM
    unfold fX3_find_L159
    refine k_bn fun v159 => ?_
    exact hk34 ((p0, p3, p4, p5, v159)) _ g_p0 hM
  have hL72 : ∀ (k34 : Option Nat × Int32 × Int32 × Int32 × Int32 → Mem → Option (Unit × Mem)) (hk34 : ∀ a M, (inG G (a.1)) → FrG G wkX3_find MM M → okv (fun _ : Unit => True) MM G wkX3_find (k34 a M)) (p0 : Option Nat) (p3 : Int32) (p4 : Int32) (p5 : Int32) (p6 : Int32) (M : Mem) (g_p0 : inG G p0) (hM : FrG G wkX3_find MM M), okv (fun _ : Unit => True) MM G wkX3_find (fX3_find_L72 k34 p0 p3 p4 p5 p6 M) := by
    intro k34 hk34 p0 p3 p4 p5 p6 M g_p0 hM
    unfold fX3_find_L72
    refine k_gR hM g_p0 fun v73 g_v73 => ?_
    refine k_gR hM g_p0 fun v77 g_v77 => ?_
    refine k_bo fun _ => ?_
    refine k_call (by decide) hM (fun hc => frX8_get _ _ hst hc g_v77) fun v82 M82 _ hM82 => ?_
    refine k_bo fun _ => ?_
    refine k_call (by decide) hM82 (fun hc => frX8_add _ _ hst hc g_v73) fun v85 M85 _ hM85 => ?_
    refine k_bn fun v88 => ?_
    refine k_bn fun v91 => ?_
    exact hL159 k34 hk34 p0 p3 v91 v88 p6 _ g_p0 hM85
  have hL34 : ∀ (p0 : Option Nat) (p3 : Int32) (p4 : Int32) (p5 : Int32) (p6 : Int32) (M : Mem) (g_p0 : inG G p0) (hM : FrG G wkX3_find MM M), okv (fun _ : Unit => True) MM G wkX3_find (fX3_find_L34 p0 p3 p4 p5 p6 M) := by
    intro p0 p3 p4 p5 p6 M g_p0 hM
    refine k_lp (T := fun a : Option Nat × Int32 × Int32 × Int32 × Int32 => inG G (a.1)) ?_ FU ((p0, p3, p4, p5, p6)) M g_p0 hM
    intro k34 hk34 a M T hM
    obtain ⟨p0, p3, p4, p5, p6⟩ := a
    have g_p0 := T
    show okv (fun _ : Unit => True) MM G wkX3_find (fX3_find_B34 k34 p0 p3 p4 p5 p6 M)
    unfold fX3_find_B34
    refine k_if ?_ ?_
    · exact hL165 _ hM
    · refine k_if ?_ ?_
      · exact hL165 _ hM
      · refine k_bo fun _ => ?_
        refine k_call (by decide) hM (fun hc => frX3_findBest _ _ _ hst hc g_p0) fun v52 M52 _ hM52 => ?_
        refine k_bo fun v56 => ?_
        refine k_if ?_ ?_
        · exact hL72 k34 hk34 p0 p3 p4 p5 p6 _ g_p0 hM52
        · refine k_bo fun v63 => ?_
          refine k_if ?_ ?_
          · refine k_gR hM52 g_p0 fun v98 g_v98 => ?_
            refine k_bo fun v102 => ?_
            refine k_wI (by decide) hM52 g_v98 fun M107 hM107 => ?_
            refine k_gR hM107 g_p0 fun v109 g_v109 => ?_
            refine k_bo fun v113 => ?_
            refine k_bo fun v117 => ?_
            refine k_wI (by decide) hM107 g_v109 fun M120 hM120 => ?_
            refine k_gR hM120 g_p0 fun v122 g_v122 => ?_
            refine k_bo fun v126 => ?_
            refine k_bo fun v132 => ?_
            refine k_wI (by decide) hM120 g_v122 fun M136 hM136 => ?_
            refine k_bo fun v139 => ?_
            refine k_pI (by decide) (by decide) (by decide) hM136 g_p0 fun M144 hM144 => ?_
            refine k_bn fun v148 => ?_
            refine k_bo fun v153 => ?_
            refine k_bn fun v157 => ?_
            exact hL159 k34 hk34 p0 p3 v157 v148 p6 _ g_p0 hM144
          · exact hL72 k34 hk34 p0 p3 p4 p5 p6 _ g_p0 hM52
  unfold fX3_find
  refine k_bo fun v1 => ?_
  refine k_bn fun v6 => ?_
  refine k_bo fun v8 => ?_
  refine k_bn fun v13 => ?_
  refine k_bn fun v16 => ?_
  refine k_pI (by decide) (by decide) (by decide) hMM g_a0 fun M20 hM20 => ?_
  refine k_gR hM20 g_a0 fun v24 g_v24 => ?_
  refine k_pI (by decide) (by decide) (by decide) hM20 g_v24 fun M28 hM28 => ?_
  refine k_bn fun v32 => ?_
  exact hL34 a0 v6 v13 v16 v32 _ g_a0 hM28
def wkX4_beginFrame : List Nat := [401, 402]
set_option maxRecDepth 100000 in
set_option maxHeartbeats 4000000 in
theorem frX4_beginFrame {G : Nat → Prop} {MM : Mem} (a0 : Option Nat) (a1 : Option Nat) (hst : ∀ k, k < 10 → G k) (hc : Cl G MM) (g_a0 : inG G a0) (g_a1 : inG G a1) : okv (fun _ : Unit => True) MM G wkX4_beginFrame (fX4_beginFrame a0 a1 MM) := by
  have hMM : FrG G wkX4_beginFrame MM MM := FrG.rf hc
  have hL43 : ∀ (q0 : Option Nat) (q1 : Option Nat) (M : Mem) (g_q0 : inG G q0) (g_q1 : inG G q1) (hM : FrG G wkX4_beginFrame MM M), okv (fun _ : Unit => True) MM G wkX4_beginFrame (fX4_beginFrame_L43 q0 q1 M) := by
    intro q0 q1 M g_q0 g_q1 hM
    unfold fX4_beginFrame_L43
    refine k_pR (by decide) (by decide) hM g_q0 g_q1 fun M43 hM43 => ?_
    exact k_ret hM43 trivial
  have hL39 : ∀ (p0 : Option Nat) (q0 : Option Nat) (M : Mem) (g_p0 : inG G p0) (g_q0 : inG G q0) (hM : FrG G wkX4_beginFrame MM M), okv (fun _ : Unit => True) MM G wkX4_beginFrame (fX4_beginFrame_L39 p0 q0 M) := by
    intro p0 q0 M g_p0 g_q0 hM
    unfold fX4_beginFrame_L39
    refine k_gR hM g_p0 fun v40 g_v40 => ?_
    exact hL43 q0 v40 _ g_q0 g_v40 hM
  have hL17 : ∀ (p0 : Option Nat) (p1 : Option Nat) (q0 : Option Nat) (q1 : Int32) (M : Mem) (g_p0 : inG G p0) (g_p1 : inG G p1) (g_q0 : inG G q0) (hM : FrG G wkX4_beginFrame MM M), okv (fun _ : Unit => True) MM G wkX4_beginFrame (fX4_beginFrame_L17 p0 p1 q0 q1 M) := by
    intro p0 p1 q0 q1 M g_p0 g_p1 g_q0 hM
    unfold fX4_beginFrame_L17
    refine k_pZ (by decide) (by decide) hM g_q0 fun M17 hM17 => ?_
    refine k_if ?_ ?_
    · exact hL39 p0 p0 _ g_p0 g_p0 hM17
    · refine k_bo fun v26 => ?_
      refine k_if ?_ ?_
      · exact hL39 p0 p0 _ g_p0 g_p0 hM17
      · refine k_gR hM17 g_p1 fun v33 g_v33 => ?_
        exact hL43 p0 v33 _ g_p0 g_v33 hM17
  have hL16 : ∀ (p0 : Option Nat) (p1 : Option Nat) (q0 : Option Nat) (M : Mem) (g_p0 : inG G p0) (g_p1 : inG G p1) (g_q0 : inG G q0) (hM : FrG G wkX4_beginFrame MM M), okv (fun _ : Unit => True) MM G wkX4_beginFrame (fX4_beginFrame_L16 p0 p1 q0 M) := by
    intro p0 p1 q0 M g_p0 g_p1 g_q0 hM
    unfold fX4_beginFrame_L16
    exact hL17 p0 p1 q0 0 _ g_p0 g_p1 g_q0 hM
  unfold fX4_beginFrame
  refine k_if ?_ ?_
  · exact hL16 a0 a1 a0 _ g_a0 g_a1 g_a0 hMM
  · refine k_bo fun v6 => ?_
    refine k_if ?_ ?_
    · exact hL16 a0 a1 a0 _ g_a0 g_a1 g_a0 hMM
    · exact hL17 a0 a1 a0 1 _ g_a0 g_a1 g_a0 hMM
def wkX4_coded : List Nat := []
set_option maxRecDepth 100000 in
set_option maxHeartbeats 4000000 in
theorem frX4_coded {G : Nat → Prop} {MM : Mem} (a0 : Option Nat) (hst : ∀ k, k < 10 → G k) (hc : Cl G MM) (g_a0 : inG G a0) : okv z01 MM G wkX4_coded (fX4_coded a0 MM) := by
  have hMM : FrG G wkX4_coded MM MM := FrG.rf hc
  have hL13 : ∀ (q0 : Int32) (M : Mem) (hM : FrG G wkX4_coded MM M), okv z01 MM G wkX4_coded (fX4_coded_L13 q0 M) := by
    intro q0 M hM
    unfold fX4_coded_L13
    exact k_retZ hM
  unfold fX4_coded
  refine k_bo fun v1 => ?_
  refine k_if ?_ ?_
  · exact hL13 0 _ hMM
  · exact hL13 1 _ hMM
def wkX7_fail : List Nat := [700, 701]
set_option maxRecDepth 100000 in
set_option maxHeartbeats 4000000 in
theorem frX7_fail {G : Nat → Prop} {MM : Mem} (a0 : Option Nat) (a1 : Int32) (a2 : Int32) (hst : ∀ k, k < 10 → G k) (hc : Cl G MM) (g_a0 : inG G a0) : okv z01 MM G wkX7_fail (fX7_fail a0 a1 a2 MM) := by
  have hMM : FrG G wkX7_fail MM MM := FrG.rf hc
  unfold fX7_fail
  refine k_pI (by decide) (by decide) (by decide) hMM g_a0 fun M2 hM2 => ?_
  refine k_pI (by decide) (by decide) (by decide) hM2 g_a0 fun M7 hM7 => ?_
  exact k_retZ hM7
def wkX4_readHead : List Nat := [403, 408, 409, 410, 411, 412, 700, 701]
set_option maxRecDepth 100000 in
set_option maxHeartbeats 4000000 in
theorem frX4_readHead {G : Nat → Prop} {MM : Mem} (a0 : Option Nat) (a1 : Option Nat) (a2 : Int32) (a3 : Int32) (a4 : Int32) (hst : ∀ k, k < 10 → G k) (hc : Cl G MM) (g_a0 : inG G a0) (g_a1 : inG G a1) : okv z01 MM G wkX4_readHead (fX4_readHead a0 a1 a2 a3 a4 MM) := by
  have hMM : FrG G wkX4_readHead MM MM := FrG.rf hc
  have hL96 : ∀ (p0 : Option Nat) (M : Mem) (g_p0 : inG G p0) (hM : FrG G wkX4_readHead MM M), okv z01 MM G wkX4_readHead (fX4_readHead_L96 p0 M) := by
    intro p0 M g_p0 hM
    unfold fX4_readHead_L96
    refine k_gR hM g_p0 fun v97 g_v97 => ?_
    refine k_bo fun v103 => ?_
    refine k_bo fun _ => ?_
    refine k_call (by decide) hM (fun hc => frX7_fail _ _ _ hst hc g_v97) fun v106 M106 _ hM106 => ?_
    exact k_retZ hM106
  have hL288 : ∀ (q0 : Int32) (M : Mem) (hM : FrG G wkX4_readHead MM M), okv z01 MM G wkX4_readHead (fX4_readHead_L288 q0 M) := by
    intro q0 M hM
    unfold fX4_readHead_L288
    exact k_retZ hM
  have hL283 : ∀ (M : Mem) (hM : FrG G wkX4_readHead MM M), okv z01 MM G wkX4_readHead (fX4_readHead_L283 M) := by
    intro M hM
    unfold fX4_readHead_L283
    exact hL288 1 _ hM
  have hL267 : ∀ (p0 : Option Nat) (M : Mem) (g_p0 : inG G p0) (hM : FrG G wkX4_readHead MM M), okv z01 MM G wkX4_readHead (fX4_readHead_L267 p0 M) := by
    intro p0 M g_p0 hM
    unfold fX4_readHead_L267
    refine k_gR hM g_p0 fun v268 g_v268 => ?_
    refine k_bo fun v274 => ?_
    refine k_bo fun _ => ?_
    refine k_call (by decide) hM (fun hc => frX7_fail _ _ _ hst hc g_v268) fun v277 M277 _ hM277 => ?_
    refine k_if ?_ ?_
    · exact hL288 0 _ hM277
    · exact hL283 _ hM277
  have hL239 : ∀ (p0 : Option Nat) (p3 : Int32) (p4 : Int32) (p8 : Int32) (M : Mem) (g_p0 : inG G p0) (hM : FrG G wkX4_readHead MM M), okv z01 MM G wkX4_readHead (fX4_readHead_L239 p0 p3 p4 p8 M) := by
    intro p0 p3 p4 p8 M g_p0 hM
    unfold fX4_readHead_L239
    refine k_bo fun v241 => ?_
    refine k_pI (by decide) (by decide) (by decide) hM g_p0 fun M247 hM247 => ?_
    refine k_bo fun v251 => ?_
    refine k_if ?_ ?_
    · exact hL267 p0 _ g_p0 hM247
    · refine k_bo fun v260 => ?_
      refine k_if ?_ ?_
      · exact hL283 _ hM247
      · exact hL267 p0 _ g_p0 hM247
  have hL237 : ∀ (p0 : Option Nat) (p3 : Int32) (p4 : Int32) (q0 : Int32) (M : Mem) (g_p0 : inG G p0) (hM : FrG G wkX4_readHead MM M), okv z01 MM G wkX4_readHead (fX4_readHead_L237 p0 p3 p4 q0 M) := by
    intro p0 p3 p4 q0 M g_p0 hM
    unfold fX4_readHead_L237
    refine k_bn fun v237 => ?_
    exact hL239 p0 p3 p4 v237 _ g_p0 hM
  have hL216 : ∀ (p0 : Option Nat) (p3 : Int32) (p4 : Int32) (q0 : Option Nat) (q1 : Int64) (q2 : Int32) (M : Mem) (g_p0 : inG G p0) (g_q0 : inG G q0) (hM : FrG G wkX4_readHead MM M), okv z01 MM G wkX4_readHead (fX4_readHead_L216 p0 p3 p4 q0 q1 q2 M) := by
    intro p0 p3 p4 q0 q1 q2 M g_p0 g_q0 hM
    unfold fX4_readHead_L216
    refine k_pI (by decide) (by decide) (by decide) hM g_q0 fun M218 hM218 => ?_
    refine k_bo fun v222 => ?_
    refine k_if ?_ ?_
    · exact hL237 p0 p3 p4 1 _ g_p0 hM218
    · refine k_bo fun v234 => ?_
      exact hL237 p0 p3 p4 v234 _ g_p0 hM218
  have hL168 : ∀ (p0 : Option Nat) (p3 : Int32) (p4 : Int32) (p6 : Int64) (q0 : Int32) (M : Mem) (g_p0 : inG G p0) (hM : FrG G wkX4_readHead MM M), okv z01 MM G wkX4_readHead (fX4_readHead_L168 p0 p3 p4 p6 q0 M) := by
    intro p0 p3 p4 p6 q0 M g_p0 hM
    unfold fX4_readHead_L168
    refine k_bn fun v168 => ?_
    refine k_pI (by decide) (by decide) (by decide) hM g_p0 fun M183 hM183 => ?_
    refine k_bn fun v194 => ?_
    exact hL239 p0 p3 p4 v194 _ g_p0 hM183
  have hL75 : ∀ (p0 : Option Nat) (p1 : Option Nat) (p3 : Int32) (p4 : Int32) (q0 : Int32) (M : Mem) (g_p0 : inG G p0) (g_p1 : inG G p1) (hM : FrG G wkX4_readHead MM M), okv z01 MM G wkX4_readHead (fX4_readHead_L75 p0 p1 p3 p4 q0 M) := by
    intro p0 p1 p3 p4 q0 M g_p0 g_p1 hM
    unfold fX4_readHead_L75
    refine k_bn fun v75 => ?_
    refine k_bo fun v78 => ?_
    refine k_if ?_ ?_
    · exact hL96 p0 _ g_p0 hM
    · refine k_bo fun v89 => ?_
      refine k_if ?_ ?_
      · refine k_bo fun v112 => ?_
        refine k_bo fun _ => ?_
        refine k_call (by decide) hM (fun hc => frX8_number _ _ _ hst hc g_p1) fun v117 M117 _ hM117 => ?_
        refine k_bn fun v120 => ?_
        refine k_bo fun v124 => ?_
        refine k_pI (by decide) (by decide) (by decide) hM117 g_p0 fun M130 hM130 => ?_
        refine k_bo fun _ => ?_
        refine k_call (by decide) hM130 (fun hc => frX4_coded _ hst hc g_p0) fun v134 M134 _ hM134 => ?_
        refine k_if ?_ ?_
        · refine k_bo fun v203 => ?_
          refine k_bo fun v207 => ?_
          refine k_if ?_ ?_
          · exact hL216 p0 p3 p4 p0 v120 3 _ g_p0 g_p0 hM134
          · exact hL216 p0 p3 p4 p0 v120 4 _ g_p0 g_p0 hM134
        · refine k_bo fun v141 => ?_
          refine k_if ?_ ?_
          · refine k_bo fun v154 => ?_
            refine k_if ?_ ?_
            · exact hL168 p0 p3 p4 v120 14 _ g_p0 hM134
            · exact hL168 p0 p3 p4 v120 18 _ g_p0 hM134
          · exact hL168 p0 p3 p4 v120 10 _ g_p0 hM134
      · exact hL96 p0 _ g_p0 hM
  unfold fX4_readHead
  refine k_pI (by decide) (by decide) (by decide) hMM g_a0 fun M2 hM2 => ?_
  refine k_bo fun v8 => ?_
  refine k_bo fun _ => ?_
  refine k_call (by decide) hM2 (fun hc => frX8_get _ _ hst hc g_a1) fun v11 M11 _ hM11 => ?_
  refine k_pI (by decide) (by decide) (by decide) hM11 g_a0 fun M16 hM16 => ?_
  refine k_bo fun v22 => ?_
  refine k_bo fun _ => ?_
  refine k_call (by decide) hM16 (fun hc => frX8_get _ _ hst hc g_a1) fun v25 M25 _ hM25 => ?_
  refine k_pI (by decide) (by decide) (by decide) hM25 g_a0 fun M32 hM32 => ?_
  refine k_bo fun _ => ?_
  refine k_call (by decide) hM32 (fun hc => frX4_coded _ hst hc g_a0) fun v36 M36 _ hM36 => ?_
  refine k_if ?_ ?_
  · refine k_bo fun v56 => ?_
    refine k_if ?_ ?_
    · exact hL75 a0 a1 a3 a4 3 _ g_a0 g_a1 hM36
    · refine k_bo fun v68 => ?_
      refine k_bo fun v72 => ?_
      exact hL75 a0 a1 a3 a4 (v72 + 1) _ g_a0 g_a1 hM36
  · refine k_bo fun v43 => ?_
    exact hL75 a0 a1 a3 a4 (maxI (v43 + 2) 3) _ g_a0 g_a1 hM36
def wkX4_readCode : List Nat := [0, 1, 2, 3, 100, 401, 402, 409, 700, 701, 1000, 1004, 1005, 1006, 1007, 1008, 1101, 1102, 1500]
set_option maxRecDepth 100000 in
set_option maxHeartbeats 4000000 in
theorem frX4_readCode {G : Nat → Prop} {MM : Mem} (a0 : Option Nat) (a1 : Option Nat) (hst : ∀ k, k < 10 → G k) (hc : Cl G MM) (g_a0 : inG G a0) (g_a1 : inG G a1) : okv z01 MM G wkX4_readCode (fX4_readCode a0 a1 MM) := by
  have hMM : FrG G wkX4_readCode MM MM := FrG.rf hc
  have hL107 : ∀ (q0 : Int32) (M : Mem) (hM : FrG G wkX4_readCode MM M), okv z01 MM G wkX4_readCode (fX4_readCode_L107 q0 M) := by
    intro q0 M hM
    unfold fX4_readCode_L107
    exact k_retZ hM
  have hL102 : ∀ (M : Mem) (hM : FrG G wkX4_readCode MM M), okv z01 MM G wkX4_readCode (fX4_readCode_L102 M) := by
    intro M hM
    unfold fX4_readCode_L102
    exact hL107 1 _ hM
  have hL72 : ∀ (p0 : Option Nat) (M : Mem) (g_p0 : inG G p0) (hM : FrG G wkX4_readCode MM M), okv z01 MM G wkX4_readCode (fX4_readCode_L72 p0 M) := by
    intro p0 M g_p0 hM
    unfold fX4_readCode_L72
    refine k_bo fun _ => ?_
    refine k_call (by decide) hM (fun hc => frX4_coded _ hst hc g_p0) fun v73 M73 _ hM73 => ?_
    refine k_if ?_ ?_
    · exact hL102 _ hM73
    · refine k_bo fun v80 => ?_
      refine k_if ?_ ?_
      · refine k_gR hM73 g_p0 fun v87 g_v87 => ?_
        refine k_bo fun v93 => ?_
        refine k_bo fun _ => ?_
        refine k_call (by decide) hM73 (fun hc => frX7_fail _ _ _ hst hc g_v87) fun v96 M96 _ hM96 => ?_
        refine k_if ?_ ?_
        · exact hL107 0 _ hM96
        · exact hL102 _ hM96
      · exact hL102 _ hM73
  unfold fX4_readCode
  refine k_bo fun v1 => ?_
  refine k_if ?_ ?_
  · refine k_gR hMM g_a0 fun v9 g_v9 => ?_
    refine k_bo fun v14 => ?_
    refine k_bo fun v18 => ?_
    refine k_bo fun _ => ?_
    refine k_call (by decide) hMM (fun hc => frX11_read _ _ _ _ hst hc g_v9 g_a1) fun v21 M21 _ hM21 => ?_
    refine k_bn fun v24 => ?_
    refine k_if ?_ ?_
    · refine k_gR hM21 g_a0 fun v44 g_v44 => ?_
      refine k_gR hM21 g_a0 fun v48 g_v48 => ?_
      refine k_bo fun _ => ?_
      refine k_call (by decide) hM21 (fun hc => frX1_build _ _ hst hc g_v44 g_v48) fun v51 M51 _ hM51 => ?_
      refine k_gR hM51 g_a0 fun v56 g_v56 => ?_
      refine k_pR (by decide) (by decide) hM51 g_a0 g_v56 fun M59 hM59 => ?_
      refine k_pZ (by decide) (by decide) hM59 g_a0 fun M64 hM64 => ?_
      refine k_pI (by decide) (by decide) (by decide) hM64 g_a0 fun M69 hM69 => ?_
      exact hL72 a0 _ g_a0 hM69
    · refine k_gR hM21 g_a0 fun v30 g_v30 => ?_
      refine k_bo fun v36 => ?_
      refine k_bo fun _ => ?_
      refine k_call (by decide) hM21 (fun hc => frX7_fail _ _ _ hst hc g_v30) fun v39 M39 _ hM39 => ?_
      exact k_retZ hM39
  · exact hL72 a0 _ g_a0 hMM
def wkX8_addSame : List Nat := [801, 1400]
set_option maxRecDepth 100000 in
set_option maxHeartbeats 4000000 in
theorem frX8_addSame {G : Nat → Prop} {MM : Mem} (a0 : Option Nat) (a1 : Int32) (a2 : Int32) (hst : ∀ k, k < 10 → G k) (hc : Cl G MM) (g_a0 : inG G a0) : okv (fun _ : Unit => True) MM G wkX8_addSame (fX8_addSame a0 a1 a2 MM) := by
  have hMM : FrG G wkX8_addSame MM MM := FrG.rf hc
  have hL18 : ∀ (p0 : Option Nat) (p1 : Int32) (p2 : Int32) (p3 : Int32) (p4 : Int32) (M : Mem) (g_p0 : inG G p0) (hM : FrG G wkX8_addSame MM M), okv (fun _ : Unit => True) MM G wkX8_addSame (fX8_addSame_L18 p0 p1 p2 p3 p4 M) := by
    intro p0 p1 p2 p3 p4 M g_p0 hM
    refine k_lp (T := fun a : Option Nat × Int32 × Int32 × Int32 × Int32 => inG G (a.1)) ?_ FU ((p0, p1, p2, p3, p4)) M g_p0 hM
    intro k18 hk18 a M T hM
    obtain ⟨p0, p1, p2, p3, p4⟩ := a
    have g_p0 := T
    show okv (fun _ : Unit => True) MM G wkX8_addSame (fX8_addSame_B18 k18 p0 p1 p2 p3 p4 M)
    unfold fX8_addSame_B18
    refine k_if ?_ ?_
    · refine k_bo fun v46 => ?_
      refine k_pI (by decide) (by decide) (by decide) hM g_p0 fun M51 hM51 => ?_
      exact k_ret hM51 trivial
    · refine k_gR hM g_p0 fun v25 g_v25 => ?_
      refine k_bo fun v29 => ?_
      refine k_wB (by decide) hM g_v25 fun M37 hM37 => ?_
      refine k_bn fun v38 => ?_
      exact hk18 ((p0, p1, p2, p3, v38)) _ g_p0 hM37
  unfold fX8_addSame
  refine k_gR hMM g_a0 fun v2 g_v2 => ?_
  refine k_bo fun v5 => ?_
  refine k_bo fun v7 => ?_
  refine k_bn fun v14 => ?_
  refine k_bn fun v16 => ?_
  exact hL18 a0 a1 a2 v14 v16 _ g_a0 hMM
def wkX4_readStream : List Nat := [0, 1, 2, 3, 801, 1400]
set_option maxRecDepth 100000 in
set_option maxHeartbeats 4000000 in
theorem frX4_readStream {G : Nat → Prop} {MM : Mem} (a0 : Option Nat) (a1 : Option Nat) (a2 : Int32) (a3 : Int32) (a4 : Int32) (hst : ∀ k, k < 10 → G k) (hc : Cl G MM) (g_a0 : inG G a0) (g_a1 : inG G a1) : okv z01 MM G wkX4_readStream (fX4_readStream a0 a1 a2 a3 a4 MM) := by
  have hMM : FrG G wkX4_readStream MM MM := FrG.rf hc
  have hL18 : ∀ (M : Mem) (hM : FrG G wkX4_readStream MM M), okv z01 MM G wkX4_readStream (fX4_readStream_L18 M) := by
    intro M hM
    unfold fX4_readStream_L18
    exact k_retZ hM
  have hL123 : ∀ (q0 : Int32) (M : Mem) (hM : FrG G wkX4_readStream MM M), okv z01 MM G wkX4_readStream (fX4_readStream_L123 q0 M) := by
    intro q0 M hM
    unfold fX4_readStream_L123
    exact k_retZ hM
  have hL23 : ∀ (p0 : Option Nat) (p4 : Int32) (p5 : Int32) (M : Mem) (g_p0 : inG G p0) (hM : FrG G wkX4_readStream MM M), okv z01 MM G wkX4_readStream (fX4_readStream_L23 p0 p4 p5 M) := by
    intro p0 p4 p5 M g_p0 hM
    refine k_lp (T := fun a : Option Nat × Int32 × Int32 => inG G (a.1)) ?_ FU ((p0, p4, p5)) M g_p0 hM
    intro k23 hk23 a M T hM
    obtain ⟨p0, p4, p5⟩ := a
    have g_p0 := T
    show okv z01 MM G wkX4_readStream (fX4_readStream_B23 k23 p0 p4 p5 M)
    unfold fX4_readStream_B23
    refine k_if ?_ ?_
    · refine k_gR hM g_p0 fun v109 g_v109 => ?_
      refine k_bo fun v112 => ?_
      refine k_if ?_ ?_
      · exact hL123 1 _ hM
      · exact hL123 0 _ hM
    · refine k_gR hM g_p0 fun v31 g_v31 => ?_
      refine k_gR hM g_p0 fun v35 g_v35 => ?_
      refine k_gR hM g_p0 fun v39 g_v39 => ?_
      refine k_bo fun v42 => ?_
      refine k_bo fun _ => ?_
      refine k_call (by decide) hM (fun hc => frX0_look _ _ hst hc g_v35) fun v45 M45 _ hM45 => ?_
      refine k_bo fun _ => ?_
      refine k_call (by decide) hM45 (fun hc => frX1_symbolOf _ _ hst hc g_v31) fun v48 M48 _ hM48 => ?_
      refine k_bn fun v51 => ?_
      refine k_gR hM48 g_p0 fun v54 g_v54 => ?_
      refine k_gR hM48 g_v54 fun v57 g_v57 => ?_
      refine k_bo fun v62 => ?_
      refine k_bn fun v63 => ?_
      refine k_gR hM48 g_p0 fun v68 g_v68 => ?_
      refine k_bo fun v71 => ?_
      refine k_if ?_ ?_
      · refine k_gR hM48 g_p0 fun v80 g_v80 => ?_
        refine k_bo fun v84 => ?_
        refine k_pI (by decide) (by decide) (by decide) hM48 g_v80 fun M90 hM90 => ?_
        refine k_gR hM90 g_p0 fun v94 g_v94 => ?_
        refine k_bo fun _ => ?_
        refine k_call (by decide) hM90 (fun hc => frX8_add _ _ hst hc g_v94) fun v99 M99 _ hM99 => ?_
        refine k_bn fun v102 => ?_
        exact hk23 ((p0, p4, v102)) _ g_p0 hM99
      · exact k_retZ hM48
  unfold fX4_readStream
  refine k_if ?_ ?_
  · exact hL18 _ hMM
  · refine k_gR hMM g_a0 fun v6 g_v6 => ?_
    refine k_bo fun _ => ?_
    refine k_call (by decide) hMM (fun hc => frX0_begin _ _ _ _ hst hc g_v6 g_a1) fun v12 M12 _ hM12 => ?_
    refine k_if ?_ ?_
    · exact hL18 _ hM12
    · refine k_bn fun v21 => ?_
      exact hL23 a0 a4 v21 _ g_a0 hM12
def wkX4_readFour : List Nat := [0, 1, 2, 3, 801, 1400]
set_option maxRecDepth 100000 in
set_option maxHeartbeats 4000000 in
theorem frX4_readFour {G : Nat → Prop} {MM : Mem} (a0 : Option Nat) (a1 : Option Nat) (hst : ∀ k, k < 10 → G k) (hc : Cl G MM) (g_a0 : inG G a0) (g_a1 : inG G a1) : okv z01 MM G wkX4_readFour (fX4_readFour a0 a1 MM) := by
  have hMM : FrG G wkX4_readFour MM MM := FrG.rf hc
  have hL76 : ∀ (M : Mem) (hM : FrG G wkX4_readFour MM M), okv z01 MM G wkX4_readFour (fX4_readFour_L76 M) := by
    intro M hM
    unfold fX4_readFour_L76
    exact k_retZ hM
  have hL30 : ∀ (p0 : Option Nat) (p1 : Option Nat) (p2 : Int32) (p3 : Int32) (p4 : Int32) (M : Mem) (g_p0 : inG G p0) (g_p1 : inG G p1) (hM : FrG G wkX4_readFour MM M), okv z01 MM G wkX4_readFour (fX4_readFour_L30 p0 p1 p2 p3 p4 M) := by
    intro p0 p1 p2 p3 p4 M g_p0 g_p1 hM
    refine k_lp (T := fun a : Option Nat × Option Nat × Int32 × Int32 × Int32 => inG G (a.1) ∧ inG G (a.2.1)) ?_ FU ((p0, p1, p2, p3, p4)) M ⟨g_p0, g_p1⟩ hM
    intro k30 hk30 a M T hM
    obtain ⟨p0, p1, p2, p3, p4⟩ := a
    obtain ⟨g_p0, g_p1⟩ := T
    show okv z01 MM G wkX4_readFour (fX4_readFour_B30 k30 p0 p1 p2 p3 p4 M)
    unfold fX4_readFour_B30
    refine k_if ?_ ?_
    · refine k_bo fun v91 => ?_
      refine k_bo fun v95 => ?_
      refine k_bo fun _ => ?_
      refine k_call (by decide) hM (fun hc => frX4_readStream _ _ _ _ _ hst hc g_p0 g_p1) fun v102 M102 _ hM102 => ?_
      exact k_retZ hM102
    · refine k_bo fun v39 => ?_
      refine k_bo fun _ => ?_
      refine k_call (by decide) hM (fun hc => frX8_number _ _ _ hst hc g_p1) fun v48 M48 _ hM48 => ?_
      refine k_bn fun v53 => ?_
      refine k_bo fun v58 => ?_
      refine k_if ?_ ?_
      · exact hL76 _ hM48
      · refine k_bo fun _ => ?_
        refine k_call (by decide) hM48 (fun hc => frX4_readStream _ _ _ _ _ hst hc g_p0 g_p1) fun v70 M70 _ hM70 => ?_
        refine k_if ?_ ?_
        · exact hL76 _ hM70
        · refine k_bn fun v80 => ?_
          refine k_bn fun v81 => ?_
          exact hk30 ((p0, p1, v80, p3, v81)) _ ⟨g_p0, g_p1⟩ hM70
  unfold fX4_readFour
  refine k_bo fun v1 => ?_
  refine k_bn fun v7 => ?_
  refine k_bo fun v9 => ?_
  refine k_bo fun v15 => ?_
  refine k_bn fun v16 => ?_
  refine k_bo fun v19 => ?_
  refine k_if ?_ ?_
  · refine k_bn fun v28 => ?_
    exact hL30 a0 a1 v7 v16 v28 _ g_a0 g_a1 hMM
  · exact k_retZ hMM
def wkX4_readBody : List Nat := [0, 1, 2, 3, 700, 701, 801, 1400, 1500]
set_option maxRecDepth 100000 in
set_option maxHeartbeats 4000000 in
theorem frX4_readBody {G : Nat → Prop} {MM : Mem} (a0 : Option Nat) (a1 : Option Nat) (hst : ∀ k, k < 10 → G k) (hc : Cl G MM) (g_a0 : inG G a0) (g_a1 : inG G a1) : okv z01 MM G wkX4_readBody (fX4_readBody a0 a1 MM) := by
  have hMM : FrG G wkX4_readBody MM MM := FrG.rf hc
  have hL148 : ∀ (q0 : Int32) (M : Mem) (hM : FrG G wkX4_readBody MM M), okv z01 MM G wkX4_readBody (fX4_readBody_L148 q0 M) := by
    intro q0 M hM
    unfold fX4_readBody_L148
    exact k_retZ hM
  have hL143 : ∀ (M : Mem) (hM : FrG G wkX4_readBody MM M), okv z01 MM G wkX4_readBody (fX4_readBody_L143 M) := by
    intro M hM
    unfold fX4_readBody_L143
    exact hL148 1 _ hM
  have hL121 : ∀ (p0 : Option Nat) (p2 : Int32) (q0 : Option Nat) (q1 : Int32) (q2 : Int32) (q3 : Int32) (M : Mem) (g_p0 : inG G p0) (g_q0 : inG G q0) (hM : FrG G wkX4_readBody MM M), okv z01 MM G wkX4_readBody (fX4_readBody_L121 p0 p2 q0 q1 q2 q3 M) := by
    intro p0 p2 q0 q1 q2 q3 M g_p0 g_q0 hM
    unfold fX4_readBody_L121
    refine k_wI (by decide) hM g_q0 fun M122 hM122 => ?_
    refine k_if ?_ ?_
    · refine k_gR hM122 g_p0 fun v128 g_v128 => ?_
      refine k_bo fun v134 => ?_
      refine k_bo fun _ => ?_
      refine k_call (by decide) hM122 (fun hc => frX7_fail _ _ _ hst hc g_v128) fun v137 M137 _ hM137 => ?_
      refine k_if ?_ ?_
      · exact hL148 0 _ hM137
      · exact hL143 _ hM137
    · exact hL143 _ hM122
  have hL99 : ∀ (p0 : Option Nat) (p2 : Int32) (M : Mem) (g_p0 : inG G p0) (hM : FrG G wkX4_readBody MM M), okv z01 MM G wkX4_readBody (fX4_readBody_L99 p0 p2 M) := by
    intro p0 p2 M g_p0 hM
    unfold fX4_readBody_L99
    refine k_gR hM g_p0 fun v100 g_v100 => ?_
    refine k_gR hM g_v100 fun v103 g_v103 => ?_
    refine k_bo fun v108 => ?_
    refine k_if ?_ ?_
    · exact hL121 p0 p2 v103 3 v108 0 _ g_p0 g_v103 hM
    · refine k_bo fun v114 => ?_
      exact hL121 p0 p2 v103 3 v108 v114 _ g_p0 g_v103 hM
  have hL98 : ∀ (p0 : Option Nat) (q0 : Int32) (M : Mem) (g_p0 : inG G p0) (hM : FrG G wkX4_readBody MM M), okv z01 MM G wkX4_readBody (fX4_readBody_L98 p0 q0 M) := by
    intro p0 q0 M g_p0 hM
    unfold fX4_readBody_L98
    refine k_bn fun v98 => ?_
    exact hL99 p0 v98 _ g_p0 hM
  unfold fX4_readBody
  refine k_gR hMM g_a0 fun v1 g_v1 => ?_
  refine k_pI (by decide) (by decide) (by decide) hMM g_v1 fun M5 hM5 => ?_
  refine k_bn fun v9 => ?_
  refine k_bo fun v11 => ?_
  refine k_if ?_ ?_
  · refine k_gR hM5 g_a0 fun v18 g_v18 => ?_
    refine k_bo fun v23 => ?_
    refine k_bo fun v27 => ?_
    refine k_bo fun _ => ?_
    refine k_call (by decide) hM5 (fun hc => frX8_addFrom _ _ _ _ hst hc g_v18 g_a1) fun v30 M30 _ hM30 => ?_
    exact hL99 a0 v9 _ g_a0 hM30
  · refine k_bo fun v37 => ?_
    refine k_if ?_ ?_
    · refine k_gR hM5 g_a0 fun v45 g_v45 => ?_
      refine k_bo fun v50 => ?_
      refine k_bo fun _ => ?_
      refine k_call (by decide) hM5 (fun hc => frX8_get _ _ hst hc g_a1) fun v53 M53 _ hM53 => ?_
      refine k_bo fun v57 => ?_
      refine k_bo fun _ => ?_
      refine k_call (by decide) hM53 (fun hc => frX8_addSame _ _ _ hst hc g_v45) fun v60 M60 _ hM60 => ?_
      exact hL99 a0 v9 _ g_a0 hM60
    · refine k_bo fun v67 => ?_
      refine k_if ?_ ?_
      · refine k_bo fun v76 => ?_
        refine k_bo fun v80 => ?_
        refine k_bo fun v84 => ?_
        refine k_bo fun _ => ?_
        refine k_call (by decide) hM5 (fun hc => frX4_readStream _ _ _ _ _ hst hc g_a0 g_a1) fun v87 M87 _ hM87 => ?_
        exact hL98 a0 v87 _ g_a0 hM87
      · refine k_bo fun _ => ?_
        refine k_call (by decide) hM5 (fun hc => frX4_readFour _ _ hst hc g_a0 g_a1) fun v95 M95 _ hM95 => ?_
        exact hL98 a0 v95 _ g_a0 hM95
def wkX7_clear : List Nat := [1500]
set_option maxRecDepth 100000 in
set_option maxHeartbeats 4000000 in
theorem frX7_clear {G : Nat → Prop} {MM : Mem} (a0 : Option Nat) (hst : ∀ k, k < 10 → G k) (hc : Cl G MM) (g_a0 : inG G a0) : okv (fun _ : Unit => True) MM G wkX7_clear (fX7_clear a0 MM) := by
  have hMM : FrG G wkX7_clear MM MM := FrG.rf hc
  unfold fX7_clear
  refine k_gR hMM g_a0 fun v1 g_v1 => ?_
  refine k_call (by decide) hMM (fun hc => frJ7_fill_53178 _ _ hst hc g_v1) fun v5 M5 _ hM5 => ?_
  exact k_ret hM5 trivial
def wkX5_forget : List Nat := [402, 1800]
set_option maxRecDepth 100000 in
set_option maxHeartbeats 4000000 in
theorem frX5_forget {G : Nat → Prop} {MM : Mem} (a0 : Option Nat) (hst : ∀ k, k < 10 → G k) (hc : Cl G MM) (g_a0 : inG G a0) : okv (fun _ : Unit => True) MM G wkX5_forget (fX5_forget a0 MM) := by
  have hMM : FrG G wkX5_forget MM MM := FrG.rf hc
  have hL10 : ∀ (p0 : Option Nat) (p1 : Int32) (M : Mem) (g_p0 : inG G p0) (hM : FrG G wkX5_forget MM M), okv (fun _ : Unit => True) MM G wkX5_forget (fX5_forget_L10 p0 p1 M) := by
    intro p0 p1 M g_p0 hM
    refine k_lp (T := fun a : Option Nat × Int32 => inG G (a.1)) ?_ FU ((p0, p1)) M g_p0 hM
    intro k10 hk10 a M T hM
    obtain ⟨p0, p1⟩ := a
    have g_p0 := T
    show okv (fun _ : Unit => True) MM G wkX5_forget (fX5_forget_B10 k10 p0 p1 M)
    unfold fX5_forget_B10
    refine k_if ?_ ?_
    · exact k_ret hM trivial
    · refine k_gR hM g_p0 fun v16 g_v16 => ?_
      refine k_gR hM g_v16 fun v19 g_v19 => ?_
      refine k_wZ (by decide) hM g_v19 fun M24 hM24 => ?_
      refine k_bn fun v25 => ?_
      exact hk10 ((p0, v25)) _ g_p0 hM24
  unfold fX5_forget
  refine k_gR hMM g_a0 fun v1 g_v1 => ?_
  refine k_pZ (by decide) (by decide) hMM g_v1 fun M5 hM5 => ?_
  refine k_bn fun v9 => ?_
  exact hL10 a0 v9 _ g_a0 hM5
def wkX5_there : List Nat := []
set_option maxRecDepth 100000 in
set_option maxHeartbeats 4000000 in
theorem frX5_there {G : Nat → Prop} {MM : Mem} (a0 : Option Nat) (a1 : Int64) (hst : ∀ k, k < 10 → G k) (hc : Cl G MM) (g_a0 : inG G a0) : okv z01 MM G wkX5_there (fX5_there a0 a1 MM) := by
  have hMM : FrG G wkX5_there MM MM := FrG.rf hc
  have hL23 : ∀ (q0 : Int32) (M : Mem) (hM : FrG G wkX5_there MM M), okv z01 MM G wkX5_there (fX5_there_L23 q0 M) := by
    intro q0 M hM
    unfold fX5_there_L23
    exact k_retZ hM
  unfold fX5_there
  refine k_gR hMM g_a0 fun v2 g_v2 => ?_
  refine k_bo fun v5 => ?_
  refine k_bo fun v9 => ?_
  refine k_if ?_ ?_
  · exact hL23 0 _ hMM
  · exact hL23 1 _ hMM
def wkX5_lacks : List Nat := [700, 701]
set_option maxRecDepth 100000 in
set_option maxHeartbeats 4000000 in
theorem frX5_lacks {G : Nat → Prop} {MM : Mem} (a0 : Option Nat) (hst : ∀ k, k < 10 → G k) (hc : Cl G MM) (g_a0 : inG G a0) : okv z01 MM G wkX5_lacks (fX5_lacks a0 MM) := by
  have hMM : FrG G wkX5_lacks MM MM := FrG.rf hc
  unfold fX5_lacks
  refine k_gR hMM g_a0 fun v1 g_v1 => ?_
  refine k_gR hMM g_a0 fun v6 g_v6 => ?_
  refine k_bo fun v9 => ?_
  refine k_bo fun _ => ?_
  refine k_call (by decide) hMM (fun hc => frX7_fail _ _ _ hst hc g_v1) fun v12 M12 _ hM12 => ?_
  exact k_retZ hM12
def wkX5_passOver : List Nat := [508, 700, 701, 1500]
set_option maxRecDepth 100000 in
set_option maxHeartbeats 4000000 in
theorem frX5_passOver {G : Nat → Prop} {MM : Mem} (a0 : Option Nat) (hst : ∀ k, k < 10 → G k) (hc : Cl G MM) (g_a0 : inG G a0) : okv z01 MM G wkX5_passOver (fX5_passOver a0 MM) := by
  have hMM : FrG G wkX5_passOver MM MM := FrG.rf hc
  unfold fX5_passOver
  refine k_bo fun _ => ?_
  refine k_call (by decide) hMM (fun hc => frX5_there _ _ hst hc g_a0) fun v4 M4 _ hM4 => ?_
  refine k_if ?_ ?_
  · refine k_bo fun _ => ?_
    refine k_call (by decide) hM4 (fun hc => frX5_lacks _ hst hc g_a0) fun v11 M11 _ hM11 => ?_
    exact k_retZ hM11
  · refine k_gR hM4 g_a0 fun v16 g_v16 => ?_
    refine k_bo fun v20 => ?_
    refine k_bo fun _ => ?_
    refine k_call (by decide) hM4 (fun hc => frX8_number _ _ _ hst hc g_v16) fun v24 M24 _ hM24 => ?_
    refine k_bn fun v27 => ?_
    refine k_bo fun v30 => ?_
    refine k_pI (by decide) (by decide) (by decide) hM24 g_a0 fun M35 hM35 => ?_
    refine k_bo fun _ => ?_
    refine k_call (by decide) hM35 (fun hc => frX5_there _ _ hst hc g_a0) fun v40 M40 _ hM40 => ?_
    refine k_if ?_ ?_
    · refine k_bo fun _ => ?_
      refine k_call (by decide) hM40 (fun hc => frX5_lacks _ hst hc g_a0) fun v47 M47 _ hM47 => ?_
      exact k_retZ hM47
    · refine k_bo fun v53 => ?_
      refine k_pI (by decide) (by decide) (by decide) hM40 g_a0 fun M59 hM59 => ?_
      refine k_gR hM59 g_a0 fun v63 g_v63 => ?_
      refine k_gR hM59 g_v63 fun v66 g_v66 => ?_
      refine k_bo fun v72 => ?_
      refine k_wI (by decide) hM59 g_v66 fun M75 hM75 => ?_
      exact k_retZ hM75
def wkX5_readSpan : List Nat := [508, 509, 700, 701]
set_option maxRecDepth 100000 in
set_option maxHeartbeats 4000000 in
theorem frX5_readSpan {G : Nat → Prop} {MM : Mem} (a0 : Option Nat) (hst : ∀ k, k < 10 → G k) (hc : Cl G MM) (g_a0 : inG G a0) : okv z01 MM G wkX5_readSpan (fX5_readSpan a0 MM) := by
  have hMM : FrG G wkX5_readSpan MM MM := FrG.rf hc
  unfold fX5_readSpan
  refine k_bo fun _ => ?_
  refine k_call (by decide) hMM (fun hc => frX5_there _ _ hst hc g_a0) fun v2 M2 _ hM2 => ?_
  refine k_if ?_ ?_
  · refine k_bo fun _ => ?_
    refine k_call (by decide) hM2 (fun hc => frX5_lacks _ hst hc g_a0) fun v9 M9 _ hM9 => ?_
    exact k_retZ hM9
  · refine k_gR hM2 g_a0 fun v14 g_v14 => ?_
    refine k_bo fun v18 => ?_
    refine k_bo fun _ => ?_
    refine k_call (by decide) hM2 (fun hc => frX8_get _ _ hst hc g_v14) fun v21 M21 _ hM21 => ?_
    refine k_bn fun v24 => ?_
    refine k_bo fun v31 => ?_
    refine k_bn fun v34 => ?_
    refine k_bo fun v40 => ?_
    refine k_bo fun v46 => ?_
    refine k_pJ (by decide) (by decide) hM21 g_a0 fun M49 hM49 => ?_
    refine k_bo fun v53 => ?_
    refine k_bo fun v57 => ?_
    refine k_if ?_ ?_
    · refine k_bo fun v79 => ?_
      refine k_pI (by decide) (by decide) (by decide) hM49 g_a0 fun M84 hM84 => ?_
      exact k_retZ hM84
    · refine k_gR hM49 g_a0 fun v65 g_v65 => ?_
      refine k_bo fun v70 => ?_
      refine k_bo fun _ => ?_
      refine k_call (by decide) hM49 (fun hc => frX7_fail _ _ _ hst hc g_v65) fun v73 M73 _ hM73 => ?_
      exact k_retZ hM73
def wkX5_readNumber : List Nat := [506, 508, 700, 701]
set_option maxRecDepth 100000 in
set_option maxHeartbeats 4000000 in
theorem frX5_readNumber {G : Nat → Prop} {MM : Mem} (a0 : Option Nat) (a1 : Int32) (hst : ∀ k, k < 10 → G k) (hc : Cl G MM) (g_a0 : inG G a0) : okv z01 MM G wkX5_readNumber (fX5_readNumber a0 a1 MM) := by
  have hMM : FrG G wkX5_readNumber MM MM := FrG.rf hc
  have hL100 : ∀ (p0 : Option Nat) (p2 : Int32) (q0 : Option Nat) (q1 : Option Nat) (M : Mem) (g_p0 : inG G p0) (g_q0 : inG G q0) (g_q1 : inG G q1) (hM : FrG G wkX5_readNumber MM M), okv z01 MM G wkX5_readNumber (fX5_readNumber_L100 p0 p2 q0 q1 M) := by
    intro p0 p2 q0 q1 M g_p0 g_q0 g_q1 hM
    unfold fX5_readNumber_L100
    refine k_pR (by decide) (by decide) hM g_q0 g_q1 fun M100 hM100 => ?_
    refine k_bo fun v105 => ?_
    refine k_pI (by decide) (by decide) (by decide) hM100 g_p0 fun M110 hM110 => ?_
    exact k_retZ hM110
  have hL86 : ∀ (p0 : Option Nat) (p2 : Int32) (p4 : Int32) (M : Mem) (g_p0 : inG G p0) (hM : FrG G wkX5_readNumber MM M), okv z01 MM G wkX5_readNumber (fX5_readNumber_L86 p0 p2 p4 M) := by
    intro p0 p2 p4 M g_p0 hM
    unfold fX5_readNumber_L86
    refine k_if ?_ ?_
    · exact hL100 p0 p2 p0 none _ g_p0 g_p0 inG_none hM
    · refine k_gR hM g_p0 fun v93 g_v93 => ?_
      exact hL100 p0 p2 p0 v93 _ g_p0 g_p0 g_v93 hM
  have hL62 : ∀ (p0 : Option Nat) (p2 : Int32) (p3 : Int32) (q0 : Int32) (M : Mem) (g_p0 : inG G p0) (hM : FrG G wkX5_readNumber MM M), okv z01 MM G wkX5_readNumber (fX5_readNumber_L62 p0 p2 p3 q0 M) := by
    intro p0 p2 p3 q0 M g_p0 hM
    unfold fX5_readNumber_L62
    refine k_bn fun v62 => ?_
    refine k_if ?_ ?_
    · exact hL86 p0 p2 v62 _ g_p0 hM
    · refine k_if ?_ ?_
      · refine k_gR hM g_p0 fun v74 g_v74 => ?_
        refine k_bo fun v79 => ?_
        refine k_bo fun _ => ?_
        refine k_call (by decide) hM (fun hc => frX7_fail _ _ _ hst hc g_v74) fun v82 M82 _ hM82 => ?_
        exact k_retZ hM82
      · exact hL86 p0 p2 v62 _ g_p0 hM
  have hL61 : ∀ (p0 : Option Nat) (p2 : Int32) (p3 : Int32) (M : Mem) (g_p0 : inG G p0) (hM : FrG G wkX5_readNumber MM M), okv z01 MM G wkX5_readNumber (fX5_readNumber_L61 p0 p2 p3 M) := by
    intro p0 p2 p3 M g_p0 hM
    unfold fX5_readNumber_L61
    exact hL62 p0 p2 p3 0 _ g_p0 hM
  have hL10 : ∀ (p0 : Option Nat) (q0 : Int32) (M : Mem) (g_p0 : inG G p0) (hM : FrG G wkX5_readNumber MM M), okv z01 MM G wkX5_readNumber (fX5_readNumber_L10 p0 q0 M) := by
    intro p0 q0 M g_p0 hM
    unfold fX5_readNumber_L10
    refine k_bn fun v10 => ?_
    refine k_bo fun _ => ?_
    refine k_call (by decide) hM (fun hc => frX5_there _ _ hst hc g_p0) fun v14 M14 _ hM14 => ?_
    refine k_if ?_ ?_
    · refine k_bo fun _ => ?_
      refine k_call (by decide) hM14 (fun hc => frX5_lacks _ hst hc g_p0) fun v21 M21 _ hM21 => ?_
      exact k_retZ hM21
    · refine k_gR hM14 g_p0 fun v26 g_v26 => ?_
      refine k_bo fun v30 => ?_
      refine k_bo fun _ => ?_
      refine k_call (by decide) hM14 (fun hc => frX8_number _ _ _ hst hc g_v26) fun v34 M34 _ hM34 => ?_
      refine k_bn fun v38 => ?_
      refine k_gR hM34 g_p0 fun v40 g_v40 => ?_
      refine k_if ?_ ?_
      · exact hL61 p0 v10 v38 _ g_p0 hM34
      · refine k_gR hM34 g_p0 fun v47 g_v47 => ?_
        refine k_bo fun v50 => ?_
        refine k_if ?_ ?_
        · exact hL62 p0 v10 v38 1 _ g_p0 hM34
        · exact hL61 p0 v10 v38 _ g_p0 hM34
  unfold fX5_readNumber
  refine k_if ?_ ?_
  · exact hL10 a0 4 _ g_a0 hMM
  · exact hL10 a0 a1 _ g_a0 hMM
def wkX5_readSize : List Nat := [508, 509, 510, 511, 512, 700, 701]
set_option maxRecDepth 100000 in
set_option maxHeartbeats 4000000 in
theorem frX5_readSize {G : Nat → Prop} {MM : Mem} (a0 : Option Nat) (a1 : Int32) (a2 : Int32) (hst : ∀ k, k < 10 → G k) (hc : Cl G MM) (g_a0 : inG G a0) : okv z01 MM G wkX5_readSize (fX5_readSize a0 a1 a2 MM) := by
  have hMM : FrG G wkX5_readSize MM MM := FrG.rf hc
  have hL141 : ∀ (M : Mem) (hM : FrG G wkX5_readSize MM M), okv z01 MM G wkX5_readSize (fX5_readSize_L141 M) := by
    intro M hM
    unfold fX5_readSize_L141
    exact k_retZ hM
  have hL128 : ∀ (p0 : Option Nat) (M : Mem) (g_p0 : inG G p0) (hM : FrG G wkX5_readSize MM M), okv z01 MM G wkX5_readSize (fX5_readSize_L128 p0 M) := by
    intro p0 M g_p0 hM
    unfold fX5_readSize_L128
    refine k_gR hM g_p0 fun v129 g_v129 => ?_
    refine k_bo fun v134 => ?_
    refine k_bo fun _ => ?_
    refine k_call (by decide) hM (fun hc => frX7_fail _ _ _ hst hc g_v129) fun v137 M137 _ hM137 => ?_
    exact k_retZ hM137
  have hL80 : ∀ (p0 : Option Nat) (p2 : Int32) (p3 : Int32) (q0 : Option Nat) (q1 : Int64) (q2 : Int32) (M : Mem) (g_p0 : inG G p0) (g_q0 : inG G q0) (hM : FrG G wkX5_readSize MM M), okv z01 MM G wkX5_readSize (fX5_readSize_L80 p0 p2 p3 q0 q1 q2 M) := by
    intro p0 p2 p3 q0 q1 q2 M g_p0 g_q0 hM
    unfold fX5_readSize_L80
    refine k_pJ (by decide) (by decide) hM g_q0 fun M82 hM82 => ?_
    refine k_bo fun v87 => ?_
    refine k_pI (by decide) (by decide) (by decide) hM82 g_p0 fun M92 hM92 => ?_
    refine k_if ?_ ?_
    · exact hL141 _ hM92
    · refine k_bo fun v101 => ?_
      refine k_pJ (by decide) (by decide) hM92 g_p0 fun M104 hM104 => ?_
      refine k_bo fun v108 => ?_
      refine k_if ?_ ?_
      · exact hL128 p0 _ g_p0 hM104
      · refine k_bo fun v117 => ?_
        refine k_bo fun v121 => ?_
        refine k_if ?_ ?_
        · exact hL141 _ hM104
        · exact hL128 p0 _ g_p0 hM104
  have hL52 : ∀ (p0 : Option Nat) (p1 : Int32) (p2 : Int32) (p3 : Int32) (q0 : Option Nat) (q1 : Int32) (M : Mem) (g_p0 : inG G p0) (g_q0 : inG G q0) (hM : FrG G wkX5_readSize MM M), okv z01 MM G wkX5_readSize (fX5_readSize_L52 p0 p1 p2 p3 q0 q1 M) := by
    intro p0 p1 p2 p3 q0 q1 M g_p0 g_q0 hM
    unfold fX5_readSize_L52
    refine k_pZ (by decide) (by decide) hM g_q0 fun M52 hM52 => ?_
    refine k_gR hM52 g_p0 fun v57 g_v57 => ?_
    refine k_bo fun v61 => ?_
    refine k_bo fun _ => ?_
    refine k_call (by decide) hM52 (fun hc => frX8_number _ _ _ hst hc g_v57) fun v65 M65 _ hM65 => ?_
    refine k_if ?_ ?_
    · exact hL80 p0 p2 p3 p0 v65 256 _ g_p0 g_p0 hM65
    · exact hL80 p0 p2 p3 p0 v65 0 _ g_p0 g_p0 hM65
  have hL19 : ∀ (p0 : Option Nat) (p1 : Int32) (p2 : Int32) (q0 : Int32) (M : Mem) (g_p0 : inG G p0) (hM : FrG G wkX5_readSize MM M), okv z01 MM G wkX5_readSize (fX5_readSize_L19 p0 p1 p2 q0 M) := by
    intro p0 p1 p2 q0 M g_p0 hM
    unfold fX5_readSize_L19
    refine k_bn fun v19 => ?_
    refine k_bo fun _ => ?_
    refine k_call (by decide) hM (fun hc => frX5_there _ _ hst hc g_p0) fun v23 M23 _ hM23 => ?_
    refine k_if ?_ ?_
    · refine k_bo fun _ => ?_
      refine k_call (by decide) hM23 (fun hc => frX5_lacks _ hst hc g_p0) fun v30 M30 _ hM30 => ?_
      exact k_retZ hM30
    · refine k_bo fun v36 => ?_
      refine k_pI (by decide) (by decide) (by decide) hM23 g_p0 fun M39 hM39 => ?_
      refine k_if ?_ ?_
      · exact hL52 p0 p1 p2 v19 p0 0 _ g_p0 g_p0 hM39
      · exact hL52 p0 p1 p2 v19 p0 1 _ g_p0 g_p0 hM39
  unfold fX5_readSize
  refine k_if ?_ ?_
  · refine k_if ?_ ?_
    · exact hL19 a0 a1 a2 0 _ g_a0 hMM
    · exact hL19 a0 a1 a2 1 _ g_a0 hMM
  · exact hL19 a0 a1 a2 (shlI 1 a1) _ g_a0 hMM
def wkX7_noteRemembered : List Nat := [1500]
set_option maxRecDepth 100000 in
set_option maxHeartbeats 4000000 in
theorem frX7_noteRemembered {G : Nat → Prop} {MM : Mem} (a0 : Option Nat) (a1 : Option Nat) (hst : ∀ k, k < 10 → G k) (hc : Cl G MM) (g_a0 : inG G a0) (g_a1 : inG G a1) : okv (fun _ : Unit => True) MM G wkX7_noteRemembered (fX7_noteRemembered a0 a1 MM) := by
  have hMM : FrG G wkX7_noteRemembered MM MM := FrG.rf hc
  unfold fX7_noteRemembered
  refine k_gR hMM g_a0 fun v3 g_v3 => ?_
  refine k_cI (by decide) hMM g_v3 fun M9 hM9 => ?_
  exact k_ret hM9 trivial
def wkX9_beginFrame : List Nat := [910, 911, 912, 913, 914, 1500, 1800, 2000]
set_option maxRecDepth 100000 in
set_option maxHeartbeats 4000000 in
theorem frX9_beginFrame {G : Nat → Prop} {MM : Mem} (a0 : Option Nat) (a1 : Option Nat) (a2 : Option Nat) (a3 : Int64) (hst : ∀ k, k < 10 → G k) (hc : Cl G MM) (g_a0 : inG G a0) (g_a1 : inG G a1) (g_a2 : inG G a2) : okv (fun _ : Unit => True) MM G wkX9_beginFrame (fX9_beginFrame a0 a1 a2 a3 MM) := by
  have hMM : FrG G wkX9_beginFrame MM MM := FrG.rf hc
  have hL115 : ∀ (k52 : Option Nat × Option Nat × Int32 → Mem → Option (Unit × Mem)) (hk52 : ∀ a M, (inG G (a.1) ∧ inG G (a.2.1)) → FrG G wkX9_beginFrame MM M → okv (fun _ : Unit => True) MM G wkX9_beginFrame (k52 a M)) (p0 : Option Nat) (p2 : Option Nat) (p5 : Int32) (q0 : Option Nat) (q1 : Int32) (q2 : Option Nat) (M : Mem) (g_p0 : inG G p0) (g_p2 : inG G p2) (g_q0 : inG G q0) (g_q2 : inG G q2) (hM : FrG G wkX9_beginFrame MM M), okv (fun _ : Unit => True) MM G wkX9_beginFrame (fX9_beginFrame_L115 k52 p0 p2 p5 q0 q1 q2 M) := by
    intro k52 hk52 p0 p2 p5 q0 q1 q2 M g_p0 g_p2 g_q0 g_q2 hM
    unfold fX9_beginFrame_L115
    refine k_wR (by decide) (by decide) hM g_q0 g_q2 fun M115 hM115 => ?_
    refine k_bn fun v116 => ?_
    exact hk52 ((p0, p2, v116)) _ ⟨g_p0, g_p2⟩ hM115
  have hL108 : ∀ (k52 : Option Nat × Option Nat × Int32 → Mem → Option (Unit × Mem)) (hk52 : ∀ a M, (inG G (a.1) ∧ inG G (a.2.1)) → FrG G wkX9_beginFrame MM M → okv (fun _ : Unit => True) MM G wkX9_beginFrame (k52 a M)) (p0 : Option Nat) (p2 : Option Nat) (p5 : Int32) (q0 : Option Nat) (q1 : Int32) (M : Mem) (g_p0 : inG G p0) (g_p2 : inG G p2) (g_q0 : inG G q0) (hM : FrG G wkX9_beginFrame MM M), okv (fun _ : Unit => True) MM G wkX9_beginFrame (fX9_beginFrame_L108 k52 p0 p2 p5 q0 q1 M) := by
    intro k52 hk52 p0 p2 p5 q0 q1 M g_p0 g_p2 g_q0 hM
    unfold fX9_beginFrame_L108
    refine k_gR hM g_p0 fun v109 g_v109 => ?_
    refine k_aR hM g_v109 fun v114 g_v114 => ?_
    exact hL115 k52 hk52 p0 p2 p5 q0 q1 v114 _ g_p0 g_p2 g_q0 g_v114 hM
  have hL80 : ∀ (k52 : Option Nat × Option Nat × Int32 → Mem → Option (Unit × Mem)) (hk52 : ∀ a M, (inG G (a.1) ∧ inG G (a.2.1)) → FrG G wkX9_beginFrame MM M → okv (fun _ : Unit => True) MM G wkX9_beginFrame (k52 a M)) (p0 : Option Nat) (p2 : Option Nat) (p5 : Int32) (q0 : Option Nat) (q1 : Int32) (q2 : Int32) (M : Mem) (g_p0 : inG G p0) (g_p2 : inG G p2) (g_q0 : inG G q0) (hM : FrG G wkX9_beginFrame MM M), okv (fun _ : Unit => True) MM G wkX9_beginFrame (fX9_beginFrame_L80 k52 p0 p2 p5 q0 q1 q2 M) := by
    intro k52 hk52 p0 p2 p5 q0 q1 q2 M g_p0 g_p2 g_q0 hM
    unfold fX9_beginFrame_L80
    refine k_wZ (by decide) hM g_q0 fun M80 hM80 => ?_
    refine k_gR hM80 g_p0 fun v82 g_v82 => ?_
    refine k_if ?_ ?_
    · exact hL108 k52 hk52 p0 p2 p5 v82 p5 _ g_p0 g_p2 g_v82 hM80
    · refine k_bo fun v92 => ?_
      refine k_if ?_ ?_
      · exact hL108 k52 hk52 p0 p2 p5 v82 p5 _ g_p0 g_p2 g_v82 hM80
      · refine k_gR hM80 g_p2 fun v99 g_v99 => ?_
        refine k_aR hM80 g_v99 fun v104 g_v104 => ?_
        exact hL115 k52 hk52 p0 p2 p5 v82 p5 v104 _ g_p0 g_p2 g_v82 g_v104 hM80
  have hL79 : ∀ (k52 : Option Nat × Option Nat × Int32 → Mem → Option (Unit × Mem)) (hk52 : ∀ a M, (inG G (a.1) ∧ inG G (a.2.1)) → FrG G wkX9_beginFrame MM M → okv (fun _ : Unit => True) MM G wkX9_beginFrame (k52 a M)) (p0 : Option Nat) (p2 : Option Nat) (p5 : Int32) (q0 : Option Nat) (q1 : Int32) (M : Mem) (g_p0 : inG G p0) (g_p2 : inG G p2) (g_q0 : inG G q0) (hM : FrG G wkX9_beginFrame MM M), okv (fun _ : Unit => True) MM G wkX9_beginFrame (fX9_beginFrame_L79 k52 p0 p2 p5 q0 q1 M) := by
    intro k52 hk52 p0 p2 p5 q0 q1 M g_p0 g_p2 g_q0 hM
    unfold fX9_beginFrame_L79
    exact hL80 k52 hk52 p0 p2 p5 q0 q1 0 _ g_p0 g_p2 g_q0 hM
  have hL52 : ∀ (p0 : Option Nat) (p2 : Option Nat) (p5 : Int32) (M : Mem) (g_p0 : inG G p0) (g_p2 : inG G p2) (hM : FrG G wkX9_beginFrame MM M), okv (fun _ : Unit => True) MM G wkX9_beginFrame (fX9_beginFrame_L52 p0 p2 p5 M) := by
    intro p0 p2 p5 M g_p0 g_p2 hM
    refine k_lp (T := fun a : Option Nat × Option Nat × Int32 => inG G (a.1) ∧ inG G (a.2.1)) ?_ FU ((p0, p2, p5)) M ⟨g_p0, g_p2⟩ hM
    intro k52 hk52 a M T hM
    obtain ⟨p0, p2, p5⟩ := a
    obtain ⟨g_p0, g_p2⟩ := T
    show okv (fun _ : Unit => True) MM G wkX9_beginFrame (fX9_beginFrame_B52 k52 p0 p2 p5 M)
    unfold fX9_beginFrame_B52
    refine k_if ?_ ?_
    · refine k_gR hM g_p0 fun v123 g_v123 => ?_
      refine k_call (by decide) hM (fun hc => frX12_rememberFirst _ _ hst hc g_v123 g_p2) fun v127 M127 _ hM127 => ?_
      refine k_gR hM127 g_p0 fun v131 g_v131 => ?_
      refine k_gR hM127 g_p0 fun v135 g_v135 => ?_
      refine k_bo fun _ => ?_
      refine k_call (by decide) hM127 (fun hc => frX7_noteRemembered _ _ hst hc g_v131 g_v135) fun v138 M138 _ hM138 => ?_
      exact k_ret hM138 trivial
    · refine k_gR hM g_p0 fun v59 g_v59 => ?_
      refine k_if ?_ ?_
      · exact hL79 k52 hk52 p0 p2 p5 v59 p5 _ g_p0 g_p2 g_v59 hM
      · refine k_bo fun v69 => ?_
        refine k_if ?_ ?_
        · exact hL79 k52 hk52 p0 p2 p5 v59 p5 _ g_p0 g_p2 g_v59 hM
        · exact hL80 k52 hk52 p0 p2 p5 v59 p5 1 _ g_p0 g_p2 g_v59 hM
  have hL46 : ∀ (p0 : Option Nat) (p2 : Option Nat) (q0 : Option Nat) (q1 : Option Nat) (M : Mem) (g_p0 : inG G p0) (g_p2 : inG G p2) (g_q0 : inG G q0) (g_q1 : inG G q1) (hM : FrG G wkX9_beginFrame MM M), okv (fun _ : Unit => True) MM G wkX9_beginFrame (fX9_beginFrame_L46 p0 p2 q0 q1 M) := by
    intro p0 p2 q0 q1 M g_p0 g_p2 g_q0 g_q1 hM
    unfold fX9_beginFrame_L46
    refine k_pR (by decide) (by decide) hM g_q0 g_q1 fun M46 hM46 => ?_
    refine k_bn fun v50 => ?_
    exact hL52 p0 p2 v50 _ g_p0 g_p2 hM46
  unfold fX9_beginFrame
  refine k_pR (by decide) (by decide) hMM g_a0 g_a1 fun M2 hM2 => ?_
  refine k_bo fun v7 => ?_
  refine k_pI (by decide) (by decide) (by decide) hM2 g_a0 fun M10 hM10 => ?_
  refine k_pJ (by decide) (by decide) hM10 g_a0 fun M15 hM15 => ?_
  refine k_pI (by decide) (by decide) (by decide) hM15 g_a0 fun M27 hM27 => ?_
  refine k_if ?_ ?_
  · refine k_gR hM27 g_a0 fun v36 g_v36 => ?_
    exact hL46 a0 a2 a0 v36 _ g_a0 g_a2 g_a0 g_v36 hM27
  · refine k_gR hM27 g_a2 fun v43 g_v43 => ?_
    exact hL46 a0 a2 a0 v43 _ g_a0 g_a2 g_a0 g_v43 hM27
def wkX5_beginFrame : List Nat := [401, 402, 910, 911, 912, 913, 914, 1500, 1800, 2000]
set_option maxRecDepth 100000 in
set_option maxHeartbeats 4000000 in
theorem frX5_beginFrame {G : Nat → Prop} {MM : Mem} (a0 : Option Nat) (hst : ∀ k, k < 10 → G k) (hc : Cl G MM) (g_a0 : inG G a0) : okv (fun _ : Unit => True) MM G wkX5_beginFrame (fX5_beginFrame a0 MM) := by
  have hMM : FrG G wkX5_beginFrame MM MM := FrG.rf hc
  have hL61 : ∀ (p0 : Option Nat) (q0 : Option Nat) (q1 : Int32) (q2 : Int32) (M : Mem) (g_p0 : inG G p0) (g_q0 : inG G q0) (hM : FrG G wkX5_beginFrame MM M), okv (fun _ : Unit => True) MM G wkX5_beginFrame (fX5_beginFrame_L61 p0 q0 q1 q2 M) := by
    intro p0 q0 q1 q2 M g_p0 g_q0 hM
    unfold fX5_beginFrame_L61
    refine k_wI (by decide) hM g_q0 fun M61 hM61 => ?_
    refine k_gR hM61 g_p0 fun v63 g_v63 => ?_
    refine k_gR hM61 g_p0 fun v67 g_v67 => ?_
    refine k_bo fun _ => ?_
    refine k_call (by decide) hM61 (fun hc => frX4_beginFrame _ _ hst hc g_v63 g_v67) fun v70 M70 _ hM70 => ?_
    refine k_gR hM70 g_p0 fun v74 g_v74 => ?_
    refine k_gR hM70 g_p0 fun v78 g_v78 => ?_
    refine k_gR hM70 g_p0 fun v82 g_v82 => ?_
    refine k_bo fun v86 => ?_
    refine k_bo fun _ => ?_
    refine k_call (by decide) hM70 (fun hc => frX9_beginFrame _ _ _ _ hst hc g_v74 g_v78 g_v82) fun v89 M89 _ hM89 => ?_
    exact k_ret hM89 trivial
  unfold fX5_beginFrame
  refine k_gR hMM g_a0 fun v1 g_v1 => ?_
  refine k_gR hMM g_v1 fun v4 g_v4 => ?_
  refine k_bo fun v9 => ?_
  refine k_wI (by decide) hMM g_v4 fun M12 hM12 => ?_
  refine k_gR hM12 g_a0 fun v14 g_v14 => ?_
  refine k_gR hM12 g_v14 fun v17 g_v17 => ?_
  refine k_bo fun v23 => ?_
  refine k_wI (by decide) hM12 g_v17 fun M31 hM31 => ?_
  refine k_gR hM31 g_a0 fun v33 g_v33 => ?_
  refine k_gR hM31 g_v33 fun v36 g_v36 => ?_
  refine k_bo fun v42 => ?_
  refine k_if ?_ ?_
  · exact hL61 a0 v36 10 ((-1)) _ g_a0 g_v36 hM31
  · refine k_bo fun v49 => ?_
    exact hL61 a0 v36 10 ((v49 &&& 2147483647).toInt32) _ g_a0 g_v36 hM31
