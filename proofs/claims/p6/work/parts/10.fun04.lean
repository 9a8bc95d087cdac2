def fX6_allLow_B2 (k2 : Option Nat × Int32 → Mem → Option (Int32 × Mem)) (p1 : Option Nat) (p2 : Int32) (M : Mem) : Option (Int32 × Mem) :=
  bo (gI M p1 8 1) fun v4 =>
  if v4 ≤ p2 then (
    rtZ 1 M
  ) else (
    bo (chk M p1 8) fun _ => bd (fX8_get p1 p2 M) fun v12 M12 =>
    if v12 ≤ 127 then (
      bn (p2 + 1) fun v22 =>
      k2 ((p1, v22)) M12
    ) else (
      rtZ 0 M12
    )
  )
def fX6_allLow_L2 (p1 : Option Nat) (p2 : Int32) (M : Mem) : Option (Int32 × Mem) :=
  lp (fun k2 (a : Option Nat × Int32) M => fX6_allLow_B2 k2 a.1 a.2 M) FU ((p1, p2)) M
def fX6_allLow (a0 : Option Nat) (a1 : Option Nat) (M : Mem) : Option (Int32 × Mem) :=
  bn (0) fun v1 =>
  fX6_allLow_L2 a1 v1 M
def rmX6_allLow : Room := { frames := 1, cells := 0, slots := 0, locals := 21 }
set_option maxRecDepth 100000 in
set_option maxHeartbeats 4000000 in
theorem ctX6_allLow (l : Launch) (x : Cx) (a0 : Option Nat) (a1 : Option Nat) (M : Mem) (v : Int32) (N : Mem) (h : fX6_allLow a0 a1 M = some (v, N)) : CT l yX6_allLow cX6_allLow 3 (some (FieldType.boolean)) rmX6_allLow x [rv x a0, rv x a1] M (some (.int v)) N := by
  refine ct_mk (enc := fun v : Int32 => some (.int v)) (li := []) (ll := []) (lr := [(0, a0), (1, a1)]) (by decide +kernel) (by simp [lg_sl, rv_cat, cat_int, cat_long]) (by simp [flat, lv_args, rv_cat, cat_int, cat_long]) h ?_
  intro p e s m args below meth c E
  have hL2 : ∀ (p1 : Option Nat) (p2 : Int32) (M : Mem), RT p l e rmX6_allLow s m args below meth c x 3 (QM below args s x (fun v : Int32 => some (.int v)) rmX6_allLow.cells rmX6_allLow.slots) 0 0 (fX6_allLow_L2 p1 p2 M) 2 [(2, p2)] [] [(1, p1)] [] M := by
    intro p1 p2 M
    refine r_lp (fi := fun a : Option Nat × Int32 => [(2, a.2)]) (fl := fun a : Option Nat × Int32 => []) (fr := fun a : Option Nat × Int32 => [(1, a.1)]) (fs := fun a : Option Nat × Int32 => []) ?_ FU ((p1, p2)) M
    intro k2 hk2 a M
    obtain ⟨p1, p2⟩ := a
    show RT p l e rmX6_allLow s m args below meth c x 3 (QM below args s x (fun v : Int32 => some (.int v)) rmX6_allLow.cells rmX6_allLow.slots) 0 0 (fX6_allLow_B2 k2 p1 p2 M) 2 [(2, p2)] [] [(1, p1)] [] M
    unfold fX6_allLow_B2
    refine r_iload_n (pc := 2) E dX6_allLow_2 rfl 0 rfl ?_
    refine r_aload_n (pc := 3) E dX6_allLow_3 rfl 0 rfl ?_
    refine r_getI (pc := 4) E fd_8_1 wf_RX6_77 dX6_allLow_4 (fun v4 => ?_)
    refine r_icmp_ge (pc := 7) (tgt := 28) E dX6_allLow_7 (by decide) ?_ ?_
    · refine r_iconst (pc := 28) (v := 1) E dX6_allLow_28 (by decide) ?_
      exact e_bool (pc := 29) E dX6_allLow_29
    · refine r_aload_n (pc := 10) E dX6_allLow_10 rfl 0 rfl ?_
      refine r_iload_n (pc := 11) E dX6_allLow_11 rfl 0 rfl ?_
      refine r_kVi (pc := 12) (As := [.int p2]) (rest := []) E wc_X8_get wi_RX8 hd_X8_get (ci := 8) rfl wl_RX6_188 wn_X8_get ws_X8_get dX6_allLow_12 (by decide) (Nat.le_of_ble_eq_true rfl) ⟨rfl, rfl⟩ (ctX8_get l x _ _ _) rfl (fun v12 M12 => ?_)
      refine r_bipush (pc := 15) (v := 127) E dX6_allLow_15 (by decide) ?_
      refine r_icmp_le (pc := 17) (tgt := 22) E dX6_allLow_17 (by decide) ?_ ?_
      · refine r_iinc (pc := 22) (w := 1) (lf := fun v22 => [(2, v22)]) (ll' := []) (lr' := [(1, p1)]) E dX6_allLow_22 0 rfl (by decide) (by decide) (fun _ => rfl) rfl rfl (fun v22 => ?_)
        refine r_goto (pc := 25) (tgt := 2) E dX6_allLow_25 (by decide) ?_
        exact r_sub [0] [] [0] rfl rfl rfl (hk2 ((p1, v22)) _)
      · refine r_iconst (pc := 20) (v := 0) E dX6_allLow_20 (by decide) ?_
        exact e_bool (pc := 21) E dX6_allLow_21
  show RT p l e rmX6_allLow s m args below meth c x 3 (QM below args s x (fun v : Int32 => some (.int v)) rmX6_allLow.cells rmX6_allLow.slots) 0 0 (fX6_allLow a0 a1 M) 0 [] [] [(0, a0), (1, a1)] [] M
  unfold fX6_allLow
  refine r_iconst (pc := 0) (v := 0) E dX6_allLow_0 (by decide) ?_
  refine r_istore_n (pc := 1) (lf := fun v1 => [(2, v1)]) (lg := fun v1 => []) (lk := fun v1 => [(0, a0), (1, a1)]) E dX6_allLow_1 rfl (by decide) (fun _ => rfl) (fun _ => rfl) (fun _ => rfl) (fun v1 => ?_)
  exact r_sub [0] [] [1] rfl rfl rfl (hL2 a1 v1 _)
def fX11_least_L48 (k4 : Option Nat × Int32 × Int32 × Int32 → Mem → Option (Int32 × Mem)) (p0 : Option Nat) (p1 : Int32) (p2 : Int32) (p3 : Int32) (M : Mem) : Option (Int32 × Mem) :=
  bn (p3 + 1) fun v48 =>
  k4 ((p0, p1, p2, v48)) M
def fX11_least_L46 (k4 : Option Nat × Int32 × Int32 × Int32 → Mem → Option (Int32 × Mem)) (p0 : Option Nat) (p1 : Int32) (p3 : Int32) (M : Mem) : Option (Int32 × Mem) :=
  bn (p3) fun v47 =>
  fX11_least_L48 k4 p0 p1 v47 p3 M
def fX11_least_B4 (k4 : Option Nat × Int32 × Int32 × Int32 → Mem → Option (Int32 × Mem)) (p0 : Option Nat) (p1 : Int32) (p2 : Int32) (p3 : Int32) (M : Mem) : Option (Int32 × Mem) :=
  if p1 ≤ p3 then (
    some (p2, M)
  ) else (
    bo (gR M p0 11 5) fun v10 =>
    bo (aI M v10 15 p3) fun v14 =>
    if v14 ≤ 0 then (
      fX11_least_L48 k4 p0 p1 p2 p3 M
    ) else (
      bo (gR M p0 11 6) fun v19 =>
      bo (aI M v19 15 p3) fun v23 =>
      if 0 ≤ v23 then (
        fX11_least_L48 k4 p0 p1 p2 p3 M
      ) else (
        if p2 < 0 then (
          fX11_least_L46 k4 p0 p1 p3 M
        ) else (
          bo (gR M p0 11 5) fun v32 =>
          bo (aI M v32 15 p3) fun v36 =>
          bo (gR M p0 11 5) fun v38 =>
          bo (aI M v38 15 p2) fun v42 =>
          if v42 ≤ v36 then (
            fX11_least_L48 k4 p0 p1 p2 p3 M
          ) else (
            fX11_least_L46 k4 p0 p1 p3 M
          )
        )
      )
    )
  )
def fX11_least_L4 (p0 : Option Nat) (p1 : Int32) (p2 : Int32) (p3 : Int32) (M : Mem) : Option (Int32 × Mem) :=
  lp (fun k4 (a : Option Nat × Int32 × Int32 × Int32) M => fX11_least_B4 k4 a.1 a.2.1 a.2.2.1 a.2.2.2 M) FU ((p0, p1, p2, p3)) M
def fX11_least (a0 : Option Nat) (a1 : Int32) (M : Mem) : Option (Int32 × Mem) :=
  bn ((-1)) fun v1 =>
  bn (0) fun v3 =>
  fX11_least_L4 a0 a1 v1 v3 M
def rmX11_least : Room := { frames := 0, cells := 0, slots := 0, locals := 0 }
set_option maxRecDepth 100000 in
set_option maxHeartbeats 4000000 in
theorem ctX11_least (l : Launch) (x : Cx) (a0 : Option Nat) (a1 : Int32) (M : Mem) (v : Int32) (N : Mem) (h : fX11_least a0 a1 M = some (v, N)) : CT l yX11_least cX11_least 4 (some (FieldType.int)) rmX11_least x [rv x a0, .int a1] M (some (.int v)) N := by
  refine ct_mk (enc := fun v : Int32 => some (.int v)) (li := [(1, a1)]) (ll := []) (lr := [(0, a0)]) (by decide +kernel) (by simp [lg_sl, rv_cat, cat_int, cat_long]) (by simp [flat, lv_args, rv_cat, cat_int, cat_long]) h ?_
  intro p e s m args below meth c E
  have hL48 : ∀ (k4 : Option Nat × Int32 × Int32 × Int32 → Mem → Option (Int32 × Mem)) (hk4 : ∀ a M, RT p l e rmX11_least s m args below meth c x 4 (QM below args s x (fun v : Int32 => some (.int v)) rmX11_least.cells rmX11_least.slots) 0 0 (k4 a M) 4 [(1, a.2.1), (2, a.2.2.1), (3, a.2.2.2)] [] [(0, a.1)] [] M) (p0 : Option Nat) (p1 : Int32) (p2 : Int32) (p3 : Int32) (M : Mem), RT p l e rmX11_least s m args below meth c x 4 (QM below args s x (fun v : Int32 => some (.int v)) rmX11_least.cells rmX11_least.slots) 0 0 (fX11_least_L48 k4 p0 p1 p2 p3 M) 48 [(1, p1), (2, p2), (3, p3)] [] [(0, p0)] [] M := by
    intro k4 hk4 p0 p1 p2 p3 M
    unfold fX11_least_L48
    refine r_iinc (pc := 48) (w := 1) (lf := fun v48 => [(3, v48), (1, p1), (2, p2)]) (ll' := []) (lr' := [(0, p0)]) E dX11_least_48 2 rfl (by decide) (by decide) (fun _ => rfl) rfl rfl (fun v48 => ?_)
    refine r_goto (pc := 51) (tgt := 4) E dX11_least_51 (by decide) ?_
    exact r_sub [1, 2, 0] [] [0] rfl rfl rfl (hk4 ((p0, p1, p2, v48)) _)
  have hL46 : ∀ (k4 : Option Nat × Int32 × Int32 × Int32 → Mem → Option (Int32 × Mem)) (hk4 : ∀ a M, RT p l e rmX11_least s m args below meth c x 4 (QM below args s x (fun v : Int32 => some (.int v)) rmX11_least.cells rmX11_least.slots) 0 0 (k4 a M) 4 [(1, a.2.1), (2, a.2.2.1), (3, a.2.2.2)] [] [(0, a.1)] [] M) (p0 : Option Nat) (p1 : Int32) (p3 : Int32) (M : Mem), RT p l e rmX11_least s m args below meth c x 4 (QM below args s x (fun v : Int32 => some (.int v)) rmX11_least.cells rmX11_least.slots) 0 0 (fX11_least_L46 k4 p0 p1 p3 M) 46 [(1, p1), (3, p3)] [] [(0, p0)] [] M := by
    intro k4 hk4 p0 p1 p3 M
    unfold fX11_least_L46
    refine r_iload_n (pc := 46) E dX11_least_46 rfl 1 rfl ?_
    refine r_istore_n (pc := 47) (lf := fun v47 => [(2, v47), (1, p1), (3, p3)]) (lg := fun v47 => []) (lk := fun v47 => [(0, p0)]) E dX11_least_47 rfl (by decide) (fun _ => rfl) (fun _ => rfl) (fun _ => rfl) (fun v47 => ?_)
    exact r_sub [1, 0, 2] [] [0] rfl rfl rfl (hL48 k4 hk4 p0 p1 v47 p3 _)
  have hL4 : ∀ (p0 : Option Nat) (p1 : Int32) (p2 : Int32) (p3 : Int32) (M : Mem), RT p l e rmX11_least s m args below meth c x 4 (QM below args s x (fun v : Int32 => some (.int v)) rmX11_least.cells rmX11_least.slots) 0 0 (fX11_least_L4 p0 p1 p2 p3 M) 4 [(1, p1), (2, p2), (3, p3)] [] [(0, p0)] [] M := by
    intro p0 p1 p2 p3 M
    refine r_lp (fi := fun a : Option Nat × Int32 × Int32 × Int32 => [(1, a.2.1), (2, a.2.2.1), (3, a.2.2.2)]) (fl := fun a : Option Nat × Int32 × Int32 × Int32 => []) (fr := fun a : Option Nat × Int32 × Int32 × Int32 => [(0, a.1)]) (fs := fun a : Option Nat × Int32 × Int32 × Int32 => []) ?_ FU ((p0, p1, p2, p3)) M
    intro k4 hk4 a M
    obtain ⟨p0, p1, p2, p3⟩ := a
    show RT p l e rmX11_least s m args below meth c x 4 (QM below args s x (fun v : Int32 => some (.int v)) rmX11_least.cells rmX11_least.slots) 0 0 (fX11_least_B4 k4 p0 p1 p2 p3 M) 4 [(1, p1), (2, p2), (3, p3)] [] [(0, p0)] [] M
    unfold fX11_least_B4
    refine r_iload_n (pc := 4) E dX11_least_4 rfl 2 rfl ?_
    refine r_iload_n (pc := 5) E dX11_least_5 rfl 0 rfl ?_
    refine r_icmp_ge (pc := 6) (tgt := 54) E dX11_least_6 (by decide) ?_ ?_
    · refine r_iload_n (pc := 54) E dX11_least_54 rfl 1 rfl ?_
      exact e_int (pc := 55) E dX11_least_55
    · refine r_aload_n (pc := 9) E dX11_least_9 rfl 0 rfl ?_
      refine r_getA (pc := 10) E fd_11_5 wf_RX11_29 dX11_least_10 (fun v10 => ?_)
      refine r_iload_n (pc := 13) E dX11_least_13 rfl 2 rfl ?_
      refine r_iaload (pc := 14) E dX11_least_14 (fun v14 => ?_)
      refine r_if_le (pc := 15) (tgt := 48) E dX11_least_15 (by decide) ?_ ?_
      · exact r_sub [0, 1, 2] [] [0] rfl rfl rfl (hL48 k4 hk4 p0 p1 p2 p3 _)
      · refine r_aload_n (pc := 18) E dX11_least_18 rfl 0 rfl ?_
        refine r_getA (pc := 19) E fd_11_6 wf_RX11_32 dX11_least_19 (fun v19 => ?_)
        refine r_iload_n (pc := 22) E dX11_least_22 rfl 2 rfl ?_
        refine r_iaload (pc := 23) E dX11_least_23 (fun v23 => ?_)
        refine r_if_ge (pc := 24) (tgt := 48) E dX11_least_24 (by decide) ?_ ?_
        · exact r_sub [0, 1, 2] [] [0] rfl rfl rfl (hL48 k4 hk4 p0 p1 p2 p3 _)
        · refine r_iload_n (pc := 27) E dX11_least_27 rfl 1 rfl ?_
          refine r_if_lt (pc := 28) (tgt := 46) E dX11_least_28 (by decide) ?_ ?_
          · exact r_sub [0, 2] [] [0] rfl rfl rfl (hL46 k4 hk4 p0 p1 p3 _)
          · refine r_aload_n (pc := 31) E dX11_least_31 rfl 0 rfl ?_
            refine r_getA (pc := 32) E fd_11_5 wf_RX11_29 dX11_least_32 (fun v32 => ?_)
            refine r_iload_n (pc := 35) E dX11_least_35 rfl 2 rfl ?_
            refine r_iaload (pc := 36) E dX11_least_36 (fun v36 => ?_)
            refine r_aload_n (pc := 37) E dX11_least_37 rfl 0 rfl ?_
            refine r_getA (pc := 38) E fd_11_5 wf_RX11_29 dX11_least_38 (fun v38 => ?_)
            refine r_iload_n (pc := 41) E dX11_least_41 rfl 1 rfl ?_
            refine r_iaload (pc := 42) E dX11_least_42 (fun v42 => ?_)
            refine r_icmp_ge (pc := 43) (tgt := 48) E dX11_least_43 (by decide) ?_ ?_
            · exact r_sub [0, 1, 2] [] [0] rfl rfl rfl (hL48 k4 hk4 p0 p1 p2 p3 _)
            · exact r_sub [0, 2] [] [0] rfl rfl rfl (hL46 k4 hk4 p0 p1 p3 _)
  show RT p l e rmX11_least s m args below meth c x 4 (QM below args s x (fun v : Int32 => some (.int v)) rmX11_least.cells rmX11_least.slots) 0 0 (fX11_least a0 a1 M) 0 [(1, a1)] [] [(0, a0)] [] M
  unfold fX11_least
  refine r_iconst (pc := 0) (v := (-1)) E dX11_least_0 (by decide) ?_
  refine r_istore_n (pc := 1) (lf := fun v1 => [(2, v1), (1, a1)]) (lg := fun v1 => []) (lk := fun v1 => [(0, a0)]) E dX11_least_1 rfl (by decide) (fun _ => rfl) (fun _ => rfl) (fun _ => rfl) (fun v1 => ?_)
  refine r_iconst (pc := 2) (v := 0) E dX11_least_2 (by decide) ?_
  refine r_istore_n (pc := 3) (lf := fun v3 => [(3, v3), (2, v1), (1, a1)]) (lg := fun v3 => []) (lk := fun v3 => [(0, a0)]) E dX11_least_3 rfl (by decide) (fun _ => rfl) (fun _ => rfl) (fun _ => rfl) (fun v3 => ?_)
  exact r_sub [2, 1, 0] [] [0] rfl rfl rfl (hL4 a0 a1 v1 v3 _)
def fX11_join_L157 (k96 : Option Nat × Int32 × Int32 × Int32 → Mem → Option (Int32 × Mem)) (p0 : Option Nat) (p1 : Int32) (p2 : Int32) (p3 : Int32) (q0 : Option Nat) (q1 : Int32) (q2 : Int32) (M : Mem) : Option (Int32 × Mem) :=
  bo (wI M q0 q1 q2) fun M157 =>
  bo (gR M157 p0 11 7) fun v160 =>
  bo (aI M157 v160 15 p3) fun v164 =>
  bn (maxI p2 v164) fun v168 =>
  bn (p3 + (-1)) fun v169 =>
  k96 ((p0, p1, v168, v169)) M157
def fX11_join_L128 (k96 : Option Nat × Int32 × Int32 × Int32 → Mem → Option (Int32 × Mem)) (p0 : Option Nat) (p1 : Int32) (p2 : Int32) (p3 : Int32) (q0 : Int32) (M : Mem) : Option (Int32 × Mem) :=
  bn (q0) fun v128 =>
  bo (gR M p0 11 7) fun v131 =>
  if v128 = 0 then (
    fX11_join_L157 k96 p0 p1 p2 p3 v131 p3 0 M
  ) else (
    bo (gR M p0 11 7) fun v141 =>
    bo (gR M p0 11 6) fun v145 =>
    bo (aI M v145 15 p3) fun v149 =>
    bo (aI M v141 15 v149) fun v150 =>
    fX11_join_L157 k96 p0 p1 p2 p3 v131 p3 (v150 + 1) M
  )
def fX11_join_L127 (k96 : Option Nat × Int32 × Int32 × Int32 → Mem → Option (Int32 × Mem)) (p0 : Option Nat) (p1 : Int32) (p2 : Int32) (p3 : Int32) (M : Mem) : Option (Int32 × Mem) :=
  fX11_join_L128 k96 p0 p1 p2 p3 0 M
def fX11_join_B96 (k96 : Option Nat × Int32 × Int32 × Int32 → Mem → Option (Int32 × Mem)) (p0 : Option Nat) (p1 : Int32) (p2 : Int32) (p3 : Int32) (M : Mem) : Option (Int32 × Mem) :=
  if p3 < 0 then (
    some (p2, M)
  ) else (
    if p3 = p1 then (
      fX11_join_L127 k96 p0 p1 p2 p3 M
    ) else (
      bo (gR M p0 11 5) fun v106 =>
      bo (aI M v106 15 p3) fun v110 =>
      if v110 ≤ 0 then (
        fX11_join_L127 k96 p0 p1 p2 p3 M
      ) else (
        bo (gR M p0 11 6) fun v115 =>
        bo (aI M v115 15 p3) fun v119 =>
        if v119 < 0 then (
          fX11_join_L127 k96 p0 p1 p2 p3 M
        ) else (
          fX11_join_L128 k96 p0 p1 p2 p3 1 M
        )
      )
    )
  )
def fX11_join_L96 (p0 : Option Nat) (p1 : Int32) (p2 : Int32) (p3 : Int32) (M : Mem) : Option (Int32 × Mem) :=
  lp (fun k96 (a : Option Nat × Int32 × Int32 × Int32) M => fX11_join_B96 k96 a.1 a.2.1 a.2.2.1 a.2.2.2 M) FU ((p0, p1, p2, p3)) M
def fX11_join_L92 (p0 : Option Nat) (p1 : Int32) (M : Mem) : Option (Int32 × Mem) :=
  bn (0) fun v93 =>
  bn (p1) fun v95 =>
  fX11_join_L96 p0 p1 v93 v95 M
def fX11_join_B14 (k14 : Option Nat × Int32 × Int32 → Mem → Option (Int32 × Mem)) (p0 : Option Nat) (p1 : Int32) (p2 : Int32) (M : Mem) : Option (Int32 × Mem) :=
  if 256 ≤ p2 then (
    fX11_join_L92 p0 p1 M
  ) else (
    bo (chk M p0 11) fun _ => bd (fX11_least p0 p2 M) fun v23 M23 =>
    bn (v23) fun v26 =>
    if 0 ≤ v26 then (
      bo (gR M23 p0 11 6) fun v35 =>
      bo (wI M23 v35 v26 p2) fun M40 =>
      bo (chk M40 p0 11) fun _ => bd (fX11_least p0 p2 M40) fun v43 M43 =>
      bn (v43) fun v46 =>
      if 0 ≤ v46 then (
        bo (gR M43 p0 11 6) fun v57 =>
        bo (wI M43 v57 v46 p2) fun M63 =>
        bo (gR M63 p0 11 5) fun v65 =>
        bo (gR M63 p0 11 5) fun v70 =>
        bo (aI M63 v70 15 v26) fun v74 =>
        bo (gR M63 p0 11 5) fun v76 =>
        bo (aI M63 v76 15 v46) fun v81 =>
        bo (wI M63 v65 p2 (v74 + v81)) fun M83 =>
        bn (p2) fun v85 =>
        bn (p2 + 1) fun v86 =>
        k14 ((p0, v85, v86)) M83
      ) else (
        fX11_join_L92 p0 p1 M43
      )
    ) else (
      fX11_join_L92 p0 p1 M23
    )
  )
def fX11_join_L14 (p0 : Option Nat) (p1 : Int32) (p2 : Int32) (M : Mem) : Option (Int32 × Mem) :=
  lp (fun k14 (a : Option Nat × Int32 × Int32) M => fX11_join_B14 k14 a.1 a.2.1 a.2.2 M) FU ((p0, p1, p2)) M
def fX11_join (a0 : Option Nat) (M : Mem) : Option (Int32 × Mem) :=
  bo (gR M a0 11 6) fun v1 =>
  bd (fJ7_fill_53178 v1 ((-1)) M) fun v5 M5 =>
  bn (0) fun v9 =>
  bn (128) fun v13 =>
  fX11_join_L14 a0 v9 v13 M5
def rmX11_join : Room := { frames := 1, cells := 0, slots := 0, locals := 23 }
set_option maxRecDepth 100000 in
set_option maxHeartbeats 4000000 in
theorem ctX11_join (l : Launch) (x : Cx) (a0 : Option Nat) (M : Mem) (v : Int32) (N : Mem) (h : fX11_join a0 M = some (v, N)) : CT l yX11_join cX11_join 5 (some (FieldType.int)) rmX11_join x [rv x a0] M (some (.int v)) N := by
  refine ct_mk (enc := fun v : Int32 => some (.int v)) (li := []) (ll := []) (lr := [(0, a0)]) (by decide +kernel) (by simp [lg_sl, rv_cat, cat_int, cat_long]) (by simp [flat, lv_args, rv_cat, cat_int, cat_long]) h ?_
  intro p e s m args below meth c E
  have hL157 : ∀ (k96 : Option Nat × Int32 × Int32 × Int32 → Mem → Option (Int32 × Mem)) (hk96 : ∀ a M, RT p l e rmX11_join s m args below meth c x 5 (QM below args s x (fun v : Int32 => some (.int v)) rmX11_join.cells rmX11_join.slots) 0 0 (k96 a M) 96 [(1, a.2.1), (2, a.2.2.1), (3, a.2.2.2)] [] [(0, a.1)] [] M) (p0 : Option Nat) (p1 : Int32) (p2 : Int32) (p3 : Int32) (q0 : Option Nat) (q1 : Int32) (q2 : Int32) (M : Mem), RT p l e rmX11_join s m args below meth c x 5 (QM below args s x (fun v : Int32 => some (.int v)) rmX11_join.cells rmX11_join.slots) 0 0 (fX11_join_L157 k96 p0 p1 p2 p3 q0 q1 q2 M) 157 [(1, p1), (2, p2), (3, p3)] [] [(0, p0)] [.int q2, .int q1, rv x q0] M := by
    intro k96 hk96 p0 p1 p2 p3 q0 q1 q2 M
    unfold fX11_join_L157
    refine r_iastore (pc := 157) E dX11_join_157 (fun M157 => ?_)
    refine r_iload_n (pc := 158) E dX11_join_158 rfl 1 rfl ?_
    refine r_aload_n (pc := 159) E dX11_join_159 rfl 0 rfl ?_
    refine r_getA (pc := 160) E fd_11_7 wf_RX11_35 dX11_join_160 (fun v160 => ?_)
    refine r_iload_n (pc := 163) E dX11_join_163 rfl 2 rfl ?_
    refine r_iaload (pc := 164) E dX11_join_164 (fun v164 => ?_)
    refine r_mmax (pc := 165) E wl_RX11_121 wm_smax wi_math wm_cmax dX11_join_165 (by decide) (Nat.le_of_ble_eq_true rfl) ?_
    refine r_istore_n (pc := 168) (lf := fun v168 => [(2, v168), (1, p1), (3, p3)]) (lg := fun v168 => []) (lk := fun v168 => [(0, p0)]) E dX11_join_168 rfl (by decide) (fun _ => rfl) (fun _ => rfl) (fun _ => rfl) (fun v168 => ?_)
    refine r_iinc (pc := 169) (w := (-1)) (lf := fun v169 => [(3, v169), (2, v168), (1, p1)]) (ll' := []) (lr' := [(0, p0)]) E dX11_join_169 2 rfl (by decide) (by decide) (fun _ => rfl) rfl rfl (fun v169 => ?_)
    refine r_goto (pc := 172) (tgt := 96) E dX11_join_172 (by decide) ?_
    exact r_sub [2, 1, 0] [] [0] rfl rfl rfl (hk96 ((p0, p1, v168, v169)) _)
  have hL128 : ∀ (k96 : Option Nat × Int32 × Int32 × Int32 → Mem → Option (Int32 × Mem)) (hk96 : ∀ a M, RT p l e rmX11_join s m args below meth c x 5 (QM below args s x (fun v : Int32 => some (.int v)) rmX11_join.cells rmX11_join.slots) 0 0 (k96 a M) 96 [(1, a.2.1), (2, a.2.2.1), (3, a.2.2.2)] [] [(0, a.1)] [] M) (p0 : Option Nat) (p1 : Int32) (p2 : Int32) (p3 : Int32) (q0 : Int32) (M : Mem), RT p l e rmX11_join s m args below meth c x 5 (QM below args s x (fun v : Int32 => some (.int v)) rmX11_join.cells rmX11_join.slots) 0 0 (fX11_join_L128 k96 p0 p1 p2 p3 q0 M) 128 [(1, p1), (2, p2), (3, p3)] [] [(0, p0)] [.int q0] M := by
    intro k96 hk96 p0 p1 p2 p3 q0 M
    unfold fX11_join_L128
    refine r_istore (pc := 128) (lf := fun v128 => [(4, v128), (1, p1), (2, p2), (3, p3)]) (lg := fun v128 => []) (lk := fun v128 => [(0, p0)]) E dX11_join_128 (by decide) (fun _ => rfl) (fun _ => rfl) (fun _ => rfl) (fun v128 => ?_)
    refine r_aload_n (pc := 130) E dX11_join_130 rfl 0 rfl ?_
    refine r_getA (pc := 131) E fd_11_7 wf_RX11_35 dX11_join_131 (fun v131 => ?_)
    refine r_iload_n (pc := 134) E dX11_join_134 rfl 3 rfl ?_
    refine r_iload (pc := 135) E dX11_join_135 0 rfl ?_
    refine r_if_eq (pc := 137) (tgt := 156) E dX11_join_137 (by decide) ?_ ?_
    · refine r_iconst (pc := 156) (v := 0) E dX11_join_156 (by decide) ?_
      exact r_sub [1, 2, 3] [] [0] rfl rfl rfl (hL157 k96 hk96 p0 p1 p2 p3 v131 p3 0 _)
    · refine r_aload_n (pc := 140) E dX11_join_140 rfl 0 rfl ?_
      refine r_getA (pc := 141) E fd_11_7 wf_RX11_35 dX11_join_141 (fun v141 => ?_)
      refine r_aload_n (pc := 144) E dX11_join_144 rfl 0 rfl ?_
      refine r_getA (pc := 145) E fd_11_6 wf_RX11_32 dX11_join_145 (fun v145 => ?_)
      refine r_iload_n (pc := 148) E dX11_join_148 rfl 3 rfl ?_
      refine r_iaload (pc := 149) E dX11_join_149 (fun v149 => ?_)
      refine r_iaload (pc := 150) E dX11_join_150 (fun v150 => ?_)
      refine r_iconst (pc := 151) (v := 1) E dX11_join_151 (by decide) ?_
      refine r_iadd (pc := 152) E dX11_join_152 ?_
      refine r_goto (pc := 153) (tgt := 157) E dX11_join_153 (by decide) ?_
      exact r_sub [1, 2, 3] [] [0] rfl rfl rfl (hL157 k96 hk96 p0 p1 p2 p3 v131 p3 (v150 + 1) _)
  have hL127 : ∀ (k96 : Option Nat × Int32 × Int32 × Int32 → Mem → Option (Int32 × Mem)) (hk96 : ∀ a M, RT p l e rmX11_join s m args below meth c x 5 (QM below args s x (fun v : Int32 => some (.int v)) rmX11_join.cells rmX11_join.slots) 0 0 (k96 a M) 96 [(1, a.2.1), (2, a.2.2.1), (3, a.2.2.2)] [] [(0, a.1)] [] M) (p0 : Option Nat) (p1 : Int32) (p2 : Int32) (p3 : Int32) (M : Mem), RT p l e rmX11_join s m args below meth c x 5 (QM below args s x (fun v : Int32 => some (.int v)) rmX11_join.cells rmX11_join.slots) 0 0 (fX11_join_L127 k96 p0 p1 p2 p3 M) 127 [(1, p1), (2, p2), (3, p3)] [] [(0, p0)] [] M := by
    intro k96 hk96 p0 p1 p2 p3 M
    unfold fX11_join_L127
    refine r_iconst (pc := 127) (v := 0) E dX11_join_127 (by decide) ?_
    exact r_sub [0, 1, 2] [] [0] rfl rfl rfl (hL128 k96 hk96 p0 p1 p2 p3 0 _)
  have hL96 : ∀ (p0 : Option Nat) (p1 : Int32) (p2 : Int32) (p3 : Int32) (M : Mem), RT p l e rmX11_join s m args below meth c x 5 (QM below args s x (fun v : Int32 => some (.int v)) rmX11_join.cells rmX11_join.slots) 0 0 (fX11_join_L96 p0 p1 p2 p3 M) 96 [(1, p1), (2, p2), (3, p3)] [] [(0, p0)] [] M := by
    intro p0 p1 p2 p3 M
    refine r_lp (fi := fun a : Option Nat × Int32 × Int32 × Int32 => [(1, a.2.1), (2, a.2.2.1), (3, a.2.2.2)]) (fl := fun a : Option Nat × Int32 × Int32 × Int32 => []) (fr := fun a : Option Nat × Int32 × Int32 × Int32 => [(0, a.1)]) (fs := fun a : Option Nat × Int32 × Int32 × Int32 => []) ?_ FU ((p0, p1, p2, p3)) M
    intro k96 hk96 a M
    obtain ⟨p0, p1, p2, p3⟩ := a
    show RT p l e rmX11_join s m args below meth c x 5 (QM below args s x (fun v : Int32 => some (.int v)) rmX11_join.cells rmX11_join.slots) 0 0 (fX11_join_B96 k96 p0 p1 p2 p3 M) 96 [(1, p1), (2, p2), (3, p3)] [] [(0, p0)] [] M
    unfold fX11_join_B96
    refine r_iload_n (pc := 96) E dX11_join_96 rfl 2 rfl ?_
    refine r_if_lt (pc := 97) (tgt := 175) E dX11_join_97 (by decide) ?_ ?_
    · refine r_iload_n (pc := 175) E dX11_join_175 rfl 1 rfl ?_
      exact e_int (pc := 176) E dX11_join_176
    · refine r_iload_n (pc := 100) E dX11_join_100 rfl 2 rfl ?_
      refine r_iload_n (pc := 101) E dX11_join_101 rfl 0 rfl ?_
      refine r_icmp_eq (pc := 102) (tgt := 127) E dX11_join_102 (by decide) ?_ ?_
      · exact r_sub [0, 1, 2] [] [0] rfl rfl rfl (hL127 k96 hk96 p0 p1 p2 p3 _)
      · refine r_aload_n (pc := 105) E dX11_join_105 rfl 0 rfl ?_
        refine r_getA (pc := 106) E fd_11_5 wf_RX11_29 dX11_join_106 (fun v106 => ?_)
        refine r_iload_n (pc := 109) E dX11_join_109 rfl 2 rfl ?_
        refine r_iaload (pc := 110) E dX11_join_110 (fun v110 => ?_)
        refine r_if_le (pc := 111) (tgt := 127) E dX11_join_111 (by decide) ?_ ?_
        · exact r_sub [0, 1, 2] [] [0] rfl rfl rfl (hL127 k96 hk96 p0 p1 p2 p3 _)
        · refine r_aload_n (pc := 114) E dX11_join_114 rfl 0 rfl ?_
          refine r_getA (pc := 115) E fd_11_6 wf_RX11_32 dX11_join_115 (fun v115 => ?_)
          refine r_iload_n (pc := 118) E dX11_join_118 rfl 2 rfl ?_
          refine r_iaload (pc := 119) E dX11_join_119 (fun v119 => ?_)
          refine r_if_lt (pc := 120) (tgt := 127) E dX11_join_120 (by decide) ?_ ?_
          · exact r_sub [0, 1, 2] [] [0] rfl rfl rfl (hL127 k96 hk96 p0 p1 p2 p3 _)
          · refine r_iconst (pc := 123) (v := 1) E dX11_join_123 (by decide) ?_
            refine r_goto (pc := 124) (tgt := 128) E dX11_join_124 (by decide) ?_
            exact r_sub [0, 1, 2] [] [0] rfl rfl rfl (hL128 k96 hk96 p0 p1 p2 p3 1 _)
  have hL92 : ∀ (p0 : Option Nat) (p1 : Int32) (M : Mem), RT p l e rmX11_join s m args below meth c x 5 (QM below args s x (fun v : Int32 => some (.int v)) rmX11_join.cells rmX11_join.slots) 0 0 (fX11_join_L92 p0 p1 M) 92 [(1, p1)] [] [(0, p0)] [] M := by
    intro p0 p1 M
    unfold fX11_join_L92
    refine r_iconst (pc := 92) (v := 0) E dX11_join_92 (by decide) ?_
    refine r_istore_n (pc := 93) (lf := fun v93 => [(2, v93), (1, p1)]) (lg := fun v93 => []) (lk := fun v93 => [(0, p0)]) E dX11_join_93 rfl (by decide) (fun _ => rfl) (fun _ => rfl) (fun _ => rfl) (fun v93 => ?_)
    refine r_iload_n (pc := 94) E dX11_join_94 rfl 1 rfl ?_
    refine r_istore_n (pc := 95) (lf := fun v95 => [(3, v95), (2, v93), (1, p1)]) (lg := fun v95 => []) (lk := fun v95 => [(0, p0)]) E dX11_join_95 rfl (by decide) (fun _ => rfl) (fun _ => rfl) (fun _ => rfl) (fun v95 => ?_)
    exact r_sub [2, 1, 0] [] [0] rfl rfl rfl (hL96 p0 p1 v93 v95 _)
  have hL14 : ∀ (p0 : Option Nat) (p1 : Int32) (p2 : Int32) (M : Mem), RT p l e rmX11_join s m args below meth c x 5 (QM below args s x (fun v : Int32 => some (.int v)) rmX11_join.cells rmX11_join.slots) 0 0 (fX11_join_L14 p0 p1 p2 M) 14 [(1, p1), (2, p2)] [] [(0, p0)] [] M := by
    intro p0 p1 p2 M
    refine r_lp (fi := fun a : Option Nat × Int32 × Int32 => [(1, a.2.1), (2, a.2.2)]) (fl := fun a : Option Nat × Int32 × Int32 => []) (fr := fun a : Option Nat × Int32 × Int32 => [(0, a.1)]) (fs := fun a : Option Nat × Int32 × Int32 => []) ?_ FU ((p0, p1, p2)) M
    intro k14 hk14 a M
    obtain ⟨p0, p1, p2⟩ := a
    show RT p l e rmX11_join s m args below meth c x 5 (QM below args s x (fun v : Int32 => some (.int v)) rmX11_join.cells rmX11_join.slots) 0 0 (fX11_join_B14 k14 p0 p1 p2 M) 14 [(1, p1), (2, p2)] [] [(0, p0)] [] M
    unfold fX11_join_B14
    refine r_iload_n (pc := 14) E dX11_join_14 rfl 1 rfl ?_
    refine r_sipush (pc := 15) (v := 256) E dX11_join_15 (by decide) ?_
    refine r_icmp_ge (pc := 18) (tgt := 92) E dX11_join_18 (by decide) ?_ ?_
    · exact r_sub [0] [] [0] rfl rfl rfl (hL92 p0 p1 _)
    · refine r_aload_n (pc := 21) E dX11_join_21 rfl 0 rfl ?_
      refine r_iload_n (pc := 22) E dX11_join_22 rfl 1 rfl ?_
      refine r_kVi (pc := 23) (As := [.int p2]) (rest := []) E wc_X11_least wi_RX11 hd_X11_least (ci := 11) rfl wl_RX11_118 wn_X11_least ws_X11_least dX11_join_23 (by decide) (Nat.le_of_ble_eq_true rfl) ⟨rfl, rfl⟩ (ctX11_least l x _ _ _) rfl (fun v23 M23 => ?_)
      refine r_istore_n (pc := 26) (lf := fun v26 => [(3, v26), (1, p1), (2, p2)]) (lg := fun v26 => []) (lk := fun v26 => [(0, p0)]) E dX11_join_26 rfl (by decide) (fun _ => rfl) (fun _ => rfl) (fun _ => rfl) (fun v26 => ?_)
      refine r_iload_n (pc := 27) E dX11_join_27 rfl 0 rfl ?_
      refine r_if_ge (pc := 28) (tgt := 34) E dX11_join_28 (by decide) ?_ ?_
      · refine r_aload_n (pc := 34) E dX11_join_34 rfl 0 rfl ?_
        refine r_getA (pc := 35) E fd_11_6 wf_RX11_32 dX11_join_35 (fun v35 => ?_)
        refine r_iload_n (pc := 38) E dX11_join_38 rfl 0 rfl ?_
        refine r_iload_n (pc := 39) E dX11_join_39 rfl 2 rfl ?_
        refine r_iastore (pc := 40) E dX11_join_40 (fun M40 => ?_)
        refine r_aload_n (pc := 41) E dX11_join_41 rfl 0 rfl ?_
        refine r_iload_n (pc := 42) E dX11_join_42 rfl 2 rfl ?_
        refine r_kVi (pc := 43) (As := [.int p2]) (rest := []) E wc_X11_least wi_RX11 hd_X11_least (ci := 11) rfl wl_RX11_118 wn_X11_least ws_X11_least dX11_join_43 (by decide) (Nat.le_of_ble_eq_true rfl) ⟨rfl, rfl⟩ (ctX11_least l x _ _ _) rfl (fun v43 M43 => ?_)
        refine r_istore (pc := 46) (lf := fun v46 => [(4, v46), (3, v26), (1, p1), (2, p2)]) (lg := fun v46 => []) (lk := fun v46 => [(0, p0)]) E dX11_join_46 (by decide) (fun _ => rfl) (fun _ => rfl) (fun _ => rfl) (fun v46 => ?_)
        refine r_iload (pc := 48) E dX11_join_48 0 rfl ?_
        refine r_if_ge (pc := 50) (tgt := 56) E dX11_join_50 (by decide) ?_ ?_
        · refine r_aload_n (pc := 56) E dX11_join_56 rfl 0 rfl ?_
          refine r_getA (pc := 57) E fd_11_6 wf_RX11_32 dX11_join_57 (fun v57 => ?_)
          refine r_iload (pc := 60) E dX11_join_60 0 rfl ?_
          refine r_iload_n (pc := 62) E dX11_join_62 rfl 3 rfl ?_
          refine r_iastore (pc := 63) E dX11_join_63 (fun M63 => ?_)
          refine r_aload_n (pc := 64) E dX11_join_64 rfl 0 rfl ?_
          refine r_getA (pc := 65) E fd_11_5 wf_RX11_29 dX11_join_65 (fun v65 => ?_)
          refine r_iload_n (pc := 68) E dX11_join_68 rfl 3 rfl ?_
          refine r_aload_n (pc := 69) E dX11_join_69 rfl 0 rfl ?_
          refine r_getA (pc := 70) E fd_11_5 wf_RX11_29 dX11_join_70 (fun v70 => ?_)
          refine r_iload_n (pc := 73) E dX11_join_73 rfl 1 rfl ?_
          refine r_iaload (pc := 74) E dX11_join_74 (fun v74 => ?_)
          refine r_aload_n (pc := 75) E dX11_join_75 rfl 0 rfl ?_
          refine r_getA (pc := 76) E fd_11_5 wf_RX11_29 dX11_join_76 (fun v76 => ?_)
          refine r_iload (pc := 79) E dX11_join_79 0 rfl ?_
          refine r_iaload (pc := 81) E dX11_join_81 (fun v81 => ?_)
          refine r_iadd (pc := 82) E dX11_join_82 ?_
          refine r_iastore (pc := 83) E dX11_join_83 (fun M83 => ?_)
          refine r_iload_n (pc := 84) E dX11_join_84 rfl 3 rfl ?_
          refine r_istore_n (pc := 85) (lf := fun v85 => [(1, v85), (4, v46), (3, v26), (2, p2)]) (lg := fun v85 => []) (lk := fun v85 => [(0, p0)]) E dX11_join_85 rfl (by decide) (fun _ => rfl) (fun _ => rfl) (fun _ => rfl) (fun v85 => ?_)
          refine r_iinc (pc := 86) (w := 1) (lf := fun v86 => [(2, v86), (1, v85), (4, v46), (3, v26)]) (ll' := []) (lr' := [(0, p0)]) E dX11_join_86 3 rfl (by decide) (by decide) (fun _ => rfl) rfl rfl (fun v86 => ?_)
          refine r_goto (pc := 89) (tgt := 14) E dX11_join_89 (by decide) ?_
          exact r_sub [1, 0] [] [0] rfl rfl rfl (hk14 ((p0, v85, v86)) _)
        · refine r_goto (pc := 53) (tgt := 92) E dX11_join_53 (by decide) ?_
          exact r_sub [2] [] [0] rfl rfl rfl (hL92 p0 p1 _)
      · refine r_goto (pc := 31) (tgt := 92) E dX11_join_31 (by decide) ?_
        exact r_sub [1] [] [0] rfl rfl rfl (hL92 p0 p1 _)
  show RT p l e rmX11_join s m args below meth c x 5 (QM below args s x (fun v : Int32 => some (.int v)) rmX11_join.cells rmX11_join.slots) 0 0 (fX11_join a0 M) 0 [] [] [(0, a0)] [] M
  unfold fX11_join
  refine r_aload_n (pc := 0) E dX11_join_0 rfl 0 rfl ?_
  refine r_getA (pc := 1) E fd_11_6 wf_RX11_32 dX11_join_1 (fun v1 => ?_)
  refine r_iconst (pc := 4) (v := (-1)) E dX11_join_4 (by decide) ?_
  refine r_kSv (pc := 5) (As := [rv x v1, .int ((-1))]) (rest := []) E wc_J7_fill_53178 wi_RJ7 hd_J7_fill_53178 wl_RX11_107 wt_J7_fill_53178 dX11_join_5 (by decide) (Nat.le_of_ble_eq_true rfl) ⟨rfl, rfl⟩ (ctJ7_fill_53178 l x _ _ _) rfl (fun v5 M5 => ?_)
  refine r_iconst (pc := 8) (v := 0) E dX11_join_8 (by decide) ?_
  refine r_istore_n (pc := 9) (lf := fun v9 => [(1, v9)]) (lg := fun v9 => []) (lk := fun v9 => [(0, a0)]) E dX11_join_9 rfl (by decide) (fun _ => rfl) (fun _ => rfl) (fun _ => rfl) (fun v9 => ?_)
  refine r_sipush (pc := 10) (v := 128) E dX11_join_10 (by decide) ?_
  refine r_istore_n (pc := 13) (lf := fun v13 => [(2, v13), (1, v9)]) (lg := fun v13 => []) (lk := fun v13 => [(0, a0)]) E dX11_join_13 rfl (by decide) (fun _ => rfl) (fun _ => rfl) (fun _ => rfl) (fun v13 => ?_)
  exact r_sub [1, 0] [] [0] rfl rfl rfl (hL14 a0 v9 v13 _)
def fX11_make_L177 (k118 : Option Nat × Int32 → Mem → Option (Unit × Mem)) (p0 : Option Nat) (p2 : Int32) (q0 : Option Nat) (q1 : Int32) (M : Mem) : Option (Unit × Mem) :=
  bo (pI M q0 11 1 q1) fun M177 =>
  bn (p2 + 1) fun v180 =>
  k118 ((p0, v180)) M177
def fX11_make_L156 (k118 : Option Nat × Int32 → Mem → Option (Unit × Mem)) (p0 : Option Nat) (p2 : Int32) (q0 : Option Nat) (q1 : Int32) (q2 : Int32) (M : Mem) : Option (Unit × Mem) :=
  bo (wI M q0 q1 q2) fun M156 =>
  bo (gR M156 p0 11 5) fun v159 =>
  bo (aI M156 v159 15 p2) fun v163 =>
  if v163 = 0 then (
    bo (gI M156 p0 11 1) fun v168 =>
    fX11_make_L177 k118 p0 p2 p0 v168 M156
  ) else (
    fX11_make_L177 k118 p0 p2 p0 (p2 + 1) M156
  )
def fX11_make_B118 (k118 : Option Nat × Int32 → Mem → Option (Unit × Mem)) (p0 : Option Nat) (p2 : Int32) (M : Mem) : Option (Unit × Mem) :=
  if 128 ≤ p2 then (
    some ((), M)
  ) else (
    bo (gR M p0 11 0) fun v126 =>
    bo (gR M p0 11 5) fun v131 =>
    bo (aI M v131 15 p2) fun v135 =>
    if v135 = 0 then (
      fX11_make_L156 k118 p0 p2 v126 p2 0 M
    ) else (
      bo (gI M p0 11 2) fun v144 =>
      bo (gR M p0 11 7) fun v150 =>
      bo (aI M v150 15 p2) fun v154 =>
      fX11_make_L156 k118 p0 p2 v126 p2 ((v144 + 1) - v154) M
    )
  )
def fX11_make_L118 (p0 : Option Nat) (p2 : Int32) (M : Mem) : Option (Unit × Mem) :=
  lp (fun k118 (a : Option Nat × Int32) M => fX11_make_B118 k118 a.1 a.2 M) FU ((p0, p2)) M
def fX11_make_L111 (p0 : Option Nat) (M : Mem) : Option (Unit × Mem) :=
  bo (pI M p0 11 1 0) fun M113 =>
  bn (0) fun v117 =>
  fX11_make_L118 p0 v117 M113
def fX11_make_B68 (k51 : Option Nat × Int32 → Mem → Option (Unit × Mem)) (k68 : Option Nat × Int32 × Int32 → Mem → Option (Unit × Mem)) (p0 : Option Nat) (p2 : Int32) (p3 : Int32) (M : Mem) : Option (Unit × Mem) :=
  if 128 ≤ p3 then (
    bo (chk M p0 11) fun _ => bd (fX11_join p0 M) fun v99 M99 =>
    bo (pI M99 p0 11 2 v99) fun M102 =>
    bn (p2 + 1) fun v105 =>
    k51 ((p0, v105)) M102
  ) else (
    bo (gR M p0 11 5) fun v76 =>
    bo (gR M p0 11 5) fun v81 =>
    bo (aI M v81 15 p3) fun v85 =>
    bo (dv (v85 + 1) 2) fun v89 =>
    bo (wI M v76 p3 v89) fun M90 =>
    bn (p3 + 1) fun v91 =>
    k68 ((p0, p2, v91)) M90
  )
def fX11_make_L68 (k51 : Option Nat × Int32 → Mem → Option (Unit × Mem)) (p0 : Option Nat) (p2 : Int32) (p3 : Int32) (M : Mem) : Option (Unit × Mem) :=
  lp (fun k68 (a : Option Nat × Int32 × Int32) M => fX11_make_B68 k51 k68 a.1 a.2.1 a.2.2 M) FU ((p0, p2, p3)) M
def fX11_make_B51 (k51 : Option Nat × Int32 → Mem → Option (Unit × Mem)) (p0 : Option Nat) (p2 : Int32) (M : Mem) : Option (Unit × Mem) :=
  if 32 ≤ p2 then (
    fX11_make_L111 p0 M
  ) else (
    bo (gI M p0 11 2) fun v58 =>
    if v58 ≤ 11 then (
      fX11_make_L111 p0 M
    ) else (
      bn (0) fun v67 =>
      fX11_make_L68 k51 p0 p2 v67 M
    )
  )
def fX11_make_L51 (p0 : Option Nat) (p2 : Int32) (M : Mem) : Option (Unit × Mem) :=
  lp (fun k51 (a : Option Nat × Int32) M => fX11_make_B51 k51 a.1 a.2 M) FU ((p0, p2)) M
def fX11_make_B10 (k10 : Option Nat × Option Nat × Int32 → Mem → Option (Unit × Mem)) (p0 : Option Nat) (p1 : Option Nat) (p2 : Int32) (M : Mem) : Option (Unit × Mem) :=
  bo (gI M p1 8 1) fun v12 =>
  if v12 ≤ p2 then (
    bo (chk M p0 11) fun _ => bd (fX11_join p0 M) fun v43 M43 =>
    bo (pI M43 p0 11 2 v43) fun M46 =>
    bn (0) fun v50 =>
    fX11_make_L51 p0 v50 M46
  ) else (
    bo (gR M p0 11 5) fun v19 =>
    bo (chk M p1 8) fun _ => bd (fX8_get p1 p2 M) fun v24 M24 =>
    bo (aI M24 v19 15 (v24 &&& 127)) fun v31 =>
    bo (wI M24 v19 (v24 &&& 127) (v31 + 1)) fun M34 =>
    bn (p2 + 1) fun v35 =>
    k10 ((p0, p1, v35)) M34
  )
def fX11_make_L10 (p0 : Option Nat) (p1 : Option Nat) (p2 : Int32) (M : Mem) : Option (Unit × Mem) :=
  lp (fun k10 (a : Option Nat × Option Nat × Int32) M => fX11_make_B10 k10 a.1 a.2.1 a.2.2 M) FU ((p0, p1, p2)) M
def fX11_make (a0 : Option Nat) (a1 : Option Nat) (M : Mem) : Option (Unit × Mem) :=
  bo (gR M a0 11 5) fun v1 =>
  bd (fJ7_fill_53178 v1 0 M) fun v5 M5 =>
  bn (0) fun v9 =>
  fX11_make_L10 a0 a1 v9 M5
def rmX11_make : Room := { frames := 2, cells := 0, slots := 0, locals := 47 }
set_option maxRecDepth 100000 in
set_option maxHeartbeats 4000000 in
theorem ctX11_make (l : Launch) (x : Cx) (a0 : Option Nat) (a1 : Option Nat) (M : Mem) (v : Unit) (N : Mem) (h : fX11_make a0 a1 M = some (v, N)) : CT l yX11_make cX11_make 4 (none) rmX11_make x [rv x a0, rv x a1] M none N := by
  refine ct_mk (enc := fun _ : Unit => none) (li := []) (ll := []) (lr := [(0, a0), (1, a1)]) (by decide +kernel) (by simp [lg_sl, rv_cat, cat_int, cat_long]) (by simp [flat, lv_args, rv_cat, cat_int, cat_long]) h ?_
  intro p e s m args below meth c E
  have hL177 : ∀ (k118 : Option Nat × Int32 → Mem → Option (Unit × Mem)) (hk118 : ∀ a M, RT p l e rmX11_make s m args below meth c x 4 (QM below args s x (fun _ : Unit => none) rmX11_make.cells rmX11_make.slots) 0 0 (k118 a M) 118 [(2, a.2)] [] [(0, a.1)] [] M) (p0 : Option Nat) (p2 : Int32) (q0 : Option Nat) (q1 : Int32) (M : Mem), RT p l e rmX11_make s m args below meth c x 4 (QM below args s x (fun _ : Unit => none) rmX11_make.cells rmX11_make.slots) 0 0 (fX11_make_L177 k118 p0 p2 q0 q1 M) 177 [(2, p2)] [] [(0, p0)] [.int q1, rv x q0] M := by
    intro k118 hk118 p0 p2 q0 q1 M
    unfold fX11_make_L177
    refine r_putI (pc := 177) E fd_11_1 wf_RX11_69 dX11_make_177 (Or.inl rfl) (fun M177 => ?_)
    refine r_iinc (pc := 180) (w := 1) (lf := fun v180 => [(2, v180)]) (ll' := []) (lr' := [(0, p0)]) E dX11_make_180 0 rfl (by decide) (by decide) (fun _ => rfl) rfl rfl (fun v180 => ?_)
    refine r_goto (pc := 183) (tgt := 118) E dX11_make_183 (by decide) ?_
    exact r_sub [0] [] [0] rfl rfl rfl (hk118 ((p0, v180)) _)
  have hL156 : ∀ (k118 : Option Nat × Int32 → Mem → Option (Unit × Mem)) (hk118 : ∀ a M, RT p l e rmX11_make s m args below meth c x 4 (QM below args s x (fun _ : Unit => none) rmX11_make.cells rmX11_make.slots) 0 0 (k118 a M) 118 [(2, a.2)] [] [(0, a.1)] [] M) (p0 : Option Nat) (p2 : Int32) (q0 : Option Nat) (q1 : Int32) (q2 : Int32) (M : Mem), RT p l e rmX11_make s m args below meth c x 4 (QM below args s x (fun _ : Unit => none) rmX11_make.cells rmX11_make.slots) 0 0 (fX11_make_L156 k118 p0 p2 q0 q1 q2 M) 156 [(2, p2)] [] [(0, p0)] [.int q2, .int q1, rv x q0] M := by
    intro k118 hk118 p0 p2 q0 q1 q2 M
    unfold fX11_make_L156
    refine r_iastore (pc := 156) E dX11_make_156 (fun M156 => ?_)
    refine r_aload_n (pc := 157) E dX11_make_157 rfl 0 rfl ?_
    refine r_aload_n (pc := 158) E dX11_make_158 rfl 0 rfl ?_
    refine r_getA (pc := 159) E fd_11_5 wf_RX11_29 dX11_make_159 (fun v159 => ?_)
    refine r_iload_n (pc := 162) E dX11_make_162 rfl 0 rfl ?_
    refine r_iaload (pc := 163) E dX11_make_163 (fun v163 => ?_)
    refine r_if_ne (pc := 164) (tgt := 174) E dX11_make_164 (by decide) ?_ ?_
    · refine r_iload_n (pc := 174) E dX11_make_174 rfl 0 rfl ?_
      refine r_iconst (pc := 175) (v := 1) E dX11_make_175 (by decide) ?_
      refine r_iadd (pc := 176) E dX11_make_176 ?_
      exact r_sub [0] [] [0] rfl rfl rfl (hL177 k118 hk118 p0 p2 p0 (p2 + 1) _)
    · refine r_aload_n (pc := 167) E dX11_make_167 rfl 0 rfl ?_
      refine r_getI (pc := 168) E fd_11_1 wf_RX11_69 dX11_make_168 (fun v168 => ?_)
      refine r_goto (pc := 171) (tgt := 177) E dX11_make_171 (by decide) ?_
      exact r_sub [0] [] [0] rfl rfl rfl (hL177 k118 hk118 p0 p2 p0 v168 _)
  have hL118 : ∀ (p0 : Option Nat) (p2 : Int32) (M : Mem), RT p l e rmX11_make s m args below meth c x 4 (QM below args s x (fun _ : Unit => none) rmX11_make.cells rmX11_make.slots) 0 0 (fX11_make_L118 p0 p2 M) 118 [(2, p2)] [] [(0, p0)] [] M := by
    intro p0 p2 M
    refine r_lp (fi := fun a : Option Nat × Int32 => [(2, a.2)]) (fl := fun a : Option Nat × Int32 => []) (fr := fun a : Option Nat × Int32 => [(0, a.1)]) (fs := fun a : Option Nat × Int32 => []) ?_ FU ((p0, p2)) M
    intro k118 hk118 a M
    obtain ⟨p0, p2⟩ := a
    show RT p l e rmX11_make s m args below meth c x 4 (QM below args s x (fun _ : Unit => none) rmX11_make.cells rmX11_make.slots) 0 0 (fX11_make_B118 k118 p0 p2 M) 118 [(2, p2)] [] [(0, p0)] [] M
    unfold fX11_make_B118
    refine r_iload_n (pc := 118) E dX11_make_118 rfl 0 rfl ?_
    refine r_sipush (pc := 119) (v := 128) E dX11_make_119 (by decide) ?_
    refine r_icmp_ge (pc := 122) (tgt := 186) E dX11_make_122 (by decide) ?_ ?_
    · exact e_void (pc := 186) E dX11_make_186
    · refine r_aload_n (pc := 125) E dX11_make_125 rfl 0 rfl ?_
      refine r_getA (pc := 126) E fd_11_0 wf_RX11_9 dX11_make_126 (fun v126 => ?_)
      refine r_iload_n (pc := 129) E dX11_make_129 rfl 0 rfl ?_
      refine r_aload_n (pc := 130) E dX11_make_130 rfl 0 rfl ?_
      refine r_getA (pc := 131) E fd_11_5 wf_RX11_29 dX11_make_131 (fun v131 => ?_)
      refine r_iload_n (pc := 134) E dX11_make_134 rfl 0 rfl ?_
      refine r_iaload (pc := 135) E dX11_make_135 (fun v135 => ?_)
      refine r_if_ne (pc := 136) (tgt := 143) E dX11_make_136 (by decide) ?_ ?_
      · refine r_aload_n (pc := 143) E dX11_make_143 rfl 0 rfl ?_
        refine r_getI (pc := 144) E fd_11_2 wf_RX11_104 dX11_make_144 (fun v144 => ?_)
        refine r_iconst (pc := 147) (v := 1) E dX11_make_147 (by decide) ?_
        refine r_iadd (pc := 148) E dX11_make_148 ?_
        refine r_aload_n (pc := 149) E dX11_make_149 rfl 0 rfl ?_
        refine r_getA (pc := 150) E fd_11_7 wf_RX11_35 dX11_make_150 (fun v150 => ?_)
        refine r_iload_n (pc := 153) E dX11_make_153 rfl 0 rfl ?_
        refine r_iaload (pc := 154) E dX11_make_154 (fun v154 => ?_)
        refine r_isub (pc := 155) E dX11_make_155 ?_
        exact r_sub [0] [] [0] rfl rfl rfl (hL156 k118 hk118 p0 p2 v126 p2 ((v144 + 1) - v154) _)
      · refine r_iconst (pc := 139) (v := 0) E dX11_make_139 (by decide) ?_
        refine r_goto (pc := 140) (tgt := 156) E dX11_make_140 (by decide) ?_
        exact r_sub [0] [] [0] rfl rfl rfl (hL156 k118 hk118 p0 p2 v126 p2 0 _)
  have hL111 : ∀ (p0 : Option Nat) (M : Mem), RT p l e rmX11_make s m args below meth c x 4 (QM below args s x (fun _ : Unit => none) rmX11_make.cells rmX11_make.slots) 0 0 (fX11_make_L111 p0 M) 111 [] [] [(0, p0)] [] M := by
    intro p0 M
    unfold fX11_make_L111
    refine r_aload_n (pc := 111) E dX11_make_111 rfl 0 rfl ?_
    refine r_iconst (pc := 112) (v := 0) E dX11_make_112 (by decide) ?_
    refine r_putI (pc := 113) E fd_11_1 wf_RX11_69 dX11_make_113 (Or.inl rfl) (fun M113 => ?_)
    refine r_iconst (pc := 116) (v := 0) E dX11_make_116 (by decide) ?_
    refine r_istore_n (pc := 117) (lf := fun v117 => [(2, v117)]) (lg := fun v117 => []) (lk := fun v117 => [(0, p0)]) E dX11_make_117 rfl (by decide) (fun _ => rfl) (fun _ => rfl) (fun _ => rfl) (fun v117 => ?_)
    exact r_sub [0] [] [0] rfl rfl rfl (hL118 p0 v117 _)
  have hL68 : ∀ (k51 : Option Nat × Int32 → Mem → Option (Unit × Mem)) (hk51 : ∀ a M, RT p l e rmX11_make s m args below meth c x 4 (QM below args s x (fun _ : Unit => none) rmX11_make.cells rmX11_make.slots) 0 0 (k51 a M) 51 [(2, a.2)] [] [(0, a.1)] [] M) (p0 : Option Nat) (p2 : Int32) (p3 : Int32) (M : Mem), RT p l e rmX11_make s m args below meth c x 4 (QM below args s x (fun _ : Unit => none) rmX11_make.cells rmX11_make.slots) 0 0 (fX11_make_L68 k51 p0 p2 p3 M) 68 [(2, p2), (3, p3)] [] [(0, p0)] [] M := by
    intro k51 hk51 p0 p2 p3 M
    refine r_lp (fi := fun a : Option Nat × Int32 × Int32 => [(2, a.2.1), (3, a.2.2)]) (fl := fun a : Option Nat × Int32 × Int32 => []) (fr := fun a : Option Nat × Int32 × Int32 => [(0, a.1)]) (fs := fun a : Option Nat × Int32 × Int32 => []) ?_ FU ((p0, p2, p3)) M
    intro k68 hk68 a M
    obtain ⟨p0, p2, p3⟩ := a
    show RT p l e rmX11_make s m args below meth c x 4 (QM below args s x (fun _ : Unit => none) rmX11_make.cells rmX11_make.slots) 0 0 (fX11_make_B68 k51 k68 p0 p2 p3 M) 68 [(2, p2), (3, p3)] [] [(0, p0)] [] M
    unfold fX11_make_B68
    refine r_iload_n (pc := 68) E dX11_make_68 rfl 1 rfl ?_
    refine r_sipush (pc := 69) (v := 128) E dX11_make_69 (by decide) ?_
    refine r_icmp_ge (pc := 72) (tgt := 97) E dX11_make_72 (by decide) ?_ ?_
    · refine r_aload_n (pc := 97) E dX11_make_97 rfl 0 rfl ?_
      refine r_aload_n (pc := 98) E dX11_make_98 rfl 0 rfl ?_
      refine r_kVi (pc := 99) (As := []) (rest := [rv x p0]) E wc_X11_join wi_RX11 hd_X11_join (ci := 11) rfl wl_RX11_114 wn_X11_join ws_X11_join dX11_make_99 (by decide) (Nat.le_of_ble_eq_true rfl) ⟨rfl, rfl⟩ (ctX11_join l x _ _) rfl (fun v99 M99 => ?_)
      refine r_putI (pc := 102) E fd_11_2 wf_RX11_104 dX11_make_102 (Or.inl rfl) (fun M102 => ?_)
      refine r_iinc (pc := 105) (w := 1) (lf := fun v105 => [(2, v105), (3, p3)]) (ll' := []) (lr' := [(0, p0)]) E dX11_make_105 0 rfl (by decide) (by decide) (fun _ => rfl) rfl rfl (fun v105 => ?_)
      refine r_goto (pc := 108) (tgt := 51) E dX11_make_108 (by decide) ?_
      exact r_sub [0] [] [0] rfl rfl rfl (hk51 ((p0, v105)) _)
    · refine r_aload_n (pc := 75) E dX11_make_75 rfl 0 rfl ?_
      refine r_getA (pc := 76) E fd_11_5 wf_RX11_29 dX11_make_76 (fun v76 => ?_)
      refine r_iload_n (pc := 79) E dX11_make_79 rfl 1 rfl ?_
      refine r_aload_n (pc := 80) E dX11_make_80 rfl 0 rfl ?_
      refine r_getA (pc := 81) E fd_11_5 wf_RX11_29 dX11_make_81 (fun v81 => ?_)
      refine r_iload_n (pc := 84) E dX11_make_84 rfl 1 rfl ?_
      refine r_iaload (pc := 85) E dX11_make_85 (fun v85 => ?_)
      refine r_iconst (pc := 86) (v := 1) E dX11_make_86 (by decide) ?_
      refine r_iadd (pc := 87) E dX11_make_87 ?_
      refine r_iconst (pc := 88) (v := 2) E dX11_make_88 (by decide) ?_
      refine r_idiv (pc := 89) E dX11_make_89 (fun v89 => ?_)
      refine r_iastore (pc := 90) E dX11_make_90 (fun M90 => ?_)
      refine r_iinc (pc := 91) (w := 1) (lf := fun v91 => [(3, v91), (2, p2)]) (ll' := []) (lr' := [(0, p0)]) E dX11_make_91 1 rfl (by decide) (by decide) (fun _ => rfl) rfl rfl (fun v91 => ?_)
      refine r_goto (pc := 94) (tgt := 68) E dX11_make_94 (by decide) ?_
      exact r_sub [1, 0] [] [0] rfl rfl rfl (hk68 ((p0, p2, v91)) _)
  have hL51 : ∀ (p0 : Option Nat) (p2 : Int32) (M : Mem), RT p l e rmX11_make s m args below meth c x 4 (QM below args s x (fun _ : Unit => none) rmX11_make.cells rmX11_make.slots) 0 0 (fX11_make_L51 p0 p2 M) 51 [(2, p2)] [] [(0, p0)] [] M := by
    intro p0 p2 M
    refine r_lp (fi := fun a : Option Nat × Int32 => [(2, a.2)]) (fl := fun a : Option Nat × Int32 => []) (fr := fun a : Option Nat × Int32 => [(0, a.1)]) (fs := fun a : Option Nat × Int32 => []) ?_ FU ((p0, p2)) M
    intro k51 hk51 a M
    obtain ⟨p0, p2⟩ := a
    show RT p l e rmX11_make s m args below meth c x 4 (QM below args s x (fun _ : Unit => none) rmX11_make.cells rmX11_make.slots) 0 0 (fX11_make_B51 k51 p0 p2 M) 51 [(2, p2)] [] [(0, p0)] [] M
    unfold fX11_make_B51
    refine r_iload_n (pc := 51) E dX11_make_51 rfl 0 rfl ?_
    refine r_bipush (pc := 52) (v := 32) E dX11_make_52 (by decide) ?_
    refine r_icmp_ge (pc := 54) (tgt := 111) E dX11_make_54 (by decide) ?_ ?_
    · exact r_sub [] [] [0] rfl rfl rfl (hL111 p0 _)
    · refine r_aload_n (pc := 57) E dX11_make_57 rfl 0 rfl ?_
      refine r_getI (pc := 58) E fd_11_2 wf_RX11_104 dX11_make_58 (fun v58 => ?_)
      refine r_bipush (pc := 61) (v := 11) E dX11_make_61 (by decide) ?_
      refine r_icmp_le (pc := 63) (tgt := 111) E dX11_make_63 (by decide) ?_ ?_
      · exact r_sub [] [] [0] rfl rfl rfl (hL111 p0 _)
      · refine r_iconst (pc := 66) (v := 0) E dX11_make_66 (by decide) ?_
        refine r_istore_n (pc := 67) (lf := fun v67 => [(3, v67), (2, p2)]) (lg := fun v67 => []) (lk := fun v67 => [(0, p0)]) E dX11_make_67 rfl (by decide) (fun _ => rfl) (fun _ => rfl) (fun _ => rfl) (fun v67 => ?_)
        exact r_sub [1, 0] [] [0] rfl rfl rfl (hL68 k51 hk51 p0 p2 v67 _)
  have hL10 : ∀ (p0 : Option Nat) (p1 : Option Nat) (p2 : Int32) (M : Mem), RT p l e rmX11_make s m args below meth c x 4 (QM below args s x (fun _ : Unit => none) rmX11_make.cells rmX11_make.slots) 0 0 (fX11_make_L10 p0 p1 p2 M) 10 [(2, p2)] [] [(0, p0), (1, p1)] [] M := by
    intro p0 p1 p2 M
    refine r_lp (fi := fun a : Option Nat × Option Nat × Int32 => [(2, a.2.2)]) (fl := fun a : Option Nat × Option Nat × Int32 => []) (fr := fun a : Option Nat × Option Nat × Int32 => [(0, a.1), (1, a.2.1)]) (fs := fun a : Option Nat × Option Nat × Int32 => []) ?_ FU ((p0, p1, p2)) M
    intro k10 hk10 a M
    obtain ⟨p0, p1, p2⟩ := a
    show RT p l e rmX11_make s m args below meth c x 4 (QM below args s x (fun _ : Unit => none) rmX11_make.cells rmX11_make.slots) 0 0 (fX11_make_B10 k10 p0 p1 p2 M) 10 [(2, p2)] [] [(0, p0), (1, p1)] [] M
    unfold fX11_make_B10
    refine r_iload_n (pc := 10) E dX11_make_10 rfl 0 rfl ?_
    refine r_aload_n (pc := 11) E dX11_make_11 rfl 1 rfl ?_
    refine r_getI (pc := 12) E fd_8_1 wf_RX11_113 dX11_make_12 (fun v12 => ?_)
    refine r_icmp_ge (pc := 15) (tgt := 41) E dX11_make_15 (by decide) ?_ ?_
    · refine r_aload_n (pc := 41) E dX11_make_41 rfl 0 rfl ?_
      refine r_aload_n (pc := 42) E dX11_make_42 rfl 0 rfl ?_
      refine r_kVi (pc := 43) (As := []) (rest := [rv x p0]) E wc_X11_join wi_RX11 hd_X11_join (ci := 11) rfl wl_RX11_114 wn_X11_join ws_X11_join dX11_make_43 (by decide) (Nat.le_of_ble_eq_true rfl) ⟨rfl, rfl⟩ (ctX11_join l x _ _) rfl (fun v43 M43 => ?_)
      refine r_putI (pc := 46) E fd_11_2 wf_RX11_104 dX11_make_46 (Or.inl rfl) (fun M46 => ?_)
      refine r_iconst (pc := 49) (v := 0) E dX11_make_49 (by decide) ?_
      refine r_istore_n (pc := 50) (lf := fun v50 => [(2, v50)]) (lg := fun v50 => []) (lk := fun v50 => [(0, p0), (1, p1)]) E dX11_make_50 rfl (by decide) (fun _ => rfl) (fun _ => rfl) (fun _ => rfl) (fun v50 => ?_)
      exact r_sub [0] [] [0] rfl rfl rfl (hL51 p0 v50 _)
    · refine r_aload_n (pc := 18) E dX11_make_18 rfl 0 rfl ?_
      refine r_getA (pc := 19) E fd_11_5 wf_RX11_29 dX11_make_19 (fun v19 => ?_)
      refine r_aload_n (pc := 22) E dX11_make_22 rfl 1 rfl ?_
      refine r_iload_n (pc := 23) E dX11_make_23 rfl 0 rfl ?_
      refine r_kVi (pc := 24) (As := [.int p2]) (rest := [rv x v19]) E wc_X8_get wi_RX8 hd_X8_get (ci := 8) rfl wl_RX11_38 wn_X8_get ws_X8_get dX11_make_24 (by decide) (Nat.le_of_ble_eq_true rfl) ⟨rfl, rfl⟩ (ctX8_get l x _ _ _) rfl (fun v24 M24 => ?_)
      refine r_bipush (pc := 27) (v := 127) E dX11_make_27 (by decide) ?_
      refine r_iand (pc := 29) E dX11_make_29 ?_
      refine r_dup2 (pc := 30) E dX11_make_30 rfl (rv_cat _ _) ?_
      refine r_iaload (pc := 31) E dX11_make_31 (fun v31 => ?_)
      refine r_iconst (pc := 32) (v := 1) E dX11_make_32 (by decide) ?_
      refine r_iadd (pc := 33) E dX11_make_33 ?_
      refine r_iastore (pc := 34) E dX11_make_34 (fun M34 => ?_)
      refine r_iinc (pc := 35) (w := 1) (lf := fun v35 => [(2, v35)]) (ll' := []) (lr' := [(0, p0), (1, p1)]) E dX11_make_35 0 rfl (by decide) (by decide) (fun _ => rfl) rfl rfl (fun v35 => ?_)
      refine r_goto (pc := 38) (tgt := 10) E dX11_make_38 (by decide) ?_
      exact r_sub [0] [] [0, 1] rfl rfl rfl (hk10 ((p0, p1, v35)) _)
  show RT p l e rmX11_make s m args below meth c x 4 (QM below args s x (fun _ : Unit => none) rmX11_make.cells rmX11_make.slots) 0 0 (fX11_make a0 a1 M) 0 [] [] [(0, a0), (1, a1)] [] M
  unfold fX11_make
  refine r_aload_n (pc := 0) E dX11_make_0 rfl 0 rfl ?_
  refine r_getA (pc := 1) E fd_11_5 wf_RX11_29 dX11_make_1 (fun v1 => ?_)
  refine r_iconst (pc := 4) (v := 0) E dX11_make_4 (by decide) ?_
  refine r_kSv (pc := 5) (As := [rv x v1, .int 0]) (rest := []) E wc_J7_fill_53178 wi_RJ7 hd_J7_fill_53178 wl_RX11_107 wt_J7_fill_53178 dX11_make_5 (by decide) (Nat.le_of_ble_eq_true rfl) ⟨rfl, rfl⟩ (ctJ7_fill_53178 l x _ _ _) rfl (fun v5 M5 => ?_)
  refine r_iconst (pc := 8) (v := 0) E dX11_make_8 (by decide) ?_
  refine r_istore_n (pc := 9) (lf := fun v9 => [(2, v9)]) (lg := fun v9 => []) (lk := fun v9 => [(0, a0), (1, a1)]) E dX11_make_9 rfl (by decide) (fun _ => rfl) (fun _ => rfl) (fun _ => rfl) (fun v9 => ?_)
  exact r_sub [0] [] [0, 1] rfl rfl rfl (hL10 a0 a1 v9 _)
def fX6_writeWeights_L60 (k23 : Option Nat × Int32 × Int32 → Mem → Option (Unit × Mem)) (p0 : Option Nat) (p1 : Int32) (p2 : Int32) (p3 : Int32) (q0 : Int32) (M : Mem) : Option (Unit × Mem) :=
  bn (q0) fun v60 =>
  bo (gR M p0 6 1) fun v63 =>
  bo (chk M v63 8) fun _ => bd (fX8_add v63 ((shlI p3 4) ||| v60) M) fun v72 M72 =>
  bn (p2 + 2) fun v75 =>
  k23 ((p0, p1, v75)) M72
def fX6_writeWeights_B23 (k23 : Option Nat × Int32 × Int32 → Mem → Option (Unit × Mem)) (p0 : Option Nat) (p1 : Int32) (p2 : Int32) (M : Mem) : Option (Unit × Mem) :=
  if p1 ≤ p2 then (
    some ((), M)
  ) else (
    bo (gR M p0 6 2) fun v29 =>
    bo (gR M v29 11 0) fun v32 =>
    bo (aI M v32 15 p2) fun v36 =>
    bn (v36) fun v37 =>
    if p1 ≤ (p2 + 1) then (
      fX6_writeWeights_L60 k23 p0 p1 p2 v37 0 M
    ) else (
      bo (gR M p0 6 2) fun v46 =>
      bo (gR M v46 11 0) fun v49 =>
      bo (aI M v49 15 (p2 + 1)) fun v55 =>
      fX6_writeWeights_L60 k23 p0 p1 p2 v37 v55 M
    )
  )
def fX6_writeWeights_L23 (p0 : Option Nat) (p1 : Int32) (p2 : Int32) (M : Mem) : Option (Unit × Mem) :=
  lp (fun k23 (a : Option Nat × Int32 × Int32) M => fX6_writeWeights_B23 k23 a.1 a.2.1 a.2.2 M) FU ((p0, p1, p2)) M
def fX6_writeWeights (a0 : Option Nat) (M : Mem) : Option (Unit × Mem) :=
  bo (gR M a0 6 2) fun v1 =>
  bo (gI M v1 11 1) fun v4 =>
  bn (v4 - 1) fun v9 =>
  bo (gR M a0 6 1) fun v11 =>
  bo (chk M v11 8) fun _ => bd (fX8_add v11 (127 + v9) M) fun v18 M18 =>
  bn (0) fun v22 =>
  fX6_writeWeights_L23 a0 v9 v22 M18
def rmX6_writeWeights : Room := { frames := 1, cells := 0, slots := 0, locals := 21 }
set_option maxRecDepth 100000 in
set_option maxHeartbeats 4000000 in
theorem ctX6_writeWeights (l : Launch) (x : Cx) (a0 : Option Nat) (M : Mem) (v : Unit) (N : Mem) (h : fX6_writeWeights a0 M = some (v, N)) : CT l yX6_writeWeights cX6_writeWeights 5 (none) rmX6_writeWeights x [rv x a0] M none N := by
  refine ct_mk (enc := fun _ : Unit => none) (li := []) (ll := []) (lr := [(0, a0)]) (by decide +kernel) (by simp [lg_sl, rv_cat, cat_int, cat_long]) (by simp [flat, lv_args, rv_cat, cat_int, cat_long]) h ?_
  intro p e s m args below meth c E
  have hL60 : ∀ (k23 : Option Nat × Int32 × Int32 → Mem → Option (Unit × Mem)) (hk23 : ∀ a M, RT p l e rmX6_writeWeights s m args below meth c x 5 (QM below args s x (fun _ : Unit => none) rmX6_writeWeights.cells rmX6_writeWeights.slots) 0 0 (k23 a M) 23 [(1, a.2.1), (2, a.2.2)] [] [(0, a.1)] [] M) (p0 : Option Nat) (p1 : Int32) (p2 : Int32) (p3 : Int32) (q0 : Int32) (M : Mem), RT p l e rmX6_writeWeights s m args below meth c x 5 (QM below args s x (fun _ : Unit => none) rmX6_writeWeights.cells rmX6_writeWeights.slots) 0 0 (fX6_writeWeights_L60 k23 p0 p1 p2 p3 q0 M) 60 [(1, p1), (2, p2), (3, p3)] [] [(0, p0)] [.int q0] M := by
    intro k23 hk23 p0 p1 p2 p3 q0 M
    unfold fX6_writeWeights_L60
    refine r_istore (pc := 60) (lf := fun v60 => [(4, v60), (1, p1), (2, p2), (3, p3)]) (lg := fun v60 => []) (lk := fun v60 => [(0, p0)]) E dX6_writeWeights_60 (by decide) (fun _ => rfl) (fun _ => rfl) (fun _ => rfl) (fun v60 => ?_)
    refine r_aload_n (pc := 62) E dX6_writeWeights_62 rfl 0 rfl ?_
    refine r_getR (pc := 63) E fd_6_1 wf_RX6_23 dX6_writeWeights_63 (fun v63 => ?_)
    refine r_iload_n (pc := 66) E dX6_writeWeights_66 rfl 3 rfl ?_
    refine r_iconst (pc := 67) (v := 4) E dX6_writeWeights_67 (by decide) ?_
    refine r_ishl (pc := 68) E dX6_writeWeights_68 ?_
    refine r_iload (pc := 69) E dX6_writeWeights_69 0 rfl ?_
    refine r_ior (pc := 71) E dX6_writeWeights_71 ?_
    refine r_kVv (pc := 72) (As := [.int ((shlI p3 4) ||| v60)]) (rest := []) E wc_X8_add wi_RX8 hd_X8_add (ci := 8) rfl wl_RX6_127 wn_X8_add ws_X8_add dX6_writeWeights_72 (by decide) (Nat.le_of_ble_eq_true rfl) ⟨rfl, rfl⟩ (ctX8_add l x _ _ _) rfl (fun v72 M72 => ?_)
    refine r_iinc (pc := 75) (w := 2) (lf := fun v75 => [(2, v75), (4, v60), (1, p1), (3, p3)]) (ll' := []) (lr' := [(0, p0)]) E dX6_writeWeights_75 2 rfl (by decide) (by decide) (fun _ => rfl) rfl rfl (fun v75 => ?_)
    refine r_goto (pc := 78) (tgt := 23) E dX6_writeWeights_78 (by decide) ?_
    exact r_sub [2, 0] [] [0] rfl rfl rfl (hk23 ((p0, p1, v75)) _)
  have hL23 : ∀ (p0 : Option Nat) (p1 : Int32) (p2 : Int32) (M : Mem), RT p l e rmX6_writeWeights s m args below meth c x 5 (QM below args s x (fun _ : Unit => none) rmX6_writeWeights.cells rmX6_writeWeights.slots) 0 0 (fX6_writeWeights_L23 p0 p1 p2 M) 23 [(1, p1), (2, p2)] [] [(0, p0)] [] M := by
    intro p0 p1 p2 M
    refine r_lp (fi := fun a : Option Nat × Int32 × Int32 => [(1, a.2.1), (2, a.2.2)]) (fl := fun a : Option Nat × Int32 × Int32 => []) (fr := fun a : Option Nat × Int32 × Int32 => [(0, a.1)]) (fs := fun a : Option Nat × Int32 × Int32 => []) ?_ FU ((p0, p1, p2)) M
    intro k23 hk23 a M
    obtain ⟨p0, p1, p2⟩ := a
    show RT p l e rmX6_writeWeights s m args below meth c x 5 (QM below args s x (fun _ : Unit => none) rmX6_writeWeights.cells rmX6_writeWeights.slots) 0 0 (fX6_writeWeights_B23 k23 p0 p1 p2 M) 23 [(1, p1), (2, p2)] [] [(0, p0)] [] M
    unfold fX6_writeWeights_B23
    refine r_iload_n (pc := 23) E dX6_writeWeights_23 rfl 1 rfl ?_
    refine r_iload_n (pc := 24) E dX6_writeWeights_24 rfl 0 rfl ?_
    refine r_icmp_ge (pc := 25) (tgt := 81) E dX6_writeWeights_25 (by decide) ?_ ?_
    · exact e_void (pc := 81) E dX6_writeWeights_81
    · refine r_aload_n (pc := 28) E dX6_writeWeights_28 rfl 0 rfl ?_
      refine r_getR (pc := 29) E fd_6_2 wf_RX6_65 dX6_writeWeights_29 (fun v29 => ?_)
      refine r_getA (pc := 32) E fd_11_0 wf_RX6_213 dX6_writeWeights_32 (fun v32 => ?_)
      refine r_iload_n (pc := 35) E dX6_writeWeights_35 rfl 1 rfl ?_
      refine r_iaload (pc := 36) E dX6_writeWeights_36 (fun v36 => ?_)
      refine r_istore_n (pc := 37) (lf := fun v37 => [(3, v37), (1, p1), (2, p2)]) (lg := fun v37 => []) (lk := fun v37 => [(0, p0)]) E dX6_writeWeights_37 rfl (by decide) (fun _ => rfl) (fun _ => rfl) (fun _ => rfl) (fun v37 => ?_)
      refine r_iload_n (pc := 38) E dX6_writeWeights_38 rfl 2 rfl ?_
      refine r_iconst (pc := 39) (v := 1) E dX6_writeWeights_39 (by decide) ?_
      refine r_iadd (pc := 40) E dX6_writeWeights_40 ?_
      refine r_iload_n (pc := 41) E dX6_writeWeights_41 rfl 1 rfl ?_
      refine r_icmp_ge (pc := 42) (tgt := 59) E dX6_writeWeights_42 (by decide) ?_ ?_
      · refine r_iconst (pc := 59) (v := 0) E dX6_writeWeights_59 (by decide) ?_
        exact r_sub [1, 2, 0] [] [0] rfl rfl rfl (hL60 k23 hk23 p0 p1 p2 v37 0 _)
      · refine r_aload_n (pc := 45) E dX6_writeWeights_45 rfl 0 rfl ?_
        refine r_getR (pc := 46) E fd_6_2 wf_RX6_65 dX6_writeWeights_46 (fun v46 => ?_)
        refine r_getA (pc := 49) E fd_11_0 wf_RX6_213 dX6_writeWeights_49 (fun v49 => ?_)
        refine r_iload_n (pc := 52) E dX6_writeWeights_52 rfl 2 rfl ?_
        refine r_iconst (pc := 53) (v := 1) E dX6_writeWeights_53 (by decide) ?_
        refine r_iadd (pc := 54) E dX6_writeWeights_54 ?_
        refine r_iaload (pc := 55) E dX6_writeWeights_55 (fun v55 => ?_)
        refine r_goto (pc := 56) (tgt := 60) E dX6_writeWeights_56 (by decide) ?_
        exact r_sub [1, 2, 0] [] [0] rfl rfl rfl (hL60 k23 hk23 p0 p1 p2 v37 v55 _)
  show RT p l e rmX6_writeWeights s m args below meth c x 5 (QM below args s x (fun _ : Unit => none) rmX6_writeWeights.cells rmX6_writeWeights.slots) 0 0 (fX6_writeWeights a0 M) 0 [] [] [(0, a0)] [] M
  unfold fX6_writeWeights
  refine r_aload_n (pc := 0) E dX6_writeWeights_0 rfl 0 rfl ?_
  refine r_getR (pc := 1) E fd_6_2 wf_RX6_65 dX6_writeWeights_1 (fun v1 => ?_)
  refine r_getI (pc := 4) E fd_11_1 wf_RX6_202 dX6_writeWeights_4 (fun v4 => ?_)
  refine r_iconst (pc := 7) (v := 1) E dX6_writeWeights_7 (by decide) ?_
  refine r_isub (pc := 8) E dX6_writeWeights_8 ?_
  refine r_istore_n (pc := 9) (lf := fun v9 => [(1, v9)]) (lg := fun v9 => []) (lk := fun v9 => [(0, a0)]) E dX6_writeWeights_9 rfl (by decide) (fun _ => rfl) (fun _ => rfl) (fun _ => rfl) (fun v9 => ?_)
  refine r_aload_n (pc := 10) E dX6_writeWeights_10 rfl 0 rfl ?_
  refine r_getR (pc := 11) E fd_6_1 wf_RX6_23 dX6_writeWeights_11 (fun v11 => ?_)
  refine r_bipush (pc := 14) (v := 127) E dX6_writeWeights_14 (by decide) ?_
  refine r_iload_n (pc := 16) E dX6_writeWeights_16 rfl 0 rfl ?_
  refine r_iadd (pc := 17) E dX6_writeWeights_17 ?_
  refine r_kVv (pc := 18) (As := [.int (127 + v9)]) (rest := []) E wc_X8_add wi_RX8 hd_X8_add (ci := 8) rfl wl_RX6_127 wn_X8_add ws_X8_add dX6_writeWeights_18 (by decide) (Nat.le_of_ble_eq_true rfl) ⟨rfl, rfl⟩ (ctX8_add l x _ _ _) rfl (fun v18 M18 => ?_)
  refine r_iconst (pc := 21) (v := 0) E dX6_writeWeights_21 (by decide) ?_
  refine r_istore_n (pc := 22) (lf := fun v22 => [(2, v22), (1, v9)]) (lg := fun v22 => []) (lk := fun v22 => [(0, a0)]) E dX6_writeWeights_22 rfl (by decide) (fun _ => rfl) (fun _ => rfl) (fun _ => rfl) (fun v22 => ?_)
  exact r_sub [1, 0] [] [0] rfl rfl rfl (hL23 a0 v9 v22 _)
def fX8_addBits_L74 (k31 : Option Nat → Mem → Option (Unit × Mem)) (p0 : Option Nat) (M : Mem) : Option (Unit × Mem) :=
  bo (gI M p0 8 1) fun v76 =>
  bo (pI M p0 8 1 (v76 + 1)) fun M81 =>
  bo (gJ M81 p0 8 2) fun v86 =>
  bo (pJ M81 p0 8 2 (ushJ v86 8)) fun M92 =>
  bo (gI M92 p0 8 3) fun v97 =>
  bo (pI M92 p0 8 3 (v97 - 8)) fun M103 =>
  k31 p0 M103
def fX8_addBits_B31 (k31 : Option Nat → Mem → Option (Unit × Mem)) (p0 : Option Nat) (M : Mem) : Option (Unit × Mem) :=
  bo (gI M p0 8 3) fun v32 =>
  if v32 < 8 then (
    some ((), M)
  ) else (
    bo (gI M p0 8 1) fun v41 =>
    if v41 < 0 then (
      fX8_addBits_L74 k31 p0 M
    ) else (
      bo (gI M p0 8 1) fun v48 =>
      bo (gR M p0 8 0) fun v52 =>
      bo (aL M v52) fun v55 =>
      if v55 ≤ v48 then (
        fX8_addBits_L74 k31 p0 M
      ) else (
        bo (gR M p0 8 0) fun v60 =>
        bo (gI M p0 8 1) fun v64 =>
        bo (gJ M p0 8 2) fun v68 =>
        bo (wB M v60 v64 (i2b v68.toInt32)) fun M73 =>
        fX8_addBits_L74 k31 p0 M73
      )
    )
  )
def fX8_addBits_L31 (p0 : Option Nat) (M : Mem) : Option (Unit × Mem) :=
  lp (fun k31 (a : Option Nat) M => fX8_addBits_B31 k31 a M) FU p0 M
def fX8_addBits (a0 : Option Nat) (a1 : Int64) (a3 : Int32) (M : Mem) : Option (Unit × Mem) :=
  bo (gJ M a0 8 2) fun v2 =>
  bo (gI M a0 8 3) fun v13 =>
  bo (pJ M a0 8 2 (v2 ||| (shlJ (a1 &&& ((shlJ 1 a3) - 1)) v13))) fun M18 =>
  bo (gI M18 a0 8 3) fun v23 =>
  bo (pI M18 a0 8 3 (v23 + a3)) fun M28 =>
  fX8_addBits_L31 a0 M28
def rmX8_addBits : Room := { frames := 0, cells := 0, slots := 0, locals := 0 }
set_option maxRecDepth 100000 in
set_option maxHeartbeats 4000000 in
theorem ctX8_addBits (l : Launch) (x : Cx) (a0 : Option Nat) (a1 : Int64) (a3 : Int32) (M : Mem) (v : Unit) (N : Mem) (h : fX8_addBits a0 a1 a3 M = some (v, N)) : CT l yX8_addBits cX8_addBits 4 (none) rmX8_addBits x [rv x a0, .long a1, .int a3] M none N := by
  refine ct_mk (enc := fun _ : Unit => none) (li := [(3, a3)]) (ll := [(1, a1)]) (lr := [(0, a0)]) (by decide +kernel) (by simp [lg_sl, rv_cat, cat_int, cat_long]) (by simp [flat, lv_args, rv_cat, cat_int, cat_long]) h ?_
  intro p e s m args below meth c E
  have hL74 : ∀ (k31 : Option Nat → Mem → Option (Unit × Mem)) (hk31 : ∀ a M, RT p l e rmX8_addBits s m args below meth c x 4 (QM below args s x (fun _ : Unit => none) rmX8_addBits.cells rmX8_addBits.slots) 0 0 (k31 a M) 31 [] [] [(0, a)] [] M) (p0 : Option Nat) (M : Mem), RT p l e rmX8_addBits s m args below meth c x 4 (QM below args s x (fun _ : Unit => none) rmX8_addBits.cells rmX8_addBits.slots) 0 0 (fX8_addBits_L74 k31 p0 M) 74 [] [] [(0, p0)] [] M := by
    intro k31 hk31 p0 M
    unfold fX8_addBits_L74
    refine r_aload_n (pc := 74) E dX8_addBits_74 rfl 0 rfl ?_
    refine r_dup (pc := 75) E dX8_addBits_75 (rv_cat _ _) ?_
    refine r_getI (pc := 76) E fd_8_1 wf_RX8_21 dX8_addBits_76 (fun v76 => ?_)
    refine r_iconst (pc := 79) (v := 1) E dX8_addBits_79 (by decide) ?_
    refine r_iadd (pc := 80) E dX8_addBits_80 ?_
    refine r_putI (pc := 81) E fd_8_1 wf_RX8_21 dX8_addBits_81 (Or.inl rfl) (fun M81 => ?_)
    refine r_aload_n (pc := 84) E dX8_addBits_84 rfl 0 rfl ?_
    refine r_dup (pc := 85) E dX8_addBits_85 (rv_cat _ _) ?_
    refine r_getJ (pc := 86) E fd_8_2 wf_RX8_36 dX8_addBits_86 (fun v86 => ?_)
    refine r_bipush (pc := 89) (v := 8) E dX8_addBits_89 (by decide) ?_
    refine r_lushr (pc := 91) E dX8_addBits_91 ?_
    refine r_putJ (pc := 92) E fd_8_2 wf_RX8_36 dX8_addBits_92 (Or.inl rfl) (fun M92 => ?_)
    refine r_aload_n (pc := 95) E dX8_addBits_95 rfl 0 rfl ?_
    refine r_dup (pc := 96) E dX8_addBits_96 (rv_cat _ _) ?_
    refine r_getI (pc := 97) E fd_8_3 wf_RX8_40 dX8_addBits_97 (fun v97 => ?_)
    refine r_bipush (pc := 100) (v := 8) E dX8_addBits_100 (by decide) ?_
    refine r_isub (pc := 102) E dX8_addBits_102 ?_
    refine r_putI (pc := 103) E fd_8_3 wf_RX8_40 dX8_addBits_103 (Or.inl rfl) (fun M103 => ?_)
    refine r_goto (pc := 106) (tgt := 31) E dX8_addBits_106 (by decide) ?_
    exact r_sub [] [] [0] rfl rfl rfl (hk31 p0 _)
  have hL31 : ∀ (p0 : Option Nat) (M : Mem), RT p l e rmX8_addBits s m args below meth c x 4 (QM below args s x (fun _ : Unit => none) rmX8_addBits.cells rmX8_addBits.slots) 0 0 (fX8_addBits_L31 p0 M) 31 [] [] [(0, p0)] [] M := by
    intro p0 M
    refine r_lp (fi := fun a : Option Nat => []) (fl := fun a : Option Nat => []) (fr := fun a : Option Nat => [(0, a)]) (fs := fun a : Option Nat => []) ?_ FU p0 M
    intro k31 hk31 a M
    obtain ⟨p0, rfl⟩ : ∃ z, z = a := ⟨_, rfl⟩
    show RT p l e rmX8_addBits s m args below meth c x 4 (QM below args s x (fun _ : Unit => none) rmX8_addBits.cells rmX8_addBits.slots) 0 0 (fX8_addBits_B31 k31 p0 M) 31 [] [] [(0, p0)] [] M
    unfold fX8_addBits_B31
    refine r_aload_n (pc := 31) E dX8_addBits_31 rfl 0 rfl ?_
    refine r_getI (pc := 32) E fd_8_3 wf_RX8_40 dX8_addBits_32 (fun v32 => ?_)
    refine r_bipush (pc := 35) (v := 8) E dX8_addBits_35 (by decide) ?_
    refine r_icmp_lt (pc := 37) (tgt := 109) E dX8_addBits_37 (by decide) ?_ ?_
    · exact e_void (pc := 109) E dX8_addBits_109
    · refine r_aload_n (pc := 40) E dX8_addBits_40 rfl 0 rfl ?_
      refine r_getI (pc := 41) E fd_8_1 wf_RX8_21 dX8_addBits_41 (fun v41 => ?_)
      refine r_if_lt (pc := 44) (tgt := 74) E dX8_addBits_44 (by decide) ?_ ?_
      · exact r_sub [] [] [0] rfl rfl rfl (hL74 k31 hk31 p0 _)
      · refine r_aload_n (pc := 47) E dX8_addBits_47 rfl 0 rfl ?_
        refine r_getI (pc := 48) E fd_8_1 wf_RX8_21 dX8_addBits_48 (fun v48 => ?_)
        refine r_aload_n (pc := 51) E dX8_addBits_51 rfl 0 rfl ?_
        refine r_getA (pc := 52) E fd_8_0 wf_RX8_15 dX8_addBits_52 (fun v52 => ?_)
        refine r_alen (pc := 55) E dX8_addBits_55 (fun v55 => ?_)
        refine r_icmp_ge (pc := 56) (tgt := 74) E dX8_addBits_56 (by decide) ?_ ?_
        · exact r_sub [] [] [0] rfl rfl rfl (hL74 k31 hk31 p0 _)
        · refine r_aload_n (pc := 59) E dX8_addBits_59 rfl 0 rfl ?_
          refine r_getA (pc := 60) E fd_8_0 wf_RX8_15 dX8_addBits_60 (fun v60 => ?_)
          refine r_aload_n (pc := 63) E dX8_addBits_63 rfl 0 rfl ?_
          refine r_getI (pc := 64) E fd_8_1 wf_RX8_21 dX8_addBits_64 (fun v64 => ?_)
          refine r_aload_n (pc := 67) E dX8_addBits_67 rfl 0 rfl ?_
          refine r_getJ (pc := 68) E fd_8_2 wf_RX8_36 dX8_addBits_68 (fun v68 => ?_)
          refine r_l2i (pc := 71) E dX8_addBits_71 ?_
          refine r_i2b (pc := 72) E dX8_addBits_72 ?_
          refine r_bastore (pc := 73) E dX8_addBits_73 (fun M73 => ?_)
          exact r_sub [] [] [0] rfl rfl rfl (hL74 k31 hk31 p0 _)
  show RT p l e rmX8_addBits s m args below meth c x 4 (QM below args s x (fun _ : Unit => none) rmX8_addBits.cells rmX8_addBits.slots) 0 0 (fX8_addBits a0 a1 a3 M) 0 [(3, a3)] [(1, a1)] [(0, a0)] [] M
  unfold fX8_addBits
  refine r_aload_n (pc := 0) E dX8_addBits_0 rfl 0 rfl ?_
  refine r_dup (pc := 1) E dX8_addBits_1 (rv_cat _ _) ?_
  refine r_getJ (pc := 2) E fd_8_2 wf_RX8_36 dX8_addBits_2 (fun v2 => ?_)
  refine r_lload_n (pc := 5) E dX8_addBits_5 rfl 0 rfl ?_
  refine r_lconst (pc := 6) (v := 1) E dX8_addBits_6 (by decide) ?_
  refine r_iload_n (pc := 7) E dX8_addBits_7 rfl 0 rfl ?_
  refine r_lshl (pc := 8) E dX8_addBits_8 ?_
  refine r_lconst (pc := 9) (v := 1) E dX8_addBits_9 (by decide) ?_
  refine r_lsub (pc := 10) E dX8_addBits_10 ?_
  refine r_land (pc := 11) E dX8_addBits_11 ?_
  refine r_aload_n (pc := 12) E dX8_addBits_12 rfl 0 rfl ?_
  refine r_getI (pc := 13) E fd_8_3 wf_RX8_40 dX8_addBits_13 (fun v13 => ?_)
  refine r_lshl (pc := 16) E dX8_addBits_16 ?_
  refine r_lor (pc := 17) E dX8_addBits_17 ?_
  refine r_putJ (pc := 18) E fd_8_2 wf_RX8_36 dX8_addBits_18 (Or.inl rfl) (fun M18 => ?_)
  refine r_aload_n (pc := 21) E dX8_addBits_21 rfl 0 rfl ?_
  refine r_dup (pc := 22) E dX8_addBits_22 (rv_cat _ _) ?_
  refine r_getI (pc := 23) E fd_8_3 wf_RX8_40 dX8_addBits_23 (fun v23 => ?_)
  refine r_iload_n (pc := 26) E dX8_addBits_26 rfl 0 rfl ?_
  refine r_iadd (pc := 27) E dX8_addBits_27 ?_
  refine r_putI (pc := 28) E fd_8_3 wf_RX8_40 dX8_addBits_28 (Or.inl rfl) (fun M28 => ?_)
  exact r_sub [] [] [0] rfl rfl rfl (hL31 a0 _)
def fX8_endBits (a0 : Option Nat) (M : Mem) : Option (Unit × Mem) :=
  bo (gI M a0 8 3) fun v5 =>
  bo (chk M a0 8) fun _ => bd (fX8_addBits a0 0 ((8 - v5) &&& 7) M) fun v12 M12 =>
  some ((), M12)
def rmX8_endBits : Room := { frames := 1, cells := 0, slots := 0, locals := 23 }
set_option maxRecDepth 100000 in
set_option maxHeartbeats 4000000 in
theorem ctX8_endBits (l : Launch) (x : Cx) (a0 : Option Nat) (M : Mem) (v : Unit) (N : Mem) (h : fX8_endBits a0 M = some (v, N)) : CT l yX8_endBits cX8_endBits 1 (none) rmX8_endBits x [rv x a0] M none N := by
  refine ct_mk (enc := fun _ : Unit => none) (li := []) (ll := []) (lr := [(0, a0)]) (by decide +kernel) (by simp [lg_sl, rv_cat, cat_int, cat_long]) (by simp [flat, lv_args, rv_cat, cat_int, cat_long]) h ?_
  intro p e s m args below meth c E
  show RT p l e rmX8_endBits s m args below meth c x 1 (QM below args s x (fun _ : Unit => none) rmX8_endBits.cells rmX8_endBits.slots) 0 0 (fX8_endBits a0 M) 0 [] [] [(0, a0)] [] M
  unfold fX8_endBits
  refine r_aload_n (pc := 0) E dX8_endBits_0 rfl 0 rfl ?_
  refine r_lconst (pc := 1) (v := 0) E dX8_endBits_1 (by decide) ?_
  refine r_bipush (pc := 2) (v := 8) E dX8_endBits_2 (by decide) ?_
  refine r_aload_n (pc := 4) E dX8_endBits_4 rfl 0 rfl ?_
  refine r_getI (pc := 5) E fd_8_3 wf_RX8_40 dX8_endBits_5 (fun v5 => ?_)
  refine r_isub (pc := 8) E dX8_endBits_8 ?_
  refine r_bipush (pc := 9) (v := 7) E dX8_endBits_9 (by decide) ?_
  refine r_iand (pc := 11) E dX8_endBits_11 ?_
  refine r_kVv (pc := 12) (As := [.long 0, .int ((8 - v5) &&& 7)]) (rest := []) E wc_X8_addBits wi_RX8 hd_X8_addBits (ci := 8) rfl wl_RX8_43 wn_X8_addBits ws_X8_addBits dX8_endBits_12 (by decide) (Nat.le_of_ble_eq_true rfl) ⟨rfl, rfl⟩ (ctX8_addBits l x _ _ _ _) rfl (fun v12 M12 => ?_)
  exact e_void (pc := 15) E dX8_endBits_15
def fX6_writeStream_B5 (k5 : Option Nat × Option Nat × Int32 × Int32 → Mem → Option (Unit × Mem)) (p0 : Option Nat) (p1 : Option Nat) (p2 : Int32) (p4 : Int32) (M : Mem) : Option (Unit × Mem) :=
  if p4 < p2 then (
    bo (gR M p0 6 1) fun v54 =>
    bo (chk M v54 8) fun _ => bd (fX8_addBits v54 1 1 M) fun v59 M59 =>
    bo (gR M59 p0 6 1) fun v63 =>
    bo (chk M59 v63 8) fun _ => bd (fX8_endBits v63 M59) fun v66 M66 =>
    some ((), M66)
  ) else (
    bo (chk M p1 8) fun _ => bd (fX8_get p1 p4 M) fun v14 M14 =>
    bn (v14) fun v17 =>
    bo (gR M14 p0 6 1) fun v20 =>
    bo (gR M14 p0 6 3) fun v24 =>
    bo (gR M14 v24 1 2) fun v27 =>
    bo (aI M14 v27 15 v17) fun v32 =>
    bo (gR M14 p0 6 3) fun v35 =>
    bo (gR M14 v35 1 1) fun v38 =>
    bo (aI M14 v38 15 v17) fun v43 =>
    bo (chk M14 v20 8) fun _ => bd (fX8_addBits v20 v32.toInt64 v43 M14) fun v44 M44 =>
    bn (p4 + (-1)) fun v47 =>
    k5 ((p0, p1, p2, v47)) M44
  )
def fX6_writeStream_L5 (p0 : Option Nat) (p1 : Option Nat) (p2 : Int32) (p4 : Int32) (M : Mem) : Option (Unit × Mem) :=
  lp (fun k5 (a : Option Nat × Option Nat × Int32 × Int32) M => fX6_writeStream_B5 k5 a.1 a.2.1 a.2.2.1 a.2.2.2 M) FU ((p0, p1, p2, p4)) M
def fX6_writeStream (a0 : Option Nat) (a1 : Option Nat) (a2 : Int32) (a3 : Int32) (M : Mem) : Option (Unit × Mem) :=
  bn (a3 - 1) fun v3 =>
  fX6_writeStream_L5 a0 a1 a2 v3 M
def rmX6_writeStream : Room := { frames := 2, cells := 0, slots := 0, locals := 43 }
set_option maxRecDepth 100000 in
set_option maxHeartbeats 4000000 in
theorem ctX6_writeStream (l : Launch) (x : Cx) (a0 : Option Nat) (a1 : Option Nat) (a2 : Int32) (a3 : Int32) (M : Mem) (v : Unit) (N : Mem) (h : fX6_writeStream a0 a1 a2 a3 M = some (v, N)) : CT l yX6_writeStream cX6_writeStream 6 (none) rmX6_writeStream x [rv x a0, rv x a1, .int a2, .int a3] M none N := by
  refine ct_mk (enc := fun _ : Unit => none) (li := [(2, a2), (3, a3)]) (ll := []) (lr := [(0, a0), (1, a1)]) (by decide +kernel) (by simp [lg_sl, rv_cat, cat_int, cat_long]) (by simp [flat, lv_args, rv_cat, cat_int, cat_long]) h ?_
  intro p e s m args below meth c E
  have hL5 : ∀ (p0 : Option Nat) (p1 : Option Nat) (p2 : Int32) (p4 : Int32) (M : Mem), RT p l e rmX6_writeStream s m args below meth c x 6 (QM below args s x (fun _ : Unit => none) rmX6_writeStream.cells rmX6_writeStream.slots) 0 0 (fX6_writeStream_L5 p0 p1 p2 p4 M) 5 [(2, p2), (4, p4)] [] [(0, p0), (1, p1)] [] M := by
    intro p0 p1 p2 p4 M
    refine r_lp (fi := fun a : Option Nat × Option Nat × Int32 × Int32 => [(2, a.2.2.1), (4, a.2.2.2)]) (fl := fun a : Option Nat × Option Nat × Int32 × Int32 => []) (fr := fun a : Option Nat × Option Nat × Int32 × Int32 => [(0, a.1), (1, a.2.1)]) (fs := fun a : Option Nat × Option Nat × Int32 × Int32 => []) ?_ FU ((p0, p1, p2, p4)) M
    intro k5 hk5 a M
    obtain ⟨p0, p1, p2, p4⟩ := a
    show RT p l e rmX6_writeStream s m args below meth c x 6 (QM below args s x (fun _ : Unit => none) rmX6_writeStream.cells rmX6_writeStream.slots) 0 0 (fX6_writeStream_B5 k5 p0 p1 p2 p4 M) 5 [(2, p2), (4, p4)] [] [(0, p0), (1, p1)] [] M
    unfold fX6_writeStream_B5
    refine r_iload (pc := 5) E dX6_writeStream_5 1 rfl ?_
    refine r_iload_n (pc := 7) E dX6_writeStream_7 rfl 0 rfl ?_
    refine r_icmp_lt (pc := 8) (tgt := 53) E dX6_writeStream_8 (by decide) ?_ ?_
    · refine r_aload_n (pc := 53) E dX6_writeStream_53 rfl 0 rfl ?_
      refine r_getR (pc := 54) E fd_6_1 wf_RX6_23 dX6_writeStream_54 (fun v54 => ?_)
      refine r_lconst (pc := 57) (v := 1) E dX6_writeStream_57 (by decide) ?_
      refine r_iconst (pc := 58) (v := 1) E dX6_writeStream_58 (by decide) ?_
      refine r_kVv (pc := 59) (As := [.long 1, .int 1]) (rest := []) E wc_X8_addBits wi_RX8 hd_X8_addBits (ci := 8) rfl wl_RX6_221 wn_X8_addBits ws_X8_addBits dX6_writeStream_59 (by decide) (Nat.le_of_ble_eq_true rfl) ⟨rfl, rfl⟩ (ctX8_addBits l x _ _ _ _) rfl (fun v59 M59 => ?_)
      refine r_aload_n (pc := 62) E dX6_writeStream_62 rfl 0 rfl ?_
      refine r_getR (pc := 63) E fd_6_1 wf_RX6_23 dX6_writeStream_63 (fun v63 => ?_)
      refine r_kVv (pc := 66) (As := []) (rest := []) E wc_X8_endBits wi_RX8 hd_X8_endBits (ci := 8) rfl wl_RX6_224 wn_X8_endBits ws_X8_endBits dX6_writeStream_66 (by decide) (Nat.le_of_ble_eq_true rfl) ⟨rfl, rfl⟩ (ctX8_endBits l x _ _) rfl (fun v66 M66 => ?_)
      exact e_void (pc := 69) E dX6_writeStream_69
    · refine r_aload_n (pc := 11) E dX6_writeStream_11 rfl 1 rfl ?_
      refine r_iload (pc := 12) E dX6_writeStream_12 1 rfl ?_
      refine r_kVi (pc := 14) (As := [.int p4]) (rest := []) E wc_X8_get wi_RX8 hd_X8_get (ci := 8) rfl wl_RX6_188 wn_X8_get ws_X8_get dX6_writeStream_14 (by decide) (Nat.le_of_ble_eq_true rfl) ⟨rfl, rfl⟩ (ctX8_get l x _ _ _) rfl (fun v14 M14 => ?_)
      refine r_istore (pc := 17) (lf := fun v17 => [(5, v17), (2, p2), (4, p4)]) (lg := fun v17 => []) (lk := fun v17 => [(0, p0), (1, p1)]) E dX6_writeStream_17 (by decide) (fun _ => rfl) (fun _ => rfl) (fun _ => rfl) (fun v17 => ?_)
      refine r_aload_n (pc := 19) E dX6_writeStream_19 rfl 0 rfl ?_
      refine r_getR (pc := 20) E fd_6_1 wf_RX6_23 dX6_writeStream_20 (fun v20 => ?_)
      refine r_aload_n (pc := 23) E dX6_writeStream_23 rfl 0 rfl ?_
      refine r_getR (pc := 24) E fd_6_3 wf_RX6_30 dX6_writeStream_24 (fun v24 => ?_)
      refine r_getA (pc := 27) E fd_1_2 wf_RX6_215 dX6_writeStream_27 (fun v27 => ?_)
      refine r_iload (pc := 30) E dX6_writeStream_30 0 rfl ?_
      refine r_iaload (pc := 32) E dX6_writeStream_32 (fun v32 => ?_)
      refine r_i2l (pc := 33) E dX6_writeStream_33 ?_
      refine r_aload_n (pc := 34) E dX6_writeStream_34 rfl 0 rfl ?_
      refine r_getR (pc := 35) E fd_6_3 wf_RX6_30 dX6_writeStream_35 (fun v35 => ?_)
      refine r_getA (pc := 38) E fd_1_1 wf_RX6_218 dX6_writeStream_38 (fun v38 => ?_)
      refine r_iload (pc := 41) E dX6_writeStream_41 0 rfl ?_
      refine r_iaload (pc := 43) E dX6_writeStream_43 (fun v43 => ?_)
      refine r_kVv (pc := 44) (As := [.long v32.toInt64, .int v43]) (rest := []) E wc_X8_addBits wi_RX8 hd_X8_addBits (ci := 8) rfl wl_RX6_221 wn_X8_addBits ws_X8_addBits dX6_writeStream_44 (by decide) (Nat.le_of_ble_eq_true rfl) ⟨rfl, rfl⟩ (ctX8_addBits l x _ _ _ _) rfl (fun v44 M44 => ?_)
      refine r_iinc (pc := 47) (w := (-1)) (lf := fun v47 => [(4, v47), (5, v17), (2, p2)]) (ll' := []) (lr' := [(0, p0), (1, p1)]) E dX6_writeStream_47 2 rfl (by decide) (by decide) (fun _ => rfl) rfl rfl (fun v47 => ?_)
      refine r_goto (pc := 50) (tgt := 5) E dX6_writeStream_50 (by decide) ?_
      exact r_sub [2, 0] [] [0, 1] rfl rfl rfl (hk5 ((p0, p1, p2, v47)) _)
  show RT p l e rmX6_writeStream s m args below meth c x 6 (QM below args s x (fun _ : Unit => none) rmX6_writeStream.cells rmX6_writeStream.slots) 0 0 (fX6_writeStream a0 a1 a2 a3 M) 0 [(2, a2), (3, a3)] [] [(0, a0), (1, a1)] [] M
  unfold fX6_writeStream
  refine r_iload_n (pc := 0) E dX6_writeStream_0 rfl 1 rfl ?_
  refine r_iconst (pc := 1) (v := 1) E dX6_writeStream_1 (by decide) ?_
  refine r_isub (pc := 2) E dX6_writeStream_2 ?_
  refine r_istore (pc := 3) (lf := fun v3 => [(4, v3), (2, a2), (3, a3)]) (lg := fun v3 => []) (lk := fun v3 => [(0, a0), (1, a1)]) E dX6_writeStream_3 (by decide) (fun _ => rfl) (fun _ => rfl) (fun _ => rfl) (fun v3 => ?_)
  exact r_sub [1, 0] [] [0, 1] rfl rfl rfl (hL5 a0 a1 a2 v3 _)
def fX6_writeCoded_B254 (k254 : Option Nat × Option Nat × Int32 × Int32 × Int32 → Mem → Option (Int32 × Mem)) (p0 : Option Nat) (p1 : Option Nat) (p2 : Int32) (p4 : Int32) (p8 : Int32) (M : Mem) : Option (Int32 × Mem) :=
  if p2 ≤ p8 then (
    rtZ 1 M
  ) else (
    bo (chk M p0 6) fun _ => bd (fX6_writeStream p0 p1 p8 (minI (p8 + p4) p2) M) fun v273 M273 =>
    bn (p8 + p4) fun v281 =>
    k254 ((p0, p1, p2, p4, v281)) M273
  )
def fX6_writeCoded_L254 (p0 : Option Nat) (p1 : Option Nat) (p2 : Int32) (p4 : Int32) (p8 : Int32) (M : Mem) : Option (Int32 × Mem) :=
  lp (fun k254 (a : Option Nat × Option Nat × Int32 × Int32 × Int32) M => fX6_writeCoded_B254 k254 a.1 a.2.1 a.2.2.1 a.2.2.2.1 a.2.2.2.2 M) FU ((p0, p1, p2, p4, p8)) M
def fX6_writeCoded_L251 (p0 : Option Nat) (p1 : Option Nat) (p2 : Int32) (p4 : Int32) (M : Mem) : Option (Int32 × Mem) :=
  bn (0) fun v252 =>
  fX6_writeCoded_L254 p0 p1 p2 p4 v252 M
def fX6_writeCoded_B204 (k204 : Option Nat × Option Nat × Int32 × Int32 × Int32 × Int32 → Mem → Option (Int32 × Mem)) (p0 : Option Nat) (p1 : Option Nat) (p2 : Int32) (p3 : Int32) (p4 : Int32) (p8 : Int32) (M : Mem) : Option (Int32 × Mem) :=
  if p3 = 0 then (
    if (3 * p4) ≤ p8 then (
      fX6_writeCoded_L251 p0 p1 p2 p4 M
    ) else (
      bo (gR M p0 6 1) fun v218 =>
      bo (gR M p0 6 3) fun v222 =>
      bo (chk M v222 1) fun _ => bd (fX1_lengthOf v222 p1 p8 (p8 + p4) M) fun v233 M233 =>
      bo (chk M233 v218 8) fun _ => bd (fX8_addNumber v218 v233.toInt64 2 M233) fun v238 M238 =>
      bn (p8 + p4) fun v246 =>
      k204 ((p0, p1, p2, p3, p4, v246)) M238
    )
  ) else (
    fX6_writeCoded_L251 p0 p1 p2 p4 M
  )
def fX6_writeCoded_L204 (p0 : Option Nat) (p1 : Option Nat) (p2 : Int32) (p3 : Int32) (p4 : Int32) (p8 : Int32) (M : Mem) : Option (Int32 × Mem) :=
  lp (fun k204 (a : Option Nat × Option Nat × Int32 × Int32 × Int32 × Int32) M => fX6_writeCoded_B204 k204 a.1 a.2.1 a.2.2.1 a.2.2.2.1 a.2.2.2.2.1 a.2.2.2.2.2 M) FU ((p0, p1, p2, p3, p4, p8)) M
def fX6_writeCoded_L194 (p0 : Option Nat) (p1 : Option Nat) (p2 : Int32) (p3 : Int32) (p4 : Int32) (q0 : Option Nat) (q1 : Int64) (q2 : Int32) (M : Mem) : Option (Int32 × Mem) :=
  bo (chk M q0 8) fun _ => bd (fX8_addNumber q0 q1 q2 M) fun v194 M194 =>
  bo (chk M194 p0 6) fun _ => bd (fX6_writeWeights p0 M194) fun v198 M198 =>
  bn (0) fun v202 =>
  fX6_writeCoded_L204 p0 p1 p2 p3 p4 v202 M198
def fX6_writeCoded_L157 (p0 : Option Nat) (p1 : Option Nat) (p2 : Int32) (p3 : Int32) (p4 : Int32) (p5 : Int32) (p6 : Int32) (q0 : Int32) (M : Mem) : Option (Int32 × Mem) :=
  bn (q0) fun v157 =>
  bo (gR M p0 6 1) fun v160 =>
  if p6 = 2 then (
    fX6_writeCoded_L194 p0 p1 p2 p3 p4 v160 ((((2 ||| (shlI p6 2)) ||| (shlI p2 4)).toInt64) ||| (shlJ p5.toInt64 (4 + v157))) 4 M
  ) else (
    fX6_writeCoded_L194 p0 p1 p2 p3 p4 v160 ((((2 ||| (shlI p6 2)) ||| (shlI p2 4)).toInt64) ||| (shlJ p5.toInt64 (4 + v157))) 3 M
  )
def fX6_writeCoded_L142 (p0 : Option Nat) (p1 : Option Nat) (p2 : Int32) (p3 : Int32) (p4 : Int32) (p5 : Int32) (q0 : Int32) (M : Mem) : Option (Int32 × Mem) :=
  bn (q0) fun v142 =>
  if v142 = 2 then (
    fX6_writeCoded_L157 p0 p1 p2 p3 p4 p5 v142 14 M
  ) else (
    fX6_writeCoded_L157 p0 p1 p2 p3 p4 p5 v142 10 M
  )
def fX6_writeCoded_B74 (k74 : Option Nat × Option Nat × Int32 × Int32 × Int32 × Int32 × Int32 → Mem → Option (Int32 × Mem)) (p0 : Option Nat) (p1 : Option Nat) (p2 : Int32) (p3 : Int32) (p4 : Int32) (p5 : Int32) (p6 : Int32) (M : Mem) : Option (Int32 × Mem) :=
  if p2 ≤ p6 then (
    if p5 < p2 then (
      if p3 = 0 then (
        if 1024 ≤ p2 then (
          fX6_writeCoded_L142 p0 p1 p2 p3 p4 p5 2 M
        ) else (
          fX6_writeCoded_L142 p0 p1 p2 p3 p4 p5 1 M
        )
      ) else (
        fX6_writeCoded_L142 p0 p1 p2 p3 p4 p5 0 M
      )
    ) else (
      rtZ 0 M
    )
  ) else (
    bo (gR M p0 6 3) fun v83 =>
    bo (chk M v83 1) fun _ => bd (fX1_lengthOf v83 p1 p6 (minI (p6 + p4) p2) M) fun v98 M98 =>
    bn (p5 + v98) fun v102 =>
    bn (p6 + p4) fun v109 =>
    k74 ((p0, p1, p2, p3, p4, v102, v109)) M98
  )
def fX6_writeCoded_L74 (p0 : Option Nat) (p1 : Option Nat) (p2 : Int32) (p3 : Int32) (p4 : Int32) (p5 : Int32) (p6 : Int32) (M : Mem) : Option (Int32 × Mem) :=
  lp (fun k74 (a : Option Nat × Option Nat × Int32 × Int32 × Int32 × Int32 × Int32) M => fX6_writeCoded_B74 k74 a.1 a.2.1 a.2.2.1 a.2.2.2.1 a.2.2.2.2.1 a.2.2.2.2.2.1 a.2.2.2.2.2.2 M) FU ((p0, p1, p2, p3, p4, p5, p6)) M
def fX6_writeCoded_L68 (p0 : Option Nat) (p1 : Option Nat) (p2 : Int32) (p3 : Int32) (p4 : Int32) (q0 : Int32) (q1 : Int32) (M : Mem) : Option (Int32 × Mem) :=
  bn (q0 + q1) fun v69 =>
  bn (0) fun v72 =>
  fX6_writeCoded_L74 p0 p1 p2 p3 p4 v69 v72 M
def fX6_writeCoded_L45 (p0 : Option Nat) (p1 : Option Nat) (p2 : Int32) (p3 : Int32) (q0 : Int32) (M : Mem) : Option (Int32 × Mem) :=
  bn (q0) fun v45 =>
  bo (gR M p0 6 2) fun v49 =>
  bo (gI M v49 11 1) fun v52 =>
  bo (dv v52 2) fun v56 =>
  if p3 = 0 then (
    fX6_writeCoded_L68 p0 p1 p2 p3 v45 (1 + v56) 6 M
  ) else (
    fX6_writeCoded_L68 p0 p1 p2 p3 v45 (1 + v56) 0 M
  )
def fX6_writeCoded_L31 (p0 : Option Nat) (p1 : Option Nat) (p2 : Int32) (q0 : Int32) (M : Mem) : Option (Int32 × Mem) :=
  bn (q0) fun v31 =>
  if v31 = 0 then (
    bo (dv (p2 + 3) 4) fun v44 =>
    fX6_writeCoded_L45 p0 p1 p2 v31 v44 M
  ) else (
    fX6_writeCoded_L45 p0 p1 p2 v31 p2 M
  )
def fX6_writeCoded (a0 : Option Nat) (a1 : Option Nat) (a2 : Int32) (M : Mem) : Option (Int32 × Mem) :=
  bo (gR M a0 6 2) fun v1 =>
  bo (chk M v1 11) fun _ => bd (fX11_make v1 a1 M) fun v5 M5 =>
  bo (gR M5 a0 6 3) fun v9 =>
  bo (gR M5 a0 6 2) fun v13 =>
  bo (chk M5 v9 1) fun _ => bd (fX1_build v9 v13 M5) fun v16 M16 =>
  if 256 ≤ a2 then (
    fX6_writeCoded_L31 a0 a1 a2 0 M16
  ) else (
    fX6_writeCoded_L31 a0 a1 a2 1 M16
  )
def rmX6_writeCoded : Room := { frames := 3, cells := 0, slots := 0, locals := 70 }
set_option maxRecDepth 100000 in
set_option maxHeartbeats 4000000 in
theorem ctX6_writeCoded (l : Launch) (x : Cx) (a0 : Option Nat) (a1 : Option Nat) (a2 : Int32) (M : Mem) (v : Int32) (N : Mem) (h : fX6_writeCoded a0 a1 a2 M = some (v, N)) : CT l yX6_writeCoded cX6_writeCoded 9 (some (FieldType.boolean)) rmX6_writeCoded x [rv x a0, rv x a1, .int a2] M (some (.int v)) N := by
  refine ct_mk (enc := fun v : Int32 => some (.int v)) (li := [(2, a2)]) (ll := []) (lr := [(0, a0), (1, a1)]) (by decide +kernel) (by simp [lg_sl, rv_cat, cat_int, cat_long]) (by simp [flat, lv_args, rv_cat, cat_int, cat_long]) h ?_
  intro p e s m args below meth c E
  have hL254 : ∀ (p0 : Option Nat) (p1 : Option Nat) (p2 : Int32) (p4 : Int32) (p8 : Int32) (M : Mem), RT p l e rmX6_writeCoded s m args below meth c x 9 (QM below args s x (fun v : Int32 => some (.int v)) rmX6_writeCoded.cells rmX6_writeCoded.slots) 0 0 (fX6_writeCoded_L254 p0 p1 p2 p4 p8 M) 254 [(2, p2), (4, p4), (8, p8)] [] [(0, p0), (1, p1)] [] M := by
    intro p0 p1 p2 p4 p8 M
    refine r_lp (fi := fun a : Option Nat × Option Nat × Int32 × Int32 × Int32 => [(2, a.2.2.1), (4, a.2.2.2.1), (8, a.2.2.2.2)]) (fl := fun a : Option Nat × Option Nat × Int32 × Int32 × Int32 => []) (fr := fun a : Option Nat × Option Nat × Int32 × Int32 × Int32 => [(0, a.1), (1, a.2.1)]) (fs := fun a : Option Nat × Option Nat × Int32 × Int32 × Int32 => []) ?_ FU ((p0, p1, p2, p4, p8)) M
    intro k254 hk254 a M
    obtain ⟨p0, p1, p2, p4, p8⟩ := a
    show RT p l e rmX6_writeCoded s m args below meth c x 9 (QM below args s x (fun v : Int32 => some (.int v)) rmX6_writeCoded.cells rmX6_writeCoded.slots) 0 0 (fX6_writeCoded_B254 k254 p0 p1 p2 p4 p8 M) 254 [(2, p2), (4, p4), (8, p8)] [] [(0, p0), (1, p1)] [] M
    unfold fX6_writeCoded_B254
    refine r_iload (pc := 254) E dX6_writeCoded_254 2 rfl ?_
    refine r_iload_n (pc := 256) E dX6_writeCoded_256 rfl 0 rfl ?_
    refine r_icmp_ge (pc := 257) (tgt := 286) E dX6_writeCoded_257 (by decide) ?_ ?_
    · refine r_iconst (pc := 286) (v := 1) E dX6_writeCoded_286 (by decide) ?_
      exact e_bool (pc := 287) E dX6_writeCoded_287
    · refine r_aload_n (pc := 260) E dX6_writeCoded_260 rfl 0 rfl ?_
      refine r_aload_n (pc := 261) E dX6_writeCoded_261 rfl 1 rfl ?_
      refine r_iload (pc := 262) E dX6_writeCoded_262 2 rfl ?_
      refine r_iload (pc := 264) E dX6_writeCoded_264 2 rfl ?_
      refine r_iload (pc := 266) E dX6_writeCoded_266 1 rfl ?_
      refine r_iadd (pc := 268) E dX6_writeCoded_268 ?_
      refine r_iload_n (pc := 269) E dX6_writeCoded_269 rfl 0 rfl ?_
      refine r_mmin (pc := 270) E wl_RX6_100 wm_smin wi_math wm_cmin dX6_writeCoded_270 (by decide) (Nat.le_of_ble_eq_true rfl) ?_
      refine r_kVv (pc := 273) (As := [rv x p1, .int p8, .int (minI (p8 + p4) p2)]) (rest := []) E wc_X6_writeStream wi_RX6 hd_X6_writeStream (ci := 6) rfl wl_RX6_210 wn_X6_writeStream ws_X6_writeStream dX6_writeCoded_273 (by decide) (Nat.le_of_ble_eq_true rfl) ⟨rfl, rfl⟩ (ctX6_writeStream l x _ _ _ _ _) rfl (fun v273 M273 => ?_)
      refine r_iload (pc := 276) E dX6_writeCoded_276 2 rfl ?_
      refine r_iload (pc := 278) E dX6_writeCoded_278 1 rfl ?_
      refine r_iadd (pc := 280) E dX6_writeCoded_280 ?_
      refine r_istore (pc := 281) (lf := fun v281 => [(8, v281), (2, p2), (4, p4)]) (lg := fun v281 => []) (lk := fun v281 => [(0, p0), (1, p1)]) E dX6_writeCoded_281 (by decide) (fun _ => rfl) (fun _ => rfl) (fun _ => rfl) (fun v281 => ?_)
      refine r_goto (pc := 283) (tgt := 254) E dX6_writeCoded_283 (by decide) ?_
      exact r_sub [1, 2, 0] [] [0, 1] rfl rfl rfl (hk254 ((p0, p1, p2, p4, v281)) _)
  have hL251 : ∀ (p0 : Option Nat) (p1 : Option Nat) (p2 : Int32) (p4 : Int32) (M : Mem), RT p l e rmX6_writeCoded s m args below meth c x 9 (QM below args s x (fun v : Int32 => some (.int v)) rmX6_writeCoded.cells rmX6_writeCoded.slots) 0 0 (fX6_writeCoded_L251 p0 p1 p2 p4 M) 251 [(2, p2), (4, p4)] [] [(0, p0), (1, p1)] [] M := by
    intro p0 p1 p2 p4 M
    unfold fX6_writeCoded_L251
    refine r_iconst (pc := 251) (v := 0) E dX6_writeCoded_251 (by decide) ?_
    refine r_istore (pc := 252) (lf := fun v252 => [(8, v252), (2, p2), (4, p4)]) (lg := fun v252 => []) (lk := fun v252 => [(0, p0), (1, p1)]) E dX6_writeCoded_252 (by decide) (fun _ => rfl) (fun _ => rfl) (fun _ => rfl) (fun v252 => ?_)
    exact r_sub [1, 2, 0] [] [0, 1] rfl rfl rfl (hL254 p0 p1 p2 p4 v252 _)
  have hL204 : ∀ (p0 : Option Nat) (p1 : Option Nat) (p2 : Int32) (p3 : Int32) (p4 : Int32) (p8 : Int32) (M : Mem), RT p l e rmX6_writeCoded s m args below meth c x 9 (QM below args s x (fun v : Int32 => some (.int v)) rmX6_writeCoded.cells rmX6_writeCoded.slots) 0 0 (fX6_writeCoded_L204 p0 p1 p2 p3 p4 p8 M) 204 [(2, p2), (3, p3), (4, p4), (8, p8)] [] [(0, p0), (1, p1)] [] M := by
    intro p0 p1 p2 p3 p4 p8 M
    refine r_lp (fi := fun a : Option Nat × Option Nat × Int32 × Int32 × Int32 × Int32 => [(2, a.2.2.1), (3, a.2.2.2.1), (4, a.2.2.2.2.1), (8, a.2.2.2.2.2)]) (fl := fun a : Option Nat × Option Nat × Int32 × Int32 × Int32 × Int32 => []) (fr := fun a : Option Nat × Option Nat × Int32 × Int32 × Int32 × Int32 => [(0, a.1), (1, a.2.1)]) (fs := fun a : Option Nat × Option Nat × Int32 × Int32 × Int32 × Int32 => []) ?_ FU ((p0, p1, p2, p3, p4, p8)) M
    intro k204 hk204 a M
    obtain ⟨p0, p1, p2, p3, p4, p8⟩ := a
    show RT p l e rmX6_writeCoded s m args below meth c x 9 (QM below args s x (fun v : Int32 => some (.int v)) rmX6_writeCoded.cells rmX6_writeCoded.slots) 0 0 (fX6_writeCoded_B204 k204 p0 p1 p2 p3 p4 p8 M) 204 [(2, p2), (3, p3), (4, p4), (8, p8)] [] [(0, p0), (1, p1)] [] M
    unfold fX6_writeCoded_B204
    refine r_iload_n (pc := 204) E dX6_writeCoded_204 rfl 1 rfl ?_
    refine r_if_ne (pc := 205) (tgt := 251) E dX6_writeCoded_205 (by decide) ?_ ?_
    · exact r_sub [0, 2] [] [0, 1] rfl rfl rfl (hL251 p0 p1 p2 p4 _)
    · refine r_iload (pc := 208) E dX6_writeCoded_208 3 rfl ?_
      refine r_iconst (pc := 210) (v := 3) E dX6_writeCoded_210 (by decide) ?_
      refine r_iload (pc := 211) E dX6_writeCoded_211 2 rfl ?_
      refine r_imul (pc := 213) E dX6_writeCoded_213 ?_
      refine r_icmp_ge (pc := 214) (tgt := 251) E dX6_writeCoded_214 (by decide) ?_ ?_
      · exact r_sub [0, 2] [] [0, 1] rfl rfl rfl (hL251 p0 p1 p2 p4 _)
      · refine r_aload_n (pc := 217) E dX6_writeCoded_217 rfl 0 rfl ?_
        refine r_getR (pc := 218) E fd_6_1 wf_RX6_23 dX6_writeCoded_218 (fun v218 => ?_)
        refine r_aload_n (pc := 221) E dX6_writeCoded_221 rfl 0 rfl ?_
        refine r_getR (pc := 222) E fd_6_3 wf_RX6_30 dX6_writeCoded_222 (fun v222 => ?_)
        refine r_aload_n (pc := 225) E dX6_writeCoded_225 rfl 1 rfl ?_
        refine r_iload (pc := 226) E dX6_writeCoded_226 3 rfl ?_
        refine r_iload (pc := 228) E dX6_writeCoded_228 3 rfl ?_
        refine r_iload (pc := 230) E dX6_writeCoded_230 2 rfl ?_
        refine r_iadd (pc := 232) E dX6_writeCoded_232 ?_
        refine r_kVi (pc := 233) (As := [rv x p1, .int p8, .int (p8 + p4)]) (rest := [rv x v218]) E wc_X1_lengthOf wi_RX1 hd_X1_lengthOf (ci := 1) rfl wl_RX6_203 wn_X1_lengthOf ws_X1_lengthOf dX6_writeCoded_233 (by decide) (Nat.le_of_ble_eq_true rfl) ⟨rfl, rfl⟩ (ctX1_lengthOf l x _ _ _ _ _) rfl (fun v233 M233 => ?_)
        refine r_i2l (pc := 236) E dX6_writeCoded_236 ?_
        refine r_iconst (pc := 237) (v := 2) E dX6_writeCoded_237 (by decide) ?_
        refine r_kVv (pc := 238) (As := [.long v233.toInt64, .int 2]) (rest := []) E wc_X8_addNumber wi_RX8 hd_X8_addNumber (ci := 8) rfl wl_RX6_121 wn_X8_addNumber ws_X8_addNumber dX6_writeCoded_238 (by decide) (Nat.le_of_ble_eq_true rfl) ⟨rfl, rfl⟩ (ctX8_addNumber l x _ _ _ _) rfl (fun v238 M238 => ?_)
        refine r_iload (pc := 241) E dX6_writeCoded_241 3 rfl ?_
        refine r_iload (pc := 243) E dX6_writeCoded_243 2 rfl ?_
        refine r_iadd (pc := 245) E dX6_writeCoded_245 ?_
        refine r_istore (pc := 246) (lf := fun v246 => [(8, v246), (2, p2), (3, p3), (4, p4)]) (lg := fun v246 => []) (lk := fun v246 => [(0, p0), (1, p1)]) E dX6_writeCoded_246 (by decide) (fun _ => rfl) (fun _ => rfl) (fun _ => rfl) (fun v246 => ?_)
        refine r_goto (pc := 248) (tgt := 204) E dX6_writeCoded_248 (by decide) ?_
        exact r_sub [1, 2, 3, 0] [] [0, 1] rfl rfl rfl (hk204 ((p0, p1, p2, p3, p4, v246)) _)
  have hL194 : ∀ (p0 : Option Nat) (p1 : Option Nat) (p2 : Int32) (p3 : Int32) (p4 : Int32) (q0 : Option Nat) (q1 : Int64) (q2 : Int32) (M : Mem), RT p l e rmX6_writeCoded s m args below meth c x 9 (QM below args s x (fun v : Int32 => some (.int v)) rmX6_writeCoded.cells rmX6_writeCoded.slots) 0 0 (fX6_writeCoded_L194 p0 p1 p2 p3 p4 q0 q1 q2 M) 194 [(2, p2), (3, p3), (4, p4)] [] [(0, p0), (1, p1)] [.int q2, .long q1, rv x q0] M := by
    intro p0 p1 p2 p3 p4 q0 q1 q2 M
    unfold fX6_writeCoded_L194
    refine r_kVv (pc := 194) (As := [.long q1, .int q2]) (rest := []) E wc_X8_addNumber wi_RX8 hd_X8_addNumber (ci := 8) rfl wl_RX6_121 wn_X8_addNumber ws_X8_addNumber dX6_writeCoded_194 (by decide) (Nat.le_of_ble_eq_true rfl) ⟨rfl, rfl⟩ (ctX8_addNumber l x _ _ _ _) rfl (fun v194 M194 => ?_)
    refine r_aload_n (pc := 197) E dX6_writeCoded_197 rfl 0 rfl ?_
    refine r_kVv (pc := 198) (As := []) (rest := []) E wc_X6_writeWeights wi_RX6 hd_X6_writeWeights (ci := 6) rfl wl_RX6_207 wn_X6_writeWeights ws_X6_writeWeights dX6_writeCoded_198 (by decide) (Nat.le_of_ble_eq_true rfl) ⟨rfl, rfl⟩ (ctX6_writeWeights l x _ _) rfl (fun v198 M198 => ?_)
    refine r_iconst (pc := 201) (v := 0) E dX6_writeCoded_201 (by decide) ?_
    refine r_istore (pc := 202) (lf := fun v202 => [(8, v202), (2, p2), (3, p3), (4, p4)]) (lg := fun v202 => []) (lk := fun v202 => [(0, p0), (1, p1)]) E dX6_writeCoded_202 (by decide) (fun _ => rfl) (fun _ => rfl) (fun _ => rfl) (fun v202 => ?_)
    exact r_sub [1, 2, 3, 0] [] [0, 1] rfl rfl rfl (hL204 p0 p1 p2 p3 p4 v202 _)
  have hL157 : ∀ (p0 : Option Nat) (p1 : Option Nat) (p2 : Int32) (p3 : Int32) (p4 : Int32) (p5 : Int32) (p6 : Int32) (q0 : Int32) (M : Mem), RT p l e rmX6_writeCoded s m args below meth c x 9 (QM below args s x (fun v : Int32 => some (.int v)) rmX6_writeCoded.cells rmX6_writeCoded.slots) 0 0 (fX6_writeCoded_L157 p0 p1 p2 p3 p4 p5 p6 q0 M) 157 [(2, p2), (3, p3), (4, p4), (5, p5), (6, p6)] [] [(0, p0), (1, p1)] [.int q0] M := by
    intro p0 p1 p2 p3 p4 p5 p6 q0 M
    unfold fX6_writeCoded_L157
    refine r_istore (pc := 157) (lf := fun v157 => [(7, v157), (2, p2), (3, p3), (4, p4), (5, p5), (6, p6)]) (lg := fun v157 => []) (lk := fun v157 => [(0, p0), (1, p1)]) E dX6_writeCoded_157 (by decide) (fun _ => rfl) (fun _ => rfl) (fun _ => rfl) (fun v157 => ?_)
    refine r_aload_n (pc := 159) E dX6_writeCoded_159 rfl 0 rfl ?_
    refine r_getR (pc := 160) E fd_6_1 wf_RX6_23 dX6_writeCoded_160 (fun v160 => ?_)
    refine r_iconst (pc := 163) (v := 2) E dX6_writeCoded_163 (by decide) ?_
    refine r_iload (pc := 164) E dX6_writeCoded_164 5 rfl ?_
    refine r_iconst (pc := 166) (v := 2) E dX6_writeCoded_166 (by decide) ?_
    refine r_ishl (pc := 167) E dX6_writeCoded_167 ?_
    refine r_ior (pc := 168) E dX6_writeCoded_168 ?_
    refine r_iload_n (pc := 169) E dX6_writeCoded_169 rfl 1 rfl ?_
    refine r_iconst (pc := 170) (v := 4) E dX6_writeCoded_170 (by decide) ?_
    refine r_ishl (pc := 171) E dX6_writeCoded_171 ?_
    refine r_ior (pc := 172) E dX6_writeCoded_172 ?_
    refine r_i2l (pc := 173) E dX6_writeCoded_173 ?_
    refine r_iload (pc := 174) E dX6_writeCoded_174 4 rfl ?_
    refine r_i2l (pc := 176) E dX6_writeCoded_176 ?_
    refine r_iconst (pc := 177) (v := 4) E dX6_writeCoded_177 (by decide) ?_
    refine r_iload (pc := 178) E dX6_writeCoded_178 0 rfl ?_
    refine r_iadd (pc := 180) E dX6_writeCoded_180 ?_
    refine r_lshl (pc := 181) E dX6_writeCoded_181 ?_
    refine r_lor (pc := 182) E dX6_writeCoded_182 ?_
    refine r_iload (pc := 183) E dX6_writeCoded_183 5 rfl ?_
    refine r_iconst (pc := 185) (v := 2) E dX6_writeCoded_185 (by decide) ?_
    refine r_icmp_ne (pc := 186) (tgt := 193) E dX6_writeCoded_186 (by decide) ?_ ?_
    · refine r_iconst (pc := 193) (v := 3) E dX6_writeCoded_193 (by decide) ?_
      exact r_sub [1, 2, 3] [] [0, 1] rfl rfl rfl (hL194 p0 p1 p2 p3 p4 v160 ((((2 ||| (shlI p6 2)) ||| (shlI p2 4)).toInt64) ||| (shlJ p5.toInt64 (4 + v157))) 3 _)
    · refine r_iconst (pc := 189) (v := 4) E dX6_writeCoded_189 (by decide) ?_
      refine r_goto (pc := 190) (tgt := 194) E dX6_writeCoded_190 (by decide) ?_
      exact r_sub [1, 2, 3] [] [0, 1] rfl rfl rfl (hL194 p0 p1 p2 p3 p4 v160 ((((2 ||| (shlI p6 2)) ||| (shlI p2 4)).toInt64) ||| (shlJ p5.toInt64 (4 + v157))) 4 _)
  have hL142 : ∀ (p0 : Option Nat) (p1 : Option Nat) (p2 : Int32) (p3 : Int32) (p4 : Int32) (p5 : Int32) (q0 : Int32) (M : Mem), RT p l e rmX6_writeCoded s m args below meth c x 9 (QM below args s x (fun v : Int32 => some (.int v)) rmX6_writeCoded.cells rmX6_writeCoded.slots) 0 0 (fX6_writeCoded_L142 p0 p1 p2 p3 p4 p5 q0 M) 142 [(2, p2), (3, p3), (4, p4), (5, p5)] [] [(0, p0), (1, p1)] [.int q0] M := by
    intro p0 p1 p2 p3 p4 p5 q0 M
    unfold fX6_writeCoded_L142
    refine r_istore (pc := 142) (lf := fun v142 => [(6, v142), (2, p2), (3, p3), (4, p4), (5, p5)]) (lg := fun v142 => []) (lk := fun v142 => [(0, p0), (1, p1)]) E dX6_writeCoded_142 (by decide) (fun _ => rfl) (fun _ => rfl) (fun _ => rfl) (fun v142 => ?_)
    refine r_iload (pc := 144) E dX6_writeCoded_144 0 rfl ?_
    refine r_iconst (pc := 146) (v := 2) E dX6_writeCoded_146 (by decide) ?_
    refine r_icmp_ne (pc := 147) (tgt := 155) E dX6_writeCoded_147 (by decide) ?_ ?_
    · refine r_bipush (pc := 155) (v := 10) E dX6_writeCoded_155 (by decide) ?_
      exact r_sub [1, 2, 3, 4, 0] [] [0, 1] rfl rfl rfl (hL157 p0 p1 p2 p3 p4 p5 v142 10 _)
    · refine r_bipush (pc := 150) (v := 14) E dX6_writeCoded_150 (by decide) ?_
      refine r_goto (pc := 152) (tgt := 157) E dX6_writeCoded_152 (by decide) ?_
      exact r_sub [1, 2, 3, 4, 0] [] [0, 1] rfl rfl rfl (hL157 p0 p1 p2 p3 p4 p5 v142 14 _)
  have hL74 : ∀ (p0 : Option Nat) (p1 : Option Nat) (p2 : Int32) (p3 : Int32) (p4 : Int32) (p5 : Int32) (p6 : Int32) (M : Mem), RT p l e rmX6_writeCoded s m args below meth c x 9 (QM below args s x (fun v : Int32 => some (.int v)) rmX6_writeCoded.cells rmX6_writeCoded.slots) 0 0 (fX6_writeCoded_L74 p0 p1 p2 p3 p4 p5 p6 M) 74 [(2, p2), (3, p3), (4, p4), (5, p5), (6, p6)] [] [(0, p0), (1, p1)] [] M := by
    intro p0 p1 p2 p3 p4 p5 p6 M
    refine r_lp (fi := fun a : Option Nat × Option Nat × Int32 × Int32 × Int32 × Int32 × Int32 => [(2, a.2.2.1), (3, a.2.2.2.1), (4, a.2.2.2.2.1), (5, a.2.2.2.2.2.1), (6, a.2.2.2.2.2.2)]) (fl := fun a : Option Nat × Option Nat × Int32 × Int32 × Int32 × Int32 × Int32 => []) (fr := fun a : Option Nat × Option Nat × Int32 × Int32 × Int32 × Int32 × Int32 => [(0, a.1), (1, a.2.1)]) (fs := fun a : Option Nat × Option Nat × Int32 × Int32 × Int32 × Int32 × Int32 => []) ?_ FU ((p0, p1, p2, p3, p4, p5, p6)) M
    intro k74 hk74 a M
    obtain ⟨p0, p1, p2, p3, p4, p5, p6⟩ := a
    show RT p l e rmX6_writeCoded s m args below meth c x 9 (QM below args s x (fun v : Int32 => some (.int v)) rmX6_writeCoded.cells rmX6_writeCoded.slots) 0 0 (fX6_writeCoded_B74 k74 p0 p1 p2 p3 p4 p5 p6 M) 74 [(2, p2), (3, p3), (4, p4), (5, p5), (6, p6)] [] [(0, p0), (1, p1)] [] M
    unfold fX6_writeCoded_B74
    refine r_iload (pc := 74) E dX6_writeCoded_74 4 rfl ?_
    refine r_iload_n (pc := 76) E dX6_writeCoded_76 rfl 0 rfl ?_
    refine r_icmp_ge (pc := 77) (tgt := 114) E dX6_writeCoded_77 (by decide) ?_ ?_
    · refine r_iload (pc := 114) E dX6_writeCoded_114 3 rfl ?_
      refine r_iload_n (pc := 116) E dX6_writeCoded_116 rfl 0 rfl ?_
      refine r_icmp_lt (pc := 117) (tgt := 122) E dX6_writeCoded_117 (by decide) ?_ ?_
      · refine r_iload_n (pc := 122) E dX6_writeCoded_122 rfl 1 rfl ?_
        refine r_if_eq (pc := 123) (tgt := 130) E dX6_writeCoded_123 (by decide) ?_ ?_
        · refine r_iload_n (pc := 130) E dX6_writeCoded_130 rfl 0 rfl ?_
          refine r_sipush (pc := 131) (v := 1024) E dX6_writeCoded_131 (by decide) ?_
          refine r_icmp_ge (pc := 134) (tgt := 141) E dX6_writeCoded_134 (by decide) ?_ ?_
          · refine r_iconst (pc := 141) (v := 2) E dX6_writeCoded_141 (by decide) ?_
            exact r_sub [0, 1, 2, 3] [] [0, 1] rfl rfl rfl (hL142 p0 p1 p2 p3 p4 p5 2 _)
          · refine r_iconst (pc := 137) (v := 1) E dX6_writeCoded_137 (by decide) ?_
            refine r_goto (pc := 138) (tgt := 142) E dX6_writeCoded_138 (by decide) ?_
            exact r_sub [0, 1, 2, 3] [] [0, 1] rfl rfl rfl (hL142 p0 p1 p2 p3 p4 p5 1 _)
        · refine r_iconst (pc := 126) (v := 0) E dX6_writeCoded_126 (by decide) ?_
          refine r_goto (pc := 127) (tgt := 142) E dX6_writeCoded_127 (by decide) ?_
          exact r_sub [0, 1, 2, 3] [] [0, 1] rfl rfl rfl (hL142 p0 p1 p2 p3 p4 p5 0 _)
      · refine r_iconst (pc := 120) (v := 0) E dX6_writeCoded_120 (by decide) ?_
        exact e_bool (pc := 121) E dX6_writeCoded_121
    · refine r_iload (pc := 80) E dX6_writeCoded_80 3 rfl ?_
      refine r_aload_n (pc := 82) E dX6_writeCoded_82 rfl 0 rfl ?_
      refine r_getR (pc := 83) E fd_6_3 wf_RX6_30 dX6_writeCoded_83 (fun v83 => ?_)
      refine r_aload_n (pc := 86) E dX6_writeCoded_86 rfl 1 rfl ?_
      refine r_iload (pc := 87) E dX6_writeCoded_87 4 rfl ?_
      refine r_iload (pc := 89) E dX6_writeCoded_89 4 rfl ?_
      refine r_iload (pc := 91) E dX6_writeCoded_91 2 rfl ?_
      refine r_iadd (pc := 93) E dX6_writeCoded_93 ?_
      refine r_iload_n (pc := 94) E dX6_writeCoded_94 rfl 0 rfl ?_
      refine r_mmin (pc := 95) E wl_RX6_100 wm_smin wi_math wm_cmin dX6_writeCoded_95 (by decide) (Nat.le_of_ble_eq_true rfl) ?_
      refine r_kVi (pc := 98) (As := [rv x p1, .int p6, .int (minI (p6 + p4) p2)]) (rest := [.int p5]) E wc_X1_lengthOf wi_RX1 hd_X1_lengthOf (ci := 1) rfl wl_RX6_203 wn_X1_lengthOf ws_X1_lengthOf dX6_writeCoded_98 (by decide) (Nat.le_of_ble_eq_true rfl) ⟨rfl, rfl⟩ (ctX1_lengthOf l x _ _ _ _ _) rfl (fun v98 M98 => ?_)
      refine r_iadd (pc := 101) E dX6_writeCoded_101 ?_
      refine r_istore (pc := 102) (lf := fun v102 => [(5, v102), (2, p2), (3, p3), (4, p4), (6, p6)]) (lg := fun v102 => []) (lk := fun v102 => [(0, p0), (1, p1)]) E dX6_writeCoded_102 (by decide) (fun _ => rfl) (fun _ => rfl) (fun _ => rfl) (fun v102 => ?_)
      refine r_iload (pc := 104) E dX6_writeCoded_104 4 rfl ?_
      refine r_iload (pc := 106) E dX6_writeCoded_106 3 rfl ?_
      refine r_iadd (pc := 108) E dX6_writeCoded_108 ?_
      refine r_istore (pc := 109) (lf := fun v109 => [(6, v109), (5, v102), (2, p2), (3, p3), (4, p4)]) (lg := fun v109 => []) (lk := fun v109 => [(0, p0), (1, p1)]) E dX6_writeCoded_109 (by decide) (fun _ => rfl) (fun _ => rfl) (fun _ => rfl) (fun v109 => ?_)
      refine r_goto (pc := 111) (tgt := 74) E dX6_writeCoded_111 (by decide) ?_
      exact r_sub [2, 3, 4, 1, 0] [] [0, 1] rfl rfl rfl (hk74 ((p0, p1, p2, p3, p4, v102, v109)) _)
  have hL68 : ∀ (p0 : Option Nat) (p1 : Option Nat) (p2 : Int32) (p3 : Int32) (p4 : Int32) (q0 : Int32) (q1 : Int32) (M : Mem), RT p l e rmX6_writeCoded s m args below meth c x 9 (QM below args s x (fun v : Int32 => some (.int v)) rmX6_writeCoded.cells rmX6_writeCoded.slots) 0 0 (fX6_writeCoded_L68 p0 p1 p2 p3 p4 q0 q1 M) 68 [(2, p2), (3, p3), (4, p4)] [] [(0, p0), (1, p1)] [.int q1, .int q0] M := by
    intro p0 p1 p2 p3 p4 q0 q1 M
    unfold fX6_writeCoded_L68
    refine r_iadd (pc := 68) E dX6_writeCoded_68 ?_
    refine r_istore (pc := 69) (lf := fun v69 => [(5, v69), (2, p2), (3, p3), (4, p4)]) (lg := fun v69 => []) (lk := fun v69 => [(0, p0), (1, p1)]) E dX6_writeCoded_69 (by decide) (fun _ => rfl) (fun _ => rfl) (fun _ => rfl) (fun v69 => ?_)
    refine r_iconst (pc := 71) (v := 0) E dX6_writeCoded_71 (by decide) ?_
    refine r_istore (pc := 72) (lf := fun v72 => [(6, v72), (5, v69), (2, p2), (3, p3), (4, p4)]) (lg := fun v72 => []) (lk := fun v72 => [(0, p0), (1, p1)]) E dX6_writeCoded_72 (by decide) (fun _ => rfl) (fun _ => rfl) (fun _ => rfl) (fun v72 => ?_)
    exact r_sub [2, 3, 4, 1, 0] [] [0, 1] rfl rfl rfl (hL74 p0 p1 p2 p3 p4 v69 v72 _)
  have hL45 : ∀ (p0 : Option Nat) (p1 : Option Nat) (p2 : Int32) (p3 : Int32) (q0 : Int32) (M : Mem), RT p l e rmX6_writeCoded s m args below meth c x 9 (QM below args s x (fun v : Int32 => some (.int v)) rmX6_writeCoded.cells rmX6_writeCoded.slots) 0 0 (fX6_writeCoded_L45 p0 p1 p2 p3 q0 M) 45 [(2, p2), (3, p3)] [] [(0, p0), (1, p1)] [.int q0] M := by
    intro p0 p1 p2 p3 q0 M
    unfold fX6_writeCoded_L45
    refine r_istore (pc := 45) (lf := fun v45 => [(4, v45), (2, p2), (3, p3)]) (lg := fun v45 => []) (lk := fun v45 => [(0, p0), (1, p1)]) E dX6_writeCoded_45 (by decide) (fun _ => rfl) (fun _ => rfl) (fun _ => rfl) (fun v45 => ?_)
    refine r_iconst (pc := 47) (v := 1) E dX6_writeCoded_47 (by decide) ?_
    refine r_aload_n (pc := 48) E dX6_writeCoded_48 rfl 0 rfl ?_
    refine r_getR (pc := 49) E fd_6_2 wf_RX6_65 dX6_writeCoded_49 (fun v49 => ?_)
    refine r_getI (pc := 52) E fd_11_1 wf_RX6_202 dX6_writeCoded_52 (fun v52 => ?_)
    refine r_iconst (pc := 55) (v := 2) E dX6_writeCoded_55 (by decide) ?_
    refine r_idiv (pc := 56) E dX6_writeCoded_56 (fun v56 => ?_)
    refine r_iadd (pc := 57) E dX6_writeCoded_57 ?_
    refine r_iload_n (pc := 58) E dX6_writeCoded_58 rfl 2 rfl ?_
    refine r_if_eq (pc := 59) (tgt := 66) E dX6_writeCoded_59 (by decide) ?_ ?_
    · refine r_bipush (pc := 66) (v := 6) E dX6_writeCoded_66 (by decide) ?_
      exact r_sub [1, 2, 0] [] [0, 1] rfl rfl rfl (hL68 p0 p1 p2 p3 v45 (1 + v56) 6 _)
    · refine r_iconst (pc := 62) (v := 0) E dX6_writeCoded_62 (by decide) ?_
      refine r_goto (pc := 63) (tgt := 68) E dX6_writeCoded_63 (by decide) ?_
      exact r_sub [1, 2, 0] [] [0, 1] rfl rfl rfl (hL68 p0 p1 p2 p3 v45 (1 + v56) 0 _)
  have hL31 : ∀ (p0 : Option Nat) (p1 : Option Nat) (p2 : Int32) (q0 : Int32) (M : Mem), RT p l e rmX6_writeCoded s m args below meth c x 9 (QM below args s x (fun v : Int32 => some (.int v)) rmX6_writeCoded.cells rmX6_writeCoded.slots) 0 0 (fX6_writeCoded_L31 p0 p1 p2 q0 M) 31 [(2, p2)] [] [(0, p0), (1, p1)] [.int q0] M := by
    intro p0 p1 p2 q0 M
    unfold fX6_writeCoded_L31
    refine r_istore_n (pc := 31) (lf := fun v31 => [(3, v31), (2, p2)]) (lg := fun v31 => []) (lk := fun v31 => [(0, p0), (1, p1)]) E dX6_writeCoded_31 rfl (by decide) (fun _ => rfl) (fun _ => rfl) (fun _ => rfl) (fun v31 => ?_)
    refine r_iload_n (pc := 32) E dX6_writeCoded_32 rfl 0 rfl ?_
    refine r_if_eq (pc := 33) (tgt := 40) E dX6_writeCoded_33 (by decide) ?_ ?_
    · refine r_iload_n (pc := 40) E dX6_writeCoded_40 rfl 1 rfl ?_
      refine r_iconst (pc := 41) (v := 3) E dX6_writeCoded_41 (by decide) ?_
      refine r_iadd (pc := 42) E dX6_writeCoded_42 ?_
      refine r_iconst (pc := 43) (v := 4) E dX6_writeCoded_43 (by decide) ?_
      refine r_idiv (pc := 44) E dX6_writeCoded_44 (fun v44 => ?_)
      exact r_sub [1, 0] [] [0, 1] rfl rfl rfl (hL45 p0 p1 p2 v31 v44 _)
    · refine r_iload_n (pc := 36) E dX6_writeCoded_36 rfl 1 rfl ?_
      refine r_goto (pc := 37) (tgt := 45) E dX6_writeCoded_37 (by decide) ?_
      exact r_sub [1, 0] [] [0, 1] rfl rfl rfl (hL45 p0 p1 p2 v31 p2 _)
  show RT p l e rmX6_writeCoded s m args below meth c x 9 (QM below args s x (fun v : Int32 => some (.int v)) rmX6_writeCoded.cells rmX6_writeCoded.slots) 0 0 (fX6_writeCoded a0 a1 a2 M) 0 [(2, a2)] [] [(0, a0), (1, a1)] [] M
  unfold fX6_writeCoded
  refine r_aload_n (pc := 0) E dX6_writeCoded_0 rfl 0 rfl ?_
  refine r_getR (pc := 1) E fd_6_2 wf_RX6_65 dX6_writeCoded_1 (fun v1 => ?_)
  refine r_aload_n (pc := 4) E dX6_writeCoded_4 rfl 1 rfl ?_
  refine r_kVv (pc := 5) (As := [rv x a1]) (rest := []) E wc_X11_make wi_RX11 hd_X11_make (ci := 11) rfl wl_RX6_192 wn_X11_make ws_X11_make dX6_writeCoded_5 (by decide) (Nat.le_of_ble_eq_true rfl) ⟨rfl, rfl⟩ (ctX11_make l x _ _ _) rfl (fun v5 M5 => ?_)
  refine r_aload_n (pc := 8) E dX6_writeCoded_8 rfl 0 rfl ?_
  refine r_getR (pc := 9) E fd_6_3 wf_RX6_30 dX6_writeCoded_9 (fun v9 => ?_)
  refine r_aload_n (pc := 12) E dX6_writeCoded_12 rfl 0 rfl ?_
  refine r_getR (pc := 13) E fd_6_2 wf_RX6_65 dX6_writeCoded_13 (fun v13 => ?_)
  refine r_kVv (pc := 16) (As := [rv x v13]) (rest := []) E wc_X1_build wi_RX1 hd_X1_build (ci := 1) rfl wl_RX6_198 wn_X1_build ws_X1_build dX6_writeCoded_16 (by decide) (Nat.le_of_ble_eq_true rfl) ⟨rfl, rfl⟩ (ctX1_build l x _ _ _) rfl (fun v16 M16 => ?_)
  refine r_iload_n (pc := 19) E dX6_writeCoded_19 rfl 0 rfl ?_
  refine r_sipush (pc := 20) (v := 256) E dX6_writeCoded_20 (by decide) ?_
  refine r_icmp_ge (pc := 23) (tgt := 30) E dX6_writeCoded_23 (by decide) ?_ ?_
  · refine r_iconst (pc := 30) (v := 0) E dX6_writeCoded_30 (by decide) ?_
    exact r_sub [0] [] [0, 1] rfl rfl rfl (hL31 a0 a1 a2 0 _)
  · refine r_iconst (pc := 26) (v := 1) E dX6_writeCoded_26 (by decide) ?_
    refine r_goto (pc := 27) (tgt := 31) E dX6_writeCoded_27 (by decide) ?_
    exact r_sub [0] [] [0, 1] rfl rfl rfl (hL31 a0 a1 a2 1 _)
def fX6_writeLetters_L134 (q0 : Option Nat) (q1 : Option Nat) (q2 : Int32) (q3 : Int32) (M : Mem) : Option (Unit × Mem) :=
  bo (chk M q0 8) fun _ => bd (fX8_addFrom q0 q1 q2 q3 M) fun v134 M134 =>
  some ((), M134)
def fX6_writeLetters_L119 (p0 : Option Nat) (p1 : Option Nat) (p2 : Int32) (p3 : Int32) (M : Mem) : Option (Unit × Mem) :=
  bo (gR M p0 6 1) fun v120 =>
  if p3 = 0 then (
    fX6_writeLetters_L134 v120 p1 0 p2 M
  ) else (
    fX6_writeLetters_L134 v120 p1 0 1 M
  )
def fX6_writeLetters_L78 (p0 : Option Nat) (p1 : Option Nat) (p2 : Int32) (p3 : Int32) (q0 : Int32) (M : Mem) : Option (Unit × Mem) :=
  bn (q0) fun v78 =>
  if 32 ≤ p2 then (
    bo (gR M p0 6 1) fun v103 =>
    bo (chk M v103 8) fun _ => bd (fX8_addNumber v103 (((v78 ||| 4) ||| (shlI p2 4)).toInt64) 2 M) fun v116 M116 =>
    fX6_writeLetters_L119 p0 p1 p2 p3 M116
  ) else (
    bo (gR M p0 6 1) fun v87 =>
    bo (chk M v87 8) fun _ => bd (fX8_add v87 (v78 ||| (shlI p2 3)) M) fun v96 M96 =>
    fX6_writeLetters_L119 p0 p1 p2 p3 M96
  )
def fX6_writeLetters_L69 (p0 : Option Nat) (p1 : Option Nat) (p2 : Int32) (p3 : Int32) (M : Mem) : Option (Unit × Mem) :=
  if p3 = 0 then (
    fX6_writeLetters_L78 p0 p1 p2 p3 0 M
  ) else (
    fX6_writeLetters_L78 p0 p1 p2 p3 1 M
  )
def fX6_writeLetters_L32 (p0 : Option Nat) (p1 : Option Nat) (p2 : Int32) (q0 : Int32) (M : Mem) : Option (Unit × Mem) :=
  bn (q0) fun v32 =>
  if v32 = 0 then (
    bo (gI M p0 6 14) fun v38 =>
    if v38 = 2 then (
      if p2 < 32 then (
        fX6_writeLetters_L69 p0 p1 p2 v32 M
      ) else (
        bo (chk M p0 6) fun _ => bd (fX6_allLow p0 p1 M) fun v53 M53 =>
        if v53 = 0 then (
          fX6_writeLetters_L69 p0 p1 p2 v32 M53
        ) else (
          bo (chk M53 p0 6) fun _ => bd (fX6_writeCoded p0 p1 p2 M53) fun v62 M62 =>
          if v62 = 0 then (
            fX6_writeLetters_L69 p0 p1 p2 v32 M62
          ) else (
            some ((), M62)
          )
        )
      )
    ) else (
      fX6_writeLetters_L69 p0 p1 p2 v32 M
    )
  ) else (
    fX6_writeLetters_L69 p0 p1 p2 v32 M
  )
def fX6_writeLetters_L31 (p0 : Option Nat) (p1 : Option Nat) (p2 : Int32) (M : Mem) : Option (Unit × Mem) :=
  fX6_writeLetters_L32 p0 p1 p2 0 M
def fX6_writeLetters (a0 : Option Nat) (M : Mem) : Option (Unit × Mem) :=
  bo (gR M a0 6 0) fun v1 =>
  bo (gR M v1 3 0) fun v4 =>
  bn (v4) fun v7 =>
  bo (gI M v7 8 1) fun v9 =>
  bn (v9) fun v12 =>
  if v12 ≤ 1 then (
    fX6_writeLetters_L31 a0 v7 v12 M
  ) else (
    bo (chk M v7 8) fun _ => bd (fX8_same v7 0 v12 M) fun v21 M21 =>
    if v21 = 0 then (
      fX6_writeLetters_L31 a0 v7 v12 M21
    ) else (
      fX6_writeLetters_L32 a0 v7 v12 1 M21
    )
  )
def rmX6_writeLetters : Room := { frames := 4, cells := 0, slots := 0, locals := 98 }
set_option maxRecDepth 100000 in
set_option maxHeartbeats 4000000 in
theorem ctX6_writeLetters (l : Launch) (x : Cx) (a0 : Option Nat) (M : Mem) (v : Unit) (N : Mem) (h : fX6_writeLetters a0 M = some (v, N)) : CT l yX6_writeLetters cX6_writeLetters 5 (none) rmX6_writeLetters x [rv x a0] M none N := by
  refine ct_mk (enc := fun _ : Unit => none) (li := []) (ll := []) (lr := [(0, a0)]) (by decide +kernel) (by simp [lg_sl, rv_cat, cat_int, cat_long]) (by simp [flat, lv_args, rv_cat, cat_int, cat_long]) h ?_
  intro p e s m args below meth c E
  have hL134 : ∀ (q0 : Option Nat) (q1 : Option Nat) (q2 : Int32) (q3 : Int32) (M : Mem), RT p l e rmX6_writeLetters s m args below meth c x 5 (QM below args s x (fun _ : Unit => none) rmX6_writeLetters.cells rmX6_writeLetters.slots) 0 0 (fX6_writeLetters_L134 q0 q1 q2 q3 M) 134 [] [] [] [.int q3, .int q2, rv x q1, rv x q0] M := by
    intro q0 q1 q2 q3 M
    unfold fX6_writeLetters_L134
    refine r_kVv (pc := 134) (As := [rv x q1, .int q2, .int q3]) (rest := []) E wc_X8_addFrom wi_RX8 hd_X8_addFrom (ci := 8) rfl wl_RX6_134 wn_X8_addFrom ws_X8_addFrom dX6_writeLetters_134 (by decide) (Nat.le_of_ble_eq_true rfl) ⟨rfl, rfl⟩ (ctX8_addFrom l x _ _ _ _ _) rfl (fun v134 M134 => ?_)
    exact e_void (pc := 137) E dX6_writeLetters_137
  have hL119 : ∀ (p0 : Option Nat) (p1 : Option Nat) (p2 : Int32) (p3 : Int32) (M : Mem), RT p l e rmX6_writeLetters s m args below meth c x 5 (QM below args s x (fun _ : Unit => none) rmX6_writeLetters.cells rmX6_writeLetters.slots) 0 0 (fX6_writeLetters_L119 p0 p1 p2 p3 M) 119 [(2, p2), (3, p3)] [] [(0, p0), (1, p1)] [] M := by
    intro p0 p1 p2 p3 M
    unfold fX6_writeLetters_L119
    refine r_aload_n (pc := 119) E dX6_writeLetters_119 rfl 0 rfl ?_
    refine r_getR (pc := 120) E fd_6_1 wf_RX6_23 dX6_writeLetters_120 (fun v120 => ?_)
    refine r_aload_n (pc := 123) E dX6_writeLetters_123 rfl 1 rfl ?_
    refine r_iconst (pc := 124) (v := 0) E dX6_writeLetters_124 (by decide) ?_
    refine r_iload_n (pc := 125) E dX6_writeLetters_125 rfl 1 rfl ?_
    refine r_if_eq (pc := 126) (tgt := 133) E dX6_writeLetters_126 (by decide) ?_ ?_
    · refine r_iload_n (pc := 133) E dX6_writeLetters_133 rfl 0 rfl ?_
      exact r_sub [] [] [] rfl rfl rfl (hL134 v120 p1 0 p2 _)
    · refine r_iconst (pc := 129) (v := 1) E dX6_writeLetters_129 (by decide) ?_
      refine r_goto (pc := 130) (tgt := 134) E dX6_writeLetters_130 (by decide) ?_
      exact r_sub [] [] [] rfl rfl rfl (hL134 v120 p1 0 1 _)
  have hL78 : ∀ (p0 : Option Nat) (p1 : Option Nat) (p2 : Int32) (p3 : Int32) (q0 : Int32) (M : Mem), RT p l e rmX6_writeLetters s m args below meth c x 5 (QM below args s x (fun _ : Unit => none) rmX6_writeLetters.cells rmX6_writeLetters.slots) 0 0 (fX6_writeLetters_L78 p0 p1 p2 p3 q0 M) 78 [(2, p2), (3, p3)] [] [(0, p0), (1, p1)] [.int q0] M := by
    intro p0 p1 p2 p3 q0 M
    unfold fX6_writeLetters_L78
    refine r_istore (pc := 78) (lf := fun v78 => [(4, v78), (2, p2), (3, p3)]) (lg := fun v78 => []) (lk := fun v78 => [(0, p0), (1, p1)]) E dX6_writeLetters_78 (by decide) (fun _ => rfl) (fun _ => rfl) (fun _ => rfl) (fun v78 => ?_)
    refine r_iload_n (pc := 80) E dX6_writeLetters_80 rfl 1 rfl ?_
    refine r_bipush (pc := 81) (v := 32) E dX6_writeLetters_81 (by decide) ?_
    refine r_icmp_ge (pc := 83) (tgt := 102) E dX6_writeLetters_83 (by decide) ?_ ?_
    · refine r_aload_n (pc := 102) E dX6_writeLetters_102 rfl 0 rfl ?_
      refine r_getR (pc := 103) E fd_6_1 wf_RX6_23 dX6_writeLetters_103 (fun v103 => ?_)
      refine r_iload (pc := 106) E dX6_writeLetters_106 0 rfl ?_
      refine r_iconst (pc := 108) (v := 4) E dX6_writeLetters_108 (by decide) ?_
      refine r_ior (pc := 109) E dX6_writeLetters_109 ?_
      refine r_iload_n (pc := 110) E dX6_writeLetters_110 rfl 1 rfl ?_
      refine r_iconst (pc := 111) (v := 4) E dX6_writeLetters_111 (by decide) ?_
      refine r_ishl (pc := 112) E dX6_writeLetters_112 ?_
      refine r_ior (pc := 113) E dX6_writeLetters_113 ?_
      refine r_i2l (pc := 114) E dX6_writeLetters_114 ?_
      refine r_iconst (pc := 115) (v := 2) E dX6_writeLetters_115 (by decide) ?_
      refine r_kVv (pc := 116) (As := [.long (((v78 ||| 4) ||| (shlI p2 4)).toInt64), .int 2]) (rest := []) E wc_X8_addNumber wi_RX8 hd_X8_addNumber (ci := 8) rfl wl_RX6_121 wn_X8_addNumber ws_X8_addNumber dX6_writeLetters_116 (by decide) (Nat.le_of_ble_eq_true rfl) ⟨rfl, rfl⟩ (ctX8_addNumber l x _ _ _ _) rfl (fun v116 M116 => ?_)
      exact r_sub [1, 2] [] [0, 1] rfl rfl rfl (hL119 p0 p1 p2 p3 _)
    · refine r_aload_n (pc := 86) E dX6_writeLetters_86 rfl 0 rfl ?_
      refine r_getR (pc := 87) E fd_6_1 wf_RX6_23 dX6_writeLetters_87 (fun v87 => ?_)
      refine r_iload (pc := 90) E dX6_writeLetters_90 0 rfl ?_
      refine r_iload_n (pc := 92) E dX6_writeLetters_92 rfl 1 rfl ?_
      refine r_iconst (pc := 93) (v := 3) E dX6_writeLetters_93 (by decide) ?_
      refine r_ishl (pc := 94) E dX6_writeLetters_94 ?_
      refine r_ior (pc := 95) E dX6_writeLetters_95 ?_
      refine r_kVv (pc := 96) (As := [.int (v78 ||| (shlI p2 3))]) (rest := []) E wc_X8_add wi_RX8 hd_X8_add (ci := 8) rfl wl_RX6_127 wn_X8_add ws_X8_add dX6_writeLetters_96 (by decide) (Nat.le_of_ble_eq_true rfl) ⟨rfl, rfl⟩ (ctX8_add l x _ _ _) rfl (fun v96 M96 => ?_)
      refine r_goto (pc := 99) (tgt := 119) E dX6_writeLetters_99 (by decide) ?_
      exact r_sub [1, 2] [] [0, 1] rfl rfl rfl (hL119 p0 p1 p2 p3 _)
  have hL69 : ∀ (p0 : Option Nat) (p1 : Option Nat) (p2 : Int32) (p3 : Int32) (M : Mem), RT p l e rmX6_writeLetters s m args below meth c x 5 (QM below args s x (fun _ : Unit => none) rmX6_writeLetters.cells rmX6_writeLetters.slots) 0 0 (fX6_writeLetters_L69 p0 p1 p2 p3 M) 69 [(2, p2), (3, p3)] [] [(0, p0), (1, p1)] [] M := by
    intro p0 p1 p2 p3 M
    unfold fX6_writeLetters_L69
    refine r_iload_n (pc := 69) E dX6_writeLetters_69 rfl 1 rfl ?_
    refine r_if_eq (pc := 70) (tgt := 77) E dX6_writeLetters_70 (by decide) ?_ ?_
    · refine r_iconst (pc := 77) (v := 0) E dX6_writeLetters_77 (by decide) ?_
      exact r_sub [0, 1] [] [0, 1] rfl rfl rfl (hL78 p0 p1 p2 p3 0 _)
    · refine r_iconst (pc := 73) (v := 1) E dX6_writeLetters_73 (by decide) ?_
      refine r_goto (pc := 74) (tgt := 78) E dX6_writeLetters_74 (by decide) ?_
      exact r_sub [0, 1] [] [0, 1] rfl rfl rfl (hL78 p0 p1 p2 p3 1 _)
  have hL32 : ∀ (p0 : Option Nat) (p1 : Option Nat) (p2 : Int32) (q0 : Int32) (M : Mem), RT p l e rmX6_writeLetters s m args below meth c x 5 (QM below args s x (fun _ : Unit => none) rmX6_writeLetters.cells rmX6_writeLetters.slots) 0 0 (fX6_writeLetters_L32 p0 p1 p2 q0 M) 32 [(2, p2)] [] [(0, p0), (1, p1)] [.int q0] M := by
    intro p0 p1 p2 q0 M
    unfold fX6_writeLetters_L32
    refine r_istore_n (pc := 32) (lf := fun v32 => [(3, v32), (2, p2)]) (lg := fun v32 => []) (lk := fun v32 => [(0, p0), (1, p1)]) E dX6_writeLetters_32 rfl (by decide) (fun _ => rfl) (fun _ => rfl) (fun _ => rfl) (fun v32 => ?_)
    refine r_iload_n (pc := 33) E dX6_writeLetters_33 rfl 0 rfl ?_
    refine r_if_ne (pc := 34) (tgt := 69) E dX6_writeLetters_34 (by decide) ?_ ?_
    · exact r_sub [1, 0] [] [0, 1] rfl rfl rfl (hL69 p0 p1 p2 v32 _)
    · refine r_aload_n (pc := 37) E dX6_writeLetters_37 rfl 0 rfl ?_
      refine r_getI (pc := 38) E fd_6_14 wf_RX6_73 dX6_writeLetters_38 (fun v38 => ?_)
      refine r_iconst (pc := 41) (v := 2) E dX6_writeLetters_41 (by decide) ?_
      refine r_icmp_ne (pc := 42) (tgt := 69) E dX6_writeLetters_42 (by decide) ?_ ?_
      · exact r_sub [1, 0] [] [0, 1] rfl rfl rfl (hL69 p0 p1 p2 v32 _)
      · refine r_iload_n (pc := 45) E dX6_writeLetters_45 rfl 1 rfl ?_
        refine r_bipush (pc := 46) (v := 32) E dX6_writeLetters_46 (by decide) ?_
        refine r_icmp_lt (pc := 48) (tgt := 69) E dX6_writeLetters_48 (by decide) ?_ ?_
        · exact r_sub [1, 0] [] [0, 1] rfl rfl rfl (hL69 p0 p1 p2 v32 _)
        · refine r_aload_n (pc := 51) E dX6_writeLetters_51 rfl 0 rfl ?_
          refine r_aload_n (pc := 52) E dX6_writeLetters_52 rfl 1 rfl ?_
          refine r_kVi (pc := 53) (As := [rv x p1]) (rest := []) E wc_X6_allLow wi_RX6 hd_X6_allLow (ci := 6) rfl wl_RX6_180 wn_X6_allLow ws_X6_allLow dX6_writeLetters_53 (by decide) (Nat.le_of_ble_eq_true rfl) ⟨rfl, rfl⟩ (ctX6_allLow l x _ _ _) rfl (fun v53 M53 => ?_)
          refine r_if_eq (pc := 56) (tgt := 69) E dX6_writeLetters_56 (by decide) ?_ ?_
          · exact r_sub [1, 0] [] [0, 1] rfl rfl rfl (hL69 p0 p1 p2 v32 _)
          · refine r_aload_n (pc := 59) E dX6_writeLetters_59 rfl 0 rfl ?_
            refine r_aload_n (pc := 60) E dX6_writeLetters_60 rfl 1 rfl ?_
            refine r_iload_n (pc := 61) E dX6_writeLetters_61 rfl 1 rfl ?_
            refine r_kVi (pc := 62) (As := [rv x p1, .int p2]) (rest := []) E wc_X6_writeCoded wi_RX6 hd_X6_writeCoded (ci := 6) rfl wl_RX6_184 wn_X6_writeCoded ws_X6_writeCoded dX6_writeLetters_62 (by decide) (Nat.le_of_ble_eq_true rfl) ⟨rfl, rfl⟩ (ctX6_writeCoded l x _ _ _ _) rfl (fun v62 M62 => ?_)
            refine r_if_eq (pc := 65) (tgt := 69) E dX6_writeLetters_65 (by decide) ?_ ?_
            · exact r_sub [1, 0] [] [0, 1] rfl rfl rfl (hL69 p0 p1 p2 v32 _)
            · exact e_void (pc := 68) E dX6_writeLetters_68
  have hL31 : ∀ (p0 : Option Nat) (p1 : Option Nat) (p2 : Int32) (M : Mem), RT p l e rmX6_writeLetters s m args below meth c x 5 (QM below args s x (fun _ : Unit => none) rmX6_writeLetters.cells rmX6_writeLetters.slots) 0 0 (fX6_writeLetters_L31 p0 p1 p2 M) 31 [(2, p2)] [] [(0, p0), (1, p1)] [] M := by
    intro p0 p1 p2 M
    unfold fX6_writeLetters_L31
    refine r_iconst (pc := 31) (v := 0) E dX6_writeLetters_31 (by decide) ?_
    exact r_sub [0] [] [0, 1] rfl rfl rfl (hL32 p0 p1 p2 0 _)
  show RT p l e rmX6_writeLetters s m args below meth c x 5 (QM below args s x (fun _ : Unit => none) rmX6_writeLetters.cells rmX6_writeLetters.slots) 0 0 (fX6_writeLetters a0 M) 0 [] [] [(0, a0)] [] M
  unfold fX6_writeLetters
  refine r_aload_n (pc := 0) E dX6_writeLetters_0 rfl 0 rfl ?_
  refine r_getR (pc := 1) E fd_6_0 wf_RX6_12 dX6_writeLetters_1 (fun v1 => ?_)
  refine r_getR (pc := 4) E fd_3_0 wf_RX6_177 dX6_writeLetters_4 (fun v4 => ?_)
  refine r_astore_n (pc := 7) (lf := fun v7 => []) (lg := fun v7 => []) (lk := fun v7 => [(1, v7), (0, a0)]) E dX6_writeLetters_7 rfl (by decide) (fun _ => rfl) (fun _ => rfl) (fun _ => rfl) (fun v7 => ?_)
  refine r_aload_n (pc := 8) E dX6_writeLetters_8 rfl 0 rfl ?_
  refine r_getI (pc := 9) E fd_8_1 wf_RX6_77 dX6_writeLetters_9 (fun v9 => ?_)
  refine r_istore_n (pc := 12) (lf := fun v12 => [(2, v12)]) (lg := fun v12 => []) (lk := fun v12 => [(1, v7), (0, a0)]) E dX6_writeLetters_12 rfl (by decide) (fun _ => rfl) (fun _ => rfl) (fun _ => rfl) (fun v12 => ?_)
  refine r_iload_n (pc := 13) E dX6_writeLetters_13 rfl 0 rfl ?_
  refine r_iconst (pc := 14) (v := 1) E dX6_writeLetters_14 (by decide) ?_
  refine r_icmp_le (pc := 15) (tgt := 31) E dX6_writeLetters_15 (by decide) ?_ ?_
  · exact r_sub [0] [] [1, 0] rfl rfl rfl (hL31 a0 v7 v12 _)
  · refine r_aload_n (pc := 18) E dX6_writeLetters_18 rfl 0 rfl ?_
    refine r_iconst (pc := 19) (v := 0) E dX6_writeLetters_19 (by decide) ?_
    refine r_iload_n (pc := 20) E dX6_writeLetters_20 rfl 0 rfl ?_
    refine r_kVi (pc := 21) (As := [.int 0, .int v12]) (rest := []) E wc_X8_same wi_RX8 hd_X8_same (ci := 8) rfl wl_RX6_106 wn_X8_same ws_X8_same dX6_writeLetters_21 (by decide) (Nat.le_of_ble_eq_true rfl) ⟨rfl, rfl⟩ (ctX8_same l x _ _ _ _) rfl (fun v21 M21 => ?_)
    refine r_if_eq (pc := 24) (tgt := 31) E dX6_writeLetters_24 (by decide) ?_ ?_
    · exact r_sub [0] [] [1, 0] rfl rfl rfl (hL31 a0 v7 v12 _)
    · refine r_iconst (pc := 27) (v := 1) E dX6_writeLetters_27 (by decide) ?_
      refine r_goto (pc := 28) (tgt := 32) E dX6_writeLetters_28 (by decide) ?_
      exact r_sub [0] [] [1, 0] rfl rfl rfl (hL32 a0 v7 v12 1 _)
def fX6_symbolOf_L81 (p5 : Int32) (M : Mem) : Option (Int32 × Mem) :=
  some (p5, M)
def fX6_symbolOf_B54 (k54 : Int32 × Option Nat × Int32 × Int32 → Mem → Option (Int32 × Mem)) (p3 : Int32) (p4 : Option Nat) (p5 : Int32) (p6 : Int32) (M : Mem) : Option (Int32 × Mem) :=
  bo (aL M p4) fun v58 =>
  if v58 ≤ p6 then (
    fX6_symbolOf_L81 p5 M
  ) else (
    bo (aI M p4 15 p6) fun v66 =>
    if p3 < v66 then (
      fX6_symbolOf_L81 p5 M
    ) else (
      bn (p6) fun v73 =>
      bn (p6 + 1) fun v75 =>
      k54 ((p3, p4, v73, v75)) M
    )
  )
def fX6_symbolOf_L54 (p3 : Int32) (p4 : Option Nat) (p5 : Int32) (p6 : Int32) (M : Mem) : Option (Int32 × Mem) :=
  lp (fun k54 (a : Int32 × Option Nat × Int32 × Int32) M => fX6_symbolOf_B54 k54 a.1 a.2.1 a.2.2.1 a.2.2.2 M) FU ((p3, p4, p5, p6)) M
def fX6_symbolOf_L41 (p1 : Int32) (q0 : Int32) (M : Mem) : Option (Int32 × Mem) :=
  bn (q0) fun v41 =>
  bd (fX12_baseOf p1 M) fun v43 M43 =>
  bn (v43) fun v46 =>
  bn (0) fun v49 =>
  bn (1) fun v52 =>
  fX6_symbolOf_L54 v41 v46 v49 v52 M43
def fX6_symbolOf (a0 : Option Nat) (a1 : Int32) (a2 : Int32) (M : Mem) : Option (Int32 × Mem) :=
  if a1 = 1 then (
    bo (gR M a0 6 8) fun v6 =>
    bo (aI M v6 15 a2) fun v10 =>
    bd (fX12_logOf v10.toInt64 M) fun v12 M12 =>
    some (v12, M12)
  ) else (
    if a1 = 0 then (
      bo (gR M a0 6 0) fun v21 =>
      bo (gR M v21 3 2) fun v24 =>
      bo (aI M v24 15 a2) fun v28 =>
      fX6_symbolOf_L41 a1 v28 M
    ) else (
      bo (gR M a0 6 0) fun v33 =>
      bo (gR M v33 3 3) fun v36 =>
      bo (aI M v36 15 a2) fun v40 =>
      fX6_symbolOf_L41 a1 v40 M
    )
  )
def rmX6_symbolOf : Room := { frames := 1, cells := 0, slots := 0, locals := 23 }
set_option maxRecDepth 100000 in
set_option maxHeartbeats 4000000 in
theorem ctX6_symbolOf (l : Launch) (x : Cx) (a0 : Option Nat) (a1 : Int32) (a2 : Int32) (M : Mem) (v : Int32) (N : Mem) (h : fX6_symbolOf a0 a1 a2 M = some (v, N)) : CT l yX6_symbolOf cX6_symbolOf 7 (some (FieldType.int)) rmX6_symbolOf x [rv x a0, .int a1, .int a2] M (some (.int v)) N := by
  refine ct_mk (enc := fun v : Int32 => some (.int v)) (li := [(1, a1), (2, a2)]) (ll := []) (lr := [(0, a0)]) (by decide +kernel) (by simp [lg_sl, rv_cat, cat_int, cat_long]) (by simp [flat, lv_args, rv_cat, cat_int, cat_long]) h ?_
  intro p e s m args below meth c E
  have hL81 : ∀ (p5 : Int32) (M : Mem), RT p l e rmX6_symbolOf s m args below meth c x 7 (QM below args s x (fun v : Int32 => some (.int v)) rmX6_symbolOf.cells rmX6_symbolOf.slots) 0 0 (fX6_symbolOf_L81 p5 M) 81 [(5, p5)] [] [] [] M := by
    intro p5 M
    unfold fX6_symbolOf_L81
    refine r_iload (pc := 81) E dX6_symbolOf_81 0 rfl ?_
    exact e_int (pc := 83) E dX6_symbolOf_83
  have hL54 : ∀ (p3 : Int32) (p4 : Option Nat) (p5 : Int32) (p6 : Int32) (M : Mem), RT p l e rmX6_symbolOf s m args below meth c x 7 (QM below args s x (fun v : Int32 => some (.int v)) rmX6_symbolOf.cells rmX6_symbolOf.slots) 0 0 (fX6_symbolOf_L54 p3 p4 p5 p6 M) 54 [(3, p3), (5, p5), (6, p6)] [] [(4, p4)] [] M := by
    intro p3 p4 p5 p6 M
    refine r_lp (fi := fun a : Int32 × Option Nat × Int32 × Int32 => [(3, a.1), (5, a.2.2.1), (6, a.2.2.2)]) (fl := fun a : Int32 × Option Nat × Int32 × Int32 => []) (fr := fun a : Int32 × Option Nat × Int32 × Int32 => [(4, a.2.1)]) (fs := fun a : Int32 × Option Nat × Int32 × Int32 => []) ?_ FU ((p3, p4, p5, p6)) M
    intro k54 hk54 a M
    obtain ⟨p3, p4, p5, p6⟩ := a
    show RT p l e rmX6_symbolOf s m args below meth c x 7 (QM below args s x (fun v : Int32 => some (.int v)) rmX6_symbolOf.cells rmX6_symbolOf.slots) 0 0 (fX6_symbolOf_B54 k54 p3 p4 p5 p6 M) 54 [(3, p3), (5, p5), (6, p6)] [] [(4, p4)] [] M
    unfold fX6_symbolOf_B54
    refine r_iload (pc := 54) E dX6_symbolOf_54 2 rfl ?_
    refine r_aload (pc := 56) E dX6_symbolOf_56 0 rfl ?_
    refine r_alen (pc := 58) E dX6_symbolOf_58 (fun v58 => ?_)
    refine r_icmp_ge (pc := 59) (tgt := 81) E dX6_symbolOf_59 (by decide) ?_ ?_
    · exact r_sub [1] [] [] rfl rfl rfl (hL81 p5 _)
    · refine r_aload (pc := 62) E dX6_symbolOf_62 0 rfl ?_
      refine r_iload (pc := 64) E dX6_symbolOf_64 2 rfl ?_
      refine r_iaload (pc := 66) E dX6_symbolOf_66 (fun v66 => ?_)
      refine r_iload_n (pc := 67) E dX6_symbolOf_67 rfl 0 rfl ?_
      refine r_icmp_gt (pc := 68) (tgt := 81) E dX6_symbolOf_68 (by decide) ?_ ?_
      · exact r_sub [1] [] [] rfl rfl rfl (hL81 p5 _)
      · refine r_iload (pc := 71) E dX6_symbolOf_71 2 rfl ?_
        refine r_istore (pc := 73) (lf := fun v73 => [(5, v73), (3, p3), (6, p6)]) (lg := fun v73 => []) (lk := fun v73 => [(4, p4)]) E dX6_symbolOf_73 (by decide) (fun _ => rfl) (fun _ => rfl) (fun _ => rfl) (fun v73 => ?_)
        refine r_iinc (pc := 75) (w := 1) (lf := fun v75 => [(6, v75), (5, v73), (3, p3)]) (ll' := []) (lr' := [(4, p4)]) E dX6_symbolOf_75 2 rfl (by decide) (by decide) (fun _ => rfl) rfl rfl (fun v75 => ?_)
        refine r_goto (pc := 78) (tgt := 54) E dX6_symbolOf_78 (by decide) ?_
        exact r_sub [2, 1, 0] [] [0] rfl rfl rfl (hk54 ((p3, p4, v73, v75)) _)
  have hL41 : ∀ (p1 : Int32) (q0 : Int32) (M : Mem), RT p l e rmX6_symbolOf s m args below meth c x 7 (QM below args s x (fun v : Int32 => some (.int v)) rmX6_symbolOf.cells rmX6_symbolOf.slots) 0 0 (fX6_symbolOf_L41 p1 q0 M) 41 [(1, p1)] [] [] [.int q0] M := by
    intro p1 q0 M
    unfold fX6_symbolOf_L41
    refine r_istore_n (pc := 41) (lf := fun v41 => [(3, v41), (1, p1)]) (lg := fun v41 => []) (lk := fun v41 => []) E dX6_symbolOf_41 rfl (by decide) (fun _ => rfl) (fun _ => rfl) (fun _ => rfl) (fun v41 => ?_)
    refine r_iload_n (pc := 42) E dX6_symbolOf_42 rfl 1 rfl ?_
    refine r_kSNr (pc := 43) (As := [.int p1]) (rest := []) E wc_X12_baseOf wi_RX12 hd_X12_baseOf (host := "TabledFrames") (by decide +kernel) wt_X12_baseOf dX6_symbolOf_43 (by decide) (Nat.le_of_ble_eq_true rfl) ⟨rfl, rfl⟩ (ctX12_baseOf l x _ _) rfl (fun v43 M43 => ?_)
    refine r_astore (pc := 46) (lf := fun v46 => [(3, v41), (1, p1)]) (lg := fun v46 => []) (lk := fun v46 => [(4, v46)]) E dX6_symbolOf_46 (by decide) (fun _ => rfl) (fun _ => rfl) (fun _ => rfl) (fun v46 => ?_)
    refine r_iconst (pc := 48) (v := 0) E dX6_symbolOf_48 (by decide) ?_
    refine r_istore (pc := 49) (lf := fun v49 => [(5, v49), (3, v41), (1, p1)]) (lg := fun v49 => []) (lk := fun v49 => [(4, v46)]) E dX6_symbolOf_49 (by decide) (fun _ => rfl) (fun _ => rfl) (fun _ => rfl) (fun v49 => ?_)
    refine r_iconst (pc := 51) (v := 1) E dX6_symbolOf_51 (by decide) ?_
    refine r_istore (pc := 52) (lf := fun v52 => [(6, v52), (5, v49), (3, v41), (1, p1)]) (lg := fun v52 => []) (lk := fun v52 => [(4, v46)]) E dX6_symbolOf_52 (by decide) (fun _ => rfl) (fun _ => rfl) (fun _ => rfl) (fun v52 => ?_)
    exact r_sub [2, 1, 0] [] [0] rfl rfl rfl (hL54 v41 v46 v49 v52 _)
  show RT p l e rmX6_symbolOf s m args below meth c x 7 (QM below args s x (fun v : Int32 => some (.int v)) rmX6_symbolOf.cells rmX6_symbolOf.slots) 0 0 (fX6_symbolOf a0 a1 a2 M) 0 [(1, a1), (2, a2)] [] [(0, a0)] [] M
  unfold fX6_symbolOf
  refine r_iload_n (pc := 0) E dX6_symbolOf_0 rfl 0 rfl ?_
  refine r_iconst (pc := 1) (v := 1) E dX6_symbolOf_1 (by decide) ?_
  refine r_icmp_ne (pc := 2) (tgt := 16) E dX6_symbolOf_2 (by decide) ?_ ?_
  · refine r_iload_n (pc := 16) E dX6_symbolOf_16 rfl 0 rfl ?_
    refine r_if_ne (pc := 17) (tgt := 32) E dX6_symbolOf_17 (by decide) ?_ ?_
    · refine r_aload_n (pc := 32) E dX6_symbolOf_32 rfl 0 rfl ?_
      refine r_getR (pc := 33) E fd_6_0 wf_RX6_12 dX6_symbolOf_33 (fun v33 => ?_)
      refine r_getA (pc := 36) E fd_3_3 wf_RX6_266 dX6_symbolOf_36 (fun v36 => ?_)
      refine r_iload_n (pc := 39) E dX6_symbolOf_39 rfl 1 rfl ?_
      refine r_iaload (pc := 40) E dX6_symbolOf_40 (fun v40 => ?_)
      exact r_sub [0] [] [] rfl rfl rfl (hL41 a1 v40 _)
    · refine r_aload_n (pc := 20) E dX6_symbolOf_20 rfl 0 rfl ?_
      refine r_getR (pc := 21) E fd_6_0 wf_RX6_12 dX6_symbolOf_21 (fun v21 => ?_)
      refine r_getA (pc := 24) E fd_3_2 wf_RX6_153 dX6_symbolOf_24 (fun v24 => ?_)
      refine r_iload_n (pc := 27) E dX6_symbolOf_27 rfl 1 rfl ?_
      refine r_iaload (pc := 28) E dX6_symbolOf_28 (fun v28 => ?_)
      refine r_goto (pc := 29) (tgt := 41) E dX6_symbolOf_29 (by decide) ?_
      exact r_sub [0] [] [] rfl rfl rfl (hL41 a1 v28 _)
  · refine r_aload_n (pc := 5) E dX6_symbolOf_5 rfl 0 rfl ?_
    refine r_getA (pc := 6) E fd_6_8 wf_RX6_47 dX6_symbolOf_6 (fun v6 => ?_)
    refine r_iload_n (pc := 9) E dX6_symbolOf_9 rfl 1 rfl ?_
    refine r_iaload (pc := 10) E dX6_symbolOf_10 (fun v10 => ?_)
    refine r_i2l (pc := 11) E dX6_symbolOf_11 ?_
    refine r_kSNi (pc := 12) (As := [.long v10.toInt64]) (rest := []) E wc_X12_logOf wi_RX12 hd_X12_logOf (host := "TabledFrames") (by decide +kernel) wt_X12_logOf dX6_symbolOf_12 (by decide) (Nat.le_of_ble_eq_true rfl) ⟨rfl, rfl⟩ (ctX12_logOf l x _ _) rfl (fun v12 M12 => ?_)
    exact e_int (pc := 15) E dX6_symbolOf_15
def fX10_mostCounted_L29 (k4 : Option Nat × Int32 × Int32 → Mem → Option (Int32 × Mem)) (p0 : Option Nat) (p1 : Int32) (p2 : Int32) (M : Mem) : Option (Int32 × Mem) :=
  bn (p2 + 1) fun v29 =>
  k4 ((p0, p1, v29)) M
def fX10_mostCounted_B4 (k4 : Option Nat × Int32 × Int32 → Mem → Option (Int32 × Mem)) (p0 : Option Nat) (p1 : Int32) (p2 : Int32) (M : Mem) : Option (Int32 × Mem) :=
  bo (gI M p0 10 4) fun v6 =>
  if v6 ≤ p2 then (
    some (p1, M)
  ) else (
    bo (gR M p0 10 2) fun v13 =>
    bo (aI M v13 15 p2) fun v17 =>
    bo (gR M p0 10 2) fun v19 =>
    bo (aI M v19 15 p1) fun v23 =>
    if v17 ≤ v23 then (
      fX10_mostCounted_L29 k4 p0 p1 p2 M
    ) else (
      bn (p2) fun v28 =>
      fX10_mostCounted_L29 k4 p0 v28 p2 M
    )
  )
def fX10_mostCounted_L4 (p0 : Option Nat) (p1 : Int32) (p2 : Int32) (M : Mem) : Option (Int32 × Mem) :=
  lp (fun k4 (a : Option Nat × Int32 × Int32) M => fX10_mostCounted_B4 k4 a.1 a.2.1 a.2.2 M) FU ((p0, p1, p2)) M
def fX10_mostCounted (a0 : Option Nat) (M : Mem) : Option (Int32 × Mem) :=
  bn (0) fun v1 =>
  bn (1) fun v3 =>
  fX10_mostCounted_L4 a0 v1 v3 M
def rmX10_mostCounted : Room := { frames := 0, cells := 0, slots := 0, locals := 0 }
set_option maxRecDepth 100000 in
set_option maxHeartbeats 4000000 in
theorem ctX10_mostCounted (l : Launch) (x : Cx) (a0 : Option Nat) (M : Mem) (v : Int32) (N : Mem) (h : fX10_mostCounted a0 M = some (v, N)) : CT l yX10_mostCounted cX10_mostCounted 3 (some (FieldType.int)) rmX10_mostCounted x [rv x a0] M (some (.int v)) N := by
  refine ct_mk (enc := fun v : Int32 => some (.int v)) (li := []) (ll := []) (lr := [(0, a0)]) (by decide +kernel) (by simp [lg_sl, rv_cat, cat_int, cat_long]) (by simp [flat, lv_args, rv_cat, cat_int, cat_long]) h ?_
  intro p e s m args below meth c E
  have hL29 : ∀ (k4 : Option Nat × Int32 × Int32 → Mem → Option (Int32 × Mem)) (hk4 : ∀ a M, RT p l e rmX10_mostCounted s m args below meth c x 3 (QM below args s x (fun v : Int32 => some (.int v)) rmX10_mostCounted.cells rmX10_mostCounted.slots) 0 0 (k4 a M) 4 [(1, a.2.1), (2, a.2.2)] [] [(0, a.1)] [] M) (p0 : Option Nat) (p1 : Int32) (p2 : Int32) (M : Mem), RT p l e rmX10_mostCounted s m args below meth c x 3 (QM below args s x (fun v : Int32 => some (.int v)) rmX10_mostCounted.cells rmX10_mostCounted.slots) 0 0 (fX10_mostCounted_L29 k4 p0 p1 p2 M) 29 [(1, p1), (2, p2)] [] [(0, p0)] [] M := by
    intro k4 hk4 p0 p1 p2 M
    unfold fX10_mostCounted_L29
    refine r_iinc (pc := 29) (w := 1) (lf := fun v29 => [(2, v29), (1, p1)]) (ll' := []) (lr' := [(0, p0)]) E dX10_mostCounted_29 1 rfl (by decide) (by decide) (fun _ => rfl) rfl rfl (fun v29 => ?_)
    refine r_goto (pc := 32) (tgt := 4) E dX10_mostCounted_32 (by decide) ?_
    exact r_sub [1, 0] [] [0] rfl rfl rfl (hk4 ((p0, p1, v29)) _)
  have hL4 : ∀ (p0 : Option Nat) (p1 : Int32) (p2 : Int32) (M : Mem), RT p l e rmX10_mostCounted s m args below meth c x 3 (QM below args s x (fun v : Int32 => some (.int v)) rmX10_mostCounted.cells rmX10_mostCounted.slots) 0 0 (fX10_mostCounted_L4 p0 p1 p2 M) 4 [(1, p1), (2, p2)] [] [(0, p0)] [] M := by
    intro p0 p1 p2 M
    refine r_lp (fi := fun a : Option Nat × Int32 × Int32 => [(1, a.2.1), (2, a.2.2)]) (fl := fun a : Option Nat × Int32 × Int32 => []) (fr := fun a : Option Nat × Int32 × Int32 => [(0, a.1)]) (fs := fun a : Option Nat × Int32 × Int32 => []) ?_ FU ((p0, p1, p2)) M
    intro k4 hk4 a M
    obtain ⟨p0, p1, p2⟩ := a
    show RT p l e rmX10_mostCounted s m args below meth c x 3 (QM below args s x (fun v : Int32 => some (.int v)) rmX10_mostCounted.cells rmX10_mostCounted.slots) 0 0 (fX10_mostCounted_B4 k4 p0 p1 p2 M) 4 [(1, p1), (2, p2)] [] [(0, p0)] [] M
    unfold fX10_mostCounted_B4
    refine r_iload_n (pc := 4) E dX10_mostCounted_4 rfl 1 rfl ?_
    refine r_aload_n (pc := 5) E dX10_mostCounted_5 rfl 0 rfl ?_
    refine r_getI (pc := 6) E fd_10_4 wf_RX10_40 dX10_mostCounted_6 (fun v6 => ?_)
    refine r_icmp_ge (pc := 9) (tgt := 35) E dX10_mostCounted_9 (by decide) ?_ ?_
    · refine r_iload_n (pc := 35) E dX10_mostCounted_35 rfl 0 rfl ?_
      exact e_int (pc := 36) E dX10_mostCounted_36
    · refine r_aload_n (pc := 12) E dX10_mostCounted_12 rfl 0 rfl ?_
      refine r_getA (pc := 13) E fd_10_2 wf_RX10_15 dX10_mostCounted_13 (fun v13 => ?_)
      refine r_iload_n (pc := 16) E dX10_mostCounted_16 rfl 1 rfl ?_
      refine r_iaload (pc := 17) E dX10_mostCounted_17 (fun v17 => ?_)
      refine r_aload_n (pc := 18) E dX10_mostCounted_18 rfl 0 rfl ?_
      refine r_getA (pc := 19) E fd_10_2 wf_RX10_15 dX10_mostCounted_19 (fun v19 => ?_)
      refine r_iload_n (pc := 22) E dX10_mostCounted_22 rfl 0 rfl ?_
      refine r_iaload (pc := 23) E dX10_mostCounted_23 (fun v23 => ?_)
      refine r_icmp_le (pc := 24) (tgt := 29) E dX10_mostCounted_24 (by decide) ?_ ?_
      · exact r_sub [0, 1] [] [0] rfl rfl rfl (hL29 k4 hk4 p0 p1 p2 _)
      · refine r_iload_n (pc := 27) E dX10_mostCounted_27 rfl 1 rfl ?_
        refine r_istore_n (pc := 28) (lf := fun v28 => [(1, v28), (2, p2)]) (lg := fun v28 => []) (lk := fun v28 => [(0, p0)]) E dX10_mostCounted_28 rfl (by decide) (fun _ => rfl) (fun _ => rfl) (fun _ => rfl) (fun v28 => ?_)
        exact r_sub [0, 1] [] [0] rfl rfl rfl (hL29 k4 hk4 p0 v28 p2 _)
  show RT p l e rmX10_mostCounted s m args below meth c x 3 (QM below args s x (fun v : Int32 => some (.int v)) rmX10_mostCounted.cells rmX10_mostCounted.slots) 0 0 (fX10_mostCounted a0 M) 0 [] [] [(0, a0)] [] M
  unfold fX10_mostCounted
  refine r_iconst (pc := 0) (v := 0) E dX10_mostCounted_0 (by decide) ?_
  refine r_istore_n (pc := 1) (lf := fun v1 => [(1, v1)]) (lg := fun v1 => []) (lk := fun v1 => [(0, a0)]) E dX10_mostCounted_1 rfl (by decide) (fun _ => rfl) (fun _ => rfl) (fun _ => rfl) (fun v1 => ?_)
  refine r_iconst (pc := 2) (v := 1) E dX10_mostCounted_2 (by decide) ?_
  refine r_istore_n (pc := 3) (lf := fun v3 => [(2, v3), (1, v1)]) (lg := fun v3 => []) (lk := fun v3 => [(0, a0)]) E dX10_mostCounted_3 rfl (by decide) (fun _ => rfl) (fun _ => rfl) (fun _ => rfl) (fun v3 => ?_)
  exact r_sub [1, 0] [] [0] rfl rfl rfl (hL4 a0 v1 v3 _)
def fX10_buildFor_B126 (k126 : Option Nat × Int32 × Int32 × Int32 → Mem → Option (Unit × Mem)) (p0 : Option Nat) (p4 : Int32) (p5 : Int32) (p6 : Int32) (M : Mem) : Option (Unit × Mem) :=
  if p6 ≤ p5 then (
    bo (gR M p0 10 2) fun v153 =>
    bo (chk M p0 10) fun _ => bd (fX10_mostCounted p0 M) fun v157 M157 =>
    bo (aI M157 v153 15 v157) fun v161 =>
    bo (wI M157 v153 v157 (v161 + (p5 - p6))) fun M168 =>
    bo (chk M168 p0 10) fun _ => bd (fX10_build p0 p4 M168) fun v172 M172 =>
    some ((), M172)
  ) else (
    bo (gR M p0 10 2) fun v134 =>
    bo (chk M p0 10) fun _ => bd (fX10_mostCounted p0 M) fun v138 M138 =>
    bo (aI M138 v134 15 v138) fun v142 =>
    bo (wI M138 v134 v138 (v142 - 1)) fun M145 =>
    bn (p6 + (-1)) fun v146 =>
    k126 ((p0, p4, p5, v146)) M145
  )
def fX10_buildFor_L126 (p0 : Option Nat) (p4 : Int32) (p5 : Int32) (p6 : Int32) (M : Mem) : Option (Unit × Mem) :=
  lp (fun k126 (a : Option Nat × Int32 × Int32 × Int32) M => fX10_buildFor_B126 k126 a.1 a.2.1 a.2.2.1 a.2.2.2 M) FU ((p0, p4, p5, p6)) M
def fX10_buildFor_L107 (k51 : Option Nat × Option Nat × Int32 × Int32 × Int32 × Int32 × Int32 → Mem → Option (Unit × Mem)) (p0 : Option Nat) (p1 : Option Nat) (p3 : Int32) (p4 : Int32) (p5 : Int32) (p6 : Int32) (p7 : Int32) (q0 : Option Nat) (q1 : Int32) (q2 : Int32) (M : Mem) : Option (Unit × Mem) :=
  bo (wI M q0 q1 q2) fun M107 =>
  bo (gR M107 p0 10 2) fun v111 =>
  bo (aI M107 v111 15 p7) fun v116 =>
  bn (p6 + v116) fun v118 =>
  bn (p7 + 1) fun v120 =>
  k51 ((p0, p1, p3, p4, p5, v118, v120)) M107
def fX10_buildFor_L75 (k51 : Option Nat × Option Nat × Int32 × Int32 × Int32 × Int32 × Int32 → Mem → Option (Unit × Mem)) (p0 : Option Nat) (p1 : Option Nat) (p3 : Int32) (p4 : Int32) (p5 : Int32) (p6 : Int32) (p7 : Int32) (q0 : Int32) (M : Mem) : Option (Unit × Mem) :=
  bn (q0) fun v75 =>
  bo (gR M p0 10 2) fun v78 =>
  if v75 = 0 then (
    fX10_buildFor_L107 k51 p0 p1 p3 p4 p5 p6 p7 v78 p7 0 M
  ) else (
    bo (dv (v75 * p5) (maxI p3 1)) fun v103 =>
    fX10_buildFor_L107 k51 p0 p1 p3 p4 p5 p6 p7 v78 p7 (maxI 1 v103) M
  )
def fX10_buildFor_B51 (k51 : Option Nat × Option Nat × Int32 × Int32 × Int32 × Int32 × Int32 → Mem → Option (Unit × Mem)) (p0 : Option Nat) (p1 : Option Nat) (p3 : Int32) (p4 : Int32) (p5 : Int32) (p6 : Int32) (p7 : Int32) (M : Mem) : Option (Unit × Mem) :=
  bo (gI M p0 10 4) fun v54 =>
  if v54 ≤ p7 then (
    fX10_buildFor_L126 p0 p4 p5 p6 M
  ) else (
    bo (aL M p1) fun v63 =>
    if v63 ≤ p7 then (
      fX10_buildFor_L75 k51 p0 p1 p3 p4 p5 p6 p7 0 M
    ) else (
      bo (aI M p1 15 p7) fun v70 =>
      fX10_buildFor_L75 k51 p0 p1 p3 p4 p5 p6 p7 v70 M
    )
  )
def fX10_buildFor_L51 (p0 : Option Nat) (p1 : Option Nat) (p3 : Int32) (p4 : Int32) (p5 : Int32) (p6 : Int32) (p7 : Int32) (M : Mem) : Option (Unit × Mem) :=
  lp (fun k51 (a : Option Nat × Option Nat × Int32 × Int32 × Int32 × Int32 × Int32) M => fX10_buildFor_B51 k51 a.1 a.2.1 a.2.2.1 a.2.2.2.1 a.2.2.2.2.1 a.2.2.2.2.2.1 a.2.2.2.2.2.2 M) FU ((p0, p1, p3, p4, p5, p6, p7)) M
def fX10_buildFor_L24 (p0 : Option Nat) (p1 : Option Nat) (p2 : Int32) (p3 : Int32) (q0 : Int32) (M : Mem) : Option (Unit × Mem) :=
  bn (q0) fun v24 =>
  bn (shlI 1 v24) fun v30 =>
  bo (pI M p0 10 4 (minI (p2 + 1) 256)) fun M42 =>
  bn (0) fun v46 =>
  bn (0) fun v49 =>
  fX10_buildFor_L51 p0 p1 p3 v24 v30 v46 v49 M42
def fX10_buildFor (a0 : Option Nat) (a1 : Option Nat) (a2 : Int32) (a3 : Int32) (M : Mem) : Option (Unit × Mem) :=
  if 32 ≤ a3 then (
    if 128 ≤ a3 then (
      fX10_buildFor_L24 a0 a1 a2 a3 7 M
    ) else (
      fX10_buildFor_L24 a0 a1 a2 a3 6 M
    )
  ) else (
    fX10_buildFor_L24 a0 a1 a2 a3 5 M
  )
def rmX10_buildFor : Room := { frames := 2, cells := 0, slots := 0, locals := 54 }
set_option maxRecDepth 100000 in
set_option maxHeartbeats 4000000 in
theorem ctX10_buildFor (l : Launch) (x : Cx) (a0 : Option Nat) (a1 : Option Nat) (a2 : Int32) (a3 : Int32) (M : Mem) (v : Unit) (N : Mem) (h : fX10_buildFor a0 a1 a2 a3 M = some (v, N)) : CT l yX10_buildFor cX10_buildFor 9 (none) rmX10_buildFor x [rv x a0, rv x a1, .int a2, .int a3] M none N := by
  refine ct_mk (enc := fun _ : Unit => none) (li := [(2, a2), (3, a3)]) (ll := []) (lr := [(0, a0), (1, a1)]) (by decide +kernel) (by simp [lg_sl, rv_cat, cat_int, cat_long]) (by simp [flat, lv_args, rv_cat, cat_int, cat_long]) h ?_
  intro p e s m args below meth c E
  have hL126 : ∀ (p0 : Option Nat) (p4 : Int32) (p5 : Int32) (p6 : Int32) (M : Mem), RT p l e rmX10_buildFor s m args below meth c x 9 (QM below args s x (fun _ : Unit => none) rmX10_buildFor.cells rmX10_buildFor.slots) 0 0 (fX10_buildFor_L126 p0 p4 p5 p6 M) 126 [(4, p4), (5, p5), (6, p6)] [] [(0, p0)] [] M := by
    intro p0 p4 p5 p6 M
    refine r_lp (fi := fun a : Option Nat × Int32 × Int32 × Int32 => [(4, a.2.1), (5, a.2.2.1), (6, a.2.2.2)]) (fl := fun a : Option Nat × Int32 × Int32 × Int32 => []) (fr := fun a : Option Nat × Int32 × Int32 × Int32 => [(0, a.1)]) (fs := fun a : Option Nat × Int32 × Int32 × Int32 => []) ?_ FU ((p0, p4, p5, p6)) M
    intro k126 hk126 a M
    obtain ⟨p0, p4, p5, p6⟩ := a
    show RT p l e rmX10_buildFor s m args below meth c x 9 (QM below args s x (fun _ : Unit => none) rmX10_buildFor.cells rmX10_buildFor.slots) 0 0 (fX10_buildFor_B126 k126 p0 p4 p5 p6 M) 126 [(4, p4), (5, p5), (6, p6)] [] [(0, p0)] [] M
    unfold fX10_buildFor_B126
    refine r_iload (pc := 126) E dX10_buildFor_126 2 rfl ?_
    refine r_iload (pc := 128) E dX10_buildFor_128 1 rfl ?_
    refine r_icmp_le (pc := 130) (tgt := 152) E dX10_buildFor_130 (by decide) ?_ ?_
    · refine r_aload_n (pc := 152) E dX10_buildFor_152 rfl 0 rfl ?_
      refine r_getA (pc := 153) E fd_10_2 wf_RX10_15 dX10_buildFor_153 (fun v153 => ?_)
      refine r_aload_n (pc := 156) E dX10_buildFor_156 rfl 0 rfl ?_
      refine r_kVi (pc := 157) (As := []) (rest := [rv x v153]) E wc_X10_mostCounted wi_RX10 hd_X10_mostCounted (ci := 10) rfl wl_RX10_99 wn_X10_mostCounted ws_X10_mostCounted dX10_buildFor_157 (by decide) (Nat.le_of_ble_eq_true rfl) ⟨rfl, rfl⟩ (ctX10_mostCounted l x _ _) rfl (fun v157 M157 => ?_)
      refine r_dup2 (pc := 160) E dX10_buildFor_160 rfl (rv_cat _ _) ?_
      refine r_iaload (pc := 161) E dX10_buildFor_161 (fun v161 => ?_)
      refine r_iload (pc := 162) E dX10_buildFor_162 1 rfl ?_
      refine r_iload (pc := 164) E dX10_buildFor_164 2 rfl ?_
      refine r_isub (pc := 166) E dX10_buildFor_166 ?_
      refine r_iadd (pc := 167) E dX10_buildFor_167 ?_
      refine r_iastore (pc := 168) E dX10_buildFor_168 (fun M168 => ?_)
      refine r_aload_n (pc := 169) E dX10_buildFor_169 rfl 0 rfl ?_
      refine r_iload (pc := 170) E dX10_buildFor_170 0 rfl ?_
      refine r_kVv (pc := 172) (As := [.int p4]) (rest := []) E wc_X10_build wi_RX10 hd_X10_build (ci := 10) rfl wl_RX10_53 wn_X10_build ws_X10_build dX10_buildFor_172 (by decide) (Nat.le_of_ble_eq_true rfl) ⟨rfl, rfl⟩ (ctX10_build l x _ _ _) rfl (fun v172 M172 => ?_)
      exact e_void (pc := 175) E dX10_buildFor_175
    · refine r_aload_n (pc := 133) E dX10_buildFor_133 rfl 0 rfl ?_
      refine r_getA (pc := 134) E fd_10_2 wf_RX10_15 dX10_buildFor_134 (fun v134 => ?_)
      refine r_aload_n (pc := 137) E dX10_buildFor_137 rfl 0 rfl ?_
      refine r_kVi (pc := 138) (As := []) (rest := [rv x v134]) E wc_X10_mostCounted wi_RX10 hd_X10_mostCounted (ci := 10) rfl wl_RX10_99 wn_X10_mostCounted ws_X10_mostCounted dX10_buildFor_138 (by decide) (Nat.le_of_ble_eq_true rfl) ⟨rfl, rfl⟩ (ctX10_mostCounted l x _ _) rfl (fun v138 M138 => ?_)
      refine r_dup2 (pc := 141) E dX10_buildFor_141 rfl (rv_cat _ _) ?_
      refine r_iaload (pc := 142) E dX10_buildFor_142 (fun v142 => ?_)
      refine r_iconst (pc := 143) (v := 1) E dX10_buildFor_143 (by decide) ?_
      refine r_isub (pc := 144) E dX10_buildFor_144 ?_
      refine r_iastore (pc := 145) E dX10_buildFor_145 (fun M145 => ?_)
      refine r_iinc (pc := 146) (w := (-1)) (lf := fun v146 => [(6, v146), (4, p4), (5, p5)]) (ll' := []) (lr' := [(0, p0)]) E dX10_buildFor_146 2 rfl (by decide) (by decide) (fun _ => rfl) rfl rfl (fun v146 => ?_)
      refine r_goto (pc := 149) (tgt := 126) E dX10_buildFor_149 (by decide) ?_
      exact r_sub [1, 2, 0] [] [0] rfl rfl rfl (hk126 ((p0, p4, p5, v146)) _)
  have hL107 : ∀ (k51 : Option Nat × Option Nat × Int32 × Int32 × Int32 × Int32 × Int32 → Mem → Option (Unit × Mem)) (hk51 : ∀ a M, RT p l e rmX10_buildFor s m args below meth c x 9 (QM below args s x (fun _ : Unit => none) rmX10_buildFor.cells rmX10_buildFor.slots) 0 0 (k51 a M) 51 [(3, a.2.2.1), (4, a.2.2.2.1), (5, a.2.2.2.2.1), (6, a.2.2.2.2.2.1), (7, a.2.2.2.2.2.2)] [] [(0, a.1), (1, a.2.1)] [] M) (p0 : Option Nat) (p1 : Option Nat) (p3 : Int32) (p4 : Int32) (p5 : Int32) (p6 : Int32) (p7 : Int32) (q0 : Option Nat) (q1 : Int32) (q2 : Int32) (M : Mem), RT p l e rmX10_buildFor s m args below meth c x 9 (QM below args s x (fun _ : Unit => none) rmX10_buildFor.cells rmX10_buildFor.slots) 0 0 (fX10_buildFor_L107 k51 p0 p1 p3 p4 p5 p6 p7 q0 q1 q2 M) 107 [(3, p3), (4, p4), (5, p5), (6, p6), (7, p7)] [] [(0, p0), (1, p1)] [.int q2, .int q1, rv x q0] M := by
    intro k51 hk51 p0 p1 p3 p4 p5 p6 p7 q0 q1 q2 M
    unfold fX10_buildFor_L107
    refine r_iastore (pc := 107) E dX10_buildFor_107 (fun M107 => ?_)
    refine r_iload (pc := 108) E dX10_buildFor_108 3 rfl ?_
    refine r_aload_n (pc := 110) E dX10_buildFor_110 rfl 0 rfl ?_
    refine r_getA (pc := 111) E fd_10_2 wf_RX10_15 dX10_buildFor_111 (fun v111 => ?_)
    refine r_iload (pc := 114) E dX10_buildFor_114 4 rfl ?_
    refine r_iaload (pc := 116) E dX10_buildFor_116 (fun v116 => ?_)
    refine r_iadd (pc := 117) E dX10_buildFor_117 ?_
    refine r_istore (pc := 118) (lf := fun v118 => [(6, v118), (3, p3), (4, p4), (5, p5), (7, p7)]) (lg := fun v118 => []) (lk := fun v118 => [(0, p0), (1, p1)]) E dX10_buildFor_118 (by decide) (fun _ => rfl) (fun _ => rfl) (fun _ => rfl) (fun v118 => ?_)
    refine r_iinc (pc := 120) (w := 1) (lf := fun v120 => [(7, v120), (6, v118), (3, p3), (4, p4), (5, p5)]) (ll' := []) (lr' := [(0, p0), (1, p1)]) E dX10_buildFor_120 4 rfl (by decide) (by decide) (fun _ => rfl) rfl rfl (fun v120 => ?_)
    refine r_goto (pc := 123) (tgt := 51) E dX10_buildFor_123 (by decide) ?_
    exact r_sub [2, 3, 4, 1, 0] [] [0, 1] rfl rfl rfl (hk51 ((p0, p1, p3, p4, p5, v118, v120)) _)
  have hL75 : ∀ (k51 : Option Nat × Option Nat × Int32 × Int32 × Int32 × Int32 × Int32 → Mem → Option (Unit × Mem)) (hk51 : ∀ a M, RT p l e rmX10_buildFor s m args below meth c x 9 (QM below args s x (fun _ : Unit => none) rmX10_buildFor.cells rmX10_buildFor.slots) 0 0 (k51 a M) 51 [(3, a.2.2.1), (4, a.2.2.2.1), (5, a.2.2.2.2.1), (6, a.2.2.2.2.2.1), (7, a.2.2.2.2.2.2)] [] [(0, a.1), (1, a.2.1)] [] M) (p0 : Option Nat) (p1 : Option Nat) (p3 : Int32) (p4 : Int32) (p5 : Int32) (p6 : Int32) (p7 : Int32) (q0 : Int32) (M : Mem), RT p l e rmX10_buildFor s m args below meth c x 9 (QM below args s x (fun _ : Unit => none) rmX10_buildFor.cells rmX10_buildFor.slots) 0 0 (fX10_buildFor_L75 k51 p0 p1 p3 p4 p5 p6 p7 q0 M) 75 [(3, p3), (4, p4), (5, p5), (6, p6), (7, p7)] [] [(0, p0), (1, p1)] [.int q0] M := by
    intro k51 hk51 p0 p1 p3 p4 p5 p6 p7 q0 M
    unfold fX10_buildFor_L75
    refine r_istore (pc := 75) (lf := fun v75 => [(8, v75), (3, p3), (4, p4), (5, p5), (6, p6), (7, p7)]) (lg := fun v75 => []) (lk := fun v75 => [(0, p0), (1, p1)]) E dX10_buildFor_75 (by decide) (fun _ => rfl) (fun _ => rfl) (fun _ => rfl) (fun v75 => ?_)
    refine r_aload_n (pc := 77) E dX10_buildFor_77 rfl 0 rfl ?_
    refine r_getA (pc := 78) E fd_10_2 wf_RX10_15 dX10_buildFor_78 (fun v78 => ?_)
    refine r_iload (pc := 81) E dX10_buildFor_81 5 rfl ?_
    refine r_iload (pc := 83) E dX10_buildFor_83 0 rfl ?_
    refine r_if_ne (pc := 85) (tgt := 92) E dX10_buildFor_85 (by decide) ?_ ?_
    · refine r_iconst (pc := 92) (v := 1) E dX10_buildFor_92 (by decide) ?_
      refine r_iload (pc := 93) E dX10_buildFor_93 0 rfl ?_
      refine r_iload (pc := 95) E dX10_buildFor_95 3 rfl ?_
      refine r_imul (pc := 97) E dX10_buildFor_97 ?_
      refine r_iload_n (pc := 98) E dX10_buildFor_98 rfl 1 rfl ?_
      refine r_iconst (pc := 99) (v := 1) E dX10_buildFor_99 (by decide) ?_
      refine r_mmax (pc := 100) E wl_RX10_96 wm_smax wi_math wm_cmax dX10_buildFor_100 (by decide) (Nat.le_of_ble_eq_true rfl) ?_
      refine r_idiv (pc := 103) E dX10_buildFor_103 (fun v103 => ?_)
      refine r_mmax (pc := 104) E wl_RX10_96 wm_smax wi_math wm_cmax dX10_buildFor_104 (by decide) (Nat.le_of_ble_eq_true rfl) ?_
      exact r_sub [1, 2, 3, 4, 5] [] [0, 1] rfl rfl rfl (hL107 k51 hk51 p0 p1 p3 p4 p5 p6 p7 v78 p7 (maxI 1 v103) _)
    · refine r_iconst (pc := 88) (v := 0) E dX10_buildFor_88 (by decide) ?_
      refine r_goto (pc := 89) (tgt := 107) E dX10_buildFor_89 (by decide) ?_
      exact r_sub [1, 2, 3, 4, 5] [] [0, 1] rfl rfl rfl (hL107 k51 hk51 p0 p1 p3 p4 p5 p6 p7 v78 p7 0 _)
  have hL51 : ∀ (p0 : Option Nat) (p1 : Option Nat) (p3 : Int32) (p4 : Int32) (p5 : Int32) (p6 : Int32) (p7 : Int32) (M : Mem), RT p l e rmX10_buildFor s m args below meth c x 9 (QM below args s x (fun _ : Unit => none) rmX10_buildFor.cells rmX10_buildFor.slots) 0 0 (fX10_buildFor_L51 p0 p1 p3 p4 p5 p6 p7 M) 51 [(3, p3), (4, p4), (5, p5), (6, p6), (7, p7)] [] [(0, p0), (1, p1)] [] M := by
    intro p0 p1 p3 p4 p5 p6 p7 M
    refine r_lp (fi := fun a : Option Nat × Option Nat × Int32 × Int32 × Int32 × Int32 × Int32 => [(3, a.2.2.1), (4, a.2.2.2.1), (5, a.2.2.2.2.1), (6, a.2.2.2.2.2.1), (7, a.2.2.2.2.2.2)]) (fl := fun a : Option Nat × Option Nat × Int32 × Int32 × Int32 × Int32 × Int32 => []) (fr := fun a : Option Nat × Option Nat × Int32 × Int32 × Int32 × Int32 × Int32 => [(0, a.1), (1, a.2.1)]) (fs := fun a : Option Nat × Option Nat × Int32 × Int32 × Int32 × Int32 × Int32 => []) ?_ FU ((p0, p1, p3, p4, p5, p6, p7)) M
    intro k51 hk51 a M
    obtain ⟨p0, p1, p3, p4, p5, p6, p7⟩ := a
    show RT p l e rmX10_buildFor s m args below meth c x 9 (QM below args s x (fun _ : Unit => none) rmX10_buildFor.cells rmX10_buildFor.slots) 0 0 (fX10_buildFor_B51 k51 p0 p1 p3 p4 p5 p6 p7 M) 51 [(3, p3), (4, p4), (5, p5), (6, p6), (7, p7)] [] [(0, p0), (1, p1)] [] M
    unfold fX10_buildFor_B51
    refine r_iload (pc := 51) E dX10_buildFor_51 4 rfl ?_
    refine r_aload_n (pc := 53) E dX10_buildFor_53 rfl 0 rfl ?_
    refine r_getI (pc := 54) E fd_10_4 wf_RX10_40 dX10_buildFor_54 (fun v54 => ?_)
    refine r_icmp_ge (pc := 57) (tgt := 126) E dX10_buildFor_57 (by decide) ?_ ?_
    · exact r_sub [1, 2, 3] [] [0] rfl rfl rfl (hL126 p0 p4 p5 p6 _)
    · refine r_iload (pc := 60) E dX10_buildFor_60 4 rfl ?_
      refine r_aload_n (pc := 62) E dX10_buildFor_62 rfl 1 rfl ?_
      refine r_alen (pc := 63) E dX10_buildFor_63 (fun v63 => ?_)
      refine r_icmp_ge (pc := 64) (tgt := 74) E dX10_buildFor_64 (by decide) ?_ ?_
      · refine r_iconst (pc := 74) (v := 0) E dX10_buildFor_74 (by decide) ?_
        exact r_sub [0, 1, 2, 3, 4] [] [0, 1] rfl rfl rfl (hL75 k51 hk51 p0 p1 p3 p4 p5 p6 p7 0 _)
      · refine r_aload_n (pc := 67) E dX10_buildFor_67 rfl 1 rfl ?_
        refine r_iload (pc := 68) E dX10_buildFor_68 4 rfl ?_
        refine r_iaload (pc := 70) E dX10_buildFor_70 (fun v70 => ?_)
        refine r_goto (pc := 71) (tgt := 75) E dX10_buildFor_71 (by decide) ?_
        exact r_sub [0, 1, 2, 3, 4] [] [0, 1] rfl rfl rfl (hL75 k51 hk51 p0 p1 p3 p4 p5 p6 p7 v70 _)
  have hL24 : ∀ (p0 : Option Nat) (p1 : Option Nat) (p2 : Int32) (p3 : Int32) (q0 : Int32) (M : Mem), RT p l e rmX10_buildFor s m args below meth c x 9 (QM below args s x (fun _ : Unit => none) rmX10_buildFor.cells rmX10_buildFor.slots) 0 0 (fX10_buildFor_L24 p0 p1 p2 p3 q0 M) 24 [(2, p2), (3, p3)] [] [(0, p0), (1, p1)] [.int q0] M := by
    intro p0 p1 p2 p3 q0 M
    unfold fX10_buildFor_L24
    refine r_istore (pc := 24) (lf := fun v24 => [(4, v24), (2, p2), (3, p3)]) (lg := fun v24 => []) (lk := fun v24 => [(0, p0), (1, p1)]) E dX10_buildFor_24 (by decide) (fun _ => rfl) (fun _ => rfl) (fun _ => rfl) (fun v24 => ?_)
    refine r_iconst (pc := 26) (v := 1) E dX10_buildFor_26 (by decide) ?_
    refine r_iload (pc := 27) E dX10_buildFor_27 0 rfl ?_
    refine r_ishl (pc := 29) E dX10_buildFor_29 ?_
    refine r_istore (pc := 30) (lf := fun v30 => [(5, v30), (4, v24), (2, p2), (3, p3)]) (lg := fun v30 => []) (lk := fun v30 => [(0, p0), (1, p1)]) E dX10_buildFor_30 (by decide) (fun _ => rfl) (fun _ => rfl) (fun _ => rfl) (fun v30 => ?_)
    refine r_aload_n (pc := 32) E dX10_buildFor_32 rfl 0 rfl ?_
    refine r_iload_n (pc := 33) E dX10_buildFor_33 rfl 2 rfl ?_
    refine r_iconst (pc := 34) (v := 1) E dX10_buildFor_34 (by decide) ?_
    refine r_iadd (pc := 35) E dX10_buildFor_35 ?_
    refine r_sipush (pc := 36) (v := 256) E dX10_buildFor_36 (by decide) ?_
    refine r_mmin (pc := 39) E wl_RX10_34 wm_smin wi_math wm_cmin dX10_buildFor_39 (by decide) (Nat.le_of_ble_eq_true rfl) ?_
    refine r_putI (pc := 42) E fd_10_4 wf_RX10_40 dX10_buildFor_42 (Or.inl rfl) (fun M42 => ?_)
    refine r_iconst (pc := 45) (v := 0) E dX10_buildFor_45 (by decide) ?_
    refine r_istore (pc := 46) (lf := fun v46 => [(6, v46), (5, v30), (4, v24), (2, p2), (3, p3)]) (lg := fun v46 => []) (lk := fun v46 => [(0, p0), (1, p1)]) E dX10_buildFor_46 (by decide) (fun _ => rfl) (fun _ => rfl) (fun _ => rfl) (fun v46 => ?_)
    refine r_iconst (pc := 48) (v := 0) E dX10_buildFor_48 (by decide) ?_
    refine r_istore (pc := 49) (lf := fun v49 => [(7, v49), (6, v46), (5, v30), (4, v24), (2, p2), (3, p3)]) (lg := fun v49 => []) (lk := fun v49 => [(0, p0), (1, p1)]) E dX10_buildFor_49 (by decide) (fun _ => rfl) (fun _ => rfl) (fun _ => rfl) (fun v49 => ?_)
    exact r_sub [5, 3, 2, 1, 0] [] [0, 1] rfl rfl rfl (hL51 p0 p1 p3 v24 v30 v46 v49 _)
  show RT p l e rmX10_buildFor s m args below meth c x 9 (QM below args s x (fun _ : Unit => none) rmX10_buildFor.cells rmX10_buildFor.slots) 0 0 (fX10_buildFor a0 a1 a2 a3 M) 0 [(2, a2), (3, a3)] [] [(0, a0), (1, a1)] [] M
  unfold fX10_buildFor
  refine r_iload_n (pc := 0) E dX10_buildFor_0 rfl 1 rfl ?_
  refine r_bipush (pc := 1) (v := 32) E dX10_buildFor_1 (by decide) ?_
  refine r_icmp_ge (pc := 3) (tgt := 10) E dX10_buildFor_3 (by decide) ?_ ?_
  · refine r_iload_n (pc := 10) E dX10_buildFor_10 rfl 1 rfl ?_
    refine r_sipush (pc := 11) (v := 128) E dX10_buildFor_11 (by decide) ?_
    refine r_icmp_ge (pc := 14) (tgt := 22) E dX10_buildFor_14 (by decide) ?_ ?_
    · refine r_bipush (pc := 22) (v := 7) E dX10_buildFor_22 (by decide) ?_
      exact r_sub [0, 1] [] [0, 1] rfl rfl rfl (hL24 a0 a1 a2 a3 7 _)
    · refine r_bipush (pc := 17) (v := 6) E dX10_buildFor_17 (by decide) ?_
      refine r_goto (pc := 19) (tgt := 24) E dX10_buildFor_19 (by decide) ?_
      exact r_sub [0, 1] [] [0, 1] rfl rfl rfl (hL24 a0 a1 a2 a3 6 _)
  · refine r_iconst (pc := 6) (v := 5) E dX10_buildFor_6 (by decide) ?_
    refine r_goto (pc := 7) (tgt := 24) E dX10_buildFor_7 (by decide) ?_
    exact r_sub [0, 1] [] [0, 1] rfl rfl rfl (hL24 a0 a1 a2 a3 5 _)
def fX10_writeCount_L76 (M : Mem) : Option (Unit × Mem) :=
  some ((), M)
def fX10_writeCount_L71 (p4 : Int32) (q0 : Option Nat) (q1 : Int64) (M : Mem) : Option (Unit × Mem) :=
  bo (chk M q0 8) fun _ => bd (fX8_addBits q0 q1 p4 M) fun v73 M73 =>
  fX10_writeCount_L76 M73
def fX10_writeCount (a0 : Option Nat) (a1 : Option Nat) (a2 : Int32) (a3 : Int32) (M : Mem) : Option (Unit × Mem) :=
  bd (fX12_logOf ((a3 + 1).toInt64) M) fun v4 M4 =>
  bn (v4 + 1) fun v9 =>
  bn (((shlI 1 v9) - 2) - a3) fun v19 =>
  bn (a2 + 1) fun v24 =>
  if v19 ≤ v24 then (
    if (shlI 1 (v9 - 1)) ≤ v24 then (
      fX10_writeCount_L71 v9 a1 ((v24 + v19).toInt64) M4
    ) else (
      fX10_writeCount_L71 v9 a1 v24.toInt64 M4
    )
  ) else (
    bo (chk M4 a1 8) fun _ => bd (fX8_addBits a1 v24.toInt64 (v9 - 1) M4) fun v41 M41 =>
    fX10_writeCount_L76 M41
  )
def rmX10_writeCount : Room := { frames := 1, cells := 0, slots := 0, locals := 23 }
set_option maxRecDepth 100000 in
set_option maxHeartbeats 4000000 in
theorem ctX10_writeCount (l : Launch) (x : Cx) (a0 : Option Nat) (a1 : Option Nat) (a2 : Int32) (a3 : Int32) (M : Mem) (v : Unit) (N : Mem) (h : fX10_writeCount a0 a1 a2 a3 M = some (v, N)) : CT l yX10_writeCount cX10_writeCount 7 (none) rmX10_writeCount x [rv x a0, rv x a1, .int a2, .int a3] M none N := by
  refine ct_mk (enc := fun _ : Unit => none) (li := [(2, a2), (3, a3)]) (ll := []) (lr := [(0, a0), (1, a1)]) (by decide +kernel) (by simp [lg_sl, rv_cat, cat_int, cat_long]) (by simp [flat, lv_args, rv_cat, cat_int, cat_long]) h ?_
  intro p e s m args below meth c E
  have hL76 : ∀ (M : Mem), RT p l e rmX10_writeCount s m args below meth c x 7 (QM below args s x (fun _ : Unit => none) rmX10_writeCount.cells rmX10_writeCount.slots) 0 0 (fX10_writeCount_L76 M) 76 [] [] [] [] M := by
    intro M
    unfold fX10_writeCount_L76
    exact e_void (pc := 76) E dX10_writeCount_76
  have hL71 : ∀ (p4 : Int32) (q0 : Option Nat) (q1 : Int64) (M : Mem), RT p l e rmX10_writeCount s m args below meth c x 7 (QM below args s x (fun _ : Unit => none) rmX10_writeCount.cells rmX10_writeCount.slots) 0 0 (fX10_writeCount_L71 p4 q0 q1 M) 71 [(4, p4)] [] [] [.long q1, rv x q0] M := by
    intro p4 q0 q1 M
    unfold fX10_writeCount_L71
    refine r_iload (pc := 71) E dX10_writeCount_71 0 rfl ?_
    refine r_kVv (pc := 73) (As := [.long q1, .int p4]) (rest := []) E wc_X8_addBits wi_RX8 hd_X8_addBits (ci := 8) rfl wl_RX10_103 wn_X8_addBits ws_X8_addBits dX10_writeCount_73 (by decide) (Nat.le_of_ble_eq_true rfl) ⟨rfl, rfl⟩ (ctX8_addBits l x _ _ _ _) rfl (fun v73 M73 => ?_)
    exact r_sub [] [] [] rfl rfl rfl (hL76 _)
  show RT p l e rmX10_writeCount s m args below meth c x 7 (QM below args s x (fun _ : Unit => none) rmX10_writeCount.cells rmX10_writeCount.slots) 0 0 (fX10_writeCount a0 a1 a2 a3 M) 0 [(2, a2), (3, a3)] [] [(0, a0), (1, a1)] [] M
  unfold fX10_writeCount
  refine r_iload_n (pc := 0) E dX10_writeCount_0 rfl 1 rfl ?_
  refine r_iconst (pc := 1) (v := 1) E dX10_writeCount_1 (by decide) ?_
  refine r_iadd (pc := 2) E dX10_writeCount_2 ?_
  refine r_i2l (pc := 3) E dX10_writeCount_3 ?_
  refine r_kSNi (pc := 4) (As := [.long ((a3 + 1).toInt64)]) (rest := []) E wc_X12_logOf wi_RX12 hd_X12_logOf (host := "TabledFrames") (by decide +kernel) wt_X12_logOf dX10_writeCount_4 (by decide) (Nat.le_of_ble_eq_true rfl) ⟨rfl, rfl⟩ (ctX12_logOf l x _ _) rfl (fun v4 M4 => ?_)
  refine r_iconst (pc := 7) (v := 1) E dX10_writeCount_7 (by decide) ?_
  refine r_iadd (pc := 8) E dX10_writeCount_8 ?_
  refine r_istore (pc := 9) (lf := fun v9 => [(4, v9), (2, a2), (3, a3)]) (lg := fun v9 => []) (lk := fun v9 => [(0, a0), (1, a1)]) E dX10_writeCount_9 (by decide) (fun _ => rfl) (fun _ => rfl) (fun _ => rfl) (fun v9 => ?_)
  refine r_iconst (pc := 11) (v := 1) E dX10_writeCount_11 (by decide) ?_
  refine r_iload (pc := 12) E dX10_writeCount_12 0 rfl ?_
  refine r_ishl (pc := 14) E dX10_writeCount_14 ?_
  refine r_iconst (pc := 15) (v := 2) E dX10_writeCount_15 (by decide) ?_
  refine r_isub (pc := 16) E dX10_writeCount_16 ?_
  refine r_iload_n (pc := 17) E dX10_writeCount_17 rfl 2 rfl ?_
  refine r_isub (pc := 18) E dX10_writeCount_18 ?_
  refine r_istore (pc := 19) (lf := fun v19 => [(5, v19), (4, v9), (2, a2), (3, a3)]) (lg := fun v19 => []) (lk := fun v19 => [(0, a0), (1, a1)]) E dX10_writeCount_19 (by decide) (fun _ => rfl) (fun _ => rfl) (fun _ => rfl) (fun v19 => ?_)
  refine r_iload_n (pc := 21) E dX10_writeCount_21 rfl 2 rfl ?_
  refine r_iconst (pc := 22) (v := 1) E dX10_writeCount_22 (by decide) ?_
  refine r_iadd (pc := 23) E dX10_writeCount_23 ?_
  refine r_istore (pc := 24) (lf := fun v24 => [(6, v24), (5, v19), (4, v9), (2, a2), (3, a3)]) (lg := fun v24 => []) (lk := fun v24 => [(0, a0), (1, a1)]) E dX10_writeCount_24 (by decide) (fun _ => rfl) (fun _ => rfl) (fun _ => rfl) (fun v24 => ?_)
  refine r_iload (pc := 26) E dX10_writeCount_26 0 rfl ?_
  refine r_iload (pc := 28) E dX10_writeCount_28 1 rfl ?_
  refine r_icmp_ge (pc := 30) (tgt := 47) E dX10_writeCount_30 (by decide) ?_ ?_
  · refine r_aload_n (pc := 47) E dX10_writeCount_47 rfl 1 rfl ?_
    refine r_iload (pc := 48) E dX10_writeCount_48 0 rfl ?_
    refine r_iconst (pc := 50) (v := 1) E dX10_writeCount_50 (by decide) ?_
    refine r_iload (pc := 51) E dX10_writeCount_51 2 rfl ?_
    refine r_iconst (pc := 53) (v := 1) E dX10_writeCount_53 (by decide) ?_
    refine r_isub (pc := 54) E dX10_writeCount_54 ?_
    refine r_ishl (pc := 55) E dX10_writeCount_55 ?_
    refine r_icmp_ge (pc := 56) (tgt := 65) E dX10_writeCount_56 (by decide) ?_ ?_
    · refine r_iload (pc := 65) E dX10_writeCount_65 0 rfl ?_
      refine r_iload (pc := 67) E dX10_writeCount_67 1 rfl ?_
      refine r_iadd (pc := 69) E dX10_writeCount_69 ?_
      refine r_i2l (pc := 70) E dX10_writeCount_70 ?_
      exact r_sub [2] [] [] rfl rfl rfl (hL71 v9 a1 ((v24 + v19).toInt64) _)
    · refine r_iload (pc := 59) E dX10_writeCount_59 0 rfl ?_
      refine r_i2l (pc := 61) E dX10_writeCount_61 ?_
      refine r_goto (pc := 62) (tgt := 71) E dX10_writeCount_62 (by decide) ?_
      exact r_sub [2] [] [] rfl rfl rfl (hL71 v9 a1 v24.toInt64 _)
  · refine r_aload_n (pc := 33) E dX10_writeCount_33 rfl 1 rfl ?_
    refine r_iload (pc := 34) E dX10_writeCount_34 0 rfl ?_
    refine r_i2l (pc := 36) E dX10_writeCount_36 ?_
    refine r_iload (pc := 37) E dX10_writeCount_37 2 rfl ?_
    refine r_iconst (pc := 39) (v := 1) E dX10_writeCount_39 (by decide) ?_
    refine r_isub (pc := 40) E dX10_writeCount_40 ?_
    refine r_kVv (pc := 41) (As := [.long v24.toInt64, .int (v9 - 1)]) (rest := []) E wc_X8_addBits wi_RX8 hd_X8_addBits (ci := 8) rfl wl_RX10_103 wn_X8_addBits ws_X8_addBits dX10_writeCount_41 (by decide) (Nat.le_of_ble_eq_true rfl) ⟨rfl, rfl⟩ (ctX8_addBits l x _ _ _ _) rfl (fun v41 M41 => ?_)
    refine r_goto (pc := 44) (tgt := 76) E dX10_writeCount_44 (by decide) ?_
    exact r_sub [] [] [] rfl rfl rfl (hL76 _)
def fX10_writeZeros_B2 (k2 : Option Nat × Int32 → Mem → Option (Unit × Mem)) (p1 : Option Nat) (p3 : Int32) (M : Mem) : Option (Unit × Mem) :=
  if p3 < 3 then (
    bo (chk M p1 8) fun _ => bd (fX8_addBits p1 p3.toInt64 2 M) fun v25 M25 =>
    some ((), M25)
  ) else (
    bo (chk M p1 8) fun _ => bd (fX8_addBits p1 3 2 M) fun v12 M12 =>
    bn (p3 + (-3)) fun v15 =>
    k2 ((p1, v15)) M12
  )
def fX10_writeZeros_L2 (p1 : Option Nat) (p3 : Int32) (M : Mem) : Option (Unit × Mem) :=
  lp (fun k2 (a : Option Nat × Int32) M => fX10_writeZeros_B2 k2 a.1 a.2 M) FU ((p1, p3)) M
def fX10_writeZeros (a0 : Option Nat) (a1 : Option Nat) (a2 : Int32) (M : Mem) : Option (Unit × Mem) :=
  bn (a2) fun v1 =>
  fX10_writeZeros_L2 a1 v1 M
def rmX10_writeZeros : Room := { frames := 1, cells := 0, slots := 0, locals := 23 }
set_option maxRecDepth 100000 in
set_option maxHeartbeats 4000000 in
theorem ctX10_writeZeros (l : Launch) (x : Cx) (a0 : Option Nat) (a1 : Option Nat) (a2 : Int32) (M : Mem) (v : Unit) (N : Mem) (h : fX10_writeZeros a0 a1 a2 M = some (v, N)) : CT l yX10_writeZeros cX10_writeZeros 4 (none) rmX10_writeZeros x [rv x a0, rv x a1, .int a2] M none N := by
  refine ct_mk (enc := fun _ : Unit => none) (li := [(2, a2)]) (ll := []) (lr := [(0, a0), (1, a1)]) (by decide +kernel) (by simp [lg_sl, rv_cat, cat_int, cat_long]) (by simp [flat, lv_args, rv_cat, cat_int, cat_long]) h ?_
  intro p e s m args below meth c E
  have hL2 : ∀ (p1 : Option Nat) (p3 : Int32) (M : Mem), RT p l e rmX10_writeZeros s m args below meth c x 4 (QM below args s x (fun _ : Unit => none) rmX10_writeZeros.cells rmX10_writeZeros.slots) 0 0 (fX10_writeZeros_L2 p1 p3 M) 2 [(3, p3)] [] [(1, p1)] [] M := by
    intro p1 p3 M
    refine r_lp (fi := fun a : Option Nat × Int32 => [(3, a.2)]) (fl := fun a : Option Nat × Int32 => []) (fr := fun a : Option Nat × Int32 => [(1, a.1)]) (fs := fun a : Option Nat × Int32 => []) ?_ FU ((p1, p3)) M
    intro k2 hk2 a M
    obtain ⟨p1, p3⟩ := a
    show RT p l e rmX10_writeZeros s m args below meth c x 4 (QM below args s x (fun _ : Unit => none) rmX10_writeZeros.cells rmX10_writeZeros.slots) 0 0 (fX10_writeZeros_B2 k2 p1 p3 M) 2 [(3, p3)] [] [(1, p1)] [] M
    unfold fX10_writeZeros_B2
    refine r_iload_n (pc := 2) E dX10_writeZeros_2 rfl 0 rfl ?_
    refine r_iconst (pc := 3) (v := 3) E dX10_writeZeros_3 (by decide) ?_
    refine r_icmp_lt (pc := 4) (tgt := 21) E dX10_writeZeros_4 (by decide) ?_ ?_
    · refine r_aload_n (pc := 21) E dX10_writeZeros_21 rfl 0 rfl ?_
      refine r_iload_n (pc := 22) E dX10_writeZeros_22 rfl 0 rfl ?_
      refine r_i2l (pc := 23) E dX10_writeZeros_23 ?_
      refine r_iconst (pc := 24) (v := 2) E dX10_writeZeros_24 (by decide) ?_
      refine r_kVv (pc := 25) (As := [.long p3.toInt64, .int 2]) (rest := []) E wc_X8_addBits wi_RX8 hd_X8_addBits (ci := 8) rfl wl_RX10_103 wn_X8_addBits ws_X8_addBits dX10_writeZeros_25 (by decide) (Nat.le_of_ble_eq_true rfl) ⟨rfl, rfl⟩ (ctX8_addBits l x _ _ _ _) rfl (fun v25 M25 => ?_)
      exact e_void (pc := 28) E dX10_writeZeros_28
    · refine r_aload_n (pc := 7) E dX10_writeZeros_7 rfl 0 rfl ?_
      refine r_ldc2 (pc := 8) E wk_RX10_118 dX10_writeZeros_8 ?_
      refine r_iconst (pc := 11) (v := 2) E dX10_writeZeros_11 (by decide) ?_
      refine r_kVv (pc := 12) (As := [.long 3, .int 2]) (rest := []) E wc_X8_addBits wi_RX8 hd_X8_addBits (ci := 8) rfl wl_RX10_103 wn_X8_addBits ws_X8_addBits dX10_writeZeros_12 (by decide) (Nat.le_of_ble_eq_true rfl) ⟨rfl, rfl⟩ (ctX8_addBits l x _ _ _ _) rfl (fun v12 M12 => ?_)
      refine r_iinc (pc := 15) (w := (-3)) (lf := fun v15 => [(3, v15)]) (ll' := []) (lr' := [(1, p1)]) E dX10_writeZeros_15 0 rfl (by decide) (by decide) (fun _ => rfl) rfl rfl (fun v15 => ?_)
      refine r_goto (pc := 18) (tgt := 2) E dX10_writeZeros_18 (by decide) ?_
      exact r_sub [0] [] [0] rfl rfl rfl (hk2 ((p1, v15)) _)
  show RT p l e rmX10_writeZeros s m args below meth c x 4 (QM below args s x (fun _ : Unit => none) rmX10_writeZeros.cells rmX10_writeZeros.slots) 0 0 (fX10_writeZeros a0 a1 a2 M) 0 [(2, a2)] [] [(0, a0), (1, a1)] [] M
  unfold fX10_writeZeros
  refine r_iload_n (pc := 0) E dX10_writeZeros_0 rfl 0 rfl ?_
  refine r_istore_n (pc := 1) (lf := fun v1 => [(3, v1), (2, a2)]) (lg := fun v1 => []) (lk := fun v1 => [(0, a0), (1, a1)]) E dX10_writeZeros_1 rfl (by decide) (fun _ => rfl) (fun _ => rfl) (fun _ => rfl) (fun v1 => ?_)
  exact r_sub [0] [] [1] rfl rfl rfl (hL2 a1 v1 _)
def fX10_write_L97 (k24 : Option Nat × Option Nat × Int32 × Int32 × Int32 → Mem → Option (Unit × Mem)) (p0 : Option Nat) (p1 : Option Nat) (p2 : Int32) (p3 : Int32) (p4 : Int32) (M : Mem) : Option (Unit × Mem) :=
  bn (p4 + 1) fun v97 =>
  k24 ((p0, p1, p2, p3, v97)) M
def fX10_write_L74 (k24 : Option Nat × Option Nat × Int32 × Int32 × Int32 → Mem → Option (Unit × Mem)) (p0 : Option Nat) (p1 : Option Nat) (p2 : Int32) (p3 : Int32) (p4 : Int32) (M : Mem) : Option (Unit × Mem) :=
  bo (gR M p0 10 2) fun v77 =>
  bo (aI M v77 15 p4) fun v82 =>
  bo (chk M p0 10) fun _ => bd (fX10_writeCount p0 p1 v82 p2 M) fun v84 M84 =>
  bo (gR M84 p0 10 2) fun v89 =>
  bo (aI M84 v89 15 p4) fun v94 =>
  bn (p2 - v94) fun v96 =>
  fX10_write_L97 k24 p0 p1 v96 p3 p4 M84
def fX10_write_L54 (k24 : Option Nat × Option Nat × Int32 × Int32 × Int32 → Mem → Option (Unit × Mem)) (p0 : Option Nat) (p1 : Option Nat) (p2 : Int32) (p3 : Int32) (p4 : Int32) (M : Mem) : Option (Unit × Mem) :=
  bn (p3 + 1) fun v54 =>
  fX10_write_L97 k24 p0 p1 p2 v54 p4 M
def fX10_write_B24 (k24 : Option Nat × Option Nat × Int32 × Int32 × Int32 → Mem → Option (Unit × Mem)) (p0 : Option Nat) (p1 : Option Nat) (p2 : Int32) (p3 : Int32) (p4 : Int32) (M : Mem) : Option (Unit × Mem) :=
  bo (gI M p0 10 4) fun v27 =>
  if v27 ≤ p4 then (
    bo (chk M p1 8) fun _ => bd (fX8_endBits p1 M) fun v104 M104 =>
    some ((), M104)
  ) else (
    bo (gR M p0 10 2) fun v34 =>
    bo (aI M v34 15 p4) fun v39 =>
    if v39 = 0 then (
      if p3 = 0 then (
        bo (chk M p0 10) fun _ => bd (fX10_writeCount p0 p1 0 p2 M) fun v51 M51 =>
        fX10_write_L54 k24 p0 p1 p2 p3 p4 M51
      ) else (
        fX10_write_L54 k24 p0 p1 p2 p3 p4 M
      )
    ) else (
      if p3 ≤ 0 then (
        fX10_write_L74 k24 p0 p1 p2 p3 p4 M
      ) else (
        bo (chk M p0 10) fun _ => bd (fX10_writeZeros p0 p1 (p3 - 1) M) fun v69 M69 =>
        bn (0) fun v73 =>
        fX10_write_L74 k24 p0 p1 p2 v73 p4 M69
      )
    )
  )
def fX10_write_L24 (p0 : Option Nat) (p1 : Option Nat) (p2 : Int32) (p3 : Int32) (p4 : Int32) (M : Mem) : Option (Unit × Mem) :=
  lp (fun k24 (a : Option Nat × Option Nat × Int32 × Int32 × Int32) M => fX10_write_B24 k24 a.1 a.2.1 a.2.2.1 a.2.2.2.1 a.2.2.2.2 M) FU ((p0, p1, p2, p3, p4)) M
def fX10_write (a0 : Option Nat) (a1 : Option Nat) (M : Mem) : Option (Unit × Mem) :=
  bo (gI M a0 10 0) fun v2 =>
  bo (chk M a1 8) fun _ => bd (fX8_addBits a1 ((v2 - 5).toInt64) 4 M) fun v9 M9 =>
  bo (gI M9 a0 10 0) fun v14 =>
  bn (shlI 1 v14) fun v18 =>
  bn (0) fun v20 =>
  bn (0) fun v22 =>
  fX10_write_L24 a0 a1 v18 v20 v22 M9
def rmX10_write : Room := { frames := 2, cells := 0, slots := 0, locals := 49 }
set_option maxRecDepth 100000 in
set_option maxHeartbeats 4000000 in
theorem ctX10_write (l : Launch) (x : Cx) (a0 : Option Nat) (a1 : Option Nat) (M : Mem) (v : Unit) (N : Mem) (h : fX10_write a0 a1 M = some (v, N)) : CT l yX10_write cX10_write 5 (none) rmX10_write x [rv x a0, rv x a1] M none N := by
  refine ct_mk (enc := fun _ : Unit => none) (li := []) (ll := []) (lr := [(0, a0), (1, a1)]) (by decide +kernel) (by simp [lg_sl, rv_cat, cat_int, cat_long]) (by simp [flat, lv_args, rv_cat, cat_int, cat_long]) h ?_
  intro p e s m args below meth c E
  have hL97 : ∀ (k24 : Option Nat × Option Nat × Int32 × Int32 × Int32 → Mem → Option (Unit × Mem)) (hk24 : ∀ a M, RT p l e rmX10_write s m args below meth c x 5 (QM below args s x (fun _ : Unit => none) rmX10_write.cells rmX10_write.slots) 0 0 (k24 a M) 24 [(2, a.2.2.1), (3, a.2.2.2.1), (4, a.2.2.2.2)] [] [(0, a.1), (1, a.2.1)] [] M) (p0 : Option Nat) (p1 : Option Nat) (p2 : Int32) (p3 : Int32) (p4 : Int32) (M : Mem), RT p l e rmX10_write s m args below meth c x 5 (QM below args s x (fun _ : Unit => none) rmX10_write.cells rmX10_write.slots) 0 0 (fX10_write_L97 k24 p0 p1 p2 p3 p4 M) 97 [(2, p2), (3, p3), (4, p4)] [] [(0, p0), (1, p1)] [] M := by
    intro k24 hk24 p0 p1 p2 p3 p4 M
    unfold fX10_write_L97
    refine r_iinc (pc := 97) (w := 1) (lf := fun v97 => [(4, v97), (2, p2), (3, p3)]) (ll' := []) (lr' := [(0, p0), (1, p1)]) E dX10_write_97 2 rfl (by decide) (by decide) (fun _ => rfl) rfl rfl (fun v97 => ?_)
    refine r_goto (pc := 100) (tgt := 24) E dX10_write_100 (by decide) ?_
    exact r_sub [1, 2, 0] [] [0, 1] rfl rfl rfl (hk24 ((p0, p1, p2, p3, v97)) _)
  have hL74 : ∀ (k24 : Option Nat × Option Nat × Int32 × Int32 × Int32 → Mem → Option (Unit × Mem)) (hk24 : ∀ a M, RT p l e rmX10_write s m args below meth c x 5 (QM below args s x (fun _ : Unit => none) rmX10_write.cells rmX10_write.slots) 0 0 (k24 a M) 24 [(2, a.2.2.1), (3, a.2.2.2.1), (4, a.2.2.2.2)] [] [(0, a.1), (1, a.2.1)] [] M) (p0 : Option Nat) (p1 : Option Nat) (p2 : Int32) (p3 : Int32) (p4 : Int32) (M : Mem), RT p l e rmX10_write s m args below meth c x 5 (QM below args s x (fun _ : Unit => none) rmX10_write.cells rmX10_write.slots) 0 0 (fX10_write_L74 k24 p0 p1 p2 p3 p4 M) 74 [(2, p2), (3, p3), (4, p4)] [] [(0, p0), (1, p1)] [] M := by
    intro k24 hk24 p0 p1 p2 p3 p4 M
    unfold fX10_write_L74
    refine r_aload_n (pc := 74) E dX10_write_74 rfl 0 rfl ?_
    refine r_aload_n (pc := 75) E dX10_write_75 rfl 1 rfl ?_
    refine r_aload_n (pc := 76) E dX10_write_76 rfl 0 rfl ?_
    refine r_getA (pc := 77) E fd_10_2 wf_RX10_15 dX10_write_77 (fun v77 => ?_)
    refine r_iload (pc := 80) E dX10_write_80 2 rfl ?_
    refine r_iaload (pc := 82) E dX10_write_82 (fun v82 => ?_)
    refine r_iload_n (pc := 83) E dX10_write_83 rfl 0 rfl ?_
    refine r_kVv (pc := 84) (As := [rv x p1, .int v82, .int p2]) (rest := []) E wc_X10_writeCount wi_RX10 hd_X10_writeCount (ci := 10) rfl wl_RX10_107 wn_X10_writeCount ws_X10_writeCount dX10_write_84 (by decide) (Nat.le_of_ble_eq_true rfl) ⟨rfl, rfl⟩ (ctX10_writeCount l x _ _ _ _ _) rfl (fun v84 M84 => ?_)
    refine r_iload_n (pc := 87) E dX10_write_87 rfl 0 rfl ?_
    refine r_aload_n (pc := 88) E dX10_write_88 rfl 0 rfl ?_
    refine r_getA (pc := 89) E fd_10_2 wf_RX10_15 dX10_write_89 (fun v89 => ?_)
    refine r_iload (pc := 92) E dX10_write_92 2 rfl ?_
    refine r_iaload (pc := 94) E dX10_write_94 (fun v94 => ?_)
    refine r_isub (pc := 95) E dX10_write_95 ?_
    refine r_istore_n (pc := 96) (lf := fun v96 => [(2, v96), (3, p3), (4, p4)]) (lg := fun v96 => []) (lk := fun v96 => [(0, p0), (1, p1)]) E dX10_write_96 rfl (by decide) (fun _ => rfl) (fun _ => rfl) (fun _ => rfl) (fun v96 => ?_)
    exact r_sub [0, 1, 2] [] [0, 1] rfl rfl rfl (hL97 k24 hk24 p0 p1 v96 p3 p4 _)
  have hL54 : ∀ (k24 : Option Nat × Option Nat × Int32 × Int32 × Int32 → Mem → Option (Unit × Mem)) (hk24 : ∀ a M, RT p l e rmX10_write s m args below meth c x 5 (QM below args s x (fun _ : Unit => none) rmX10_write.cells rmX10_write.slots) 0 0 (k24 a M) 24 [(2, a.2.2.1), (3, a.2.2.2.1), (4, a.2.2.2.2)] [] [(0, a.1), (1, a.2.1)] [] M) (p0 : Option Nat) (p1 : Option Nat) (p2 : Int32) (p3 : Int32) (p4 : Int32) (M : Mem), RT p l e rmX10_write s m args below meth c x 5 (QM below args s x (fun _ : Unit => none) rmX10_write.cells rmX10_write.slots) 0 0 (fX10_write_L54 k24 p0 p1 p2 p3 p4 M) 54 [(2, p2), (3, p3), (4, p4)] [] [(0, p0), (1, p1)] [] M := by
    intro k24 hk24 p0 p1 p2 p3 p4 M
    unfold fX10_write_L54
    refine r_iinc (pc := 54) (w := 1) (lf := fun v54 => [(3, v54), (2, p2), (4, p4)]) (ll' := []) (lr' := [(0, p0), (1, p1)]) E dX10_write_54 1 rfl (by decide) (by decide) (fun _ => rfl) rfl rfl (fun v54 => ?_)
    refine r_goto (pc := 57) (tgt := 97) E dX10_write_57 (by decide) ?_
    exact r_sub [1, 0, 2] [] [0, 1] rfl rfl rfl (hL97 k24 hk24 p0 p1 p2 v54 p4 _)
  have hL24 : ∀ (p0 : Option Nat) (p1 : Option Nat) (p2 : Int32) (p3 : Int32) (p4 : Int32) (M : Mem), RT p l e rmX10_write s m args below meth c x 5 (QM below args s x (fun _ : Unit => none) rmX10_write.cells rmX10_write.slots) 0 0 (fX10_write_L24 p0 p1 p2 p3 p4 M) 24 [(2, p2), (3, p3), (4, p4)] [] [(0, p0), (1, p1)] [] M := by
    intro p0 p1 p2 p3 p4 M
    refine r_lp (fi := fun a : Option Nat × Option Nat × Int32 × Int32 × Int32 => [(2, a.2.2.1), (3, a.2.2.2.1), (4, a.2.2.2.2)]) (fl := fun a : Option Nat × Option Nat × Int32 × Int32 × Int32 => []) (fr := fun a : Option Nat × Option Nat × Int32 × Int32 × Int32 => [(0, a.1), (1, a.2.1)]) (fs := fun a : Option Nat × Option Nat × Int32 × Int32 × Int32 => []) ?_ FU ((p0, p1, p2, p3, p4)) M
    intro k24 hk24 a M
    obtain ⟨p0, p1, p2, p3, p4⟩ := a
    show RT p l e rmX10_write s m args below meth c x 5 (QM below args s x (fun _ : Unit => none) rmX10_write.cells rmX10_write.slots) 0 0 (fX10_write_B24 k24 p0 p1 p2 p3 p4 M) 24 [(2, p2), (3, p3), (4, p4)] [] [(0, p0), (1, p1)] [] M
    unfold fX10_write_B24
    refine r_iload (pc := 24) E dX10_write_24 2 rfl ?_
    refine r_aload_n (pc := 26) E dX10_write_26 rfl 0 rfl ?_
    refine r_getI (pc := 27) E fd_10_4 wf_RX10_40 dX10_write_27 (fun v27 => ?_)
    refine r_icmp_ge (pc := 30) (tgt := 103) E dX10_write_30 (by decide) ?_ ?_
    · refine r_aload_n (pc := 103) E dX10_write_103 rfl 1 rfl ?_
      refine r_kVv (pc := 104) (As := []) (rest := []) E wc_X8_endBits wi_RX8 hd_X8_endBits (ci := 8) rfl wl_RX10_115 wn_X8_endBits ws_X8_endBits dX10_write_104 (by decide) (Nat.le_of_ble_eq_true rfl) ⟨rfl, rfl⟩ (ctX8_endBits l x _ _) rfl (fun v104 M104 => ?_)
      exact e_void (pc := 107) E dX10_write_107
    · refine r_aload_n (pc := 33) E dX10_write_33 rfl 0 rfl ?_
      refine r_getA (pc := 34) E fd_10_2 wf_RX10_15 dX10_write_34 (fun v34 => ?_)
      refine r_iload (pc := 37) E dX10_write_37 2 rfl ?_
      refine r_iaload (pc := 39) E dX10_write_39 (fun v39 => ?_)
      refine r_if_ne (pc := 40) (tgt := 60) E dX10_write_40 (by decide) ?_ ?_
      · refine r_iload_n (pc := 60) E dX10_write_60 rfl 1 rfl ?_
        refine r_if_le (pc := 61) (tgt := 74) E dX10_write_61 (by decide) ?_ ?_
        · exact r_sub [0, 1, 2] [] [0, 1] rfl rfl rfl (hL74 k24 hk24 p0 p1 p2 p3 p4 _)
        · refine r_aload_n (pc := 64) E dX10_write_64 rfl 0 rfl ?_
          refine r_aload_n (pc := 65) E dX10_write_65 rfl 1 rfl ?_
          refine r_iload_n (pc := 66) E dX10_write_66 rfl 1 rfl ?_
          refine r_iconst (pc := 67) (v := 1) E dX10_write_67 (by decide) ?_
          refine r_isub (pc := 68) E dX10_write_68 ?_
          refine r_kVv (pc := 69) (As := [rv x p1, .int (p3 - 1)]) (rest := []) E wc_X10_writeZeros wi_RX10 hd_X10_writeZeros (ci := 10) rfl wl_RX10_111 wn_X10_writeZeros ws_X10_writeZeros dX10_write_69 (by decide) (Nat.le_of_ble_eq_true rfl) ⟨rfl, rfl⟩ (ctX10_writeZeros l x _ _ _ _) rfl (fun v69 M69 => ?_)
          refine r_iconst (pc := 72) (v := 0) E dX10_write_72 (by decide) ?_
          refine r_istore_n (pc := 73) (lf := fun v73 => [(3, v73), (2, p2), (4, p4)]) (lg := fun v73 => []) (lk := fun v73 => [(0, p0), (1, p1)]) E dX10_write_73 rfl (by decide) (fun _ => rfl) (fun _ => rfl) (fun _ => rfl) (fun v73 => ?_)
          exact r_sub [1, 0, 2] [] [0, 1] rfl rfl rfl (hL74 k24 hk24 p0 p1 p2 v73 p4 _)
      · refine r_iload_n (pc := 43) E dX10_write_43 rfl 1 rfl ?_
        refine r_if_ne (pc := 44) (tgt := 54) E dX10_write_44 (by decide) ?_ ?_
        · exact r_sub [0, 1, 2] [] [0, 1] rfl rfl rfl (hL54 k24 hk24 p0 p1 p2 p3 p4 _)
        · refine r_aload_n (pc := 47) E dX10_write_47 rfl 0 rfl ?_
          refine r_aload_n (pc := 48) E dX10_write_48 rfl 1 rfl ?_
          refine r_iconst (pc := 49) (v := 0) E dX10_write_49 (by decide) ?_
          refine r_iload_n (pc := 50) E dX10_write_50 rfl 0 rfl ?_
          refine r_kVv (pc := 51) (As := [rv x p1, .int 0, .int p2]) (rest := []) E wc_X10_writeCount wi_RX10 hd_X10_writeCount (ci := 10) rfl wl_RX10_107 wn_X10_writeCount ws_X10_writeCount dX10_write_51 (by decide) (Nat.le_of_ble_eq_true rfl) ⟨rfl, rfl⟩ (ctX10_writeCount l x _ _ _ _ _) rfl (fun v51 M51 => ?_)
          exact r_sub [0, 1, 2] [] [0, 1] rfl rfl rfl (hL54 k24 hk24 p0 p1 p2 p3 p4 _)
  show RT p l e rmX10_write s m args below meth c x 5 (QM below args s x (fun _ : Unit => none) rmX10_write.cells rmX10_write.slots) 0 0 (fX10_write a0 a1 M) 0 [] [] [(0, a0), (1, a1)] [] M
  unfold fX10_write
  refine r_aload_n (pc := 0) E dX10_write_0 rfl 1 rfl ?_
  refine r_aload_n (pc := 1) E dX10_write_1 rfl 0 rfl ?_
  refine r_getI (pc := 2) E fd_10_0 wf_RX10_57 dX10_write_2 (fun v2 => ?_)
  refine r_iconst (pc := 5) (v := 5) E dX10_write_5 (by decide) ?_
  refine r_isub (pc := 6) E dX10_write_6 ?_
  refine r_i2l (pc := 7) E dX10_write_7 ?_
  refine r_iconst (pc := 8) (v := 4) E dX10_write_8 (by decide) ?_
  refine r_kVv (pc := 9) (As := [.long ((v2 - 5).toInt64), .int 4]) (rest := []) E wc_X8_addBits wi_RX8 hd_X8_addBits (ci := 8) rfl wl_RX10_103 wn_X8_addBits ws_X8_addBits dX10_write_9 (by decide) (Nat.le_of_ble_eq_true rfl) ⟨rfl, rfl⟩ (ctX8_addBits l x _ _ _ _) rfl (fun v9 M9 => ?_)
  refine r_iconst (pc := 12) (v := 1) E dX10_write_12 (by decide) ?_
  refine r_aload_n (pc := 13) E dX10_write_13 rfl 0 rfl ?_
  refine r_getI (pc := 14) E fd_10_0 wf_RX10_57 dX10_write_14 (fun v14 => ?_)
  refine r_ishl (pc := 17) E dX10_write_17 ?_
  refine r_istore_n (pc := 18) (lf := fun v18 => [(2, v18)]) (lg := fun v18 => []) (lk := fun v18 => [(0, a0), (1, a1)]) E dX10_write_18 rfl (by decide) (fun _ => rfl) (fun _ => rfl) (fun _ => rfl) (fun v18 => ?_)
  refine r_iconst (pc := 19) (v := 0) E dX10_write_19 (by decide) ?_
  refine r_istore_n (pc := 20) (lf := fun v20 => [(3, v20), (2, v18)]) (lg := fun v20 => []) (lk := fun v20 => [(0, a0), (1, a1)]) E dX10_write_20 rfl (by decide) (fun _ => rfl) (fun _ => rfl) (fun _ => rfl) (fun v20 => ?_)
  refine r_iconst (pc := 21) (v := 0) E dX10_write_21 (by decide) ?_
  refine r_istore (pc := 22) (lf := fun v22 => [(4, v22), (3, v20), (2, v18)]) (lg := fun v22 => []) (lk := fun v22 => [(0, a0), (1, a1)]) E dX10_write_22 (by decide) (fun _ => rfl) (fun _ => rfl) (fun _ => rfl) (fun v22 => ?_)
  exact r_sub [2, 1, 0] [] [0, 1] rfl rfl rfl (hL24 a0 a1 v18 v20 v22 _)
def fX6_writeTable_L14 (p0 : Option Nat) (p1 : Int32) (M : Mem) : Option (Int32 × Mem) :=
  bo (gR M p0 6 6) fun v15 =>
  bo (gR M p0 6 4) fun v20 =>
  bo (aR M v20 20 p1) fun v24 =>
  bo (wR M v15 20 10 p1 v24) fun M25 =>
  some (0, M25)
def fX6_writeTable_B53 (k53 : Option Nat × Int32 × Int32 × Int32 × Int32 → Mem → Option (Int32 × Mem)) (p0 : Option Nat) (p1 : Int32) (p2 : Int32) (p3 : Int32) (p4 : Int32) (M : Mem) : Option (Int32 × Mem) :=
  if p2 ≤ p4 then (
    bo (gR M p0 6 11) fun v93 =>
    bo (aI M v93 15 p3) fun v97 =>
    if v97 = p2 then (
      bo (gR M p0 6 5) fun v103 =>
      bo (aR M v103 20 p1) fun v107 =>
      bo (chk M v107 10) fun _ => bd (fX10_buildOnly v107 p3 M) fun v109 M109 =>
      bo (gR M109 p0 6 1) fun v113 =>
      bo (chk M109 v113 8) fun _ => bd (fX8_add v113 p3 M109) fun v117 M117 =>
      some (1, M117)
    ) else (
      bo (gR M p0 6 5) fun v123 =>
      bo (aR M v123 20 p1) fun v127 =>
      bo (gR M p0 6 11) fun v129 =>
      bo (chk M v127 10) fun _ => bd (fX10_buildFor v127 v129 p3 p2 M) fun v134 M134 =>
      bo (gR M134 p0 6 5) fun v138 =>
      bo (aR M134 v138 20 p1) fun v142 =>
      bo (gR M134 p0 6 1) fun v144 =>
      bo (chk M134 v142 10) fun _ => bd (fX10_write v142 v144 M134) fun v147 M147 =>
      some (2, M147)
    )
  ) else (
    bo (chk M p0 6) fun _ => bd (fX6_symbolOf p0 p1 p4 M) fun v63 M63 =>
    bn (v63) fun v66 =>
    bo (gR M63 p0 6 11) fun v69 =>
    bo (aI M63 v69 15 v66) fun v75 =>
    bo (wI M63 v69 v66 (v75 + 1)) fun M78 =>
    bn (maxI p3 v66) fun v85 =>
    bn (p4 + 1) fun v86 =>
    k53 ((p0, p1, p2, v85, v86)) M78
  )
def fX6_writeTable_L53 (p0 : Option Nat) (p1 : Int32) (p2 : Int32) (p3 : Int32) (p4 : Int32) (M : Mem) : Option (Int32 × Mem) :=
  lp (fun k53 (a : Option Nat × Int32 × Int32 × Int32 × Int32) M => fX6_writeTable_B53 k53 a.1 a.2.1 a.2.2.1 a.2.2.2.1 a.2.2.2.2 M) FU ((p0, p1, p2, p3, p4)) M
def fX6_writeTable (a0 : Option Nat) (a1 : Int32) (a2 : Int32) (M : Mem) : Option (Int32 × Mem) :=
  bo (gI M a0 6 14) fun v1 =>
  if v1 < 2 then (
    fX6_writeTable_L14 a0 a1 M
  ) else (
    if 8 ≤ a2 then (
      bo (gR M a0 6 6) fun v29 =>
      bo (gR M a0 6 5) fun v34 =>
      bo (aR M v34 20 a1) fun v38 =>
      bo (wR M v29 20 10 a1 v38) fun M39 =>
      bo (gR M39 a0 6 11) fun v41 =>
      bd (fJ7_fill_53178 v41 0 M39) fun v45 M45 =>
      bn (0) fun v49 =>
      bn (0) fun v51 =>
      fX6_writeTable_L53 a0 a1 a2 v49 v51 M45
    ) else (
      fX6_writeTable_L14 a0 a1 M
    )
  )
def rmX6_writeTable : Room := { frames := 3, cells := 0, slots := 0, locals := 82 }
set_option maxRecDepth 100000 in
set_option maxHeartbeats 4000000 in
theorem ctX6_writeTable (l : Launch) (x : Cx) (a0 : Option Nat) (a1 : Int32) (a2 : Int32) (M : Mem) (v : Int32) (N : Mem) (h : fX6_writeTable a0 a1 a2 M = some (v, N)) : CT l yX6_writeTable cX6_writeTable 6 (some (FieldType.int)) rmX6_writeTable x [rv x a0, .int a1, .int a2] M (some (.int v)) N := by
  refine ct_mk (enc := fun v : Int32 => some (.int v)) (li := [(1, a1), (2, a2)]) (ll := []) (lr := [(0, a0)]) (by decide +kernel) (by simp [lg_sl, rv_cat, cat_int, cat_long]) (by simp [flat, lv_args, rv_cat, cat_int, cat_long]) h ?_
  intro p e s m args below meth c E
  have hL14 : ∀ (p0 : Option Nat) (p1 : Int32) (M : Mem), RT p l e rmX6_writeTable s m args below meth c x 6 (QM below args s x (fun v : Int32 => some (.int v)) rmX6_writeTable.cells rmX6_writeTable.slots) 0 0 (fX6_writeTable_L14 p0 p1 M) 14 [(1, p1)] [] [(0, p0)] [] M := by
    intro p0 p1 M
    unfold fX6_writeTable_L14
    refine r_aload_n (pc := 14) E dX6_writeTable_14 rfl 0 rfl ?_
    refine r_getA (pc := 15) E fd_6_6 wf_RX6_40 dX6_writeTable_15 (fun v15 => ?_)
    refine r_iload_n (pc := 18) E dX6_writeTable_18 rfl 0 rfl ?_
    refine r_aload_n (pc := 19) E dX6_writeTable_19 rfl 0 rfl ?_
    refine r_getA (pc := 20) E fd_6_4 wf_RX6_69 dX6_writeTable_20 (fun v20 => ?_)
    refine r_iload_n (pc := 23) E dX6_writeTable_23 rfl 0 rfl ?_
    refine r_aaload20 (pc := 24) E dX6_writeTable_24 (fun v24 => ?_)
    refine r_aastore20 (pc := 25) E dX6_writeTable_25 (fun M25 => ?_)
    refine r_iconst (pc := 26) (v := 0) E dX6_writeTable_26 (by decide) ?_
    exact e_int (pc := 27) E dX6_writeTable_27
  have hL53 : ∀ (p0 : Option Nat) (p1 : Int32) (p2 : Int32) (p3 : Int32) (p4 : Int32) (M : Mem), RT p l e rmX6_writeTable s m args below meth c x 6 (QM below args s x (fun v : Int32 => some (.int v)) rmX6_writeTable.cells rmX6_writeTable.slots) 0 0 (fX6_writeTable_L53 p0 p1 p2 p3 p4 M) 53 [(1, p1), (2, p2), (3, p3), (4, p4)] [] [(0, p0)] [] M := by
    intro p0 p1 p2 p3 p4 M
    refine r_lp (fi := fun a : Option Nat × Int32 × Int32 × Int32 × Int32 => [(1, a.2.1), (2, a.2.2.1), (3, a.2.2.2.1), (4, a.2.2.2.2)]) (fl := fun a : Option Nat × Int32 × Int32 × Int32 × Int32 => []) (fr := fun a : Option Nat × Int32 × Int32 × Int32 × Int32 => [(0, a.1)]) (fs := fun a : Option Nat × Int32 × Int32 × Int32 × Int32 => []) ?_ FU ((p0, p1, p2, p3, p4)) M
    intro k53 hk53 a M
    obtain ⟨p0, p1, p2, p3, p4⟩ := a
    show RT p l e rmX6_writeTable s m args below meth c x 6 (QM below args s x (fun v : Int32 => some (.int v)) rmX6_writeTable.cells rmX6_writeTable.slots) 0 0 (fX6_writeTable_B53 k53 p0 p1 p2 p3 p4 M) 53 [(1, p1), (2, p2), (3, p3), (4, p4)] [] [(0, p0)] [] M
    unfold fX6_writeTable_B53
    refine r_iload (pc := 53) E dX6_writeTable_53 3 rfl ?_
    refine r_iload_n (pc := 55) E dX6_writeTable_55 rfl 1 rfl ?_
    refine r_icmp_ge (pc := 56) (tgt := 92) E dX6_writeTable_56 (by decide) ?_ ?_
    · refine r_aload_n (pc := 92) E dX6_writeTable_92 rfl 0 rfl ?_
      refine r_getA (pc := 93) E fd_6_11 wf_RX6_56 dX6_writeTable_93 (fun v93 => ?_)
      refine r_iload_n (pc := 96) E dX6_writeTable_96 rfl 2 rfl ?_
      refine r_iaload (pc := 97) E dX6_writeTable_97 (fun v97 => ?_)
      refine r_iload_n (pc := 98) E dX6_writeTable_98 rfl 1 rfl ?_
      refine r_icmp_ne (pc := 99) (tgt := 122) E dX6_writeTable_99 (by decide) ?_ ?_
      · refine r_aload_n (pc := 122) E dX6_writeTable_122 rfl 0 rfl ?_
        refine r_getA (pc := 123) E fd_6_5 wf_RX6_36 dX6_writeTable_123 (fun v123 => ?_)
        refine r_iload_n (pc := 126) E dX6_writeTable_126 rfl 0 rfl ?_
        refine r_aaload20 (pc := 127) E dX6_writeTable_127 (fun v127 => ?_)
        refine r_aload_n (pc := 128) E dX6_writeTable_128 rfl 0 rfl ?_
        refine r_getA (pc := 129) E fd_6_11 wf_RX6_56 dX6_writeTable_129 (fun v129 => ?_)
        refine r_iload_n (pc := 132) E dX6_writeTable_132 rfl 2 rfl ?_
        refine r_iload_n (pc := 133) E dX6_writeTable_133 rfl 1 rfl ?_
        refine r_kVv (pc := 134) (As := [rv x v129, .int p3, .int p2]) (rest := []) E wc_X10_buildFor wi_RX10 hd_X10_buildFor (ci := 10) rfl wl_RX6_251 wn_X10_buildFor ws_X10_buildFor dX6_writeTable_134 (by decide) (Nat.le_of_ble_eq_true rfl) ⟨rfl, rfl⟩ (ctX10_buildFor l x _ _ _ _ _) rfl (fun v134 M134 => ?_)
        refine r_aload_n (pc := 137) E dX6_writeTable_137 rfl 0 rfl ?_
        refine r_getA (pc := 138) E fd_6_5 wf_RX6_36 dX6_writeTable_138 (fun v138 => ?_)
        refine r_iload_n (pc := 141) E dX6_writeTable_141 rfl 0 rfl ?_
        refine r_aaload20 (pc := 142) E dX6_writeTable_142 (fun v142 => ?_)
        refine r_aload_n (pc := 143) E dX6_writeTable_143 rfl 0 rfl ?_
        refine r_getR (pc := 144) E fd_6_1 wf_RX6_23 dX6_writeTable_144 (fun v144 => ?_)
        refine r_kVv (pc := 147) (As := [rv x v144]) (rest := []) E wc_X10_write wi_RX10 hd_X10_write (ci := 10) rfl wl_RX6_254 wn_X10_write ws_X10_write dX6_writeTable_147 (by decide) (Nat.le_of_ble_eq_true rfl) ⟨rfl, rfl⟩ (ctX10_write l x _ _ _) rfl (fun v147 M147 => ?_)
        refine r_iconst (pc := 150) (v := 2) E dX6_writeTable_150 (by decide) ?_
        exact e_int (pc := 151) E dX6_writeTable_151
      · refine r_aload_n (pc := 102) E dX6_writeTable_102 rfl 0 rfl ?_
        refine r_getA (pc := 103) E fd_6_5 wf_RX6_36 dX6_writeTable_103 (fun v103 => ?_)
        refine r_iload_n (pc := 106) E dX6_writeTable_106 rfl 0 rfl ?_
        refine r_aaload20 (pc := 107) E dX6_writeTable_107 (fun v107 => ?_)
        refine r_iload_n (pc := 108) E dX6_writeTable_108 rfl 2 rfl ?_
        refine r_kVv (pc := 109) (As := [.int p3]) (rest := []) E wc_X10_buildOnly wi_RX10 hd_X10_buildOnly (ci := 10) rfl wl_RX6_248 wn_X10_buildOnly ws_X10_buildOnly dX6_writeTable_109 (by decide) (Nat.le_of_ble_eq_true rfl) ⟨rfl, rfl⟩ (ctX10_buildOnly l x _ _ _) rfl (fun v109 M109 => ?_)
        refine r_aload_n (pc := 112) E dX6_writeTable_112 rfl 0 rfl ?_
        refine r_getR (pc := 113) E fd_6_1 wf_RX6_23 dX6_writeTable_113 (fun v113 => ?_)
        refine r_iload_n (pc := 116) E dX6_writeTable_116 rfl 2 rfl ?_
        refine r_kVv (pc := 117) (As := [.int p3]) (rest := []) E wc_X8_add wi_RX8 hd_X8_add (ci := 8) rfl wl_RX6_127 wn_X8_add ws_X8_add dX6_writeTable_117 (by decide) (Nat.le_of_ble_eq_true rfl) ⟨rfl, rfl⟩ (ctX8_add l x _ _ _) rfl (fun v117 M117 => ?_)
        refine r_iconst (pc := 120) (v := 1) E dX6_writeTable_120 (by decide) ?_
        exact e_int (pc := 121) E dX6_writeTable_121
    · refine r_aload_n (pc := 59) E dX6_writeTable_59 rfl 0 rfl ?_
      refine r_iload_n (pc := 60) E dX6_writeTable_60 rfl 0 rfl ?_
      refine r_iload (pc := 61) E dX6_writeTable_61 3 rfl ?_
      refine r_kVi (pc := 63) (As := [.int p1, .int p4]) (rest := []) E wc_X6_symbolOf wi_RX6 hd_X6_symbolOf (ci := 6) rfl wl_RX6_242 wn_X6_symbolOf ws_X6_symbolOf dX6_writeTable_63 (by decide) (Nat.le_of_ble_eq_true rfl) ⟨rfl, rfl⟩ (ctX6_symbolOf l x _ _ _ _) rfl (fun v63 M63 => ?_)
      refine r_istore (pc := 66) (lf := fun v66 => [(5, v66), (1, p1), (2, p2), (3, p3), (4, p4)]) (lg := fun v66 => []) (lk := fun v66 => [(0, p0)]) E dX6_writeTable_66 (by decide) (fun _ => rfl) (fun _ => rfl) (fun _ => rfl) (fun v66 => ?_)
      refine r_aload_n (pc := 68) E dX6_writeTable_68 rfl 0 rfl ?_
      refine r_getA (pc := 69) E fd_6_11 wf_RX6_56 dX6_writeTable_69 (fun v69 => ?_)
      refine r_iload (pc := 72) E dX6_writeTable_72 0 rfl ?_
      refine r_dup2 (pc := 74) E dX6_writeTable_74 rfl (rv_cat _ _) ?_
      refine r_iaload (pc := 75) E dX6_writeTable_75 (fun v75 => ?_)
      refine r_iconst (pc := 76) (v := 1) E dX6_writeTable_76 (by decide) ?_
      refine r_iadd (pc := 77) E dX6_writeTable_77 ?_
      refine r_iastore (pc := 78) E dX6_writeTable_78 (fun M78 => ?_)
      refine r_iload_n (pc := 79) E dX6_writeTable_79 rfl 3 rfl ?_
      refine r_iload (pc := 80) E dX6_writeTable_80 0 rfl ?_
      refine r_mmax (pc := 82) E wl_RX6_245 wm_smax wi_math wm_cmax dX6_writeTable_82 (by decide) (Nat.le_of_ble_eq_true rfl) ?_
      refine r_istore_n (pc := 85) (lf := fun v85 => [(3, v85), (5, v66), (1, p1), (2, p2), (4, p4)]) (lg := fun v85 => []) (lk := fun v85 => [(0, p0)]) E dX6_writeTable_85 rfl (by decide) (fun _ => rfl) (fun _ => rfl) (fun _ => rfl) (fun v85 => ?_)
      refine r_iinc (pc := 86) (w := 1) (lf := fun v86 => [(4, v86), (3, v85), (5, v66), (1, p1), (2, p2)]) (ll' := []) (lr' := [(0, p0)]) E dX6_writeTable_86 4 rfl (by decide) (by decide) (fun _ => rfl) rfl rfl (fun v86 => ?_)
      refine r_goto (pc := 89) (tgt := 53) E dX6_writeTable_89 (by decide) ?_
      exact r_sub [3, 4, 1, 0] [] [0] rfl rfl rfl (hk53 ((p0, p1, p2, v85, v86)) _)
  show RT p l e rmX6_writeTable s m args below meth c x 6 (QM below args s x (fun v : Int32 => some (.int v)) rmX6_writeTable.cells rmX6_writeTable.slots) 0 0 (fX6_writeTable a0 a1 a2 M) 0 [(1, a1), (2, a2)] [] [(0, a0)] [] M
  unfold fX6_writeTable
  refine r_aload_n (pc := 0) E dX6_writeTable_0 rfl 0 rfl ?_
  refine r_getI (pc := 1) E fd_6_14 wf_RX6_73 dX6_writeTable_1 (fun v1 => ?_)
  refine r_iconst (pc := 4) (v := 2) E dX6_writeTable_4 (by decide) ?_
  refine r_icmp_lt (pc := 5) (tgt := 14) E dX6_writeTable_5 (by decide) ?_ ?_
  · exact r_sub [0] [] [0] rfl rfl rfl (hL14 a0 a1 _)
  · refine r_iload_n (pc := 8) E dX6_writeTable_8 rfl 1 rfl ?_
    refine r_bipush (pc := 9) (v := 8) E dX6_writeTable_9 (by decide) ?_
    refine r_icmp_ge (pc := 11) (tgt := 28) E dX6_writeTable_11 (by decide) ?_ ?_
    · refine r_aload_n (pc := 28) E dX6_writeTable_28 rfl 0 rfl ?_
      refine r_getA (pc := 29) E fd_6_6 wf_RX6_40 dX6_writeTable_29 (fun v29 => ?_)
      refine r_iload_n (pc := 32) E dX6_writeTable_32 rfl 0 rfl ?_
      refine r_aload_n (pc := 33) E dX6_writeTable_33 rfl 0 rfl ?_
      refine r_getA (pc := 34) E fd_6_5 wf_RX6_36 dX6_writeTable_34 (fun v34 => ?_)
      refine r_iload_n (pc := 37) E dX6_writeTable_37 rfl 0 rfl ?_
      refine r_aaload20 (pc := 38) E dX6_writeTable_38 (fun v38 => ?_)
      refine r_aastore20 (pc := 39) E dX6_writeTable_39 (fun M39 => ?_)
      refine r_aload_n (pc := 40) E dX6_writeTable_40 rfl 0 rfl ?_
      refine r_getA (pc := 41) E fd_6_11 wf_RX6_56 dX6_writeTable_41 (fun v41 => ?_)
      refine r_iconst (pc := 44) (v := 0) E dX6_writeTable_44 (by decide) ?_
      refine r_kSv (pc := 45) (As := [rv x v41, .int 0]) (rest := []) E wc_J7_fill_53178 wi_RJ7 hd_J7_fill_53178 wl_RX6_236 wt_J7_fill_53178 dX6_writeTable_45 (by decide) (Nat.le_of_ble_eq_true rfl) ⟨rfl, rfl⟩ (ctJ7_fill_53178 l x _ _ _) rfl (fun v45 M45 => ?_)
      refine r_iconst (pc := 48) (v := 0) E dX6_writeTable_48 (by decide) ?_
      refine r_istore_n (pc := 49) (lf := fun v49 => [(3, v49), (1, a1), (2, a2)]) (lg := fun v49 => []) (lk := fun v49 => [(0, a0)]) E dX6_writeTable_49 rfl (by decide) (fun _ => rfl) (fun _ => rfl) (fun _ => rfl) (fun v49 => ?_)
      refine r_iconst (pc := 50) (v := 0) E dX6_writeTable_50 (by decide) ?_
      refine r_istore (pc := 51) (lf := fun v51 => [(4, v51), (3, v49), (1, a1), (2, a2)]) (lg := fun v51 => []) (lk := fun v51 => [(0, a0)]) E dX6_writeTable_51 (by decide) (fun _ => rfl) (fun _ => rfl) (fun _ => rfl) (fun v51 => ?_)
      exact r_sub [2, 3, 1, 0] [] [0] rfl rfl rfl (hL53 a0 a1 a2 v49 v51 _)
    · exact r_sub [0] [] [0] rfl rfl rfl (hL14 a0 a1 _)
def fX8_put_L21 (M : Mem) : Option (Unit × Mem) :=
  some ((), M)
def fX8_put (a0 : Option Nat) (a1 : Int32) (a2 : Int32) (M : Mem) : Option (Unit × Mem) :=
  if a1 < 0 then (
    fX8_put_L21 M
  ) else (
    bo (gR M a0 8 0) fun v6 =>
    bo (aL M v6) fun v9 =>
    if v9 ≤ a1 then (
      fX8_put_L21 M
    ) else (
      bo (gR M a0 8 0) fun v14 =>
      bo (wB M v14 a1 (i2b a2)) fun M20 =>
      fX8_put_L21 M20
    )
  )
def rmX8_put : Room := { frames := 0, cells := 0, slots := 0, locals := 0 }
set_option maxRecDepth 100000 in
set_option maxHeartbeats 4000000 in
theorem ctX8_put (l : Launch) (x : Cx) (a0 : Option Nat) (a1 : Int32) (a2 : Int32) (M : Mem) (v : Unit) (N : Mem) (h : fX8_put a0 a1 a2 M = some (v, N)) : CT l yX8_put cX8_put 3 (none) rmX8_put x [rv x a0, .int a1, .int a2] M none N := by
  refine ct_mk (enc := fun _ : Unit => none) (li := [(1, a1), (2, a2)]) (ll := []) (lr := [(0, a0)]) (by decide +kernel) (by simp [lg_sl, rv_cat, cat_int, cat_long]) (by simp [flat, lv_args, rv_cat, cat_int, cat_long]) h ?_
  intro p e s m args below meth c E
  have hL21 : ∀ (M : Mem), RT p l e rmX8_put s m args below meth c x 3 (QM below args s x (fun _ : Unit => none) rmX8_put.cells rmX8_put.slots) 0 0 (fX8_put_L21 M) 21 [] [] [] [] M := by
    intro M
    unfold fX8_put_L21
    exact e_void (pc := 21) E dX8_put_21
  show RT p l e rmX8_put s m args below meth c x 3 (QM below args s x (fun _ : Unit => none) rmX8_put.cells rmX8_put.slots) 0 0 (fX8_put a0 a1 a2 M) 0 [(1, a1), (2, a2)] [] [(0, a0)] [] M
  unfold fX8_put
  refine r_iload_n (pc := 0) E dX8_put_0 rfl 0 rfl ?_
  refine r_if_lt (pc := 1) (tgt := 21) E dX8_put_1 (by decide) ?_ ?_
  · exact r_sub [] [] [] rfl rfl rfl (hL21 _)
  · refine r_iload_n (pc := 4) E dX8_put_4 rfl 0 rfl ?_
    refine r_aload_n (pc := 5) E dX8_put_5 rfl 0 rfl ?_
    refine r_getA (pc := 6) E fd_8_0 wf_RX8_15 dX8_put_6 (fun v6 => ?_)
    refine r_alen (pc := 9) E dX8_put_9 (fun v9 => ?_)
    refine r_icmp_ge (pc := 10) (tgt := 21) E dX8_put_10 (by decide) ?_ ?_
    · exact r_sub [] [] [] rfl rfl rfl (hL21 _)
    · refine r_aload_n (pc := 13) E dX8_put_13 rfl 0 rfl ?_
      refine r_getA (pc := 14) E fd_8_0 wf_RX8_15 dX8_put_14 (fun v14 => ?_)
      refine r_iload_n (pc := 17) E dX8_put_17 rfl 0 rfl ?_
      refine r_iload_n (pc := 18) E dX8_put_18 rfl 1 rfl ?_
      refine r_i2b (pc := 19) E dX8_put_19 ?_
      refine r_bastore (pc := 20) E dX8_put_20 (fun M20 => ?_)
      exact r_sub [] [] [] rfl rfl rfl (hL21 _)
def fX10_firstPlace_B2 (k2 : Option Nat × Int32 × Int32 → Mem → Option (Int32 × Mem)) (p0 : Option Nat) (p1 : Int32) (p2 : Int32) (M : Mem) : Option (Int32 × Mem) :=
  bo (gI M p0 10 0) fun v5 =>
  if (shlI 1 v5) ≤ p2 then (
    some (0, M)
  ) else (
    bo (chk M p0 10) fun _ => bd (fX10_symbolAt p0 p2 M) fun v14 M14 =>
    if v14 = p1 then (
      some (p2, M14)
    ) else (
      bn (p2 + 1) fun v23 =>
      k2 ((p0, p1, v23)) M14
    )
  )
def fX10_firstPlace_L2 (p0 : Option Nat) (p1 : Int32) (p2 : Int32) (M : Mem) : Option (Int32 × Mem) :=
  lp (fun k2 (a : Option Nat × Int32 × Int32) M => fX10_firstPlace_B2 k2 a.1 a.2.1 a.2.2 M) FU ((p0, p1, p2)) M
def fX10_firstPlace (a0 : Option Nat) (a1 : Int32) (M : Mem) : Option (Int32 × Mem) :=
  bn (0) fun v1 =>
  fX10_firstPlace_L2 a0 a1 v1 M
def rmX10_firstPlace : Room := { frames := 1, cells := 0, slots := 0, locals := 21 }
set_option maxRecDepth 100000 in
set_option maxHeartbeats 4000000 in
theorem ctX10_firstPlace (l : Launch) (x : Cx) (a0 : Option Nat) (a1 : Int32) (M : Mem) (v : Int32) (N : Mem) (h : fX10_firstPlace a0 a1 M = some (v, N)) : CT l yX10_firstPlace cX10_firstPlace 3 (some (FieldType.int)) rmX10_firstPlace x [rv x a0, .int a1] M (some (.int v)) N := by
  refine ct_mk (enc := fun v : Int32 => some (.int v)) (li := [(1, a1)]) (ll := []) (lr := [(0, a0)]) (by decide +kernel) (by simp [lg_sl, rv_cat, cat_int, cat_long]) (by simp [flat, lv_args, rv_cat, cat_int, cat_long]) h ?_
  intro p e s m args below meth c E
  have hL2 : ∀ (p0 : Option Nat) (p1 : Int32) (p2 : Int32) (M : Mem), RT p l e rmX10_firstPlace s m args below meth c x 3 (QM below args s x (fun v : Int32 => some (.int v)) rmX10_firstPlace.cells rmX10_firstPlace.slots) 0 0 (fX10_firstPlace_L2 p0 p1 p2 M) 2 [(1, p1), (2, p2)] [] [(0, p0)] [] M := by
    intro p0 p1 p2 M
    refine r_lp (fi := fun a : Option Nat × Int32 × Int32 => [(1, a.2.1), (2, a.2.2)]) (fl := fun a : Option Nat × Int32 × Int32 => []) (fr := fun a : Option Nat × Int32 × Int32 => [(0, a.1)]) (fs := fun a : Option Nat × Int32 × Int32 => []) ?_ FU ((p0, p1, p2)) M
    intro k2 hk2 a M
    obtain ⟨p0, p1, p2⟩ := a
    show RT p l e rmX10_firstPlace s m args below meth c x 3 (QM below args s x (fun v : Int32 => some (.int v)) rmX10_firstPlace.cells rmX10_firstPlace.slots) 0 0 (fX10_firstPlace_B2 k2 p0 p1 p2 M) 2 [(1, p1), (2, p2)] [] [(0, p0)] [] M
    unfold fX10_firstPlace_B2
    refine r_iload_n (pc := 2) E dX10_firstPlace_2 rfl 1 rfl ?_
    refine r_iconst (pc := 3) (v := 1) E dX10_firstPlace_3 (by decide) ?_
    refine r_aload_n (pc := 4) E dX10_firstPlace_4 rfl 0 rfl ?_
    refine r_getI (pc := 5) E fd_10_0 wf_RX10_57 dX10_firstPlace_5 (fun v5 => ?_)
    refine r_ishl (pc := 8) E dX10_firstPlace_8 ?_
    refine r_icmp_ge (pc := 9) (tgt := 29) E dX10_firstPlace_9 (by decide) ?_ ?_
    · refine r_iconst (pc := 29) (v := 0) E dX10_firstPlace_29 (by decide) ?_
      exact e_int (pc := 30) E dX10_firstPlace_30
    · refine r_aload_n (pc := 12) E dX10_firstPlace_12 rfl 0 rfl ?_
      refine r_iload_n (pc := 13) E dX10_firstPlace_13 rfl 1 rfl ?_
      refine r_kVi (pc := 14) (As := [.int p2]) (rest := []) E wc_X10_symbolAt wi_RX10 hd_X10_symbolAt (ci := 10) rfl wl_RX10_93 wn_X10_symbolAt ws_X10_symbolAt dX10_firstPlace_14 (by decide) (Nat.le_of_ble_eq_true rfl) ⟨rfl, rfl⟩ (ctX10_symbolAt l x _ _ _) rfl (fun v14 M14 => ?_)
      refine r_iload_n (pc := 17) E dX10_firstPlace_17 rfl 0 rfl ?_
      refine r_icmp_ne (pc := 18) (tgt := 23) E dX10_firstPlace_18 (by decide) ?_ ?_
      · refine r_iinc (pc := 23) (w := 1) (lf := fun v23 => [(2, v23), (1, p1)]) (ll' := []) (lr' := [(0, p0)]) E dX10_firstPlace_23 1 rfl (by decide) (by decide) (fun _ => rfl) rfl rfl (fun v23 => ?_)
        refine r_goto (pc := 26) (tgt := 2) E dX10_firstPlace_26 (by decide) ?_
        exact r_sub [1, 0] [] [0] rfl rfl rfl (hk2 ((p0, p1, v23)) _)
      · refine r_iload_n (pc := 21) E dX10_firstPlace_21 rfl 1 rfl ?_
        exact e_int (pc := 22) E dX10_firstPlace_22
  show RT p l e rmX10_firstPlace s m args below meth c x 3 (QM below args s x (fun v : Int32 => some (.int v)) rmX10_firstPlace.cells rmX10_firstPlace.slots) 0 0 (fX10_firstPlace a0 a1 M) 0 [(1, a1)] [] [(0, a0)] [] M
  unfold fX10_firstPlace
  refine r_iconst (pc := 0) (v := 0) E dX10_firstPlace_0 (by decide) ?_
  refine r_istore_n (pc := 1) (lf := fun v1 => [(2, v1), (1, a1)]) (lg := fun v1 => []) (lk := fun v1 => [(0, a0)]) E dX10_firstPlace_1 rfl (by decide) (fun _ => rfl) (fun _ => rfl) (fun _ => rfl) (fun v1 => ?_)
  exact r_sub [1, 0] [] [0] rfl rfl rfl (hL2 a0 a1 v1 _)
def fX10_placeBefore_L49 (k2 : Option Nat × Int32 × Int32 × Int32 → Mem → Option (Int32 × Mem)) (p0 : Option Nat) (p1 : Int32) (p2 : Int32) (p3 : Int32) (M : Mem) : Option (Int32 × Mem) :=
  bn (p3 + 1) fun v49 =>
  k2 ((p0, p1, p2, v49)) M
def fX10_placeBefore_B2 (k2 : Option Nat × Int32 × Int32 × Int32 → Mem → Option (Int32 × Mem)) (p0 : Option Nat) (p1 : Int32) (p2 : Int32) (p3 : Int32) (M : Mem) : Option (Int32 × Mem) :=
  bo (gI M p0 10 0) fun v5 =>
  if (shlI 1 v5) ≤ p3 then (
    some (0, M)
  ) else (
    bo (chk M p0 10) fun _ => bd (fX10_baseAt p0 p3 M) fun v15 M15 =>
    bn (p2 - v15) fun v19 =>
    bo (chk M15 p0 10) fun _ => bd (fX10_symbolAt p0 p3 M15) fun v23 M23 =>
    if v23 = p1 then (
      if v19 < 0 then (
        fX10_placeBefore_L49 k2 p0 p1 p2 p3 M23
      ) else (
        bo (chk M23 p0 10) fun _ => bd (fX10_bitsAt p0 p3 M23) fun v40 M40 =>
        if (shlI 1 v40) ≤ v19 then (
          fX10_placeBefore_L49 k2 p0 p1 p2 p3 M40
        ) else (
          some (p3, M40)
        )
      )
    ) else (
      fX10_placeBefore_L49 k2 p0 p1 p2 p3 M23
    )
  )
def fX10_placeBefore_L2 (p0 : Option Nat) (p1 : Int32) (p2 : Int32) (p3 : Int32) (M : Mem) : Option (Int32 × Mem) :=
  lp (fun k2 (a : Option Nat × Int32 × Int32 × Int32) M => fX10_placeBefore_B2 k2 a.1 a.2.1 a.2.2.1 a.2.2.2 M) FU ((p0, p1, p2, p3)) M
def fX10_placeBefore (a0 : Option Nat) (a1 : Int32) (a2 : Int32) (M : Mem) : Option (Int32 × Mem) :=
  bn (0) fun v1 =>
  fX10_placeBefore_L2 a0 a1 a2 v1 M
def rmX10_placeBefore : Room := { frames := 1, cells := 0, slots := 0, locals := 21 }
set_option maxRecDepth 100000 in
set_option maxHeartbeats 4000000 in
theorem ctX10_placeBefore (l : Launch) (x : Cx) (a0 : Option Nat) (a1 : Int32) (a2 : Int32) (M : Mem) (v : Int32) (N : Mem) (h : fX10_placeBefore a0 a1 a2 M = some (v, N)) : CT l yX10_placeBefore cX10_placeBefore 5 (some (FieldType.int)) rmX10_placeBefore x [rv x a0, .int a1, .int a2] M (some (.int v)) N := by
  refine ct_mk (enc := fun v : Int32 => some (.int v)) (li := [(1, a1), (2, a2)]) (ll := []) (lr := [(0, a0)]) (by decide +kernel) (by simp [lg_sl, rv_cat, cat_int, cat_long]) (by simp [flat, lv_args, rv_cat, cat_int, cat_long]) h ?_
  intro p e s m args below meth c E
  have hL49 : ∀ (k2 : Option Nat × Int32 × Int32 × Int32 → Mem → Option (Int32 × Mem)) (hk2 : ∀ a M, RT p l e rmX10_placeBefore s m args below meth c x 5 (QM below args s x (fun v : Int32 => some (.int v)) rmX10_placeBefore.cells rmX10_placeBefore.slots) 0 0 (k2 a M) 2 [(1, a.2.1), (2, a.2.2.1), (3, a.2.2.2)] [] [(0, a.1)] [] M) (p0 : Option Nat) (p1 : Int32) (p2 : Int32) (p3 : Int32) (M : Mem), RT p l e rmX10_placeBefore s m args below meth c x 5 (QM below args s x (fun v : Int32 => some (.int v)) rmX10_placeBefore.cells rmX10_placeBefore.slots) 0 0 (fX10_placeBefore_L49 k2 p0 p1 p2 p3 M) 49 [(1, p1), (2, p2), (3, p3)] [] [(0, p0)] [] M := by
    intro k2 hk2 p0 p1 p2 p3 M
    unfold fX10_placeBefore_L49
    refine r_iinc (pc := 49) (w := 1) (lf := fun v49 => [(3, v49), (1, p1), (2, p2)]) (ll' := []) (lr' := [(0, p0)]) E dX10_placeBefore_49 2 rfl (by decide) (by decide) (fun _ => rfl) rfl rfl (fun v49 => ?_)
    refine r_goto (pc := 52) (tgt := 2) E dX10_placeBefore_52 (by decide) ?_
    exact r_sub [1, 2, 0] [] [0] rfl rfl rfl (hk2 ((p0, p1, p2, v49)) _)
  have hL2 : ∀ (p0 : Option Nat) (p1 : Int32) (p2 : Int32) (p3 : Int32) (M : Mem), RT p l e rmX10_placeBefore s m args below meth c x 5 (QM below args s x (fun v : Int32 => some (.int v)) rmX10_placeBefore.cells rmX10_placeBefore.slots) 0 0 (fX10_placeBefore_L2 p0 p1 p2 p3 M) 2 [(1, p1), (2, p2), (3, p3)] [] [(0, p0)] [] M := by
    intro p0 p1 p2 p3 M
    refine r_lp (fi := fun a : Option Nat × Int32 × Int32 × Int32 => [(1, a.2.1), (2, a.2.2.1), (3, a.2.2.2)]) (fl := fun a : Option Nat × Int32 × Int32 × Int32 => []) (fr := fun a : Option Nat × Int32 × Int32 × Int32 => [(0, a.1)]) (fs := fun a : Option Nat × Int32 × Int32 × Int32 => []) ?_ FU ((p0, p1, p2, p3)) M
    intro k2 hk2 a M
    obtain ⟨p0, p1, p2, p3⟩ := a
    show RT p l e rmX10_placeBefore s m args below meth c x 5 (QM below args s x (fun v : Int32 => some (.int v)) rmX10_placeBefore.cells rmX10_placeBefore.slots) 0 0 (fX10_placeBefore_B2 k2 p0 p1 p2 p3 M) 2 [(1, p1), (2, p2), (3, p3)] [] [(0, p0)] [] M
    unfold fX10_placeBefore_B2
    refine r_iload_n (pc := 2) E dX10_placeBefore_2 rfl 2 rfl ?_
    refine r_iconst (pc := 3) (v := 1) E dX10_placeBefore_3 (by decide) ?_
    refine r_aload_n (pc := 4) E dX10_placeBefore_4 rfl 0 rfl ?_
    refine r_getI (pc := 5) E fd_10_0 wf_RX10_57 dX10_placeBefore_5 (fun v5 => ?_)
    refine r_ishl (pc := 8) E dX10_placeBefore_8 ?_
    refine r_icmp_ge (pc := 9) (tgt := 55) E dX10_placeBefore_9 (by decide) ?_ ?_
    · refine r_iconst (pc := 55) (v := 0) E dX10_placeBefore_55 (by decide) ?_
      exact e_int (pc := 56) E dX10_placeBefore_56
    · refine r_iload_n (pc := 12) E dX10_placeBefore_12 rfl 1 rfl ?_
      refine r_aload_n (pc := 13) E dX10_placeBefore_13 rfl 0 rfl ?_
      refine r_iload_n (pc := 14) E dX10_placeBefore_14 rfl 2 rfl ?_
      refine r_kVi (pc := 15) (As := [.int p3]) (rest := [.int p2]) E wc_X10_baseAt wi_RX10 hd_X10_baseAt (ci := 10) rfl wl_RX10_120 wn_X10_baseAt ws_X10_baseAt dX10_placeBefore_15 (by decide) (Nat.le_of_ble_eq_true rfl) ⟨rfl, rfl⟩ (ctX10_baseAt l x _ _ _) rfl (fun v15 M15 => ?_)
      refine r_isub (pc := 18) E dX10_placeBefore_18 ?_
      refine r_istore (pc := 19) (lf := fun v19 => [(4, v19), (1, p1), (2, p2), (3, p3)]) (lg := fun v19 => []) (lk := fun v19 => [(0, p0)]) E dX10_placeBefore_19 (by decide) (fun _ => rfl) (fun _ => rfl) (fun _ => rfl) (fun v19 => ?_)
      refine r_aload_n (pc := 21) E dX10_placeBefore_21 rfl 0 rfl ?_
      refine r_iload_n (pc := 22) E dX10_placeBefore_22 rfl 3 rfl ?_
      refine r_kVi (pc := 23) (As := [.int p3]) (rest := []) E wc_X10_symbolAt wi_RX10 hd_X10_symbolAt (ci := 10) rfl wl_RX10_93 wn_X10_symbolAt ws_X10_symbolAt dX10_placeBefore_23 (by decide) (Nat.le_of_ble_eq_true rfl) ⟨rfl, rfl⟩ (ctX10_symbolAt l x _ _ _) rfl (fun v23 M23 => ?_)
      refine r_iload_n (pc := 26) E dX10_placeBefore_26 rfl 1 rfl ?_
      refine r_icmp_ne (pc := 27) (tgt := 49) E dX10_placeBefore_27 (by decide) ?_ ?_
      · exact r_sub [1, 2, 3] [] [0] rfl rfl rfl (hL49 k2 hk2 p0 p1 p2 p3 _)
      · refine r_iload (pc := 30) E dX10_placeBefore_30 0 rfl ?_
        refine r_if_lt (pc := 32) (tgt := 49) E dX10_placeBefore_32 (by decide) ?_ ?_
        · exact r_sub [1, 2, 3] [] [0] rfl rfl rfl (hL49 k2 hk2 p0 p1 p2 p3 _)
        · refine r_iload (pc := 35) E dX10_placeBefore_35 0 rfl ?_
          refine r_iconst (pc := 37) (v := 1) E dX10_placeBefore_37 (by decide) ?_
          refine r_aload_n (pc := 38) E dX10_placeBefore_38 rfl 0 rfl ?_
          refine r_iload_n (pc := 39) E dX10_placeBefore_39 rfl 3 rfl ?_
          refine r_kVi (pc := 40) (As := [.int p3]) (rest := [.int 1, .int v19]) E wc_X10_bitsAt wi_RX10 hd_X10_bitsAt (ci := 10) rfl wl_RX10_123 wn_X10_bitsAt ws_X10_bitsAt dX10_placeBefore_40 (by decide) (Nat.le_of_ble_eq_true rfl) ⟨rfl, rfl⟩ (ctX10_bitsAt l x _ _ _) rfl (fun v40 M40 => ?_)
          refine r_ishl (pc := 43) E dX10_placeBefore_43 ?_
          refine r_icmp_ge (pc := 44) (tgt := 49) E dX10_placeBefore_44 (by decide) ?_ ?_
          · exact r_sub [1, 2, 3] [] [0] rfl rfl rfl (hL49 k2 hk2 p0 p1 p2 p3 _)
          · refine r_iload_n (pc := 47) E dX10_placeBefore_47 rfl 3 rfl ?_
            exact e_int (pc := 48) E dX10_placeBefore_48
  show RT p l e rmX10_placeBefore s m args below meth c x 5 (QM below args s x (fun v : Int32 => some (.int v)) rmX10_placeBefore.cells rmX10_placeBefore.slots) 0 0 (fX10_placeBefore a0 a1 a2 M) 0 [(1, a1), (2, a2)] [] [(0, a0)] [] M
  unfold fX10_placeBefore
  refine r_iconst (pc := 0) (v := 0) E dX10_placeBefore_0 (by decide) ?_
  refine r_istore_n (pc := 1) (lf := fun v1 => [(3, v1), (1, a1), (2, a2)]) (lg := fun v1 => []) (lk := fun v1 => [(0, a0)]) E dX10_placeBefore_1 rfl (by decide) (fun _ => rfl) (fun _ => rfl) (fun _ => rfl) (fun v1 => ?_)
  exact r_sub [1, 2, 0] [] [0] rfl rfl rfl (hL2 a0 a1 a2 v1 _)
