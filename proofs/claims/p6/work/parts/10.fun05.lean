def fX6_goBack (a0 : Option Nat) (a1 : Int32) (a2 : Int32) (M : Mem) : Option (Unit × Mem) :=
  bo (gR M a0 6 6) fun v1 =>
  bo (aR M v1 20 a1) fun v5 =>
  bn (v5) fun v6 =>
  bo (chk M a0 6) fun _ => bd (fX6_symbolOf a0 a1 a2 M) fun v11 M11 =>
  bo (gR M11 a0 6 7) fun v15 =>
  bo (aI M11 v15 15 a1) fun v19 =>
  bo (chk M11 v6 10) fun _ => bd (fX10_placeBefore v6 v11 v19 M11) fun v20 M20 =>
  bn (v20) fun v23 =>
  bo (gR M20 a0 6 1) fun v26 =>
  bo (gR M20 a0 6 7) fun v30 =>
  bo (aI M20 v30 15 a1) fun v34 =>
  bo (chk M20 v6 10) fun _ => bd (fX10_baseAt v6 v23 M20) fun v38 M38 =>
  bo (chk M38 v6 10) fun _ => bd (fX10_bitsAt v6 v23 M38) fun v46 M46 =>
  bo (chk M46 v26 8) fun _ => bd (fX8_addBits v26 ((v34 - v38).toInt64) v46 M46) fun v49 M49 =>
  bo (gR M49 a0 6 7) fun v53 =>
  bo (wI M49 v53 a1 v23) fun M59 =>
  some ((), M59)
def rmX6_goBack : Room := { frames := 2, cells := 0, slots := 0, locals := 49 }
set_option maxRecDepth 100000 in
set_option maxHeartbeats 4000000 in
theorem ctX6_goBack (l : Launch) (x : Cx) (a0 : Option Nat) (a1 : Int32) (a2 : Int32) (M : Mem) (v : Unit) (N : Mem) (h : fX6_goBack a0 a1 a2 M = some (v, N)) : CT l yX6_goBack cX6_goBack 5 (none) rmX6_goBack x [rv x a0, .int a1, .int a2] M none N := by
  refine ct_mk (enc := fun _ : Unit => none) (li := [(1, a1), (2, a2)]) (ll := []) (lr := [(0, a0)]) (by decide +kernel) (by simp [lg_sl, rv_cat, cat_int, cat_long]) (by simp [flat, lv_args, rv_cat, cat_int, cat_long]) h ?_
  intro p e s m args below meth c E
  show RT p l e rmX6_goBack s m args below meth c x 5 (QM below args s x (fun _ : Unit => none) rmX6_goBack.cells rmX6_goBack.slots) 0 0 (fX6_goBack a0 a1 a2 M) 0 [(1, a1), (2, a2)] [] [(0, a0)] [] M
  unfold fX6_goBack
  refine r_aload_n (pc := 0) E dX6_goBack_0 rfl 0 rfl ?_
  refine r_getA (pc := 1) E fd_6_6 wf_RX6_40 dX6_goBack_1 (fun v1 => ?_)
  refine r_iload_n (pc := 4) E dX6_goBack_4 rfl 0 rfl ?_
  refine r_aaload20 (pc := 5) E dX6_goBack_5 (fun v5 => ?_)
  refine r_astore_n (pc := 6) (lf := fun v6 => [(1, a1), (2, a2)]) (lg := fun v6 => []) (lk := fun v6 => [(3, v6), (0, a0)]) E dX6_goBack_6 rfl (by decide) (fun _ => rfl) (fun _ => rfl) (fun _ => rfl) (fun v6 => ?_)
  refine r_aload_n (pc := 7) E dX6_goBack_7 rfl 0 rfl ?_
  refine r_aload_n (pc := 8) E dX6_goBack_8 rfl 1 rfl ?_
  refine r_iload_n (pc := 9) E dX6_goBack_9 rfl 0 rfl ?_
  refine r_iload_n (pc := 10) E dX6_goBack_10 rfl 1 rfl ?_
  refine r_kVi (pc := 11) (As := [.int a1, .int a2]) (rest := [rv x v6]) E wc_X6_symbolOf wi_RX6 hd_X6_symbolOf (ci := 6) rfl wl_RX6_242 wn_X6_symbolOf ws_X6_symbolOf dX6_goBack_11 (by decide) (Nat.le_of_ble_eq_true rfl) ⟨rfl, rfl⟩ (ctX6_symbolOf l x _ _ _ _) rfl (fun v11 M11 => ?_)
  refine r_aload_n (pc := 14) E dX6_goBack_14 rfl 1 rfl ?_
  refine r_getA (pc := 15) E fd_6_7 wf_RX6_43 dX6_goBack_15 (fun v15 => ?_)
  refine r_iload_n (pc := 18) E dX6_goBack_18 rfl 0 rfl ?_
  refine r_iaload (pc := 19) E dX6_goBack_19 (fun v19 => ?_)
  refine r_kVi (pc := 20) (As := [.int v11, .int v19]) (rest := []) E wc_X10_placeBefore wi_RX10 hd_X10_placeBefore (ci := 10) rfl wl_RX6_272 wn_X10_placeBefore ws_X10_placeBefore dX6_goBack_20 (by decide) (Nat.le_of_ble_eq_true rfl) ⟨rfl, rfl⟩ (ctX10_placeBefore l x _ _ _ _) rfl (fun v20 M20 => ?_)
  refine r_istore (pc := 23) (lf := fun v23 => [(4, v23), (1, a1), (2, a2)]) (lg := fun v23 => []) (lk := fun v23 => [(3, v6), (0, a0)]) E dX6_goBack_23 (by decide) (fun _ => rfl) (fun _ => rfl) (fun _ => rfl) (fun v23 => ?_)
  refine r_aload_n (pc := 25) E dX6_goBack_25 rfl 1 rfl ?_
  refine r_getR (pc := 26) E fd_6_1 wf_RX6_23 dX6_goBack_26 (fun v26 => ?_)
  refine r_aload_n (pc := 29) E dX6_goBack_29 rfl 1 rfl ?_
  refine r_getA (pc := 30) E fd_6_7 wf_RX6_43 dX6_goBack_30 (fun v30 => ?_)
  refine r_iload_n (pc := 33) E dX6_goBack_33 rfl 1 rfl ?_
  refine r_iaload (pc := 34) E dX6_goBack_34 (fun v34 => ?_)
  refine r_aload_n (pc := 35) E dX6_goBack_35 rfl 0 rfl ?_
  refine r_iload (pc := 36) E dX6_goBack_36 0 rfl ?_
  refine r_kVi (pc := 38) (As := [.int v23]) (rest := [.int v34, rv x v26]) E wc_X10_baseAt wi_RX10 hd_X10_baseAt (ci := 10) rfl wl_RX6_275 wn_X10_baseAt ws_X10_baseAt dX6_goBack_38 (by decide) (Nat.le_of_ble_eq_true rfl) ⟨rfl, rfl⟩ (ctX10_baseAt l x _ _ _) rfl (fun v38 M38 => ?_)
  refine r_isub (pc := 41) E dX6_goBack_41 ?_
  refine r_i2l (pc := 42) E dX6_goBack_42 ?_
  refine r_aload_n (pc := 43) E dX6_goBack_43 rfl 0 rfl ?_
  refine r_iload (pc := 44) E dX6_goBack_44 0 rfl ?_
  refine r_kVi (pc := 46) (As := [.int v23]) (rest := [.long ((v34 - v38).toInt64), rv x v26]) E wc_X10_bitsAt wi_RX10 hd_X10_bitsAt (ci := 10) rfl wl_RX6_278 wn_X10_bitsAt ws_X10_bitsAt dX6_goBack_46 (by decide) (Nat.le_of_ble_eq_true rfl) ⟨rfl, rfl⟩ (ctX10_bitsAt l x _ _ _) rfl (fun v46 M46 => ?_)
  refine r_kVv (pc := 49) (As := [.long ((v34 - v38).toInt64), .int v46]) (rest := []) E wc_X8_addBits wi_RX8 hd_X8_addBits (ci := 8) rfl wl_RX6_221 wn_X8_addBits ws_X8_addBits dX6_goBack_49 (by decide) (Nat.le_of_ble_eq_true rfl) ⟨rfl, rfl⟩ (ctX8_addBits l x _ _ _ _) rfl (fun v49 M49 => ?_)
  refine r_aload_n (pc := 52) E dX6_goBack_52 rfl 1 rfl ?_
  refine r_getA (pc := 53) E fd_6_7 wf_RX6_43 dX6_goBack_53 (fun v53 => ?_)
  refine r_iload_n (pc := 56) E dX6_goBack_56 rfl 1 rfl ?_
  refine r_iload (pc := 57) E dX6_goBack_57 0 rfl ?_
  refine r_iastore (pc := 59) E dX6_goBack_59 (fun M59 => ?_)
  exact e_void (pc := 60) E dX6_goBack_60
def fX6_writeExtra (a0 : Option Nat) (a1 : Int32) (a2 : Int32) (a3 : Int32) (M : Mem) : Option (Unit × Mem) :=
  bo (chk M a0 6) fun _ => bd (fX6_symbolOf a0 a1 a2 M) fun v3 M3 =>
  bn (v3) fun v6 =>
  bo (gR M3 a0 6 1) fun v9 =>
  bd (fX12_baseOf a1 M3) fun v14 M14 =>
  bo (aI M14 v14 15 v6) fun v19 =>
  bd (fX12_extraOf a1 M14) fun v23 M23 =>
  bo (aI M23 v23 15 v6) fun v28 =>
  bo (chk M23 v9 8) fun _ => bd (fX8_addBits v9 ((a3 - v19).toInt64) v28 M23) fun v29 M29 =>
  some ((), M29)
def rmX6_writeExtra : Room := { frames := 2, cells := 0, slots := 0, locals := 49 }
set_option maxRecDepth 100000 in
set_option maxHeartbeats 4000000 in
theorem ctX6_writeExtra (l : Launch) (x : Cx) (a0 : Option Nat) (a1 : Int32) (a2 : Int32) (a3 : Int32) (M : Mem) (v : Unit) (N : Mem) (h : fX6_writeExtra a0 a1 a2 a3 M = some (v, N)) : CT l yX6_writeExtra cX6_writeExtra 5 (none) rmX6_writeExtra x [rv x a0, .int a1, .int a2, .int a3] M none N := by
  refine ct_mk (enc := fun _ : Unit => none) (li := [(1, a1), (2, a2), (3, a3)]) (ll := []) (lr := [(0, a0)]) (by decide +kernel) (by simp [lg_sl, rv_cat, cat_int, cat_long]) (by simp [flat, lv_args, rv_cat, cat_int, cat_long]) h ?_
  intro p e s m args below meth c E
  show RT p l e rmX6_writeExtra s m args below meth c x 5 (QM below args s x (fun _ : Unit => none) rmX6_writeExtra.cells rmX6_writeExtra.slots) 0 0 (fX6_writeExtra a0 a1 a2 a3 M) 0 [(1, a1), (2, a2), (3, a3)] [] [(0, a0)] [] M
  unfold fX6_writeExtra
  refine r_aload_n (pc := 0) E dX6_writeExtra_0 rfl 0 rfl ?_
  refine r_iload_n (pc := 1) E dX6_writeExtra_1 rfl 0 rfl ?_
  refine r_iload_n (pc := 2) E dX6_writeExtra_2 rfl 1 rfl ?_
  refine r_kVi (pc := 3) (As := [.int a1, .int a2]) (rest := []) E wc_X6_symbolOf wi_RX6 hd_X6_symbolOf (ci := 6) rfl wl_RX6_242 wn_X6_symbolOf ws_X6_symbolOf dX6_writeExtra_3 (by decide) (Nat.le_of_ble_eq_true rfl) ⟨rfl, rfl⟩ (ctX6_symbolOf l x _ _ _ _) rfl (fun v3 M3 => ?_)
  refine r_istore (pc := 6) (lf := fun v6 => [(4, v6), (1, a1), (2, a2), (3, a3)]) (lg := fun v6 => []) (lk := fun v6 => [(0, a0)]) E dX6_writeExtra_6 (by decide) (fun _ => rfl) (fun _ => rfl) (fun _ => rfl) (fun v6 => ?_)
  refine r_aload_n (pc := 8) E dX6_writeExtra_8 rfl 0 rfl ?_
  refine r_getR (pc := 9) E fd_6_1 wf_RX6_23 dX6_writeExtra_9 (fun v9 => ?_)
  refine r_iload_n (pc := 12) E dX6_writeExtra_12 rfl 3 rfl ?_
  refine r_iload_n (pc := 13) E dX6_writeExtra_13 rfl 1 rfl ?_
  refine r_kSNr (pc := 14) (As := [.int a1]) (rest := [.int a3, rv x v9]) E wc_X12_baseOf wi_RX12 hd_X12_baseOf (host := "TabledFrames") (by decide +kernel) wt_X12_baseOf dX6_writeExtra_14 (by decide) (Nat.le_of_ble_eq_true rfl) ⟨rfl, rfl⟩ (ctX12_baseOf l x _ _) rfl (fun v14 M14 => ?_)
  refine r_iload (pc := 17) E dX6_writeExtra_17 0 rfl ?_
  refine r_iaload (pc := 19) E dX6_writeExtra_19 (fun v19 => ?_)
  refine r_isub (pc := 20) E dX6_writeExtra_20 ?_
  refine r_i2l (pc := 21) E dX6_writeExtra_21 ?_
  refine r_iload_n (pc := 22) E dX6_writeExtra_22 rfl 1 rfl ?_
  refine r_kSNr (pc := 23) (As := [.int a1]) (rest := [.long ((a3 - v19).toInt64), rv x v9]) E wc_X12_extraOf wi_RX12 hd_X12_extraOf (host := "TabledFrames") (by decide +kernel) wt_X12_extraOf dX6_writeExtra_23 (by decide) (Nat.le_of_ble_eq_true rfl) ⟨rfl, rfl⟩ (ctX12_extraOf l x _ _) rfl (fun v23 M23 => ?_)
  refine r_iload (pc := 26) E dX6_writeExtra_26 0 rfl ?_
  refine r_iaload (pc := 28) E dX6_writeExtra_28 (fun v28 => ?_)
  refine r_kVv (pc := 29) (As := [.long ((a3 - v19).toInt64), .int v28]) (rest := []) E wc_X8_addBits wi_RX8 hd_X8_addBits (ci := 8) rfl wl_RX6_221 wn_X8_addBits ws_X8_addBits dX6_writeExtra_29 (by decide) (Nat.le_of_ble_eq_true rfl) ⟨rfl, rfl⟩ (ctX8_addBits l x _ _ _ _) rfl (fun v29 M29 => ?_)
  exact e_void (pc := 32) E dX6_writeExtra_32
def fX6_writeStates_L70 (k4 : Option Nat × Int32 × Int32 → Mem → Option (Unit × Mem)) (p0 : Option Nat) (p1 : Int32) (p2 : Int32) (M : Mem) : Option (Unit × Mem) :=
  bo (gR M p0 6 0) fun v74 =>
  bo (gR M v74 3 2) fun v77 =>
  bo (aI M v77 15 p2) fun v81 =>
  bo (chk M p0 6) fun _ => bd (fX6_writeExtra p0 0 p2 v81 M) fun v82 M82 =>
  bo (gR M82 p0 6 0) fun v89 =>
  bo (gR M82 v89 3 3) fun v92 =>
  bo (aI M82 v92 15 p2) fun v96 =>
  bo (chk M82 p0 6) fun _ => bd (fX6_writeExtra p0 2 p2 v96 M82) fun v97 M97 =>
  bo (gR M97 p0 6 1) fun v101 =>
  bo (gR M97 p0 6 8) fun v105 =>
  bo (aI M97 v105 15 p2) fun v109 =>
  bo (chk M97 p0 6) fun _ => bd (fX6_symbolOf p0 1 p2 M97) fun v114 M114 =>
  bo (chk M114 v101 8) fun _ => bd (fX8_addBits v101 v109.toInt64 v114 M114) fun v117 M117 =>
  bn (p2 + (-1)) fun v120 =>
  k4 ((p0, p1, v120)) M117
def fX6_writeStates_B17 (k4 : Option Nat × Int32 × Int32 → Mem → Option (Unit × Mem)) (k17 : Option Nat × Int32 × Int32 × Int32 → Mem → Option (Unit × Mem)) (p0 : Option Nat) (p1 : Int32) (p2 : Int32) (p3 : Int32) (M : Mem) : Option (Unit × Mem) :=
  if 3 ≤ p3 then (
    fX6_writeStates_L70 k4 p0 p1 p2 M
  ) else (
    bo (gR M p0 6 7) fun v23 =>
    bo (gR M p0 6 6) fun v28 =>
    bo (aR M v28 20 p3) fun v32 =>
    bo (chk M p0 6) fun _ => bd (fX6_symbolOf p0 p3 p2 M) fun v36 M36 =>
    bo (chk M36 v32 10) fun _ => bd (fX10_firstPlace v32 v36 M36) fun v39 M39 =>
    bo (wI M39 v23 p3 v39) fun M42 =>
    bn (p3 + 1) fun v43 =>
    k17 ((p0, p1, p2, v43)) M42
  )
def fX6_writeStates_L17 (k4 : Option Nat × Int32 × Int32 → Mem → Option (Unit × Mem)) (p0 : Option Nat) (p1 : Int32) (p2 : Int32) (p3 : Int32) (M : Mem) : Option (Unit × Mem) :=
  lp (fun k17 (a : Option Nat × Int32 × Int32 × Int32) M => fX6_writeStates_B17 k4 k17 a.1 a.2.1 a.2.2.1 a.2.2.2 M) FU ((p0, p1, p2, p3)) M
def fX6_writeStates_B4 (k4 : Option Nat × Int32 × Int32 → Mem → Option (Unit × Mem)) (p0 : Option Nat) (p1 : Int32) (p2 : Int32) (M : Mem) : Option (Unit × Mem) :=
  if p2 < 0 then (
    bo (gR M p0 6 1) fun v127 =>
    bo (gR M p0 6 7) fun v131 =>
    bo (aI M v131 15 2) fun v135 =>
    bo (gR M p0 6 6) fun v138 =>
    bo (aR M v138 20 2) fun v142 =>
    bo (gI M v142 10 0) fun v143 =>
    bo (chk M v127 8) fun _ => bd (fX8_addBits v127 v135.toInt64 v143 M) fun v146 M146 =>
    bo (gR M146 p0 6 1) fun v150 =>
    bo (gR M146 p0 6 7) fun v154 =>
    bo (aI M146 v154 15 1) fun v158 =>
    bo (gR M146 p0 6 6) fun v161 =>
    bo (aR M146 v161 20 1) fun v165 =>
    bo (gI M146 v165 10 0) fun v166 =>
    bo (chk M146 v150 8) fun _ => bd (fX8_addBits v150 v158.toInt64 v166 M146) fun v169 M169 =>
    bo (gR M169 p0 6 1) fun v173 =>
    bo (gR M169 p0 6 7) fun v177 =>
    bo (aI M169 v177 15 0) fun v181 =>
    bo (gR M169 p0 6 6) fun v184 =>
    bo (aR M169 v184 20 0) fun v188 =>
    bo (gI M169 v188 10 0) fun v189 =>
    bo (chk M169 v173 8) fun _ => bd (fX8_addBits v173 v181.toInt64 v189 M169) fun v192 M192 =>
    bo (gR M192 p0 6 1) fun v196 =>
    bo (chk M192 v196 8) fun _ => bd (fX8_addBits v196 1 1 M192) fun v201 M201 =>
    bo (gR M201 p0 6 1) fun v205 =>
    bo (chk M201 v205 8) fun _ => bd (fX8_endBits v205 M201) fun v208 M208 =>
    some ((), M208)
  ) else (
    if p2 = (p1 - 1) then (
      bn (0) fun v16 =>
      fX6_writeStates_L17 k4 p0 p1 p2 v16 M
    ) else (
      bo (chk M p0 6) fun _ => bd (fX6_goBack p0 1 p2 M) fun v55 M55 =>
      bo (chk M55 p0 6) fun _ => bd (fX6_goBack p0 2 p2 M55) fun v61 M61 =>
      bo (chk M61 p0 6) fun _ => bd (fX6_goBack p0 0 p2 M61) fun v67 M67 =>
      fX6_writeStates_L70 k4 p0 p1 p2 M67
    )
  )
def fX6_writeStates_L4 (p0 : Option Nat) (p1 : Int32) (p2 : Int32) (M : Mem) : Option (Unit × Mem) :=
  lp (fun k4 (a : Option Nat × Int32 × Int32) M => fX6_writeStates_B4 k4 a.1 a.2.1 a.2.2 M) FU ((p0, p1, p2)) M
def fX6_writeStates (a0 : Option Nat) (a1 : Int32) (M : Mem) : Option (Unit × Mem) :=
  bn (a1 - 1) fun v3 =>
  fX6_writeStates_L4 a0 a1 v3 M
def rmX6_writeStates : Room := { frames := 3, cells := 0, slots := 0, locals := 73 }
set_option maxRecDepth 100000 in
set_option maxHeartbeats 4000000 in
theorem ctX6_writeStates (l : Launch) (x : Cx) (a0 : Option Nat) (a1 : Int32) (M : Mem) (v : Unit) (N : Mem) (h : fX6_writeStates a0 a1 M = some (v, N)) : CT l yX6_writeStates cX6_writeStates 4 (none) rmX6_writeStates x [rv x a0, .int a1] M none N := by
  refine ct_mk (enc := fun _ : Unit => none) (li := [(1, a1)]) (ll := []) (lr := [(0, a0)]) (by decide +kernel) (by simp [lg_sl, rv_cat, cat_int, cat_long]) (by simp [flat, lv_args, rv_cat, cat_int, cat_long]) h ?_
  intro p e s m args below meth c E
  have hL70 : ∀ (k4 : Option Nat × Int32 × Int32 → Mem → Option (Unit × Mem)) (hk4 : ∀ a M, RT p l e rmX6_writeStates s m args below meth c x 4 (QM below args s x (fun _ : Unit => none) rmX6_writeStates.cells rmX6_writeStates.slots) 0 0 (k4 a M) 4 [(1, a.2.1), (2, a.2.2)] [] [(0, a.1)] [] M) (p0 : Option Nat) (p1 : Int32) (p2 : Int32) (M : Mem), RT p l e rmX6_writeStates s m args below meth c x 4 (QM below args s x (fun _ : Unit => none) rmX6_writeStates.cells rmX6_writeStates.slots) 0 0 (fX6_writeStates_L70 k4 p0 p1 p2 M) 70 [(1, p1), (2, p2)] [] [(0, p0)] [] M := by
    intro k4 hk4 p0 p1 p2 M
    unfold fX6_writeStates_L70
    refine r_aload_n (pc := 70) E dX6_writeStates_70 rfl 0 rfl ?_
    refine r_iconst (pc := 71) (v := 0) E dX6_writeStates_71 (by decide) ?_
    refine r_iload_n (pc := 72) E dX6_writeStates_72 rfl 1 rfl ?_
    refine r_aload_n (pc := 73) E dX6_writeStates_73 rfl 0 rfl ?_
    refine r_getR (pc := 74) E fd_6_0 wf_RX6_12 dX6_writeStates_74 (fun v74 => ?_)
    refine r_getA (pc := 77) E fd_3_2 wf_RX6_153 dX6_writeStates_77 (fun v77 => ?_)
    refine r_iload_n (pc := 80) E dX6_writeStates_80 rfl 1 rfl ?_
    refine r_iaload (pc := 81) E dX6_writeStates_81 (fun v81 => ?_)
    refine r_kVv (pc := 82) (As := [.int 0, .int p2, .int v81]) (rest := []) E wc_X6_writeExtra wi_RX6 hd_X6_writeExtra (ci := 6) rfl wl_RX6_263 wn_X6_writeExtra ws_X6_writeExtra dX6_writeStates_82 (by decide) (Nat.le_of_ble_eq_true rfl) ⟨rfl, rfl⟩ (ctX6_writeExtra l x _ _ _ _ _) rfl (fun v82 M82 => ?_)
    refine r_aload_n (pc := 85) E dX6_writeStates_85 rfl 0 rfl ?_
    refine r_iconst (pc := 86) (v := 2) E dX6_writeStates_86 (by decide) ?_
    refine r_iload_n (pc := 87) E dX6_writeStates_87 rfl 1 rfl ?_
    refine r_aload_n (pc := 88) E dX6_writeStates_88 rfl 0 rfl ?_
    refine r_getR (pc := 89) E fd_6_0 wf_RX6_12 dX6_writeStates_89 (fun v89 => ?_)
    refine r_getA (pc := 92) E fd_3_3 wf_RX6_266 dX6_writeStates_92 (fun v92 => ?_)
    refine r_iload_n (pc := 95) E dX6_writeStates_95 rfl 1 rfl ?_
    refine r_iaload (pc := 96) E dX6_writeStates_96 (fun v96 => ?_)
    refine r_kVv (pc := 97) (As := [.int 2, .int p2, .int v96]) (rest := []) E wc_X6_writeExtra wi_RX6 hd_X6_writeExtra (ci := 6) rfl wl_RX6_263 wn_X6_writeExtra ws_X6_writeExtra dX6_writeStates_97 (by decide) (Nat.le_of_ble_eq_true rfl) ⟨rfl, rfl⟩ (ctX6_writeExtra l x _ _ _ _ _) rfl (fun v97 M97 => ?_)
    refine r_aload_n (pc := 100) E dX6_writeStates_100 rfl 0 rfl ?_
    refine r_getR (pc := 101) E fd_6_1 wf_RX6_23 dX6_writeStates_101 (fun v101 => ?_)
    refine r_aload_n (pc := 104) E dX6_writeStates_104 rfl 0 rfl ?_
    refine r_getA (pc := 105) E fd_6_8 wf_RX6_47 dX6_writeStates_105 (fun v105 => ?_)
    refine r_iload_n (pc := 108) E dX6_writeStates_108 rfl 1 rfl ?_
    refine r_iaload (pc := 109) E dX6_writeStates_109 (fun v109 => ?_)
    refine r_i2l (pc := 110) E dX6_writeStates_110 ?_
    refine r_aload_n (pc := 111) E dX6_writeStates_111 rfl 0 rfl ?_
    refine r_iconst (pc := 112) (v := 1) E dX6_writeStates_112 (by decide) ?_
    refine r_iload_n (pc := 113) E dX6_writeStates_113 rfl 1 rfl ?_
    refine r_kVi (pc := 114) (As := [.int 1, .int p2]) (rest := [.long v109.toInt64, rv x v101]) E wc_X6_symbolOf wi_RX6 hd_X6_symbolOf (ci := 6) rfl wl_RX6_242 wn_X6_symbolOf ws_X6_symbolOf dX6_writeStates_114 (by decide) (Nat.le_of_ble_eq_true rfl) ⟨rfl, rfl⟩ (ctX6_symbolOf l x _ _ _ _) rfl (fun v114 M114 => ?_)
    refine r_kVv (pc := 117) (As := [.long v109.toInt64, .int v114]) (rest := []) E wc_X8_addBits wi_RX8 hd_X8_addBits (ci := 8) rfl wl_RX6_221 wn_X8_addBits ws_X8_addBits dX6_writeStates_117 (by decide) (Nat.le_of_ble_eq_true rfl) ⟨rfl, rfl⟩ (ctX8_addBits l x _ _ _ _) rfl (fun v117 M117 => ?_)
    refine r_iinc (pc := 120) (w := (-1)) (lf := fun v120 => [(2, v120), (1, p1)]) (ll' := []) (lr' := [(0, p0)]) E dX6_writeStates_120 1 rfl (by decide) (by decide) (fun _ => rfl) rfl rfl (fun v120 => ?_)
    refine r_goto (pc := 123) (tgt := 4) E dX6_writeStates_123 (by decide) ?_
    exact r_sub [1, 0] [] [0] rfl rfl rfl (hk4 ((p0, p1, v120)) _)
  have hL17 : ∀ (k4 : Option Nat × Int32 × Int32 → Mem → Option (Unit × Mem)) (hk4 : ∀ a M, RT p l e rmX6_writeStates s m args below meth c x 4 (QM below args s x (fun _ : Unit => none) rmX6_writeStates.cells rmX6_writeStates.slots) 0 0 (k4 a M) 4 [(1, a.2.1), (2, a.2.2)] [] [(0, a.1)] [] M) (p0 : Option Nat) (p1 : Int32) (p2 : Int32) (p3 : Int32) (M : Mem), RT p l e rmX6_writeStates s m args below meth c x 4 (QM below args s x (fun _ : Unit => none) rmX6_writeStates.cells rmX6_writeStates.slots) 0 0 (fX6_writeStates_L17 k4 p0 p1 p2 p3 M) 17 [(1, p1), (2, p2), (3, p3)] [] [(0, p0)] [] M := by
    intro k4 hk4 p0 p1 p2 p3 M
    refine r_lp (fi := fun a : Option Nat × Int32 × Int32 × Int32 => [(1, a.2.1), (2, a.2.2.1), (3, a.2.2.2)]) (fl := fun a : Option Nat × Int32 × Int32 × Int32 => []) (fr := fun a : Option Nat × Int32 × Int32 × Int32 => [(0, a.1)]) (fs := fun a : Option Nat × Int32 × Int32 × Int32 => []) ?_ FU ((p0, p1, p2, p3)) M
    intro k17 hk17 a M
    obtain ⟨p0, p1, p2, p3⟩ := a
    show RT p l e rmX6_writeStates s m args below meth c x 4 (QM below args s x (fun _ : Unit => none) rmX6_writeStates.cells rmX6_writeStates.slots) 0 0 (fX6_writeStates_B17 k4 k17 p0 p1 p2 p3 M) 17 [(1, p1), (2, p2), (3, p3)] [] [(0, p0)] [] M
    unfold fX6_writeStates_B17
    refine r_iload_n (pc := 17) E dX6_writeStates_17 rfl 2 rfl ?_
    refine r_iconst (pc := 18) (v := 3) E dX6_writeStates_18 (by decide) ?_
    refine r_icmp_ge (pc := 19) (tgt := 49) E dX6_writeStates_19 (by decide) ?_ ?_
    · refine r_goto (pc := 49) (tgt := 70) E dX6_writeStates_49 (by decide) ?_
      exact r_sub [0, 1] [] [0] rfl rfl rfl (hL70 k4 hk4 p0 p1 p2 _)
    · refine r_aload_n (pc := 22) E dX6_writeStates_22 rfl 0 rfl ?_
      refine r_getA (pc := 23) E fd_6_7 wf_RX6_43 dX6_writeStates_23 (fun v23 => ?_)
      refine r_iload_n (pc := 26) E dX6_writeStates_26 rfl 2 rfl ?_
      refine r_aload_n (pc := 27) E dX6_writeStates_27 rfl 0 rfl ?_
      refine r_getA (pc := 28) E fd_6_6 wf_RX6_40 dX6_writeStates_28 (fun v28 => ?_)
      refine r_iload_n (pc := 31) E dX6_writeStates_31 rfl 2 rfl ?_
      refine r_aaload20 (pc := 32) E dX6_writeStates_32 (fun v32 => ?_)
      refine r_aload_n (pc := 33) E dX6_writeStates_33 rfl 0 rfl ?_
      refine r_iload_n (pc := 34) E dX6_writeStates_34 rfl 2 rfl ?_
      refine r_iload_n (pc := 35) E dX6_writeStates_35 rfl 1 rfl ?_
      refine r_kVi (pc := 36) (As := [.int p3, .int p2]) (rest := [rv x v32, .int p3, rv x v23]) E wc_X6_symbolOf wi_RX6 hd_X6_symbolOf (ci := 6) rfl wl_RX6_242 wn_X6_symbolOf ws_X6_symbolOf dX6_writeStates_36 (by decide) (Nat.le_of_ble_eq_true rfl) ⟨rfl, rfl⟩ (ctX6_symbolOf l x _ _ _ _) rfl (fun v36 M36 => ?_)
      refine r_kVi (pc := 39) (As := [.int v36]) (rest := [.int p3, rv x v23]) E wc_X10_firstPlace wi_RX10 hd_X10_firstPlace (ci := 10) rfl wl_RX6_257 wn_X10_firstPlace ws_X10_firstPlace dX6_writeStates_39 (by decide) (Nat.le_of_ble_eq_true rfl) ⟨rfl, rfl⟩ (ctX10_firstPlace l x _ _ _) rfl (fun v39 M39 => ?_)
      refine r_iastore (pc := 42) E dX6_writeStates_42 (fun M42 => ?_)
      refine r_iinc (pc := 43) (w := 1) (lf := fun v43 => [(3, v43), (1, p1), (2, p2)]) (ll' := []) (lr' := [(0, p0)]) E dX6_writeStates_43 2 rfl (by decide) (by decide) (fun _ => rfl) rfl rfl (fun v43 => ?_)
      refine r_goto (pc := 46) (tgt := 17) E dX6_writeStates_46 (by decide) ?_
      exact r_sub [1, 2, 0] [] [0] rfl rfl rfl (hk17 ((p0, p1, p2, v43)) _)
  have hL4 : ∀ (p0 : Option Nat) (p1 : Int32) (p2 : Int32) (M : Mem), RT p l e rmX6_writeStates s m args below meth c x 4 (QM below args s x (fun _ : Unit => none) rmX6_writeStates.cells rmX6_writeStates.slots) 0 0 (fX6_writeStates_L4 p0 p1 p2 M) 4 [(1, p1), (2, p2)] [] [(0, p0)] [] M := by
    intro p0 p1 p2 M
    refine r_lp (fi := fun a : Option Nat × Int32 × Int32 => [(1, a.2.1), (2, a.2.2)]) (fl := fun a : Option Nat × Int32 × Int32 => []) (fr := fun a : Option Nat × Int32 × Int32 => [(0, a.1)]) (fs := fun a : Option Nat × Int32 × Int32 => []) ?_ FU ((p0, p1, p2)) M
    intro k4 hk4 a M
    obtain ⟨p0, p1, p2⟩ := a
    show RT p l e rmX6_writeStates s m args below meth c x 4 (QM below args s x (fun _ : Unit => none) rmX6_writeStates.cells rmX6_writeStates.slots) 0 0 (fX6_writeStates_B4 k4 p0 p1 p2 M) 4 [(1, p1), (2, p2)] [] [(0, p0)] [] M
    unfold fX6_writeStates_B4
    refine r_iload_n (pc := 4) E dX6_writeStates_4 rfl 1 rfl ?_
    refine r_if_lt (pc := 5) (tgt := 126) E dX6_writeStates_5 (by decide) ?_ ?_
    · refine r_aload_n (pc := 126) E dX6_writeStates_126 rfl 0 rfl ?_
      refine r_getR (pc := 127) E fd_6_1 wf_RX6_23 dX6_writeStates_127 (fun v127 => ?_)
      refine r_aload_n (pc := 130) E dX6_writeStates_130 rfl 0 rfl ?_
      refine r_getA (pc := 131) E fd_6_7 wf_RX6_43 dX6_writeStates_131 (fun v131 => ?_)
      refine r_iconst (pc := 134) (v := 2) E dX6_writeStates_134 (by decide) ?_
      refine r_iaload (pc := 135) E dX6_writeStates_135 (fun v135 => ?_)
      refine r_i2l (pc := 136) E dX6_writeStates_136 ?_
      refine r_aload_n (pc := 137) E dX6_writeStates_137 rfl 0 rfl ?_
      refine r_getA (pc := 138) E fd_6_6 wf_RX6_40 dX6_writeStates_138 (fun v138 => ?_)
      refine r_iconst (pc := 141) (v := 2) E dX6_writeStates_141 (by decide) ?_
      refine r_aaload20 (pc := 142) E dX6_writeStates_142 (fun v142 => ?_)
      refine r_getI (pc := 143) E fd_10_0 wf_RX6_269 dX6_writeStates_143 (fun v143 => ?_)
      refine r_kVv (pc := 146) (As := [.long v135.toInt64, .int v143]) (rest := []) E wc_X8_addBits wi_RX8 hd_X8_addBits (ci := 8) rfl wl_RX6_221 wn_X8_addBits ws_X8_addBits dX6_writeStates_146 (by decide) (Nat.le_of_ble_eq_true rfl) ⟨rfl, rfl⟩ (ctX8_addBits l x _ _ _ _) rfl (fun v146 M146 => ?_)
      refine r_aload_n (pc := 149) E dX6_writeStates_149 rfl 0 rfl ?_
      refine r_getR (pc := 150) E fd_6_1 wf_RX6_23 dX6_writeStates_150 (fun v150 => ?_)
      refine r_aload_n (pc := 153) E dX6_writeStates_153 rfl 0 rfl ?_
      refine r_getA (pc := 154) E fd_6_7 wf_RX6_43 dX6_writeStates_154 (fun v154 => ?_)
      refine r_iconst (pc := 157) (v := 1) E dX6_writeStates_157 (by decide) ?_
      refine r_iaload (pc := 158) E dX6_writeStates_158 (fun v158 => ?_)
      refine r_i2l (pc := 159) E dX6_writeStates_159 ?_
      refine r_aload_n (pc := 160) E dX6_writeStates_160 rfl 0 rfl ?_
      refine r_getA (pc := 161) E fd_6_6 wf_RX6_40 dX6_writeStates_161 (fun v161 => ?_)
      refine r_iconst (pc := 164) (v := 1) E dX6_writeStates_164 (by decide) ?_
      refine r_aaload20 (pc := 165) E dX6_writeStates_165 (fun v165 => ?_)
      refine r_getI (pc := 166) E fd_10_0 wf_RX6_269 dX6_writeStates_166 (fun v166 => ?_)
      refine r_kVv (pc := 169) (As := [.long v158.toInt64, .int v166]) (rest := []) E wc_X8_addBits wi_RX8 hd_X8_addBits (ci := 8) rfl wl_RX6_221 wn_X8_addBits ws_X8_addBits dX6_writeStates_169 (by decide) (Nat.le_of_ble_eq_true rfl) ⟨rfl, rfl⟩ (ctX8_addBits l x _ _ _ _) rfl (fun v169 M169 => ?_)
      refine r_aload_n (pc := 172) E dX6_writeStates_172 rfl 0 rfl ?_
      refine r_getR (pc := 173) E fd_6_1 wf_RX6_23 dX6_writeStates_173 (fun v173 => ?_)
      refine r_aload_n (pc := 176) E dX6_writeStates_176 rfl 0 rfl ?_
      refine r_getA (pc := 177) E fd_6_7 wf_RX6_43 dX6_writeStates_177 (fun v177 => ?_)
      refine r_iconst (pc := 180) (v := 0) E dX6_writeStates_180 (by decide) ?_
      refine r_iaload (pc := 181) E dX6_writeStates_181 (fun v181 => ?_)
      refine r_i2l (pc := 182) E dX6_writeStates_182 ?_
      refine r_aload_n (pc := 183) E dX6_writeStates_183 rfl 0 rfl ?_
      refine r_getA (pc := 184) E fd_6_6 wf_RX6_40 dX6_writeStates_184 (fun v184 => ?_)
      refine r_iconst (pc := 187) (v := 0) E dX6_writeStates_187 (by decide) ?_
      refine r_aaload20 (pc := 188) E dX6_writeStates_188 (fun v188 => ?_)
      refine r_getI (pc := 189) E fd_10_0 wf_RX6_269 dX6_writeStates_189 (fun v189 => ?_)
      refine r_kVv (pc := 192) (As := [.long v181.toInt64, .int v189]) (rest := []) E wc_X8_addBits wi_RX8 hd_X8_addBits (ci := 8) rfl wl_RX6_221 wn_X8_addBits ws_X8_addBits dX6_writeStates_192 (by decide) (Nat.le_of_ble_eq_true rfl) ⟨rfl, rfl⟩ (ctX8_addBits l x _ _ _ _) rfl (fun v192 M192 => ?_)
      refine r_aload_n (pc := 195) E dX6_writeStates_195 rfl 0 rfl ?_
      refine r_getR (pc := 196) E fd_6_1 wf_RX6_23 dX6_writeStates_196 (fun v196 => ?_)
      refine r_lconst (pc := 199) (v := 1) E dX6_writeStates_199 (by decide) ?_
      refine r_iconst (pc := 200) (v := 1) E dX6_writeStates_200 (by decide) ?_
      refine r_kVv (pc := 201) (As := [.long 1, .int 1]) (rest := []) E wc_X8_addBits wi_RX8 hd_X8_addBits (ci := 8) rfl wl_RX6_221 wn_X8_addBits ws_X8_addBits dX6_writeStates_201 (by decide) (Nat.le_of_ble_eq_true rfl) ⟨rfl, rfl⟩ (ctX8_addBits l x _ _ _ _) rfl (fun v201 M201 => ?_)
      refine r_aload_n (pc := 204) E dX6_writeStates_204 rfl 0 rfl ?_
      refine r_getR (pc := 205) E fd_6_1 wf_RX6_23 dX6_writeStates_205 (fun v205 => ?_)
      refine r_kVv (pc := 208) (As := []) (rest := []) E wc_X8_endBits wi_RX8 hd_X8_endBits (ci := 8) rfl wl_RX6_224 wn_X8_endBits ws_X8_endBits dX6_writeStates_208 (by decide) (Nat.le_of_ble_eq_true rfl) ⟨rfl, rfl⟩ (ctX8_endBits l x _ _) rfl (fun v208 M208 => ?_)
      exact e_void (pc := 211) E dX6_writeStates_211
    · refine r_iload_n (pc := 8) E dX6_writeStates_8 rfl 1 rfl ?_
      refine r_iload_n (pc := 9) E dX6_writeStates_9 rfl 0 rfl ?_
      refine r_iconst (pc := 10) (v := 1) E dX6_writeStates_10 (by decide) ?_
      refine r_isub (pc := 11) E dX6_writeStates_11 ?_
      refine r_icmp_ne (pc := 12) (tgt := 52) E dX6_writeStates_12 (by decide) ?_ ?_
      · refine r_aload_n (pc := 52) E dX6_writeStates_52 rfl 0 rfl ?_
        refine r_iconst (pc := 53) (v := 1) E dX6_writeStates_53 (by decide) ?_
        refine r_iload_n (pc := 54) E dX6_writeStates_54 rfl 1 rfl ?_
        refine r_kVv (pc := 55) (As := [.int 1, .int p2]) (rest := []) E wc_X6_goBack wi_RX6 hd_X6_goBack (ci := 6) rfl wl_RX6_260 wn_X6_goBack ws_X6_goBack dX6_writeStates_55 (by decide) (Nat.le_of_ble_eq_true rfl) ⟨rfl, rfl⟩ (ctX6_goBack l x _ _ _ _) rfl (fun v55 M55 => ?_)
        refine r_aload_n (pc := 58) E dX6_writeStates_58 rfl 0 rfl ?_
        refine r_iconst (pc := 59) (v := 2) E dX6_writeStates_59 (by decide) ?_
        refine r_iload_n (pc := 60) E dX6_writeStates_60 rfl 1 rfl ?_
        refine r_kVv (pc := 61) (As := [.int 2, .int p2]) (rest := []) E wc_X6_goBack wi_RX6 hd_X6_goBack (ci := 6) rfl wl_RX6_260 wn_X6_goBack ws_X6_goBack dX6_writeStates_61 (by decide) (Nat.le_of_ble_eq_true rfl) ⟨rfl, rfl⟩ (ctX6_goBack l x _ _ _ _) rfl (fun v61 M61 => ?_)
        refine r_aload_n (pc := 64) E dX6_writeStates_64 rfl 0 rfl ?_
        refine r_iconst (pc := 65) (v := 0) E dX6_writeStates_65 (by decide) ?_
        refine r_iload_n (pc := 66) E dX6_writeStates_66 rfl 1 rfl ?_
        refine r_kVv (pc := 67) (As := [.int 0, .int p2]) (rest := []) E wc_X6_goBack wi_RX6 hd_X6_goBack (ci := 6) rfl wl_RX6_260 wn_X6_goBack ws_X6_goBack dX6_writeStates_67 (by decide) (Nat.le_of_ble_eq_true rfl) ⟨rfl, rfl⟩ (ctX6_goBack l x _ _ _ _) rfl (fun v67 M67 => ?_)
        exact r_sub [0, 1] [] [0] rfl rfl rfl (hL70 k4 hk4 p0 p1 p2 _)
      · refine r_iconst (pc := 15) (v := 0) E dX6_writeStates_15 (by decide) ?_
        refine r_istore_n (pc := 16) (lf := fun v16 => [(3, v16), (1, p1), (2, p2)]) (lg := fun v16 => []) (lk := fun v16 => [(0, p0)]) E dX6_writeStates_16 rfl (by decide) (fun _ => rfl) (fun _ => rfl) (fun _ => rfl) (fun v16 => ?_)
        exact r_sub [1, 2, 0] [] [0] rfl rfl rfl (hL17 k4 hk4 p0 p1 p2 v16 _)
  show RT p l e rmX6_writeStates s m args below meth c x 4 (QM below args s x (fun _ : Unit => none) rmX6_writeStates.cells rmX6_writeStates.slots) 0 0 (fX6_writeStates a0 a1 M) 0 [(1, a1)] [] [(0, a0)] [] M
  unfold fX6_writeStates
  refine r_iload_n (pc := 0) E dX6_writeStates_0 rfl 0 rfl ?_
  refine r_iconst (pc := 1) (v := 1) E dX6_writeStates_1 (by decide) ?_
  refine r_isub (pc := 2) E dX6_writeStates_2 ?_
  refine r_istore_n (pc := 3) (lf := fun v3 => [(2, v3), (1, a1)]) (lg := fun v3 => []) (lk := fun v3 => [(0, a0)]) E dX6_writeStates_3 rfl (by decide) (fun _ => rfl) (fun _ => rfl) (fun _ => rfl) (fun v3 => ?_)
  exact r_sub [1, 0] [] [0] rfl rfl rfl (hL4 a0 a1 v3 _)
def fX6_writeSequences_B75 (k75 : Option Nat × Int32 × Int32 × Int32 × Int32 → Mem → Option (Unit × Mem)) (p0 : Option Nat) (p1 : Int32) (p2 : Int32) (p3 : Int32) (p4 : Int32) (M : Mem) : Option (Unit × Mem) :=
  if 3 ≤ p4 then (
    bo (gR M p0 6 1) fun v106 =>
    bo (chk M v106 8) fun _ => bd (fX8_put v106 p2 p3 M) fun v111 M111 =>
    bo (chk M111 p0 6) fun _ => bd (fX6_writeStates p0 p1 M111) fun v116 M116 =>
    some ((), M116)
  ) else (
    bo (chk M p0 6) fun _ => bd (fX6_writeTable p0 p4 p1 M) fun v86 M86 =>
    bn (p3 ||| (shlI v86 (6 - (2 * p4)))) fun v98 =>
    bn (p4 + 1) fun v99 =>
    k75 ((p0, p1, p2, v98, v99)) M86
  )
def fX6_writeSequences_L75 (p0 : Option Nat) (p1 : Int32) (p2 : Int32) (p3 : Int32) (p4 : Int32) (M : Mem) : Option (Unit × Mem) :=
  lp (fun k75 (a : Option Nat × Int32 × Int32 × Int32 × Int32) M => fX6_writeSequences_B75 k75 a.1 a.2.1 a.2.2.1 a.2.2.2.1 a.2.2.2.2 M) FU ((p0, p1, p2, p3, p4)) M
def fX6_writeSequences_L49 (p0 : Option Nat) (p1 : Int32) (M : Mem) : Option (Unit × Mem) :=
  if p1 = 0 then (
    some ((), M)
  ) else (
    bo (gR M p0 6 1) fun v55 =>
    bo (gI M v55 8 1) fun v58 =>
    bn (v58) fun v61 =>
    bn (0) fun v63 =>
    bo (gR M p0 6 1) fun v65 =>
    bo (chk M v65 8) fun _ => bd (fX8_add v65 0 M) fun v69 M69 =>
    bn (0) fun v73 =>
    fX6_writeSequences_L75 p0 p1 v61 v63 v73 M69
  )
def fX6_writeSequences (a0 : Option Nat) (M : Mem) : Option (Unit × Mem) :=
  bo (gR M a0 6 0) fun v1 =>
  bo (gI M v1 3 1) fun v4 =>
  bn (v4) fun v7 =>
  if 128 ≤ v7 then (
    bo (gR M a0 6 1) fun v27 =>
    bo (chk M v27 8) fun _ => bd (fX8_add v27 (128 + (shrI v7 8)) M) fun v38 M38 =>
    bo (gR M38 a0 6 1) fun v42 =>
    bo (chk M38 v42 8) fun _ => bd (fX8_add v42 v7 M38) fun v46 M46 =>
    fX6_writeSequences_L49 a0 v7 M46
  ) else (
    bo (gR M a0 6 1) fun v16 =>
    bo (chk M v16 8) fun _ => bd (fX8_add v16 v7 M) fun v20 M20 =>
    fX6_writeSequences_L49 a0 v7 M20
  )
def rmX6_writeSequences : Room := { frames := 4, cells := 0, slots := 0, locals := 107 }
set_option maxRecDepth 100000 in
set_option maxHeartbeats 4000000 in
theorem ctX6_writeSequences (l : Launch) (x : Cx) (a0 : Option Nat) (M : Mem) (v : Unit) (N : Mem) (h : fX6_writeSequences a0 M = some (v, N)) : CT l yX6_writeSequences cX6_writeSequences 5 (none) rmX6_writeSequences x [rv x a0] M none N := by
  refine ct_mk (enc := fun _ : Unit => none) (li := []) (ll := []) (lr := [(0, a0)]) (by decide +kernel) (by simp [lg_sl, rv_cat, cat_int, cat_long]) (by simp [flat, lv_args, rv_cat, cat_int, cat_long]) h ?_
  intro p e s m args below meth c E
  have hL75 : ∀ (p0 : Option Nat) (p1 : Int32) (p2 : Int32) (p3 : Int32) (p4 : Int32) (M : Mem), RT p l e rmX6_writeSequences s m args below meth c x 5 (QM below args s x (fun _ : Unit => none) rmX6_writeSequences.cells rmX6_writeSequences.slots) 0 0 (fX6_writeSequences_L75 p0 p1 p2 p3 p4 M) 75 [(1, p1), (2, p2), (3, p3), (4, p4)] [] [(0, p0)] [] M := by
    intro p0 p1 p2 p3 p4 M
    refine r_lp (fi := fun a : Option Nat × Int32 × Int32 × Int32 × Int32 => [(1, a.2.1), (2, a.2.2.1), (3, a.2.2.2.1), (4, a.2.2.2.2)]) (fl := fun a : Option Nat × Int32 × Int32 × Int32 × Int32 => []) (fr := fun a : Option Nat × Int32 × Int32 × Int32 × Int32 => [(0, a.1)]) (fs := fun a : Option Nat × Int32 × Int32 × Int32 × Int32 => []) ?_ FU ((p0, p1, p2, p3, p4)) M
    intro k75 hk75 a M
    obtain ⟨p0, p1, p2, p3, p4⟩ := a
    show RT p l e rmX6_writeSequences s m args below meth c x 5 (QM below args s x (fun _ : Unit => none) rmX6_writeSequences.cells rmX6_writeSequences.slots) 0 0 (fX6_writeSequences_B75 k75 p0 p1 p2 p3 p4 M) 75 [(1, p1), (2, p2), (3, p3), (4, p4)] [] [(0, p0)] [] M
    unfold fX6_writeSequences_B75
    refine r_iload (pc := 75) E dX6_writeSequences_75 3 rfl ?_
    refine r_iconst (pc := 77) (v := 3) E dX6_writeSequences_77 (by decide) ?_
    refine r_icmp_ge (pc := 78) (tgt := 105) E dX6_writeSequences_78 (by decide) ?_ ?_
    · refine r_aload_n (pc := 105) E dX6_writeSequences_105 rfl 0 rfl ?_
      refine r_getR (pc := 106) E fd_6_1 wf_RX6_23 dX6_writeSequences_106 (fun v106 => ?_)
      refine r_iload_n (pc := 109) E dX6_writeSequences_109 rfl 1 rfl ?_
      refine r_iload_n (pc := 110) E dX6_writeSequences_110 rfl 2 rfl ?_
      refine r_kVv (pc := 111) (As := [.int p2, .int p3]) (rest := []) E wc_X8_put wi_RX8 hd_X8_put (ci := 8) rfl wl_RX6_230 wn_X8_put ws_X8_put dX6_writeSequences_111 (by decide) (Nat.le_of_ble_eq_true rfl) ⟨rfl, rfl⟩ (ctX8_put l x _ _ _ _) rfl (fun v111 M111 => ?_)
      refine r_aload_n (pc := 114) E dX6_writeSequences_114 rfl 0 rfl ?_
      refine r_iload_n (pc := 115) E dX6_writeSequences_115 rfl 0 rfl ?_
      refine r_kVv (pc := 116) (As := [.int p1]) (rest := []) E wc_X6_writeStates wi_RX6 hd_X6_writeStates (ci := 6) rfl wl_RX6_233 wn_X6_writeStates ws_X6_writeStates dX6_writeSequences_116 (by decide) (Nat.le_of_ble_eq_true rfl) ⟨rfl, rfl⟩ (ctX6_writeStates l x _ _ _) rfl (fun v116 M116 => ?_)
      exact e_void (pc := 119) E dX6_writeSequences_119
    · refine r_iload_n (pc := 81) E dX6_writeSequences_81 rfl 2 rfl ?_
      refine r_aload_n (pc := 82) E dX6_writeSequences_82 rfl 0 rfl ?_
      refine r_iload (pc := 83) E dX6_writeSequences_83 3 rfl ?_
      refine r_iload_n (pc := 85) E dX6_writeSequences_85 rfl 0 rfl ?_
      refine r_kVi (pc := 86) (As := [.int p4, .int p1]) (rest := [.int p3]) E wc_X6_writeTable wi_RX6 hd_X6_writeTable (ci := 6) rfl wl_RX6_227 wn_X6_writeTable ws_X6_writeTable dX6_writeSequences_86 (by decide) (Nat.le_of_ble_eq_true rfl) ⟨rfl, rfl⟩ (ctX6_writeTable l x _ _ _ _) rfl (fun v86 M86 => ?_)
      refine r_bipush (pc := 89) (v := 6) E dX6_writeSequences_89 (by decide) ?_
      refine r_iconst (pc := 91) (v := 2) E dX6_writeSequences_91 (by decide) ?_
      refine r_iload (pc := 92) E dX6_writeSequences_92 3 rfl ?_
      refine r_imul (pc := 94) E dX6_writeSequences_94 ?_
      refine r_isub (pc := 95) E dX6_writeSequences_95 ?_
      refine r_ishl (pc := 96) E dX6_writeSequences_96 ?_
      refine r_ior (pc := 97) E dX6_writeSequences_97 ?_
      refine r_istore_n (pc := 98) (lf := fun v98 => [(3, v98), (1, p1), (2, p2), (4, p4)]) (lg := fun v98 => []) (lk := fun v98 => [(0, p0)]) E dX6_writeSequences_98 rfl (by decide) (fun _ => rfl) (fun _ => rfl) (fun _ => rfl) (fun v98 => ?_)
      refine r_iinc (pc := 99) (w := 1) (lf := fun v99 => [(4, v99), (3, v98), (1, p1), (2, p2)]) (ll' := []) (lr' := [(0, p0)]) E dX6_writeSequences_99 3 rfl (by decide) (by decide) (fun _ => rfl) rfl rfl (fun v99 => ?_)
      refine r_goto (pc := 102) (tgt := 75) E dX6_writeSequences_102 (by decide) ?_
      exact r_sub [2, 3, 1, 0] [] [0] rfl rfl rfl (hk75 ((p0, p1, p2, v98, v99)) _)
  have hL49 : ∀ (p0 : Option Nat) (p1 : Int32) (M : Mem), RT p l e rmX6_writeSequences s m args below meth c x 5 (QM below args s x (fun _ : Unit => none) rmX6_writeSequences.cells rmX6_writeSequences.slots) 0 0 (fX6_writeSequences_L49 p0 p1 M) 49 [(1, p1)] [] [(0, p0)] [] M := by
    intro p0 p1 M
    unfold fX6_writeSequences_L49
    refine r_iload_n (pc := 49) E dX6_writeSequences_49 rfl 0 rfl ?_
    refine r_if_ne (pc := 50) (tgt := 54) E dX6_writeSequences_50 (by decide) ?_ ?_
    · refine r_aload_n (pc := 54) E dX6_writeSequences_54 rfl 0 rfl ?_
      refine r_getR (pc := 55) E fd_6_1 wf_RX6_23 dX6_writeSequences_55 (fun v55 => ?_)
      refine r_getI (pc := 58) E fd_8_1 wf_RX6_77 dX6_writeSequences_58 (fun v58 => ?_)
      refine r_istore_n (pc := 61) (lf := fun v61 => [(2, v61), (1, p1)]) (lg := fun v61 => []) (lk := fun v61 => [(0, p0)]) E dX6_writeSequences_61 rfl (by decide) (fun _ => rfl) (fun _ => rfl) (fun _ => rfl) (fun v61 => ?_)
      refine r_iconst (pc := 62) (v := 0) E dX6_writeSequences_62 (by decide) ?_
      refine r_istore_n (pc := 63) (lf := fun v63 => [(3, v63), (2, v61), (1, p1)]) (lg := fun v63 => []) (lk := fun v63 => [(0, p0)]) E dX6_writeSequences_63 rfl (by decide) (fun _ => rfl) (fun _ => rfl) (fun _ => rfl) (fun v63 => ?_)
      refine r_aload_n (pc := 64) E dX6_writeSequences_64 rfl 0 rfl ?_
      refine r_getR (pc := 65) E fd_6_1 wf_RX6_23 dX6_writeSequences_65 (fun v65 => ?_)
      refine r_iconst (pc := 68) (v := 0) E dX6_writeSequences_68 (by decide) ?_
      refine r_kVv (pc := 69) (As := [.int 0]) (rest := []) E wc_X8_add wi_RX8 hd_X8_add (ci := 8) rfl wl_RX6_127 wn_X8_add ws_X8_add dX6_writeSequences_69 (by decide) (Nat.le_of_ble_eq_true rfl) ⟨rfl, rfl⟩ (ctX8_add l x _ _ _) rfl (fun v69 M69 => ?_)
      refine r_iconst (pc := 72) (v := 0) E dX6_writeSequences_72 (by decide) ?_
      refine r_istore (pc := 73) (lf := fun v73 => [(4, v73), (3, v63), (2, v61), (1, p1)]) (lg := fun v73 => []) (lk := fun v73 => [(0, p0)]) E dX6_writeSequences_73 (by decide) (fun _ => rfl) (fun _ => rfl) (fun _ => rfl) (fun v73 => ?_)
      exact r_sub [3, 2, 1, 0] [] [0] rfl rfl rfl (hL75 p0 p1 v61 v63 v73 _)
    · exact e_void (pc := 53) E dX6_writeSequences_53
  show RT p l e rmX6_writeSequences s m args below meth c x 5 (QM below args s x (fun _ : Unit => none) rmX6_writeSequences.cells rmX6_writeSequences.slots) 0 0 (fX6_writeSequences a0 M) 0 [] [] [(0, a0)] [] M
  unfold fX6_writeSequences
  refine r_aload_n (pc := 0) E dX6_writeSequences_0 rfl 0 rfl ?_
  refine r_getR (pc := 1) E fd_6_0 wf_RX6_12 dX6_writeSequences_1 (fun v1 => ?_)
  refine r_getI (pc := 4) E fd_3_1 wf_RX6_147 dX6_writeSequences_4 (fun v4 => ?_)
  refine r_istore_n (pc := 7) (lf := fun v7 => [(1, v7)]) (lg := fun v7 => []) (lk := fun v7 => [(0, a0)]) E dX6_writeSequences_7 rfl (by decide) (fun _ => rfl) (fun _ => rfl) (fun _ => rfl) (fun v7 => ?_)
  refine r_iload_n (pc := 8) E dX6_writeSequences_8 rfl 0 rfl ?_
  refine r_sipush (pc := 9) (v := 128) E dX6_writeSequences_9 (by decide) ?_
  refine r_icmp_ge (pc := 12) (tgt := 26) E dX6_writeSequences_12 (by decide) ?_ ?_
  · refine r_aload_n (pc := 26) E dX6_writeSequences_26 rfl 0 rfl ?_
    refine r_getR (pc := 27) E fd_6_1 wf_RX6_23 dX6_writeSequences_27 (fun v27 => ?_)
    refine r_sipush (pc := 30) (v := 128) E dX6_writeSequences_30 (by decide) ?_
    refine r_iload_n (pc := 33) E dX6_writeSequences_33 rfl 0 rfl ?_
    refine r_bipush (pc := 34) (v := 8) E dX6_writeSequences_34 (by decide) ?_
    refine r_ishr (pc := 36) E dX6_writeSequences_36 ?_
    refine r_iadd (pc := 37) E dX6_writeSequences_37 ?_
    refine r_kVv (pc := 38) (As := [.int (128 + (shrI v7 8))]) (rest := []) E wc_X8_add wi_RX8 hd_X8_add (ci := 8) rfl wl_RX6_127 wn_X8_add ws_X8_add dX6_writeSequences_38 (by decide) (Nat.le_of_ble_eq_true rfl) ⟨rfl, rfl⟩ (ctX8_add l x _ _ _) rfl (fun v38 M38 => ?_)
    refine r_aload_n (pc := 41) E dX6_writeSequences_41 rfl 0 rfl ?_
    refine r_getR (pc := 42) E fd_6_1 wf_RX6_23 dX6_writeSequences_42 (fun v42 => ?_)
    refine r_iload_n (pc := 45) E dX6_writeSequences_45 rfl 0 rfl ?_
    refine r_kVv (pc := 46) (As := [.int v7]) (rest := []) E wc_X8_add wi_RX8 hd_X8_add (ci := 8) rfl wl_RX6_127 wn_X8_add ws_X8_add dX6_writeSequences_46 (by decide) (Nat.le_of_ble_eq_true rfl) ⟨rfl, rfl⟩ (ctX8_add l x _ _ _) rfl (fun v46 M46 => ?_)
    exact r_sub [0] [] [0] rfl rfl rfl (hL49 a0 v7 _)
  · refine r_aload_n (pc := 15) E dX6_writeSequences_15 rfl 0 rfl ?_
    refine r_getR (pc := 16) E fd_6_1 wf_RX6_23 dX6_writeSequences_16 (fun v16 => ?_)
    refine r_iload_n (pc := 19) E dX6_writeSequences_19 rfl 0 rfl ?_
    refine r_kVv (pc := 20) (As := [.int v7]) (rest := []) E wc_X8_add wi_RX8 hd_X8_add (ci := 8) rfl wl_RX6_127 wn_X8_add ws_X8_add dX6_writeSequences_20 (by decide) (Nat.le_of_ble_eq_true rfl) ⟨rfl, rfl⟩ (ctX8_add l x _ _ _) rfl (fun v20 M20 => ?_)
    refine r_goto (pc := 23) (tgt := 49) E dX6_writeSequences_23 (by decide) ?_
    exact r_sub [0] [] [0] rfl rfl rfl (hL49 a0 v7 _)
def fX6_writeBody_B33 (k33 : Option Nat × Int32 × Int32 × Int32 → Mem → Option (Int32 × Mem)) (p0 : Option Nat) (p1 : Int32) (p2 : Int32) (p3 : Int32) (M : Mem) : Option (Int32 × Mem) :=
  bo (gR M p0 6 0) fun v35 =>
  bo (gI M v35 3 1) fun v38 =>
  if v38 ≤ p3 then (
    bo (chk M p0 6) fun _ => bd (fX6_writeLetters p0 M) fun v114 M114 =>
    bo (chk M114 p0 6) fun _ => bd (fX6_writeSequences p0 M114) fun v118 M118 =>
    bo (gR M118 p0 6 1) fun v122 =>
    bo (gI M118 v122 8 1) fun v125 =>
    if v125 < (p2 - p1) then (
      bo (gR M118 p0 6 10) fun v137 =>
      bo (gR M118 p0 6 9) fun v142 =>
      bo (cI M118 v137 0 v142 0 3) fun M147 =>
      rtZ 1 M147
    ) else (
      rtZ 0 M118
    )
  ) else (
    bo (gR M p0 6 8) fun v45 =>
    bo (gR M p0 6 0) fun v51 =>
    bo (gR M v51 3 4) fun v54 =>
    bo (aI M v54 15 p3) fun v58 =>
    bo (gR M p0 6 0) fun v60 =>
    bo (gR M v60 3 2) fun v63 =>
    bo (aI M v63 15 p3) fun v67 =>
    bo (chk M p0 6) fun _ => bd (fX6_valueOf p0 v58 v67 M) fun v68 M68 =>
    bo (wI M68 v45 p3 v68) fun M71 =>
    bo (gR M71 p0 6 10) fun v73 =>
    bo (gR M71 p0 6 8) fun v77 =>
    bo (aI M71 v77 15 p3) fun v81 =>
    bo (gR M71 p0 6 0) fun v84 =>
    bo (gR M71 v84 3 2) fun v87 =>
    bo (aI M71 v87 15 p3) fun v91 =>
    bd (fX12_whichOf v81.toInt64 v91 M71) fun v92 M92 =>
    bo (gR M92 p0 6 0) fun v96 =>
    bo (gR M92 v96 3 4) fun v99 =>
    bo (aI M92 v99 15 p3) fun v103 =>
    bd (fX12_remember v73 v92 v103 M92) fun v104 M104 =>
    bn (p3 + 1) fun v107 =>
    k33 ((p0, p1, p2, v107)) M104
  )
def fX6_writeBody_L33 (p0 : Option Nat) (p1 : Int32) (p2 : Int32) (p3 : Int32) (M : Mem) : Option (Int32 × Mem) :=
  lp (fun k33 (a : Option Nat × Int32 × Int32 × Int32) M => fX6_writeBody_B33 k33 a.1 a.2.1 a.2.2.1 a.2.2.2 M) FU ((p0, p1, p2, p3)) M
def fX6_writeBody (a0 : Option Nat) (a1 : Int32) (a2 : Int32) (M : Mem) : Option (Int32 × Mem) :=
  bo (gR M a0 6 1) fun v1 =>
  bo (pI M v1 8 1 0) fun M5 =>
  bo (gR M5 a0 6 0) fun v9 =>
  bo (chk M5 v9 3) fun _ => bd (fX3_find v9 a1 a2 M5) fun v14 M14 =>
  bo (gR M14 a0 6 9) fun v18 =>
  bo (gR M14 a0 6 10) fun v23 =>
  bo (cI M14 v18 0 v23 0 3) fun M28 =>
  bn (0) fun v32 =>
  fX6_writeBody_L33 a0 a1 a2 v32 M28
def rmX6_writeBody : Room := { frames := 5, cells := 0, slots := 0, locals := 131 }
set_option maxRecDepth 100000 in
set_option maxHeartbeats 4000000 in
theorem ctX6_writeBody (l : Launch) (x : Cx) (a0 : Option Nat) (a1 : Int32) (a2 : Int32) (M : Mem) (v : Int32) (N : Mem) (h : fX6_writeBody a0 a1 a2 M = some (v, N)) : CT l yX6_writeBody cX6_writeBody 4 (some (FieldType.boolean)) rmX6_writeBody x [rv x a0, .int a1, .int a2] M (some (.int v)) N := by
  refine ct_mk (enc := fun v : Int32 => some (.int v)) (li := [(1, a1), (2, a2)]) (ll := []) (lr := [(0, a0)]) (by decide +kernel) (by simp [lg_sl, rv_cat, cat_int, cat_long]) (by simp [flat, lv_args, rv_cat, cat_int, cat_long]) h ?_
  intro p e s m args below meth c E
  have hL33 : ∀ (p0 : Option Nat) (p1 : Int32) (p2 : Int32) (p3 : Int32) (M : Mem), RT p l e rmX6_writeBody s m args below meth c x 4 (QM below args s x (fun v : Int32 => some (.int v)) rmX6_writeBody.cells rmX6_writeBody.slots) 0 0 (fX6_writeBody_L33 p0 p1 p2 p3 M) 33 [(1, p1), (2, p2), (3, p3)] [] [(0, p0)] [] M := by
    intro p0 p1 p2 p3 M
    refine r_lp (fi := fun a : Option Nat × Int32 × Int32 × Int32 => [(1, a.2.1), (2, a.2.2.1), (3, a.2.2.2)]) (fl := fun a : Option Nat × Int32 × Int32 × Int32 => []) (fr := fun a : Option Nat × Int32 × Int32 × Int32 => [(0, a.1)]) (fs := fun a : Option Nat × Int32 × Int32 × Int32 => []) ?_ FU ((p0, p1, p2, p3)) M
    intro k33 hk33 a M
    obtain ⟨p0, p1, p2, p3⟩ := a
    show RT p l e rmX6_writeBody s m args below meth c x 4 (QM below args s x (fun v : Int32 => some (.int v)) rmX6_writeBody.cells rmX6_writeBody.slots) 0 0 (fX6_writeBody_B33 k33 p0 p1 p2 p3 M) 33 [(1, p1), (2, p2), (3, p3)] [] [(0, p0)] [] M
    unfold fX6_writeBody_B33
    refine r_iload_n (pc := 33) E dX6_writeBody_33 rfl 2 rfl ?_
    refine r_aload_n (pc := 34) E dX6_writeBody_34 rfl 0 rfl ?_
    refine r_getR (pc := 35) E fd_6_0 wf_RX6_12 dX6_writeBody_35 (fun v35 => ?_)
    refine r_getI (pc := 38) E fd_3_1 wf_RX6_147 dX6_writeBody_38 (fun v38 => ?_)
    refine r_icmp_ge (pc := 41) (tgt := 113) E dX6_writeBody_41 (by decide) ?_ ?_
    · refine r_aload_n (pc := 113) E dX6_writeBody_113 rfl 0 rfl ?_
      refine r_kVv (pc := 114) (As := []) (rest := []) E wc_X6_writeLetters wi_RX6 hd_X6_writeLetters (ci := 6) rfl wl_RX6_167 wn_X6_writeLetters ws_X6_writeLetters dX6_writeBody_114 (by decide) (Nat.le_of_ble_eq_true rfl) ⟨rfl, rfl⟩ (ctX6_writeLetters l x _ _) rfl (fun v114 M114 => ?_)
      refine r_aload_n (pc := 117) E dX6_writeBody_117 rfl 0 rfl ?_
      refine r_kVv (pc := 118) (As := []) (rest := []) E wc_X6_writeSequences wi_RX6 hd_X6_writeSequences (ci := 6) rfl wl_RX6_170 wn_X6_writeSequences ws_X6_writeSequences dX6_writeBody_118 (by decide) (Nat.le_of_ble_eq_true rfl) ⟨rfl, rfl⟩ (ctX6_writeSequences l x _ _) rfl (fun v118 M118 => ?_)
      refine r_aload_n (pc := 121) E dX6_writeBody_121 rfl 0 rfl ?_
      refine r_getR (pc := 122) E fd_6_1 wf_RX6_23 dX6_writeBody_122 (fun v122 => ?_)
      refine r_getI (pc := 125) E fd_8_1 wf_RX6_77 dX6_writeBody_125 (fun v125 => ?_)
      refine r_iload_n (pc := 128) E dX6_writeBody_128 rfl 1 rfl ?_
      refine r_iload_n (pc := 129) E dX6_writeBody_129 rfl 0 rfl ?_
      refine r_isub (pc := 130) E dX6_writeBody_130 ?_
      refine r_icmp_lt (pc := 131) (tgt := 136) E dX6_writeBody_131 (by decide) ?_ ?_
      · refine r_aload_n (pc := 136) E dX6_writeBody_136 rfl 0 rfl ?_
        refine r_getA (pc := 137) E fd_6_10 wf_RX6_53 dX6_writeBody_137 (fun v137 => ?_)
        refine r_iconst (pc := 140) (v := 0) E dX6_writeBody_140 (by decide) ?_
        refine r_aload_n (pc := 141) E dX6_writeBody_141 rfl 0 rfl ?_
        refine r_getA (pc := 142) E fd_6_9 wf_RX6_50 dX6_writeBody_142 (fun v142 => ?_)
        refine r_iconst (pc := 145) (v := 0) E dX6_writeBody_145 (by decide) ?_
        refine r_iconst (pc := 146) (v := 3) E dX6_writeBody_146 (by decide) ?_
        refine r_copy (pc := 147) E wl_RX6_141 wo_native wo_cps wi_RJ10 dX6_writeBody_147 (by decide) (by decide) (Nat.le_of_ble_eq_true rfl) (fun M147 => ?_)
        refine r_iconst (pc := 150) (v := 1) E dX6_writeBody_150 (by decide) ?_
        exact e_bool (pc := 151) E dX6_writeBody_151
      · refine r_iconst (pc := 134) (v := 0) E dX6_writeBody_134 (by decide) ?_
        exact e_bool (pc := 135) E dX6_writeBody_135
    · refine r_aload_n (pc := 44) E dX6_writeBody_44 rfl 0 rfl ?_
      refine r_getA (pc := 45) E fd_6_8 wf_RX6_47 dX6_writeBody_45 (fun v45 => ?_)
      refine r_iload_n (pc := 48) E dX6_writeBody_48 rfl 2 rfl ?_
      refine r_aload_n (pc := 49) E dX6_writeBody_49 rfl 0 rfl ?_
      refine r_aload_n (pc := 50) E dX6_writeBody_50 rfl 0 rfl ?_
      refine r_getR (pc := 51) E fd_6_0 wf_RX6_12 dX6_writeBody_51 (fun v51 => ?_)
      refine r_getA (pc := 54) E fd_3_4 wf_RX6_150 dX6_writeBody_54 (fun v54 => ?_)
      refine r_iload_n (pc := 57) E dX6_writeBody_57 rfl 2 rfl ?_
      refine r_iaload (pc := 58) E dX6_writeBody_58 (fun v58 => ?_)
      refine r_aload_n (pc := 59) E dX6_writeBody_59 rfl 0 rfl ?_
      refine r_getR (pc := 60) E fd_6_0 wf_RX6_12 dX6_writeBody_60 (fun v60 => ?_)
      refine r_getA (pc := 63) E fd_3_2 wf_RX6_153 dX6_writeBody_63 (fun v63 => ?_)
      refine r_iload_n (pc := 66) E dX6_writeBody_66 rfl 2 rfl ?_
      refine r_iaload (pc := 67) E dX6_writeBody_67 (fun v67 => ?_)
      refine r_kVi (pc := 68) (As := [.int v58, .int v67]) (rest := [.int p3, rv x v45]) E wc_X6_valueOf wi_RX6 hd_X6_valueOf (ci := 6) rfl wl_RX6_156 wn_X6_valueOf ws_X6_valueOf dX6_writeBody_68 (by decide) (Nat.le_of_ble_eq_true rfl) ⟨rfl, rfl⟩ (ctX6_valueOf l x _ _ _ _) rfl (fun v68 M68 => ?_)
      refine r_iastore (pc := 71) E dX6_writeBody_71 (fun M71 => ?_)
      refine r_aload_n (pc := 72) E dX6_writeBody_72 rfl 0 rfl ?_
      refine r_getA (pc := 73) E fd_6_10 wf_RX6_53 dX6_writeBody_73 (fun v73 => ?_)
      refine r_aload_n (pc := 76) E dX6_writeBody_76 rfl 0 rfl ?_
      refine r_getA (pc := 77) E fd_6_8 wf_RX6_47 dX6_writeBody_77 (fun v77 => ?_)
      refine r_iload_n (pc := 80) E dX6_writeBody_80 rfl 2 rfl ?_
      refine r_iaload (pc := 81) E dX6_writeBody_81 (fun v81 => ?_)
      refine r_i2l (pc := 82) E dX6_writeBody_82 ?_
      refine r_aload_n (pc := 83) E dX6_writeBody_83 rfl 0 rfl ?_
      refine r_getR (pc := 84) E fd_6_0 wf_RX6_12 dX6_writeBody_84 (fun v84 => ?_)
      refine r_getA (pc := 87) E fd_3_2 wf_RX6_153 dX6_writeBody_87 (fun v87 => ?_)
      refine r_iload_n (pc := 90) E dX6_writeBody_90 rfl 2 rfl ?_
      refine r_iaload (pc := 91) E dX6_writeBody_91 (fun v91 => ?_)
      refine r_kSNi (pc := 92) (As := [.long v81.toInt64, .int v91]) (rest := [rv x v73]) E wc_X12_whichOf wi_RX12 hd_X12_whichOf (host := "TabledFrames") (by decide +kernel) wt_X12_whichOf dX6_writeBody_92 (by decide) (Nat.le_of_ble_eq_true rfl) ⟨rfl, rfl⟩ (ctX12_whichOf l x _ _ _) rfl (fun v92 M92 => ?_)
      refine r_aload_n (pc := 95) E dX6_writeBody_95 rfl 0 rfl ?_
      refine r_getR (pc := 96) E fd_6_0 wf_RX6_12 dX6_writeBody_96 (fun v96 => ?_)
      refine r_getA (pc := 99) E fd_3_4 wf_RX6_150 dX6_writeBody_99 (fun v99 => ?_)
      refine r_iload_n (pc := 102) E dX6_writeBody_102 rfl 2 rfl ?_
      refine r_iaload (pc := 103) E dX6_writeBody_103 (fun v103 => ?_)
      refine r_kSNv (pc := 104) (As := [rv x v73, .int v92, .int v103]) (rest := []) E wc_X12_remember wi_RX12 hd_X12_remember (host := "TabledFrames") (by decide +kernel) wt_X12_remember dX6_writeBody_104 (by decide) (Nat.le_of_ble_eq_true rfl) ⟨rfl, rfl⟩ (ctX12_remember l x _ _ _ _) rfl (fun v104 M104 => ?_)
      refine r_iinc (pc := 107) (w := 1) (lf := fun v107 => [(3, v107), (1, p1), (2, p2)]) (ll' := []) (lr' := [(0, p0)]) E dX6_writeBody_107 2 rfl (by decide) (by decide) (fun _ => rfl) rfl rfl (fun v107 => ?_)
      refine r_goto (pc := 110) (tgt := 33) E dX6_writeBody_110 (by decide) ?_
      exact r_sub [1, 2, 0] [] [0] rfl rfl rfl (hk33 ((p0, p1, p2, v107)) _)
  show RT p l e rmX6_writeBody s m args below meth c x 4 (QM below args s x (fun v : Int32 => some (.int v)) rmX6_writeBody.cells rmX6_writeBody.slots) 0 0 (fX6_writeBody a0 a1 a2 M) 0 [(1, a1), (2, a2)] [] [(0, a0)] [] M
  unfold fX6_writeBody
  refine r_aload_n (pc := 0) E dX6_writeBody_0 rfl 0 rfl ?_
  refine r_getR (pc := 1) E fd_6_1 wf_RX6_23 dX6_writeBody_1 (fun v1 => ?_)
  refine r_iconst (pc := 4) (v := 0) E dX6_writeBody_4 (by decide) ?_
  refine r_putI (pc := 5) E fd_8_1 wf_RX6_77 dX6_writeBody_5 (Or.inl rfl) (fun M5 => ?_)
  refine r_aload_n (pc := 8) E dX6_writeBody_8 rfl 0 rfl ?_
  refine r_getR (pc := 9) E fd_6_0 wf_RX6_12 dX6_writeBody_9 (fun v9 => ?_)
  refine r_iload_n (pc := 12) E dX6_writeBody_12 rfl 0 rfl ?_
  refine r_iload_n (pc := 13) E dX6_writeBody_13 rfl 1 rfl ?_
  refine r_kVv (pc := 14) (As := [.int a1, .int a2]) (rest := []) E wc_X3_find wi_RX3 hd_X3_find (ci := 3) rfl wl_RX6_138 wn_X3_find ws_X3_find dX6_writeBody_14 (by decide) (Nat.le_of_ble_eq_true rfl) ⟨rfl, rfl⟩ (ctX3_find l x _ _ _ _) rfl (fun v14 M14 => ?_)
  refine r_aload_n (pc := 17) E dX6_writeBody_17 rfl 0 rfl ?_
  refine r_getA (pc := 18) E fd_6_9 wf_RX6_50 dX6_writeBody_18 (fun v18 => ?_)
  refine r_iconst (pc := 21) (v := 0) E dX6_writeBody_21 (by decide) ?_
  refine r_aload_n (pc := 22) E dX6_writeBody_22 rfl 0 rfl ?_
  refine r_getA (pc := 23) E fd_6_10 wf_RX6_53 dX6_writeBody_23 (fun v23 => ?_)
  refine r_iconst (pc := 26) (v := 0) E dX6_writeBody_26 (by decide) ?_
  refine r_iconst (pc := 27) (v := 3) E dX6_writeBody_27 (by decide) ?_
  refine r_copy (pc := 28) E wl_RX6_141 wo_native wo_cps wi_RJ10 dX6_writeBody_28 (by decide) (by decide) (Nat.le_of_ble_eq_true rfl) (fun M28 => ?_)
  refine r_iconst (pc := 31) (v := 0) E dX6_writeBody_31 (by decide) ?_
  refine r_istore_n (pc := 32) (lf := fun v32 => [(3, v32), (1, a1), (2, a2)]) (lg := fun v32 => []) (lk := fun v32 => [(0, a0)]) E dX6_writeBody_32 rfl (by decide) (fun _ => rfl) (fun _ => rfl) (fun _ => rfl) (fun v32 => ?_)
  exact r_sub [1, 2, 0] [] [0] rfl rfl rfl (hL33 a0 a1 a2 v32 _)
def fX6_writeBlock_L108 (M : Mem) : Option (Unit × Mem) :=
  some ((), M)
def fX6_writeBlock_L105 (q0 : Option Nat) (q1 : Option Nat) (q2 : Int32) (q3 : Int32) (M : Mem) : Option (Unit × Mem) :=
  bo (chk M q0 8) fun _ => bd (fX8_addFrom q0 q1 q2 q3 M) fun v105 M105 =>
  fX6_writeBlock_L108 M105
def fX6_writeBlock_L50 (p0 : Option Nat) (p1 : Int32) (p3 : Int32) (p4 : Int32) (q0 : Option Nat) (q1 : Int32) (q2 : Int32) (M : Mem) : Option (Unit × Mem) :=
  bo (chk M q0 8) fun _ => bd (fX8_addNumber q0 ((q1 ||| (shlI q2 3)).toInt64) 3 M) fun v55 M55 =>
  if p3 = 2 then (
    bo (gR M55 p0 6 13) fun v64 =>
    bo (gR M55 p0 6 1) fun v68 =>
    bo (gR M55 p0 6 1) fun v73 =>
    bo (gI M55 v73 8 1) fun v76 =>
    bo (chk M55 v64 8) fun _ => bd (fX8_addFrom v64 v68 0 v76 M55) fun v79 M79 =>
    fX6_writeBlock_L108 M79
  ) else (
    bo (gR M55 p0 6 13) fun v86 =>
    bo (gR M55 p0 6 12) fun v90 =>
    if p3 = 1 then (
      fX6_writeBlock_L105 v86 v90 p1 1 M55
    ) else (
      fX6_writeBlock_L105 v86 v90 p1 p4 M55
    )
  )
def fX6_writeBlock_L21 (p0 : Option Nat) (p1 : Int32) (p3 : Int32) (p4 : Int32) (q0 : Int32) (M : Mem) : Option (Unit × Mem) :=
  bn (q0) fun v21 =>
  bo (gR M p0 6 13) fun v24 =>
  if p3 = 2 then (
    bo (gR M p0 6 1) fun v39 =>
    bo (gI M v39 8 1) fun v42 =>
    fX6_writeBlock_L50 p0 p1 p3 p4 v24 (v21 ||| (shlI p3 1)) v42 M
  ) else (
    fX6_writeBlock_L50 p0 p1 p3 p4 v24 (v21 ||| (shlI p3 1)) p4 M
  )
def fX6_writeBlock (a0 : Option Nat) (a1 : Int32) (a2 : Int32) (a3 : Int32) (M : Mem) : Option (Unit × Mem) :=
  bn (a2 - a1) fun v3 =>
  bo (gR M a0 6 12) fun v7 =>
  bo (gI M v7 8 1) fun v10 =>
  if a2 = v10 then (
    fX6_writeBlock_L21 a0 a1 a3 v3 1 M
  ) else (
    fX6_writeBlock_L21 a0 a1 a3 v3 0 M
  )
def rmX6_writeBlock : Room := { frames := 2, cells := 0, slots := 0, locals := 48 }
set_option maxRecDepth 100000 in
set_option maxHeartbeats 4000000 in
theorem ctX6_writeBlock (l : Launch) (x : Cx) (a0 : Option Nat) (a1 : Int32) (a2 : Int32) (a3 : Int32) (M : Mem) (v : Unit) (N : Mem) (h : fX6_writeBlock a0 a1 a2 a3 M = some (v, N)) : CT l yX6_writeBlock cX6_writeBlock 6 (none) rmX6_writeBlock x [rv x a0, .int a1, .int a2, .int a3] M none N := by
  refine ct_mk (enc := fun _ : Unit => none) (li := [(1, a1), (2, a2), (3, a3)]) (ll := []) (lr := [(0, a0)]) (by decide +kernel) (by simp [lg_sl, rv_cat, cat_int, cat_long]) (by simp [flat, lv_args, rv_cat, cat_int, cat_long]) h ?_
  intro p e s m args below meth c E
  have hL108 : ∀ (M : Mem), RT p l e rmX6_writeBlock s m args below meth c x 6 (QM below args s x (fun _ : Unit => none) rmX6_writeBlock.cells rmX6_writeBlock.slots) 0 0 (fX6_writeBlock_L108 M) 108 [] [] [] [] M := by
    intro M
    unfold fX6_writeBlock_L108
    exact e_void (pc := 108) E dX6_writeBlock_108
  have hL105 : ∀ (q0 : Option Nat) (q1 : Option Nat) (q2 : Int32) (q3 : Int32) (M : Mem), RT p l e rmX6_writeBlock s m args below meth c x 6 (QM below args s x (fun _ : Unit => none) rmX6_writeBlock.cells rmX6_writeBlock.slots) 0 0 (fX6_writeBlock_L105 q0 q1 q2 q3 M) 105 [] [] [] [.int q3, .int q2, rv x q1, rv x q0] M := by
    intro q0 q1 q2 q3 M
    unfold fX6_writeBlock_L105
    refine r_kVv (pc := 105) (As := [rv x q1, .int q2, .int q3]) (rest := []) E wc_X8_addFrom wi_RX8 hd_X8_addFrom (ci := 8) rfl wl_RX6_134 wn_X8_addFrom ws_X8_addFrom dX6_writeBlock_105 (by decide) (Nat.le_of_ble_eq_true rfl) ⟨rfl, rfl⟩ (ctX8_addFrom l x _ _ _ _ _) rfl (fun v105 M105 => ?_)
    exact r_sub [] [] [] rfl rfl rfl (hL108 _)
  have hL50 : ∀ (p0 : Option Nat) (p1 : Int32) (p3 : Int32) (p4 : Int32) (q0 : Option Nat) (q1 : Int32) (q2 : Int32) (M : Mem), RT p l e rmX6_writeBlock s m args below meth c x 6 (QM below args s x (fun _ : Unit => none) rmX6_writeBlock.cells rmX6_writeBlock.slots) 0 0 (fX6_writeBlock_L50 p0 p1 p3 p4 q0 q1 q2 M) 50 [(1, p1), (3, p3), (4, p4)] [] [(0, p0)] [.int q2, .int q1, rv x q0] M := by
    intro p0 p1 p3 p4 q0 q1 q2 M
    unfold fX6_writeBlock_L50
    refine r_iconst (pc := 50) (v := 3) E dX6_writeBlock_50 (by decide) ?_
    refine r_ishl (pc := 51) E dX6_writeBlock_51 ?_
    refine r_ior (pc := 52) E dX6_writeBlock_52 ?_
    refine r_i2l (pc := 53) E dX6_writeBlock_53 ?_
    refine r_iconst (pc := 54) (v := 3) E dX6_writeBlock_54 (by decide) ?_
    refine r_kVv (pc := 55) (As := [.long ((q1 ||| (shlI q2 3)).toInt64), .int 3]) (rest := []) E wc_X8_addNumber wi_RX8 hd_X8_addNumber (ci := 8) rfl wl_RX6_121 wn_X8_addNumber ws_X8_addNumber dX6_writeBlock_55 (by decide) (Nat.le_of_ble_eq_true rfl) ⟨rfl, rfl⟩ (ctX8_addNumber l x _ _ _ _) rfl (fun v55 M55 => ?_)
    refine r_iload_n (pc := 58) E dX6_writeBlock_58 rfl 1 rfl ?_
    refine r_iconst (pc := 59) (v := 2) E dX6_writeBlock_59 (by decide) ?_
    refine r_icmp_ne (pc := 60) (tgt := 85) E dX6_writeBlock_60 (by decide) ?_ ?_
    · refine r_aload_n (pc := 85) E dX6_writeBlock_85 rfl 0 rfl ?_
      refine r_getR (pc := 86) E fd_6_13 wf_RX6_62 dX6_writeBlock_86 (fun v86 => ?_)
      refine r_aload_n (pc := 89) E dX6_writeBlock_89 rfl 0 rfl ?_
      refine r_getR (pc := 90) E fd_6_12 wf_RX6_59 dX6_writeBlock_90 (fun v90 => ?_)
      refine r_iload_n (pc := 93) E dX6_writeBlock_93 rfl 0 rfl ?_
      refine r_iload_n (pc := 94) E dX6_writeBlock_94 rfl 1 rfl ?_
      refine r_iconst (pc := 95) (v := 1) E dX6_writeBlock_95 (by decide) ?_
      refine r_icmp_ne (pc := 96) (tgt := 103) E dX6_writeBlock_96 (by decide) ?_ ?_
      · refine r_iload (pc := 103) E dX6_writeBlock_103 2 rfl ?_
        exact r_sub [] [] [] rfl rfl rfl (hL105 v86 v90 p1 p4 _)
      · refine r_iconst (pc := 99) (v := 1) E dX6_writeBlock_99 (by decide) ?_
        refine r_goto (pc := 100) (tgt := 105) E dX6_writeBlock_100 (by decide) ?_
        exact r_sub [] [] [] rfl rfl rfl (hL105 v86 v90 p1 1 _)
    · refine r_aload_n (pc := 63) E dX6_writeBlock_63 rfl 0 rfl ?_
      refine r_getR (pc := 64) E fd_6_13 wf_RX6_62 dX6_writeBlock_64 (fun v64 => ?_)
      refine r_aload_n (pc := 67) E dX6_writeBlock_67 rfl 0 rfl ?_
      refine r_getR (pc := 68) E fd_6_1 wf_RX6_23 dX6_writeBlock_68 (fun v68 => ?_)
      refine r_iconst (pc := 71) (v := 0) E dX6_writeBlock_71 (by decide) ?_
      refine r_aload_n (pc := 72) E dX6_writeBlock_72 rfl 0 rfl ?_
      refine r_getR (pc := 73) E fd_6_1 wf_RX6_23 dX6_writeBlock_73 (fun v73 => ?_)
      refine r_getI (pc := 76) E fd_8_1 wf_RX6_77 dX6_writeBlock_76 (fun v76 => ?_)
      refine r_kVv (pc := 79) (As := [rv x v68, .int 0, .int v76]) (rest := []) E wc_X8_addFrom wi_RX8 hd_X8_addFrom (ci := 8) rfl wl_RX6_134 wn_X8_addFrom ws_X8_addFrom dX6_writeBlock_79 (by decide) (Nat.le_of_ble_eq_true rfl) ⟨rfl, rfl⟩ (ctX8_addFrom l x _ _ _ _ _) rfl (fun v79 M79 => ?_)
      refine r_goto (pc := 82) (tgt := 108) E dX6_writeBlock_82 (by decide) ?_
      exact r_sub [] [] [] rfl rfl rfl (hL108 _)
  have hL21 : ∀ (p0 : Option Nat) (p1 : Int32) (p3 : Int32) (p4 : Int32) (q0 : Int32) (M : Mem), RT p l e rmX6_writeBlock s m args below meth c x 6 (QM below args s x (fun _ : Unit => none) rmX6_writeBlock.cells rmX6_writeBlock.slots) 0 0 (fX6_writeBlock_L21 p0 p1 p3 p4 q0 M) 21 [(1, p1), (3, p3), (4, p4)] [] [(0, p0)] [.int q0] M := by
    intro p0 p1 p3 p4 q0 M
    unfold fX6_writeBlock_L21
    refine r_istore (pc := 21) (lf := fun v21 => [(5, v21), (1, p1), (3, p3), (4, p4)]) (lg := fun v21 => []) (lk := fun v21 => [(0, p0)]) E dX6_writeBlock_21 (by decide) (fun _ => rfl) (fun _ => rfl) (fun _ => rfl) (fun v21 => ?_)
    refine r_aload_n (pc := 23) E dX6_writeBlock_23 rfl 0 rfl ?_
    refine r_getR (pc := 24) E fd_6_13 wf_RX6_62 dX6_writeBlock_24 (fun v24 => ?_)
    refine r_iload (pc := 27) E dX6_writeBlock_27 0 rfl ?_
    refine r_iload_n (pc := 29) E dX6_writeBlock_29 rfl 2 rfl ?_
    refine r_iconst (pc := 30) (v := 1) E dX6_writeBlock_30 (by decide) ?_
    refine r_ishl (pc := 31) E dX6_writeBlock_31 ?_
    refine r_ior (pc := 32) E dX6_writeBlock_32 ?_
    refine r_iload_n (pc := 33) E dX6_writeBlock_33 rfl 2 rfl ?_
    refine r_iconst (pc := 34) (v := 2) E dX6_writeBlock_34 (by decide) ?_
    refine r_icmp_ne (pc := 35) (tgt := 48) E dX6_writeBlock_35 (by decide) ?_ ?_
    · refine r_iload (pc := 48) E dX6_writeBlock_48 3 rfl ?_
      exact r_sub [1, 2, 3] [] [0] rfl rfl rfl (hL50 p0 p1 p3 p4 v24 (v21 ||| (shlI p3 1)) p4 _)
    · refine r_aload_n (pc := 38) E dX6_writeBlock_38 rfl 0 rfl ?_
      refine r_getR (pc := 39) E fd_6_1 wf_RX6_23 dX6_writeBlock_39 (fun v39 => ?_)
      refine r_getI (pc := 42) E fd_8_1 wf_RX6_77 dX6_writeBlock_42 (fun v42 => ?_)
      refine r_goto (pc := 45) (tgt := 50) E dX6_writeBlock_45 (by decide) ?_
      exact r_sub [1, 2, 3] [] [0] rfl rfl rfl (hL50 p0 p1 p3 p4 v24 (v21 ||| (shlI p3 1)) v42 _)
  show RT p l e rmX6_writeBlock s m args below meth c x 6 (QM below args s x (fun _ : Unit => none) rmX6_writeBlock.cells rmX6_writeBlock.slots) 0 0 (fX6_writeBlock a0 a1 a2 a3 M) 0 [(1, a1), (2, a2), (3, a3)] [] [(0, a0)] [] M
  unfold fX6_writeBlock
  refine r_iload_n (pc := 0) E dX6_writeBlock_0 rfl 1 rfl ?_
  refine r_iload_n (pc := 1) E dX6_writeBlock_1 rfl 0 rfl ?_
  refine r_isub (pc := 2) E dX6_writeBlock_2 ?_
  refine r_istore (pc := 3) (lf := fun v3 => [(4, v3), (1, a1), (2, a2), (3, a3)]) (lg := fun v3 => []) (lk := fun v3 => [(0, a0)]) E dX6_writeBlock_3 (by decide) (fun _ => rfl) (fun _ => rfl) (fun _ => rfl) (fun v3 => ?_)
  refine r_iload_n (pc := 5) E dX6_writeBlock_5 rfl 2 rfl ?_
  refine r_aload_n (pc := 6) E dX6_writeBlock_6 rfl 0 rfl ?_
  refine r_getR (pc := 7) E fd_6_12 wf_RX6_59 dX6_writeBlock_7 (fun v7 => ?_)
  refine r_getI (pc := 10) E fd_8_1 wf_RX6_77 dX6_writeBlock_10 (fun v10 => ?_)
  refine r_icmp_ne (pc := 13) (tgt := 20) E dX6_writeBlock_13 (by decide) ?_ ?_
  · refine r_iconst (pc := 20) (v := 0) E dX6_writeBlock_20 (by decide) ?_
    exact r_sub [1, 3, 0] [] [0] rfl rfl rfl (hL21 a0 a1 a3 v3 0 _)
  · refine r_iconst (pc := 16) (v := 1) E dX6_writeBlock_16 (by decide) ?_
    refine r_goto (pc := 17) (tgt := 21) E dX6_writeBlock_17 (by decide) ?_
    exact r_sub [1, 3, 0] [] [0] rfl rfl rfl (hL21 a0 a1 a3 v3 1 _)
def fX6_packRow_L221 (k79 : Option Nat × Int32 × Int32 × Int32 → Mem → Option (Unit × Mem)) (p0 : Option Nat) (p5 : Int32) (p7 : Int32) (p8 : Int32) (q0 : Option Nat) (q1 : Int32) (q2 : Int32) (q3 : Int32) (M : Mem) : Option (Unit × Mem) :=
  bo (chk M q0 6) fun _ => bd (fX6_writeBlock q0 q1 q2 q3 M) fun v221 M221 =>
  bn (p8) fun v226 =>
  bn (p7 + 1) fun v228 =>
  k79 ((p0, p5, v226, v228)) M221
def fX6_packRow_L195 (k79 : Option Nat × Int32 × Int32 × Int32 → Mem → Option (Unit × Mem)) (p0 : Option Nat) (p5 : Int32) (p6 : Int32) (p7 : Int32) (p8 : Int32) (p10 : Int32) (q0 : Int32) (M : Mem) : Option (Unit × Mem) :=
  bn (q0) fun v195 =>
  if p10 = 0 then (
    if v195 = 0 then (
      fX6_packRow_L221 k79 p0 p5 p7 p8 p0 p6 p8 0 M
    ) else (
      fX6_packRow_L221 k79 p0 p5 p7 p8 p0 p6 p8 2 M
    )
  ) else (
    fX6_packRow_L221 k79 p0 p5 p7 p8 p0 p6 p8 1 M
  )
def fX6_packRow_L194 (k79 : Option Nat × Int32 × Int32 × Int32 → Mem → Option (Unit × Mem)) (p0 : Option Nat) (p5 : Int32) (p6 : Int32) (p7 : Int32) (p8 : Int32) (p10 : Int32) (M : Mem) : Option (Unit × Mem) :=
  fX6_packRow_L195 k79 p0 p5 p6 p7 p8 p10 0 M
def fX6_packRow_L167 (k79 : Option Nat × Int32 × Int32 × Int32 → Mem → Option (Unit × Mem)) (p0 : Option Nat) (p5 : Int32) (p6 : Int32) (p7 : Int32) (p8 : Int32) (p9 : Int32) (q0 : Int32) (M : Mem) : Option (Unit × Mem) :=
  bn (q0) fun v167 =>
  if p9 = 0 then (
    fX6_packRow_L194 k79 p0 p5 p6 p7 p8 v167 M
  ) else (
    if v167 = 0 then (
      bo (chk M p0 6) fun _ => bd (fX6_writeBody p0 p6 p8 M) fun v184 M184 =>
      if v184 = 0 then (
        fX6_packRow_L194 k79 p0 p5 p6 p7 p8 v167 M184
      ) else (
        fX6_packRow_L195 k79 p0 p5 p6 p7 p8 v167 1 M184
      )
    ) else (
      fX6_packRow_L194 k79 p0 p5 p6 p7 p8 v167 M
    )
  )
def fX6_packRow_L166 (k79 : Option Nat × Int32 × Int32 × Int32 → Mem → Option (Unit × Mem)) (p0 : Option Nat) (p5 : Int32) (p6 : Int32) (p7 : Int32) (p8 : Int32) (p9 : Int32) (M : Mem) : Option (Unit × Mem) :=
  fX6_packRow_L167 k79 p0 p5 p6 p7 p8 p9 0 M
def fX6_packRow_L141 (k79 : Option Nat × Int32 × Int32 × Int32 → Mem → Option (Unit × Mem)) (p0 : Option Nat) (p5 : Int32) (p6 : Int32) (p7 : Int32) (p8 : Int32) (q0 : Int32) (M : Mem) : Option (Unit × Mem) :=
  bn (q0) fun v141 =>
  if v141 = 0 then (
    fX6_packRow_L166 k79 p0 p5 p6 p7 p8 v141 M
  ) else (
    bo (gR M p0 6 12) fun v149 =>
    bo (chk M v149 8) fun _ => bd (fX8_same v149 p6 p8 M) fun v156 M156 =>
    if v156 = 0 then (
      fX6_packRow_L166 k79 p0 p5 p6 p7 p8 v141 M156
    ) else (
      fX6_packRow_L167 k79 p0 p5 p6 p7 p8 v141 1 M156
    )
  )
def fX6_packRow_L140 (k79 : Option Nat × Int32 × Int32 × Int32 → Mem → Option (Unit × Mem)) (p0 : Option Nat) (p5 : Int32) (p6 : Int32) (p7 : Int32) (p8 : Int32) (M : Mem) : Option (Unit × Mem) :=
  fX6_packRow_L141 k79 p0 p5 p6 p7 p8 0 M
def fX6_packRow_L104 (k79 : Option Nat × Int32 × Int32 × Int32 → Mem → Option (Unit × Mem)) (p0 : Option Nat) (p5 : Int32) (p6 : Int32) (p7 : Int32) (M : Mem) : Option (Unit × Mem) :=
  bo (gR M p0 6 12) fun v111 =>
  bo (gI M v111 8 1) fun v114 =>
  bn (minI (p6 + 2048) v114) fun v120 =>
  bo (gI M p0 6 14) fun v123 =>
  if v123 ≤ 0 then (
    fX6_packRow_L140 k79 p0 p5 p6 p7 v120 M
  ) else (
    if v120 ≤ p6 then (
      fX6_packRow_L140 k79 p0 p5 p6 p7 v120 M
    ) else (
      fX6_packRow_L141 k79 p0 p5 p6 p7 v120 1 M
    )
  )
def fX6_packRow_L257 (M : Mem) : Option (Unit × Mem) :=
  some ((), M)
def fX6_packRow_L234 (p0 : Option Nat) (p5 : Int32) (M : Mem) : Option (Unit × Mem) :=
  if (p5 &&& 1) = 0 then (
    fX6_packRow_L257 M
  ) else (
    bo (gR M p0 6 13) fun v242 =>
    bo (gR M p0 6 12) fun v246 =>
    bo (chk M v246 8) fun _ => bd (fX8_sumFrom v246 0 M) fun v250 M250 =>
    bo (chk M250 v242 8) fun _ => bd (fX8_addNumber v242 v250 4 M250) fun v254 M254 =>
    fX6_packRow_L257 M254
  )
def fX6_packRow_B79 (k79 : Option Nat × Int32 × Int32 × Int32 → Mem → Option (Unit × Mem)) (p0 : Option Nat) (p5 : Int32) (p6 : Int32) (p7 : Int32) (M : Mem) : Option (Unit × Mem) :=
  if p7 = 0 then (
    fX6_packRow_L104 k79 p0 p5 p6 p7 M
  ) else (
    if 8000 ≤ p7 then (
      fX6_packRow_L234 p0 p5 M
    ) else (
      bo (gR M p0 6 12) fun v95 =>
      bo (gI M v95 8 1) fun v98 =>
      if v98 ≤ p6 then (
        fX6_packRow_L234 p0 p5 M
      ) else (
        fX6_packRow_L104 k79 p0 p5 p6 p7 M
      )
    )
  )
def fX6_packRow_L79 (p0 : Option Nat) (p5 : Int32) (p6 : Int32) (p7 : Int32) (M : Mem) : Option (Unit × Mem) :=
  lp (fun k79 (a : Option Nat × Int32 × Int32 × Int32) M => fX6_packRow_B79 k79 a.1 a.2.1 a.2.2.1 a.2.2.2 M) FU ((p0, p5, p6, p7)) M
def fX6_packRow_L70 (p0 : Option Nat) (p5 : Int32) (q0 : Option Nat) (q1 : Option Nat) (q2 : Option Nat) (M : Mem) : Option (Unit × Mem) :=
  bo (chk M q0 3) fun _ => bd (fX3_begin q0 q1 q2 M) fun v70 M70 =>
  bn (0) fun v74 =>
  bn (0) fun v77 =>
  fX6_packRow_L79 p0 p5 v74 v77 M70
def fX6_packRow_L37 (p0 : Option Nat) (p3 : Option Nat) (p5 : Int32) (q0 : Option Nat) (q1 : Int32) (M : Mem) : Option (Unit × Mem) :=
  bo (chk M q0 6) fun _ => bd (fX6_writeHead q0 q1 p5 M) fun v39 M39 =>
  bo (gR M39 p0 6 9) fun v43 =>
  bd (fX12_rememberFirst v43 p3 M39) fun v47 M47 =>
  bo (gR M47 p0 6 0) fun v51 =>
  bo (gR M47 p0 6 12) fun v55 =>
  if p3 = none then (
    fX6_packRow_L70 p0 p5 v51 v55 none M47
  ) else (
    bo (gR M47 p3 2 5) fun v67 =>
    fX6_packRow_L70 p0 p5 v51 v55 v67 M47
  )
def fX6_packRow (a0 : Option Nat) (a1 : Option Nat) (a2 : Option Nat) (a3 : Option Nat) (a4 : Int32) (a5 : Int32) (M : Mem) : Option (Unit × Mem) :=
  bo (pR M a0 6 12 a1) fun M2 =>
  bo (pR M2 a0 6 13 a2) fun M7 =>
  bo (pI M7 a0 6 14 a4) fun M13 =>
  bo (gR M13 a0 6 13) fun v17 =>
  bo (pI M13 v17 8 1 0) fun M21 =>
  if a3 = none then (
    fX6_packRow_L37 a0 a3 a5 a0 0 M21
  ) else (
    bo (gI M21 a3 2 0) fun v34 =>
    fX6_packRow_L37 a0 a3 a5 a0 v34 M21
  )
def rmX6_packRow : Room := { frames := 6, cells := 0, slots := 0, locals := 154 }
set_option maxRecDepth 100000 in
set_option maxHeartbeats 4000000 in
theorem ctX6_packRow (l : Launch) (x : Cx) (a0 : Option Nat) (a1 : Option Nat) (a2 : Option Nat) (a3 : Option Nat) (a4 : Int32) (a5 : Int32) (M : Mem) (v : Unit) (N : Mem) (h : fX6_packRow a0 a1 a2 a3 a4 a5 M = some (v, N)) : CT l yX6_packRow cX6_packRow 12 (none) rmX6_packRow x [rv x a0, rv x a1, rv x a2, rv x a3, .int a4, .int a5] M none N := by
  refine ct_mk (enc := fun _ : Unit => none) (li := [(4, a4), (5, a5)]) (ll := []) (lr := [(0, a0), (1, a1), (2, a2), (3, a3)]) (by decide +kernel) (by simp [lg_sl, rv_cat, cat_int, cat_long]) (by simp [flat, lv_args, rv_cat, cat_int, cat_long]) h ?_
  intro p e s m args below meth c E
  have hL221 : ∀ (k79 : Option Nat × Int32 × Int32 × Int32 → Mem → Option (Unit × Mem)) (hk79 : ∀ a M, RT p l e rmX6_packRow s m args below meth c x 12 (QM below args s x (fun _ : Unit => none) rmX6_packRow.cells rmX6_packRow.slots) 0 0 (k79 a M) 79 [(5, a.2.1), (6, a.2.2.1), (7, a.2.2.2)] [] [(0, a.1)] [] M) (p0 : Option Nat) (p5 : Int32) (p7 : Int32) (p8 : Int32) (q0 : Option Nat) (q1 : Int32) (q2 : Int32) (q3 : Int32) (M : Mem), RT p l e rmX6_packRow s m args below meth c x 12 (QM below args s x (fun _ : Unit => none) rmX6_packRow.cells rmX6_packRow.slots) 0 0 (fX6_packRow_L221 k79 p0 p5 p7 p8 q0 q1 q2 q3 M) 221 [(5, p5), (7, p7), (8, p8)] [] [(0, p0)] [.int q3, .int q2, .int q1, rv x q0] M := by
    intro k79 hk79 p0 p5 p7 p8 q0 q1 q2 q3 M
    unfold fX6_packRow_L221
    refine r_kVv (pc := 221) (As := [.int q1, .int q2, .int q3]) (rest := []) E wc_X6_writeBlock wi_RX6 hd_X6_writeBlock (ci := 6) rfl wl_RX6_113 wn_X6_writeBlock ws_X6_writeBlock dX6_packRow_221 (by decide) (Nat.le_of_ble_eq_true rfl) ⟨rfl, rfl⟩ (ctX6_writeBlock l x _ _ _ _ _) rfl (fun v221 M221 => ?_)
    refine r_iload (pc := 224) E dX6_packRow_224 2 rfl ?_
    refine r_istore (pc := 226) (lf := fun v226 => [(6, v226), (5, p5), (7, p7), (8, p8)]) (lg := fun v226 => []) (lk := fun v226 => [(0, p0)]) E dX6_packRow_226 (by decide) (fun _ => rfl) (fun _ => rfl) (fun _ => rfl) (fun v226 => ?_)
    refine r_iinc (pc := 228) (w := 1) (lf := fun v228 => [(7, v228), (6, v226), (5, p5), (8, p8)]) (ll' := []) (lr' := [(0, p0)]) E dX6_packRow_228 2 rfl (by decide) (by decide) (fun _ => rfl) rfl rfl (fun v228 => ?_)
    refine r_goto (pc := 231) (tgt := 79) E dX6_packRow_231 (by decide) ?_
    exact r_sub [2, 1, 0] [] [0] rfl rfl rfl (hk79 ((p0, p5, v226, v228)) _)
  have hL195 : ∀ (k79 : Option Nat × Int32 × Int32 × Int32 → Mem → Option (Unit × Mem)) (hk79 : ∀ a M, RT p l e rmX6_packRow s m args below meth c x 12 (QM below args s x (fun _ : Unit => none) rmX6_packRow.cells rmX6_packRow.slots) 0 0 (k79 a M) 79 [(5, a.2.1), (6, a.2.2.1), (7, a.2.2.2)] [] [(0, a.1)] [] M) (p0 : Option Nat) (p5 : Int32) (p6 : Int32) (p7 : Int32) (p8 : Int32) (p10 : Int32) (q0 : Int32) (M : Mem), RT p l e rmX6_packRow s m args below meth c x 12 (QM below args s x (fun _ : Unit => none) rmX6_packRow.cells rmX6_packRow.slots) 0 0 (fX6_packRow_L195 k79 p0 p5 p6 p7 p8 p10 q0 M) 195 [(5, p5), (6, p6), (7, p7), (8, p8), (10, p10)] [] [(0, p0)] [.int q0] M := by
    intro k79 hk79 p0 p5 p6 p7 p8 p10 q0 M
    unfold fX6_packRow_L195
    refine r_istore (pc := 195) (lf := fun v195 => [(11, v195), (5, p5), (6, p6), (7, p7), (8, p8), (10, p10)]) (lg := fun v195 => []) (lk := fun v195 => [(0, p0)]) E dX6_packRow_195 (by decide) (fun _ => rfl) (fun _ => rfl) (fun _ => rfl) (fun v195 => ?_)
    refine r_aload_n (pc := 197) E dX6_packRow_197 rfl 0 rfl ?_
    refine r_iload (pc := 198) E dX6_packRow_198 2 rfl ?_
    refine r_iload (pc := 200) E dX6_packRow_200 4 rfl ?_
    refine r_iload (pc := 202) E dX6_packRow_202 5 rfl ?_
    refine r_if_eq (pc := 204) (tgt := 211) E dX6_packRow_204 (by decide) ?_ ?_
    · refine r_iload (pc := 211) E dX6_packRow_211 0 rfl ?_
      refine r_if_eq (pc := 213) (tgt := 220) E dX6_packRow_213 (by decide) ?_ ?_
      · refine r_iconst (pc := 220) (v := 0) E dX6_packRow_220 (by decide) ?_
        exact r_sub [1, 3, 4] [] [0] rfl rfl rfl (hL221 k79 hk79 p0 p5 p7 p8 p0 p6 p8 0 _)
      · refine r_iconst (pc := 216) (v := 2) E dX6_packRow_216 (by decide) ?_
        refine r_goto (pc := 217) (tgt := 221) E dX6_packRow_217 (by decide) ?_
        exact r_sub [1, 3, 4] [] [0] rfl rfl rfl (hL221 k79 hk79 p0 p5 p7 p8 p0 p6 p8 2 _)
    · refine r_iconst (pc := 207) (v := 1) E dX6_packRow_207 (by decide) ?_
      refine r_goto (pc := 208) (tgt := 221) E dX6_packRow_208 (by decide) ?_
      exact r_sub [1, 3, 4] [] [0] rfl rfl rfl (hL221 k79 hk79 p0 p5 p7 p8 p0 p6 p8 1 _)
  have hL194 : ∀ (k79 : Option Nat × Int32 × Int32 × Int32 → Mem → Option (Unit × Mem)) (hk79 : ∀ a M, RT p l e rmX6_packRow s m args below meth c x 12 (QM below args s x (fun _ : Unit => none) rmX6_packRow.cells rmX6_packRow.slots) 0 0 (k79 a M) 79 [(5, a.2.1), (6, a.2.2.1), (7, a.2.2.2)] [] [(0, a.1)] [] M) (p0 : Option Nat) (p5 : Int32) (p6 : Int32) (p7 : Int32) (p8 : Int32) (p10 : Int32) (M : Mem), RT p l e rmX6_packRow s m args below meth c x 12 (QM below args s x (fun _ : Unit => none) rmX6_packRow.cells rmX6_packRow.slots) 0 0 (fX6_packRow_L194 k79 p0 p5 p6 p7 p8 p10 M) 194 [(5, p5), (6, p6), (7, p7), (8, p8), (10, p10)] [] [(0, p0)] [] M := by
    intro k79 hk79 p0 p5 p6 p7 p8 p10 M
    unfold fX6_packRow_L194
    refine r_iconst (pc := 194) (v := 0) E dX6_packRow_194 (by decide) ?_
    exact r_sub [0, 1, 2, 3, 4] [] [0] rfl rfl rfl (hL195 k79 hk79 p0 p5 p6 p7 p8 p10 0 _)
  have hL167 : ∀ (k79 : Option Nat × Int32 × Int32 × Int32 → Mem → Option (Unit × Mem)) (hk79 : ∀ a M, RT p l e rmX6_packRow s m args below meth c x 12 (QM below args s x (fun _ : Unit => none) rmX6_packRow.cells rmX6_packRow.slots) 0 0 (k79 a M) 79 [(5, a.2.1), (6, a.2.2.1), (7, a.2.2.2)] [] [(0, a.1)] [] M) (p0 : Option Nat) (p5 : Int32) (p6 : Int32) (p7 : Int32) (p8 : Int32) (p9 : Int32) (q0 : Int32) (M : Mem), RT p l e rmX6_packRow s m args below meth c x 12 (QM below args s x (fun _ : Unit => none) rmX6_packRow.cells rmX6_packRow.slots) 0 0 (fX6_packRow_L167 k79 p0 p5 p6 p7 p8 p9 q0 M) 167 [(5, p5), (6, p6), (7, p7), (8, p8), (9, p9)] [] [(0, p0)] [.int q0] M := by
    intro k79 hk79 p0 p5 p6 p7 p8 p9 q0 M
    unfold fX6_packRow_L167
    refine r_istore (pc := 167) (lf := fun v167 => [(10, v167), (5, p5), (6, p6), (7, p7), (8, p8), (9, p9)]) (lg := fun v167 => []) (lk := fun v167 => [(0, p0)]) E dX6_packRow_167 (by decide) (fun _ => rfl) (fun _ => rfl) (fun _ => rfl) (fun v167 => ?_)
    refine r_iload (pc := 169) E dX6_packRow_169 5 rfl ?_
    refine r_if_eq (pc := 171) (tgt := 194) E dX6_packRow_171 (by decide) ?_ ?_
    · exact r_sub [1, 2, 3, 4, 0] [] [0] rfl rfl rfl (hL194 k79 hk79 p0 p5 p6 p7 p8 v167 _)
    · refine r_iload (pc := 174) E dX6_packRow_174 0 rfl ?_
      refine r_if_ne (pc := 176) (tgt := 194) E dX6_packRow_176 (by decide) ?_ ?_
      · exact r_sub [1, 2, 3, 4, 0] [] [0] rfl rfl rfl (hL194 k79 hk79 p0 p5 p6 p7 p8 v167 _)
      · refine r_aload_n (pc := 179) E dX6_packRow_179 rfl 0 rfl ?_
        refine r_iload (pc := 180) E dX6_packRow_180 2 rfl ?_
        refine r_iload (pc := 182) E dX6_packRow_182 4 rfl ?_
        refine r_kVi (pc := 184) (As := [.int p6, .int p8]) (rest := []) E wc_X6_writeBody wi_RX6 hd_X6_writeBody (ci := 6) rfl wl_RX6_110 wn_X6_writeBody ws_X6_writeBody dX6_packRow_184 (by decide) (Nat.le_of_ble_eq_true rfl) ⟨rfl, rfl⟩ (ctX6_writeBody l x _ _ _ _) rfl (fun v184 M184 => ?_)
        refine r_if_eq (pc := 187) (tgt := 194) E dX6_packRow_187 (by decide) ?_ ?_
        · exact r_sub [1, 2, 3, 4, 0] [] [0] rfl rfl rfl (hL194 k79 hk79 p0 p5 p6 p7 p8 v167 _)
        · refine r_iconst (pc := 190) (v := 1) E dX6_packRow_190 (by decide) ?_
          refine r_goto (pc := 191) (tgt := 195) E dX6_packRow_191 (by decide) ?_
          exact r_sub [1, 2, 3, 4, 0] [] [0] rfl rfl rfl (hL195 k79 hk79 p0 p5 p6 p7 p8 v167 1 _)
  have hL166 : ∀ (k79 : Option Nat × Int32 × Int32 × Int32 → Mem → Option (Unit × Mem)) (hk79 : ∀ a M, RT p l e rmX6_packRow s m args below meth c x 12 (QM below args s x (fun _ : Unit => none) rmX6_packRow.cells rmX6_packRow.slots) 0 0 (k79 a M) 79 [(5, a.2.1), (6, a.2.2.1), (7, a.2.2.2)] [] [(0, a.1)] [] M) (p0 : Option Nat) (p5 : Int32) (p6 : Int32) (p7 : Int32) (p8 : Int32) (p9 : Int32) (M : Mem), RT p l e rmX6_packRow s m args below meth c x 12 (QM below args s x (fun _ : Unit => none) rmX6_packRow.cells rmX6_packRow.slots) 0 0 (fX6_packRow_L166 k79 p0 p5 p6 p7 p8 p9 M) 166 [(5, p5), (6, p6), (7, p7), (8, p8), (9, p9)] [] [(0, p0)] [] M := by
    intro k79 hk79 p0 p5 p6 p7 p8 p9 M
    unfold fX6_packRow_L166
    refine r_iconst (pc := 166) (v := 0) E dX6_packRow_166 (by decide) ?_
    exact r_sub [0, 1, 2, 3, 4] [] [0] rfl rfl rfl (hL167 k79 hk79 p0 p5 p6 p7 p8 p9 0 _)
  have hL141 : ∀ (k79 : Option Nat × Int32 × Int32 × Int32 → Mem → Option (Unit × Mem)) (hk79 : ∀ a M, RT p l e rmX6_packRow s m args below meth c x 12 (QM below args s x (fun _ : Unit => none) rmX6_packRow.cells rmX6_packRow.slots) 0 0 (k79 a M) 79 [(5, a.2.1), (6, a.2.2.1), (7, a.2.2.2)] [] [(0, a.1)] [] M) (p0 : Option Nat) (p5 : Int32) (p6 : Int32) (p7 : Int32) (p8 : Int32) (q0 : Int32) (M : Mem), RT p l e rmX6_packRow s m args below meth c x 12 (QM below args s x (fun _ : Unit => none) rmX6_packRow.cells rmX6_packRow.slots) 0 0 (fX6_packRow_L141 k79 p0 p5 p6 p7 p8 q0 M) 141 [(5, p5), (6, p6), (7, p7), (8, p8)] [] [(0, p0)] [.int q0] M := by
    intro k79 hk79 p0 p5 p6 p7 p8 q0 M
    unfold fX6_packRow_L141
    refine r_istore (pc := 141) (lf := fun v141 => [(9, v141), (5, p5), (6, p6), (7, p7), (8, p8)]) (lg := fun v141 => []) (lk := fun v141 => [(0, p0)]) E dX6_packRow_141 (by decide) (fun _ => rfl) (fun _ => rfl) (fun _ => rfl) (fun v141 => ?_)
    refine r_iload (pc := 143) E dX6_packRow_143 0 rfl ?_
    refine r_if_eq (pc := 145) (tgt := 166) E dX6_packRow_145 (by decide) ?_ ?_
    · exact r_sub [1, 2, 3, 4, 0] [] [0] rfl rfl rfl (hL166 k79 hk79 p0 p5 p6 p7 p8 v141 _)
    · refine r_aload_n (pc := 148) E dX6_packRow_148 rfl 0 rfl ?_
      refine r_getR (pc := 149) E fd_6_12 wf_RX6_59 dX6_packRow_149 (fun v149 => ?_)
      refine r_iload (pc := 152) E dX6_packRow_152 2 rfl ?_
      refine r_iload (pc := 154) E dX6_packRow_154 4 rfl ?_
      refine r_kVi (pc := 156) (As := [.int p6, .int p8]) (rest := []) E wc_X8_same wi_RX8 hd_X8_same (ci := 8) rfl wl_RX6_106 wn_X8_same ws_X8_same dX6_packRow_156 (by decide) (Nat.le_of_ble_eq_true rfl) ⟨rfl, rfl⟩ (ctX8_same l x _ _ _ _) rfl (fun v156 M156 => ?_)
      refine r_if_eq (pc := 159) (tgt := 166) E dX6_packRow_159 (by decide) ?_ ?_
      · exact r_sub [1, 2, 3, 4, 0] [] [0] rfl rfl rfl (hL166 k79 hk79 p0 p5 p6 p7 p8 v141 _)
      · refine r_iconst (pc := 162) (v := 1) E dX6_packRow_162 (by decide) ?_
        refine r_goto (pc := 163) (tgt := 167) E dX6_packRow_163 (by decide) ?_
        exact r_sub [1, 2, 3, 4, 0] [] [0] rfl rfl rfl (hL167 k79 hk79 p0 p5 p6 p7 p8 v141 1 _)
  have hL140 : ∀ (k79 : Option Nat × Int32 × Int32 × Int32 → Mem → Option (Unit × Mem)) (hk79 : ∀ a M, RT p l e rmX6_packRow s m args below meth c x 12 (QM below args s x (fun _ : Unit => none) rmX6_packRow.cells rmX6_packRow.slots) 0 0 (k79 a M) 79 [(5, a.2.1), (6, a.2.2.1), (7, a.2.2.2)] [] [(0, a.1)] [] M) (p0 : Option Nat) (p5 : Int32) (p6 : Int32) (p7 : Int32) (p8 : Int32) (M : Mem), RT p l e rmX6_packRow s m args below meth c x 12 (QM below args s x (fun _ : Unit => none) rmX6_packRow.cells rmX6_packRow.slots) 0 0 (fX6_packRow_L140 k79 p0 p5 p6 p7 p8 M) 140 [(5, p5), (6, p6), (7, p7), (8, p8)] [] [(0, p0)] [] M := by
    intro k79 hk79 p0 p5 p6 p7 p8 M
    unfold fX6_packRow_L140
    refine r_iconst (pc := 140) (v := 0) E dX6_packRow_140 (by decide) ?_
    exact r_sub [0, 1, 2, 3] [] [0] rfl rfl rfl (hL141 k79 hk79 p0 p5 p6 p7 p8 0 _)
  have hL104 : ∀ (k79 : Option Nat × Int32 × Int32 × Int32 → Mem → Option (Unit × Mem)) (hk79 : ∀ a M, RT p l e rmX6_packRow s m args below meth c x 12 (QM below args s x (fun _ : Unit => none) rmX6_packRow.cells rmX6_packRow.slots) 0 0 (k79 a M) 79 [(5, a.2.1), (6, a.2.2.1), (7, a.2.2.2)] [] [(0, a.1)] [] M) (p0 : Option Nat) (p5 : Int32) (p6 : Int32) (p7 : Int32) (M : Mem), RT p l e rmX6_packRow s m args below meth c x 12 (QM below args s x (fun _ : Unit => none) rmX6_packRow.cells rmX6_packRow.slots) 0 0 (fX6_packRow_L104 k79 p0 p5 p6 p7 M) 104 [(5, p5), (6, p6), (7, p7)] [] [(0, p0)] [] M := by
    intro k79 hk79 p0 p5 p6 p7 M
    unfold fX6_packRow_L104
    refine r_iload (pc := 104) E dX6_packRow_104 1 rfl ?_
    refine r_sipush (pc := 106) (v := 2048) E dX6_packRow_106 (by decide) ?_
    refine r_iadd (pc := 109) E dX6_packRow_109 ?_
    refine r_aload_n (pc := 110) E dX6_packRow_110 rfl 0 rfl ?_
    refine r_getR (pc := 111) E fd_6_12 wf_RX6_59 dX6_packRow_111 (fun v111 => ?_)
    refine r_getI (pc := 114) E fd_8_1 wf_RX6_77 dX6_packRow_114 (fun v114 => ?_)
    refine r_mmin (pc := 117) E wl_RX6_100 wm_smin wi_math wm_cmin dX6_packRow_117 (by decide) (Nat.le_of_ble_eq_true rfl) ?_
    refine r_istore (pc := 120) (lf := fun v120 => [(8, v120), (5, p5), (6, p6), (7, p7)]) (lg := fun v120 => []) (lk := fun v120 => [(0, p0)]) E dX6_packRow_120 (by decide) (fun _ => rfl) (fun _ => rfl) (fun _ => rfl) (fun v120 => ?_)
    refine r_aload_n (pc := 122) E dX6_packRow_122 rfl 0 rfl ?_
    refine r_getI (pc := 123) E fd_6_14 wf_RX6_73 dX6_packRow_123 (fun v123 => ?_)
    refine r_if_le (pc := 126) (tgt := 140) E dX6_packRow_126 (by decide) ?_ ?_
    · exact r_sub [1, 2, 3, 0] [] [0] rfl rfl rfl (hL140 k79 hk79 p0 p5 p6 p7 v120 _)
    · refine r_iload (pc := 129) E dX6_packRow_129 0 rfl ?_
      refine r_iload (pc := 131) E dX6_packRow_131 2 rfl ?_
      refine r_icmp_le (pc := 133) (tgt := 140) E dX6_packRow_133 (by decide) ?_ ?_
      · exact r_sub [1, 2, 3, 0] [] [0] rfl rfl rfl (hL140 k79 hk79 p0 p5 p6 p7 v120 _)
      · refine r_iconst (pc := 136) (v := 1) E dX6_packRow_136 (by decide) ?_
        refine r_goto (pc := 137) (tgt := 141) E dX6_packRow_137 (by decide) ?_
        exact r_sub [1, 2, 3, 0] [] [0] rfl rfl rfl (hL141 k79 hk79 p0 p5 p6 p7 v120 1 _)
  have hL257 : ∀ (M : Mem), RT p l e rmX6_packRow s m args below meth c x 12 (QM below args s x (fun _ : Unit => none) rmX6_packRow.cells rmX6_packRow.slots) 0 0 (fX6_packRow_L257 M) 257 [] [] [] [] M := by
    intro M
    unfold fX6_packRow_L257
    exact e_void (pc := 257) E dX6_packRow_257
  have hL234 : ∀ (p0 : Option Nat) (p5 : Int32) (M : Mem), RT p l e rmX6_packRow s m args below meth c x 12 (QM below args s x (fun _ : Unit => none) rmX6_packRow.cells rmX6_packRow.slots) 0 0 (fX6_packRow_L234 p0 p5 M) 234 [(5, p5)] [] [(0, p0)] [] M := by
    intro p0 p5 M
    unfold fX6_packRow_L234
    refine r_iload (pc := 234) E dX6_packRow_234 0 rfl ?_
    refine r_iconst (pc := 236) (v := 1) E dX6_packRow_236 (by decide) ?_
    refine r_iand (pc := 237) E dX6_packRow_237 ?_
    refine r_if_eq (pc := 238) (tgt := 257) E dX6_packRow_238 (by decide) ?_ ?_
    · exact r_sub [] [] [] rfl rfl rfl (hL257 _)
    · refine r_aload_n (pc := 241) E dX6_packRow_241 rfl 0 rfl ?_
      refine r_getR (pc := 242) E fd_6_13 wf_RX6_62 dX6_packRow_242 (fun v242 => ?_)
      refine r_aload_n (pc := 245) E dX6_packRow_245 rfl 0 rfl ?_
      refine r_getR (pc := 246) E fd_6_12 wf_RX6_59 dX6_packRow_246 (fun v246 => ?_)
      refine r_iconst (pc := 249) (v := 0) E dX6_packRow_249 (by decide) ?_
      refine r_kVl (pc := 250) (As := [.int 0]) (rest := [rv x v242]) E wc_X8_sumFrom wi_RX8 hd_X8_sumFrom (ci := 8) rfl wl_RX6_117 wn_X8_sumFrom ws_X8_sumFrom dX6_packRow_250 (by decide) (Nat.le_of_ble_eq_true rfl) ⟨rfl, rfl⟩ (ctX8_sumFrom l x _ _ _) rfl (fun v250 M250 => ?_)
      refine r_iconst (pc := 253) (v := 4) E dX6_packRow_253 (by decide) ?_
      refine r_kVv (pc := 254) (As := [.long v250, .int 4]) (rest := []) E wc_X8_addNumber wi_RX8 hd_X8_addNumber (ci := 8) rfl wl_RX6_121 wn_X8_addNumber ws_X8_addNumber dX6_packRow_254 (by decide) (Nat.le_of_ble_eq_true rfl) ⟨rfl, rfl⟩ (ctX8_addNumber l x _ _ _ _) rfl (fun v254 M254 => ?_)
      exact r_sub [] [] [] rfl rfl rfl (hL257 _)
  have hL79 : ∀ (p0 : Option Nat) (p5 : Int32) (p6 : Int32) (p7 : Int32) (M : Mem), RT p l e rmX6_packRow s m args below meth c x 12 (QM below args s x (fun _ : Unit => none) rmX6_packRow.cells rmX6_packRow.slots) 0 0 (fX6_packRow_L79 p0 p5 p6 p7 M) 79 [(5, p5), (6, p6), (7, p7)] [] [(0, p0)] [] M := by
    intro p0 p5 p6 p7 M
    refine r_lp (fi := fun a : Option Nat × Int32 × Int32 × Int32 => [(5, a.2.1), (6, a.2.2.1), (7, a.2.2.2)]) (fl := fun a : Option Nat × Int32 × Int32 × Int32 => []) (fr := fun a : Option Nat × Int32 × Int32 × Int32 => [(0, a.1)]) (fs := fun a : Option Nat × Int32 × Int32 × Int32 => []) ?_ FU ((p0, p5, p6, p7)) M
    intro k79 hk79 a M
    obtain ⟨p0, p5, p6, p7⟩ := a
    show RT p l e rmX6_packRow s m args below meth c x 12 (QM below args s x (fun _ : Unit => none) rmX6_packRow.cells rmX6_packRow.slots) 0 0 (fX6_packRow_B79 k79 p0 p5 p6 p7 M) 79 [(5, p5), (6, p6), (7, p7)] [] [(0, p0)] [] M
    unfold fX6_packRow_B79
    refine r_iload (pc := 79) E dX6_packRow_79 2 rfl ?_
    refine r_if_eq (pc := 81) (tgt := 104) E dX6_packRow_81 (by decide) ?_ ?_
    · exact r_sub [0, 1, 2] [] [0] rfl rfl rfl (hL104 k79 hk79 p0 p5 p6 p7 _)
    · refine r_iload (pc := 84) E dX6_packRow_84 2 rfl ?_
      refine r_sipush (pc := 86) (v := 8000) E dX6_packRow_86 (by decide) ?_
      refine r_icmp_ge (pc := 89) (tgt := 234) E dX6_packRow_89 (by decide) ?_ ?_
      · exact r_sub [0] [] [0] rfl rfl rfl (hL234 p0 p5 _)
      · refine r_iload (pc := 92) E dX6_packRow_92 1 rfl ?_
        refine r_aload_n (pc := 94) E dX6_packRow_94 rfl 0 rfl ?_
        refine r_getR (pc := 95) E fd_6_12 wf_RX6_59 dX6_packRow_95 (fun v95 => ?_)
        refine r_getI (pc := 98) E fd_8_1 wf_RX6_77 dX6_packRow_98 (fun v98 => ?_)
        refine r_icmp_ge (pc := 101) (tgt := 234) E dX6_packRow_101 (by decide) ?_ ?_
        · exact r_sub [0] [] [0] rfl rfl rfl (hL234 p0 p5 _)
        · exact r_sub [0, 1, 2] [] [0] rfl rfl rfl (hL104 k79 hk79 p0 p5 p6 p7 _)
  have hL70 : ∀ (p0 : Option Nat) (p5 : Int32) (q0 : Option Nat) (q1 : Option Nat) (q2 : Option Nat) (M : Mem), RT p l e rmX6_packRow s m args below meth c x 12 (QM below args s x (fun _ : Unit => none) rmX6_packRow.cells rmX6_packRow.slots) 0 0 (fX6_packRow_L70 p0 p5 q0 q1 q2 M) 70 [(5, p5)] [] [(0, p0)] [rv x q2, rv x q1, rv x q0] M := by
    intro p0 p5 q0 q1 q2 M
    unfold fX6_packRow_L70
    refine r_kVv (pc := 70) (As := [rv x q1, rv x q2]) (rest := []) E wc_X3_begin wi_RX3 hd_X3_begin (ci := 3) rfl wl_RX6_96 wn_X3_begin ws_X3_begin dX6_packRow_70 (by decide) (Nat.le_of_ble_eq_true rfl) ⟨rfl, rfl⟩ (ctX3_begin l x _ _ _ _) rfl (fun v70 M70 => ?_)
    refine r_iconst (pc := 73) (v := 0) E dX6_packRow_73 (by decide) ?_
    refine r_istore (pc := 74) (lf := fun v74 => [(6, v74), (5, p5)]) (lg := fun v74 => []) (lk := fun v74 => [(0, p0)]) E dX6_packRow_74 (by decide) (fun _ => rfl) (fun _ => rfl) (fun _ => rfl) (fun v74 => ?_)
    refine r_iconst (pc := 76) (v := 0) E dX6_packRow_76 (by decide) ?_
    refine r_istore (pc := 77) (lf := fun v77 => [(7, v77), (6, v74), (5, p5)]) (lg := fun v77 => []) (lk := fun v77 => [(0, p0)]) E dX6_packRow_77 (by decide) (fun _ => rfl) (fun _ => rfl) (fun _ => rfl) (fun v77 => ?_)
    exact r_sub [2, 1, 0] [] [0] rfl rfl rfl (hL79 p0 p5 v74 v77 _)
  have hL37 : ∀ (p0 : Option Nat) (p3 : Option Nat) (p5 : Int32) (q0 : Option Nat) (q1 : Int32) (M : Mem), RT p l e rmX6_packRow s m args below meth c x 12 (QM below args s x (fun _ : Unit => none) rmX6_packRow.cells rmX6_packRow.slots) 0 0 (fX6_packRow_L37 p0 p3 p5 q0 q1 M) 37 [(5, p5)] [] [(0, p0), (3, p3)] [.int q1, rv x q0] M := by
    intro p0 p3 p5 q0 q1 M
    unfold fX6_packRow_L37
    refine r_iload (pc := 37) E dX6_packRow_37 0 rfl ?_
    refine r_kVv (pc := 39) (As := [.int q1, .int p5]) (rest := []) E wc_X6_writeHead wi_RX6 hd_X6_writeHead (ci := 6) rfl wl_RX6_85 wn_X6_writeHead ws_X6_writeHead dX6_packRow_39 (by decide) (Nat.le_of_ble_eq_true rfl) ⟨rfl, rfl⟩ (ctX6_writeHead l x _ _ _ _) rfl (fun v39 M39 => ?_)
    refine r_aload_n (pc := 42) E dX6_packRow_42 rfl 0 rfl ?_
    refine r_getA (pc := 43) E fd_6_9 wf_RX6_50 dX6_packRow_43 (fun v43 => ?_)
    refine r_aload_n (pc := 46) E dX6_packRow_46 rfl 1 rfl ?_
    refine r_kSNv (pc := 47) (As := [rv x v43, rv x p3]) (rest := []) E wc_X12_rememberFirst wi_RX12 hd_X12_rememberFirst (host := "TabledFrames") (by decide +kernel) wt_X12_rememberFirst dX6_packRow_47 (by decide) (Nat.le_of_ble_eq_true rfl) ⟨rfl, rfl⟩ (ctX12_rememberFirst l x _ _ _) rfl (fun v47 M47 => ?_)
    refine r_aload_n (pc := 50) E dX6_packRow_50 rfl 0 rfl ?_
    refine r_getR (pc := 51) E fd_6_0 wf_RX6_12 dX6_packRow_51 (fun v51 => ?_)
    refine r_aload_n (pc := 54) E dX6_packRow_54 rfl 0 rfl ?_
    refine r_getR (pc := 55) E fd_6_12 wf_RX6_59 dX6_packRow_55 (fun v55 => ?_)
    refine r_aload_n (pc := 58) E dX6_packRow_58 rfl 1 rfl ?_
    refine r_ifnonnull (pc := 59) (tgt := 66) E dX6_packRow_59 (by decide) ?_ ?_
    · refine r_aload_n (pc := 66) E dX6_packRow_66 rfl 1 rfl ?_
      refine r_getR (pc := 67) E fd_2_5 wf_RX6_93 dX6_packRow_67 (fun v67 => ?_)
      exact r_sub [0] [] [0] rfl rfl rfl (hL70 p0 p5 v51 v55 v67 _)
    · refine r_null (pc := 62) E dX6_packRow_62 ?_
      refine r_goto (pc := 63) (tgt := 70) E dX6_packRow_63 (by decide) ?_
      exact r_sub [0] [] [0] rfl rfl rfl (hL70 p0 p5 v51 v55 none _)
  show RT p l e rmX6_packRow s m args below meth c x 12 (QM below args s x (fun _ : Unit => none) rmX6_packRow.cells rmX6_packRow.slots) 0 0 (fX6_packRow a0 a1 a2 a3 a4 a5 M) 0 [(4, a4), (5, a5)] [] [(0, a0), (1, a1), (2, a2), (3, a3)] [] M
  unfold fX6_packRow
  refine r_aload_n (pc := 0) E dX6_packRow_0 rfl 0 rfl ?_
  refine r_aload_n (pc := 1) E dX6_packRow_1 rfl 1 rfl ?_
  refine r_putR (pc := 2) E fd_6_12 wf_RX6_59 dX6_packRow_2 (Or.inl rfl) (fun M2 => ?_)
  refine r_aload_n (pc := 5) E dX6_packRow_5 rfl 0 rfl ?_
  refine r_aload_n (pc := 6) E dX6_packRow_6 rfl 2 rfl ?_
  refine r_putR (pc := 7) E fd_6_13 wf_RX6_62 dX6_packRow_7 (Or.inl rfl) (fun M7 => ?_)
  refine r_aload_n (pc := 10) E dX6_packRow_10 rfl 0 rfl ?_
  refine r_iload (pc := 11) E dX6_packRow_11 0 rfl ?_
  refine r_putI (pc := 13) E fd_6_14 wf_RX6_73 dX6_packRow_13 (Or.inl rfl) (fun M13 => ?_)
  refine r_aload_n (pc := 16) E dX6_packRow_16 rfl 0 rfl ?_
  refine r_getR (pc := 17) E fd_6_13 wf_RX6_62 dX6_packRow_17 (fun v17 => ?_)
  refine r_iconst (pc := 20) (v := 0) E dX6_packRow_20 (by decide) ?_
  refine r_putI (pc := 21) E fd_8_1 wf_RX6_77 dX6_packRow_21 (Or.inl rfl) (fun M21 => ?_)
  refine r_aload_n (pc := 24) E dX6_packRow_24 rfl 0 rfl ?_
  refine r_aload_n (pc := 25) E dX6_packRow_25 rfl 3 rfl ?_
  refine r_ifnonnull (pc := 26) (tgt := 33) E dX6_packRow_26 (by decide) ?_ ?_
  · refine r_aload_n (pc := 33) E dX6_packRow_33 rfl 3 rfl ?_
    refine r_getI (pc := 34) E fd_2_0 wf_RX6_80 dX6_packRow_34 (fun v34 => ?_)
    exact r_sub [1] [] [0, 3] rfl rfl rfl (hL37 a0 a3 a5 a0 v34 _)
  · refine r_iconst (pc := 29) (v := 0) E dX6_packRow_29 (by decide) ?_
    refine r_goto (pc := 30) (tgt := 37) E dX6_packRow_30 (by decide) ?_
    exact r_sub [1] [] [0, 3] rfl rfl rfl (hL37 a0 a3 a5 a0 0 _)
def fX7_init (a0 : Option Nat) (M : Mem) : Option (Unit × Mem) :=
  bo (chk0 a0) fun _ =>
  bd (nwA M 15 12 12) fun v7 M7 =>
  bo (pR M7 a0 7 2 v7) fun M9 =>
  bd (nwA M9 15 8000 8000) fun v16 M16 =>
  bo (pR M16 a0 7 3 v16) fun M18 =>
  some ((), M18)
def rmX7_init : Room := { frames := 1, cells := 2, slots := 8012, locals := 20 }
set_option maxRecDepth 100000 in
set_option maxHeartbeats 4000000 in
theorem ctX7_init (l : Launch) (x : Cx) (a0 : Option Nat) (M : Mem) (v : Unit) (N : Mem) (h : fX7_init a0 M = some (v, N)) : CT l yX7_init cX7_init 1 (none) rmX7_init x [rv x a0] M none N := by
  refine ct_mk (enc := fun _ : Unit => none) (li := []) (ll := []) (lr := [(0, a0)]) (by decide +kernel) (by simp [lg_sl, rv_cat, cat_int, cat_long]) (by simp [flat, lv_args, rv_cat, cat_int, cat_long]) h ?_
  intro p e s m args below meth c E
  show RT p l e rmX7_init s m args below meth c x 1 (QM below args s x (fun _ : Unit => none) rmX7_init.cells rmX7_init.slots) 0 0 (fX7_init a0 M) 0 [] [] [(0, a0)] [] M
  unfold fX7_init
  refine r_aload_n (pc := 0) E dX7_init_0 rfl 0 rfl ?_
  refine r_obj (pc := 1) E wl_RX7_3 wo_inst wo_code dX7_init_1 (by decide) (by decide) (Nat.le_of_ble_eq_true rfl) ?_
  refine r_aload_n (pc := 4) E dX7_init_4 rfl 0 rfl ?_
  refine r_bipush (pc := 5) (v := 12) E dX7_init_5 (by decide) ?_
  refine r_newarrayI (pc := 7) E wa_I dX7_init_7 (by decide) (by decide) (by decide) (fun v7 M7 => ?_)
  refine r_widen (k := 1) (n := 12) (by decide) (by decide) ?_
  refine r_putA (pc := 9) E fd_7_2 wf_RX7_9 dX7_init_9 (Or.inr ⟨rfl, rfl⟩) (fun M9 => ?_)
  refine r_aload_n (pc := 12) E dX7_init_12 rfl 0 rfl ?_
  refine r_sipush (pc := 13) (v := 8000) E dX7_init_13 (by decide) ?_
  refine r_newarrayI (pc := 16) E wa_I dX7_init_16 (by decide) (by decide) (by decide) (fun v16 M16 => ?_)
  refine r_widen (k := 2) (n := 8012) (by decide) (by decide) ?_
  refine r_putA (pc := 18) E fd_7_3 wf_RX7_15 dX7_init_18 (Or.inr ⟨rfl, rfl⟩) (fun M18 => ?_)
  refine r_widen (k := 2) (n := 8012) (by decide) (by decide) ?_
  exact e_void (pc := 21) E dX7_init_21
def fX10_buildDefault_L70 (q0 : Option Nat) (q1 : Int32) (M : Mem) : Option (Unit × Mem) :=
  bo (chk M q0 10) fun _ => bd (fX10_build q0 q1 M) fun v70 M70 =>
  some ((), M70)
def fX10_buildDefault_L69 (q0 : Option Nat) (M : Mem) : Option (Unit × Mem) :=
  fX10_buildDefault_L70 q0 0 M
def fX10_buildDefault_L24 (p0 : Option Nat) (p1 : Int32) (q0 : Option Nat) (M : Mem) : Option (Unit × Mem) :=
  bn (q0) fun v24 =>
  bo (aL M v24) fun v27 =>
  bo (pI M p0 10 4 (minI v27 256)) fun M34 =>
  bo (gR M34 p0 10 2) fun v40 =>
  bo (gI M34 p0 10 4) fun v45 =>
  bo (cI M34 v24 0 v40 0 v45) fun M48 =>
  if p1 < 0 then (
    fX10_buildDefault_L69 p0 M48
  ) else (
    if 3 ≤ p1 then (
      fX10_buildDefault_L69 p0 M48
    ) else (
      bo (aI M48 ((some 2)) 15 p1) fun v65 =>
      fX10_buildDefault_L70 p0 v65 M48
    )
  )
def fX10_buildDefault (a0 : Option Nat) (a1 : Int32) (M : Mem) : Option (Unit × Mem) :=
  if a1 = 0 then (
    fX10_buildDefault_L24 a0 a1 ((some 3)) M
  ) else (
    if a1 = 1 then (
      fX10_buildDefault_L24 a0 a1 ((some 4)) M
    ) else (
      fX10_buildDefault_L24 a0 a1 ((some 5)) M
    )
  )
def rmX10_buildDefault : Room := { frames := 2, cells := 0, slots := 0, locals := 54 }
set_option maxRecDepth 100000 in
set_option maxHeartbeats 4000000 in
theorem ctX10_buildDefault (l : Launch) (x : Cx) (a0 : Option Nat) (a1 : Int32) (M : Mem) (v : Unit) (N : Mem) (h : fX10_buildDefault a0 a1 M = some (v, N)) : CT l yX10_buildDefault cX10_buildDefault 3 (none) rmX10_buildDefault x [rv x a0, .int a1] M none N := by
  refine ct_mk (enc := fun _ : Unit => none) (li := [(1, a1)]) (ll := []) (lr := [(0, a0)]) (by decide +kernel) (by simp [lg_sl, rv_cat, cat_int, cat_long]) (by simp [flat, lv_args, rv_cat, cat_int, cat_long]) h ?_
  intro p e s m args below meth c E
  have hL70 : ∀ (q0 : Option Nat) (q1 : Int32) (M : Mem), RT p l e rmX10_buildDefault s m args below meth c x 3 (QM below args s x (fun _ : Unit => none) rmX10_buildDefault.cells rmX10_buildDefault.slots) 0 0 (fX10_buildDefault_L70 q0 q1 M) 70 [] [] [] [.int q1, rv x q0] M := by
    intro q0 q1 M
    unfold fX10_buildDefault_L70
    refine r_kVv (pc := 70) (As := [.int q1]) (rest := []) E wc_X10_build wi_RX10 hd_X10_build (ci := 10) rfl wl_RX10_53 wn_X10_build ws_X10_build dX10_buildDefault_70 (by decide) (Nat.le_of_ble_eq_true rfl) ⟨rfl, rfl⟩ (ctX10_build l x _ _ _) rfl (fun v70 M70 => ?_)
    exact e_void (pc := 73) E dX10_buildDefault_73
  have hL69 : ∀ (q0 : Option Nat) (M : Mem), RT p l e rmX10_buildDefault s m args below meth c x 3 (QM below args s x (fun _ : Unit => none) rmX10_buildDefault.cells rmX10_buildDefault.slots) 0 0 (fX10_buildDefault_L69 q0 M) 69 [] [] [] [rv x q0] M := by
    intro q0 M
    unfold fX10_buildDefault_L69
    refine r_iconst (pc := 69) (v := 0) E dX10_buildDefault_69 (by decide) ?_
    exact r_sub [] [] [] rfl rfl rfl (hL70 q0 0 _)
  have hL24 : ∀ (p0 : Option Nat) (p1 : Int32) (q0 : Option Nat) (M : Mem), RT p l e rmX10_buildDefault s m args below meth c x 3 (QM below args s x (fun _ : Unit => none) rmX10_buildDefault.cells rmX10_buildDefault.slots) 0 0 (fX10_buildDefault_L24 p0 p1 q0 M) 24 [(1, p1)] [] [(0, p0)] [rv x q0] M := by
    intro p0 p1 q0 M
    unfold fX10_buildDefault_L24
    refine r_astore_n (pc := 24) (lf := fun v24 => [(1, p1)]) (lg := fun v24 => []) (lk := fun v24 => [(2, v24), (0, p0)]) E dX10_buildDefault_24 rfl (by decide) (fun _ => rfl) (fun _ => rfl) (fun _ => rfl) (fun v24 => ?_)
    refine r_aload_n (pc := 25) E dX10_buildDefault_25 rfl 1 rfl ?_
    refine r_aload_n (pc := 26) E dX10_buildDefault_26 rfl 0 rfl ?_
    refine r_alen (pc := 27) E dX10_buildDefault_27 (fun v27 => ?_)
    refine r_sipush (pc := 28) (v := 256) E dX10_buildDefault_28 (by decide) ?_
    refine r_mmin (pc := 31) E wl_RX10_34 wm_smin wi_math wm_cmin dX10_buildDefault_31 (by decide) (Nat.le_of_ble_eq_true rfl) ?_
    refine r_putI (pc := 34) E fd_10_4 wf_RX10_40 dX10_buildDefault_34 (Or.inl rfl) (fun M34 => ?_)
    refine r_aload_n (pc := 37) E dX10_buildDefault_37 rfl 0 rfl ?_
    refine r_iconst (pc := 38) (v := 0) E dX10_buildDefault_38 (by decide) ?_
    refine r_aload_n (pc := 39) E dX10_buildDefault_39 rfl 1 rfl ?_
    refine r_getA (pc := 40) E fd_10_2 wf_RX10_15 dX10_buildDefault_40 (fun v40 => ?_)
    refine r_iconst (pc := 43) (v := 0) E dX10_buildDefault_43 (by decide) ?_
    refine r_aload_n (pc := 44) E dX10_buildDefault_44 rfl 1 rfl ?_
    refine r_getI (pc := 45) E fd_10_4 wf_RX10_40 dX10_buildDefault_45 (fun v45 => ?_)
    refine r_copy (pc := 48) E wl_RX10_44 wo_native wo_cps wi_RJ10 dX10_buildDefault_48 (by decide) (by decide) (Nat.le_of_ble_eq_true rfl) (fun M48 => ?_)
    refine r_aload_n (pc := 51) E dX10_buildDefault_51 rfl 1 rfl ?_
    refine r_iload_n (pc := 52) E dX10_buildDefault_52 rfl 0 rfl ?_
    refine r_if_lt (pc := 53) (tgt := 69) E dX10_buildDefault_53 (by decide) ?_ ?_
    · exact r_sub [] [] [] rfl rfl rfl (hL69 p0 _)
    · refine r_iload_n (pc := 56) E dX10_buildDefault_56 rfl 0 rfl ?_
      refine r_iconst (pc := 57) (v := 3) E dX10_buildDefault_57 (by decide) ?_
      refine r_icmp_ge (pc := 58) (tgt := 69) E dX10_buildDefault_58 (by decide) ?_ ?_
      · exact r_sub [] [] [] rfl rfl rfl (hL69 p0 _)
      · refine r_getsN (pc := 61) E 2 (by decide) (by decide +kernel) dX10_buildDefault_61 ?_
        refine r_iload_n (pc := 64) E dX10_buildDefault_64 rfl 0 rfl ?_
        refine r_iaload (pc := 65) E dX10_buildDefault_65 (fun v65 => ?_)
        refine r_goto (pc := 66) (tgt := 70) E dX10_buildDefault_66 (by decide) ?_
        exact r_sub [] [] [] rfl rfl rfl (hL70 p0 v65 _)
  show RT p l e rmX10_buildDefault s m args below meth c x 3 (QM below args s x (fun _ : Unit => none) rmX10_buildDefault.cells rmX10_buildDefault.slots) 0 0 (fX10_buildDefault a0 a1 M) 0 [(1, a1)] [] [(0, a0)] [] M
  unfold fX10_buildDefault
  refine r_iload_n (pc := 0) E dX10_buildDefault_0 rfl 0 rfl ?_
  refine r_if_ne (pc := 1) (tgt := 10) E dX10_buildDefault_1 (by decide) ?_ ?_
  · refine r_iload_n (pc := 10) E dX10_buildDefault_10 rfl 0 rfl ?_
    refine r_iconst (pc := 11) (v := 1) E dX10_buildDefault_11 (by decide) ?_
    refine r_icmp_ne (pc := 12) (tgt := 21) E dX10_buildDefault_12 (by decide) ?_ ?_
    · refine r_getsN (pc := 21) E 5 (by decide) (by decide +kernel) dX10_buildDefault_21 ?_
      exact r_sub [0] [] [0] rfl rfl rfl (hL24 a0 a1 ((some 5)) _)
    · refine r_getsN (pc := 15) E 4 (by decide) (by decide +kernel) dX10_buildDefault_15 ?_
      refine r_goto (pc := 18) (tgt := 24) E dX10_buildDefault_18 (by decide) ?_
      exact r_sub [0] [] [0] rfl rfl rfl (hL24 a0 a1 ((some 4)) _)
  · refine r_getsN (pc := 4) E 3 (by decide) (by decide +kernel) dX10_buildDefault_4 ?_
    refine r_goto (pc := 7) (tgt := 24) E dX10_buildDefault_7 (by decide) ?_
    exact r_sub [0] [] [0] rfl rfl rfl (hL24 a0 a1 ((some 3)) _)
def fX11_init (a0 : Option Nat) (M : Mem) : Option (Unit × Mem) :=
  bo (chk0 a0) fun _ =>
  bd (nwA M 15 256 256) fun v8 M8 =>
  bo (pR M8 a0 11 0 v8) fun M10 =>
  bd (nw M10 10) fun v14 M14 =>
  bo (chk0 v14) fun _ => bd (fX10_init v14 M14) fun v18 M18 =>
  bo (pR M18 a0 11 3 v14) fun M21 =>
  bd (nw M21 0) fun v25 M25 =>
  bo (chk0 v25) fun _ => bd (fX0_init v25 M25) fun v29 M29 =>
  bo (pR M29 a0 11 4 v25) fun M32 =>
  bd (nwA M32 15 256 256) fun v39 M39 =>
  bo (pR M39 a0 11 5 v39) fun M41 =>
  bd (nwA M41 15 256 256) fun v48 M48 =>
  bo (pR M48 a0 11 6 v48) fun M50 =>
  bd (nwA M50 15 256 256) fun v57 M57 =>
  bo (pR M57 a0 11 7 v57) fun M59 =>
  some ((), M59)
def rmX11_init : Room := { frames := 2, cells := 11, slots := 2061, locals := 40 }
set_option maxRecDepth 100000 in
set_option maxHeartbeats 4000000 in
theorem ctX11_init (l : Launch) (x : Cx) (a0 : Option Nat) (M : Mem) (v : Unit) (N : Mem) (h : fX11_init a0 M = some (v, N)) : CT l yX11_init cX11_init 1 (none) rmX11_init x [rv x a0] M none N := by
  refine ct_mk (enc := fun _ : Unit => none) (li := []) (ll := []) (lr := [(0, a0)]) (by decide +kernel) (by simp [lg_sl, rv_cat, cat_int, cat_long]) (by simp [flat, lv_args, rv_cat, cat_int, cat_long]) h ?_
  intro p e s m args below meth c E
  show RT p l e rmX11_init s m args below meth c x 1 (QM below args s x (fun _ : Unit => none) rmX11_init.cells rmX11_init.slots) 0 0 (fX11_init a0 M) 0 [] [] [(0, a0)] [] M
  unfold fX11_init
  refine r_aload_n (pc := 0) E dX11_init_0 rfl 0 rfl ?_
  refine r_obj (pc := 1) E wl_RX11_3 wo_inst wo_code dX11_init_1 (by decide) (by decide) (Nat.le_of_ble_eq_true rfl) ?_
  refine r_aload_n (pc := 4) E dX11_init_4 rfl 0 rfl ?_
  refine r_sipush (pc := 5) (v := 256) E dX11_init_5 (by decide) ?_
  refine r_newarrayI (pc := 8) E wa_I dX11_init_8 (by decide) (by decide) (by decide) (fun v8 M8 => ?_)
  refine r_widen (k := 1) (n := 256) (by decide) (by decide) ?_
  refine r_putA (pc := 10) E fd_11_0 wf_RX11_9 dX11_init_10 (Or.inr ⟨rfl, rfl⟩) (fun M10 => ?_)
  refine r_aload_n (pc := 13) E dX11_init_13 rfl 0 rfl ?_
  refine r_new (pc := 14) E cd_10 (by decide) wx_RX11_15 dX11_init_14 (by decide) (by decide) (fun v14 M14 => ?_)
  refine r_widen (k := 2) (n := 265) (by decide) (by decide) ?_
  refine r_dup (pc := 17) E dX11_init_17 (rv_cat _ _) ?_
  refine r_callI (pc := 18) (As := []) (rest := [rv x v14, rv x a0]) E wc_X10_init wi_RX10 hd_X10_init wl_RX11_17 rfl wn_X10_init dX11_init_18 (by decide) (Nat.le_of_ble_eq_true rfl) (ctX10_init l x _ _) rfl (fun v18 M18 => ?_)
  refine r_widen (k := 6) (n := 1289) (by decide) (by decide) ?_
  refine r_putR (pc := 21) E fd_11_3 wf_RX11_18 dX11_init_21 (Or.inr ⟨rfl, rfl⟩) (fun M21 => ?_)
  refine r_aload_n (pc := 24) E dX11_init_24 rfl 0 rfl ?_
  refine r_new (pc := 25) E cd_0 (by decide) wx_RX11_22 dX11_init_25 (by decide) (by decide) (fun v25 M25 => ?_)
  refine r_widen (k := 7) (n := 1293) (by decide) (by decide) ?_
  refine r_dup (pc := 28) E dX11_init_28 (rv_cat _ _) ?_
  refine r_callI (pc := 29) (As := []) (rest := [rv x v25, rv x a0]) E wc_X0_init wi_RX0 hd_X0_init wl_RX11_24 rfl wn_X0_init dX11_init_29 (by decide) (Nat.le_of_ble_eq_true rfl) (ctX0_init l x _ _) rfl (fun v29 M29 => ?_)
  refine r_widen (k := 8) (n := 1293) (by decide) (by decide) ?_
  refine r_putR (pc := 32) E fd_11_4 wf_RX11_25 dX11_init_32 (Or.inr ⟨rfl, rfl⟩) (fun M32 => ?_)
  refine r_aload_n (pc := 35) E dX11_init_35 rfl 0 rfl ?_
  refine r_sipush (pc := 36) (v := 256) E dX11_init_36 (by decide) ?_
  refine r_newarrayI (pc := 39) E wa_I dX11_init_39 (by decide) (by decide) (by decide) (fun v39 M39 => ?_)
  refine r_widen (k := 9) (n := 1549) (by decide) (by decide) ?_
  refine r_putA (pc := 41) E fd_11_5 wf_RX11_29 dX11_init_41 (Or.inr ⟨rfl, rfl⟩) (fun M41 => ?_)
  refine r_aload_n (pc := 44) E dX11_init_44 rfl 0 rfl ?_
  refine r_sipush (pc := 45) (v := 256) E dX11_init_45 (by decide) ?_
  refine r_newarrayI (pc := 48) E wa_I dX11_init_48 (by decide) (by decide) (by decide) (fun v48 M48 => ?_)
  refine r_widen (k := 10) (n := 1805) (by decide) (by decide) ?_
  refine r_putA (pc := 50) E fd_11_6 wf_RX11_32 dX11_init_50 (Or.inr ⟨rfl, rfl⟩) (fun M50 => ?_)
  refine r_aload_n (pc := 53) E dX11_init_53 rfl 0 rfl ?_
  refine r_sipush (pc := 54) (v := 256) E dX11_init_54 (by decide) ?_
  refine r_newarrayI (pc := 57) E wa_I dX11_init_57 (by decide) (by decide) (by decide) (fun v57 M57 => ?_)
  refine r_widen (k := 11) (n := 2061) (by decide) (by decide) ?_
  refine r_putA (pc := 59) E fd_11_7 wf_RX11_35 dX11_init_59 (Or.inr ⟨rfl, rfl⟩) (fun M59 => ?_)
  refine r_widen (k := 11) (n := 2061) (by decide) (by decide) ?_
  exact e_void (pc := 62) E dX11_init_62
def fX12_init (a0 : Option Nat) (M : Mem) : Option (Unit × Mem) :=
  bo (chk0 a0) fun _ =>
  bd (nw M 8) fun v5 M5 =>
  bo (chk0 v5) fun _ => bd (fX8_init v5 8000 M5) fun v12 M12 =>
  bo (pR M12 a0 12 0 v5) fun M15 =>
  bd (nw M15 8) fun v19 M19 =>
  bo (chk0 v19) fun _ => bd (fX8_init v19 8000 M19) fun v26 M26 =>
  bo (pR M26 a0 12 1 v19) fun M29 =>
  bd (nw M29 8) fun v33 M33 =>
  bo (chk0 v33) fun _ => bd (fX8_init v33 8000 M33) fun v40 M40 =>
  bo (pR M40 a0 12 2 v33) fun M43 =>
  bd (nw M43 11) fun v47 M47 =>
  bo (chk0 v47) fun _ => bd (fX11_init v47 M47) fun v51 M51 =>
  bo (pR M51 a0 12 3 v47) fun M54 =>
  bd (nw M54 7) fun v58 M58 =>
  bo (chk0 v58) fun _ => bd (fX7_init v58 M58) fun v62 M62 =>
  bo (pR M62 a0 12 4 v58) fun M65 =>
  bd (nwA M65 19 3 3) fun v70 M70 =>
  bo (pR M70 a0 12 5 v70) fun M73 =>
  bo (pI M73 a0 12 10 ((-1))) fun M78 =>
  bn (0) fun v82 =>
  bo (gR M78 a0 12 5) fun v85_1 =>
  bo (aL M78 v85_1) fun v88_1 =>
  if v88_1 ≤ v82 then (
    none
  ) else (
    bo (gR M78 a0 12 5) fun v93_1 =>
    bd (nw M78 2) fun v97_1 M97_1 =>
    bo (chk0 v97_1) fun _ => bd (fX2_init v97_1 M97_1) fun v101_1 M101_1 =>
    bo (wR M101_1 v93_1 19 2 v82 v97_1) fun M104_1 =>
    bn (v82 + 1) fun v105_1 =>
    bo (gR M104_1 a0 12 5) fun v85_2 =>
    bo (aL M104_1 v85_2) fun v88_2 =>
    if v88_2 ≤ v105_1 then (
      none
    ) else (
      bo (gR M104_1 a0 12 5) fun v93_2 =>
      bd (nw M104_1 2) fun v97_2 M97_2 =>
      bo (chk0 v97_2) fun _ => bd (fX2_init v97_2 M97_2) fun v101_2 M101_2 =>
      bo (wR M101_2 v93_2 19 2 v105_1 v97_2) fun M104_2 =>
      bn (v105_1 + 1) fun v105_2 =>
      bo (gR M104_2 a0 12 5) fun v85_3 =>
      bo (aL M104_2 v85_3) fun v88_3 =>
      if v88_3 ≤ v105_2 then (
        none
      ) else (
        bo (gR M104_2 a0 12 5) fun v93_3 =>
        bd (nw M104_2 2) fun v97_3 M97_3 =>
        bo (chk0 v97_3) fun _ => bd (fX2_init v97_3 M97_3) fun v101_3 M101_3 =>
        bo (wR M101_3 v93_3 19 2 v105_2 v97_3) fun M104_3 =>
        bn (v105_2 + 1) fun v105_3 =>
        bo (gR M104_3 a0 12 5) fun v85_4 =>
        bo (aL M104_3 v85_4) fun v88_4 =>
        if v88_4 ≤ v105_3 then (
          bd (nwA M104_3 20 3 3) fun v112_4 M112_4 =>
          bn (v112_4) fun v115_4 =>
          bn (0) fun v117_4 =>
          if 3 ≤ v117_4 then (
            none
          ) else (
            bd (nw M112_4 10) fun v125_5 M125_5 =>
            bo (chk0 v125_5) fun _ => bd (fX10_init v125_5 M125_5) fun v129_5 M129_5 =>
            bo (wR M129_5 v115_4 20 10 v117_4 v125_5) fun M132_5 =>
            bo (aR M132_5 v115_4 20 v117_4) fun v135_5 =>
            bo (chk M132_5 v135_5 10) fun _ => bd (fX10_buildDefault v135_5 v117_4 M132_5) fun v137_5 M137_5 =>
            bn (v117_4 + 1) fun v140_5 =>
            if 3 ≤ v140_5 then (
              none
            ) else (
              bd (nw M137_5 10) fun v125_6 M125_6 =>
              bo (chk0 v125_6) fun _ => bd (fX10_init v125_6 M125_6) fun v129_6 M129_6 =>
              bo (wR M129_6 v115_4 20 10 v140_5 v125_6) fun M132_6 =>
              bo (aR M132_6 v115_4 20 v140_5) fun v135_6 =>
              bo (chk M132_6 v135_6 10) fun _ => bd (fX10_buildDefault v135_6 v140_5 M132_6) fun v137_6 M137_6 =>
              bn (v140_5 + 1) fun v140_6 =>
              if 3 ≤ v140_6 then (
                none
              ) else (
                bd (nw M137_6 10) fun v125_7 M125_7 =>
                bo (chk0 v125_7) fun _ => bd (fX10_init v125_7 M125_7) fun v129_7 M129_7 =>
                bo (wR M129_7 v115_4 20 10 v140_6 v125_7) fun M132_7 =>
                bo (aR M132_7 v115_4 20 v140_6) fun v135_7 =>
                bo (chk M132_7 v135_7 10) fun _ => bd (fX10_buildDefault v135_7 v140_6 M132_7) fun v137_7 M137_7 =>
                bn (v140_6 + 1) fun v140_7 =>
                if 3 ≤ v140_7 then (
                  bd (nw M137_7 5) fun v147_8 M147_8 =>
                  bo (gR M147_8 a0 12 4) fun v152_8 =>
                  bo (gR M147_8 a0 12 3) fun v156_8 =>
                  bo (chk0 v147_8) fun _ => bd (fX5_init v147_8 v152_8 v156_8 v115_4 M147_8) fun v160_8 M160_8 =>
                  bo (pR M160_8 a0 12 6 v147_8) fun M163_8 =>
                  bd (nw M163_8 6) fun v167_8 M167_8 =>
                  bo (gR M167_8 a0 12 3) fun v172_8 =>
                  bo (chk0 v167_8) fun _ => bd (fX6_init v167_8 v172_8 v115_4 M167_8) fun v176_8 M176_8 =>
                  bo (pR M176_8 a0 12 7 v167_8) fun M179_8 =>
                  some ((), M179_8)
                ) else (
                  none
                )
              )
            )
          )
        ) else (
          none
        )
      )
    )
  )
def rmX12_init : Room := { frames := 4, cells := 186, slots := 164916, locals := 91 }
set_option maxRecDepth 100000 in
set_option maxHeartbeats 4000000 in
theorem ctX12_init (l : Launch) (x : Cx) (a0 : Option Nat) (M : Mem) (v : Unit) (N : Mem) (h : fX12_init a0 M = some (v, N)) : CT l yX12_init cX12_init 3 (none) rmX12_init x [rv x a0] M none N := by
  refine ct_mk (enc := fun _ : Unit => none) (li := []) (ll := []) (lr := [(0, a0)]) (by decide +kernel) (by simp [lg_sl, rv_cat, cat_int, cat_long]) (by simp [flat, lv_args, rv_cat, cat_int, cat_long]) h ?_
  intro p e s m args below meth c E
  show RT p l e rmX12_init s m args below meth c x 3 (QM below args s x (fun _ : Unit => none) rmX12_init.cells rmX12_init.slots) 0 0 (fX12_init a0 M) 0 [] [] [(0, a0)] [] M
  unfold fX12_init
  refine r_aload_n (pc := 0) E dX12_init_0 rfl 0 rfl ?_
  refine r_obj (pc := 1) E wl_RX12_3 wo_inst wo_code dX12_init_1 (by decide) (by decide) (Nat.le_of_ble_eq_true rfl) ?_
  refine r_aload_n (pc := 4) E dX12_init_4 rfl 0 rfl ?_
  refine r_new (pc := 5) E cd_8 (by decide) wx_RX12_9 dX12_init_5 (by decide) (by decide) (fun v5 M5 => ?_)
  refine r_widen (k := 1) (n := 4) (by decide) (by decide) ?_
  refine r_dup (pc := 8) E dX12_init_8 (rv_cat _ _) ?_
  refine r_sipush (pc := 9) (v := 8000) E dX12_init_9 (by decide) ?_
  refine r_callI (pc := 12) (As := [.int 8000]) (rest := [rv x v5, rv x a0]) E wc_X8_init wi_RX8 hd_X8_init wl_RX12_11 rfl wn_X8_init dX12_init_12 (by decide) (Nat.le_of_ble_eq_true rfl) (ctX8_init l x _ _ _) rfl (fun v12 M12 => ?_)
  refine r_widen (k := 2) (n := 9004) (by decide) (by decide) ?_
  refine r_putR (pc := 15) E fd_12_0 wf_RX12_14 dX12_init_15 (Or.inl rfl) (fun M15 => ?_)
  refine r_aload_n (pc := 18) E dX12_init_18 rfl 0 rfl ?_
  refine r_new (pc := 19) E cd_8 (by decide) wx_RX12_9 dX12_init_19 (by decide) (by decide) (fun v19 M19 => ?_)
  refine r_widen (k := 3) (n := 9008) (by decide) (by decide) ?_
  refine r_dup (pc := 22) E dX12_init_22 (rv_cat _ _) ?_
  refine r_sipush (pc := 23) (v := 8000) E dX12_init_23 (by decide) ?_
  refine r_callI (pc := 26) (As := [.int 8000]) (rest := [rv x v19, rv x a0]) E wc_X8_init wi_RX8 hd_X8_init wl_RX12_11 rfl wn_X8_init dX12_init_26 (by decide) (Nat.le_of_ble_eq_true rfl) (ctX8_init l x _ _ _) rfl (fun v26 M26 => ?_)
  refine r_widen (k := 4) (n := 18008) (by decide) (by decide) ?_
  refine r_putR (pc := 29) E fd_12_1 wf_RX12_18 dX12_init_29 (Or.inl rfl) (fun M29 => ?_)
  refine r_aload_n (pc := 32) E dX12_init_32 rfl 0 rfl ?_
  refine r_new (pc := 33) E cd_8 (by decide) wx_RX12_9 dX12_init_33 (by decide) (by decide) (fun v33 M33 => ?_)
  refine r_widen (k := 5) (n := 18012) (by decide) (by decide) ?_
  refine r_dup (pc := 36) E dX12_init_36 (rv_cat _ _) ?_
  refine r_sipush (pc := 37) (v := 8000) E dX12_init_37 (by decide) ?_
  refine r_callI (pc := 40) (As := [.int 8000]) (rest := [rv x v33, rv x a0]) E wc_X8_init wi_RX8 hd_X8_init wl_RX12_11 rfl wn_X8_init dX12_init_40 (by decide) (Nat.le_of_ble_eq_true rfl) (ctX8_init l x _ _ _) rfl (fun v40 M40 => ?_)
  refine r_widen (k := 6) (n := 27012) (by decide) (by decide) ?_
  refine r_putR (pc := 43) E fd_12_2 wf_RX12_21 dX12_init_43 (Or.inl rfl) (fun M43 => ?_)
  refine r_aload_n (pc := 46) E dX12_init_46 rfl 0 rfl ?_
  refine r_new (pc := 47) E cd_11 (by decide) wx_RX12_24 dX12_init_47 (by decide) (by decide) (fun v47 M47 => ?_)
  refine r_widen (k := 7) (n := 27020) (by decide) (by decide) ?_
  refine r_dup (pc := 50) E dX12_init_50 (rv_cat _ _) ?_
  refine r_callI (pc := 51) (As := []) (rest := [rv x v47, rv x a0]) E wc_X11_init wi_RX11 hd_X11_init wl_RX12_26 rfl wn_X11_init dX12_init_51 (by decide) (Nat.le_of_ble_eq_true rfl) (ctX11_init l x _ _) rfl (fun v51 M51 => ?_)
  refine r_widen (k := 18) (n := 29081) (by decide) (by decide) ?_
  refine r_putR (pc := 54) E fd_12_3 wf_RX12_27 dX12_init_54 (Or.inr ⟨rfl, rfl⟩) (fun M54 => ?_)
  refine r_aload_n (pc := 57) E dX12_init_57 rfl 0 rfl ?_
  refine r_new (pc := 58) E cd_7 (by decide) wx_RX12_31 dX12_init_58 (by decide) (by decide) (fun v58 M58 => ?_)
  refine r_widen (k := 19) (n := 29085) (by decide) (by decide) ?_
  refine r_dup (pc := 61) E dX12_init_61 (rv_cat _ _) ?_
  refine r_callI (pc := 62) (As := []) (rest := [rv x v58, rv x a0]) E wc_X7_init wi_RX7 hd_X7_init wl_RX12_33 rfl wn_X7_init dX12_init_62 (by decide) (Nat.le_of_ble_eq_true rfl) (ctX7_init l x _ _) rfl (fun v62 M62 => ?_)
  refine r_widen (k := 21) (n := 37097) (by decide) (by decide) ?_
  refine r_putR (pc := 65) E fd_12_4 wf_RX12_34 dX12_init_65 (Or.inr ⟨rfl, rfl⟩) (fun M65 => ?_)
  refine r_aload_n (pc := 68) E dX12_init_68 rfl 0 rfl ?_
  refine r_iconst (pc := 69) (v := 3) E dX12_init_69 (by decide) ?_
  refine r_anew19 (pc := 70) E wx_RX12_38 dX12_init_70 (by decide) (by decide) (by decide) (fun v70 M70 => ?_)
  refine r_widen (k := 22) (n := 37100) (by decide) (by decide) ?_
  refine r_putA (pc := 73) E fd_12_5 wf_RX12_40 dX12_init_73 (Or.inr ⟨rfl, rfl⟩) (fun M73 => ?_)
  refine r_aload_n (pc := 76) E dX12_init_76 rfl 0 rfl ?_
  refine r_iconst (pc := 77) (v := (-1)) E dX12_init_77 (by decide) ?_
  refine r_putI (pc := 78) E fd_12_10 wf_RX12_44 dX12_init_78 (Or.inl rfl) (fun M78 => ?_)
  refine r_iconst (pc := 81) (v := 0) E dX12_init_81 (by decide) ?_
  refine r_istore_n (pc := 82) (lf := fun v82 => [(1, v82)]) (lg := fun v82 => []) (lk := fun v82 => [(0, a0)]) E dX12_init_82 rfl (by decide) (fun _ => rfl) (fun _ => rfl) (fun _ => rfl) (fun v82 => ?_)
  refine r_iload_n (pc := 83) E dX12_init_83 rfl 0 rfl ?_
  refine r_aload_n (pc := 84) E dX12_init_84 rfl 0 rfl ?_
  refine r_getA (pc := 85) E fd_12_5 wf_RX12_40 dX12_init_85 (fun v85_1 => ?_)
  refine r_alen (pc := 88) E dX12_init_88 (fun v88_1 => ?_)
  refine r_icmp_ge (pc := 89) (tgt := 111) E dX12_init_89 (by decide) ?_ ?_
  · exact r_none
  · refine r_aload_n (pc := 92) E dX12_init_92 rfl 0 rfl ?_
    refine r_getA (pc := 93) E fd_12_5 wf_RX12_40 dX12_init_93 (fun v93_1 => ?_)
    refine r_iload_n (pc := 96) E dX12_init_96 rfl 0 rfl ?_
    refine r_new (pc := 97) E cd_2 (by decide) wx_RX12_38 dX12_init_97 (by decide) (by decide) (fun v97_1 M97_1 => ?_)
    refine r_widen (k := 23) (n := 37107) (by decide) (by decide) ?_
    refine r_dup (pc := 100) E dX12_init_100 (rv_cat _ _) ?_
    refine r_callI (pc := 101) (As := []) (rest := [rv x v97_1, .int v82, rv x v93_1]) E wc_X2_init wi_RX2 hd_X2_init wl_RX12_48 rfl wn_X2_init dX12_init_101 (by decide) (Nat.le_of_ble_eq_true rfl) (ctX2_init l x _ _) rfl (fun v101_1 M101_1 => ?_)
    refine r_widen (k := 46) (n := 51780) (by decide) (by decide) ?_
    refine r_aastore19 (pc := 104) E dX12_init_104 (fun M104_1 => ?_)
    refine r_iinc (pc := 105) (w := 1) (lf := fun v105_1 => [(1, v105_1)]) (ll' := []) (lr' := [(0, a0)]) E dX12_init_105 0 rfl (by decide) (by decide) (fun _ => rfl) rfl rfl (fun v105_1 => ?_)
    refine r_goto (pc := 108) (tgt := 83) E dX12_init_108 (by decide) ?_
    refine r_iload_n (pc := 83) E dX12_init_83 rfl 0 rfl ?_
    refine r_aload_n (pc := 84) E dX12_init_84 rfl 0 rfl ?_
    refine r_getA (pc := 85) E fd_12_5 wf_RX12_40 dX12_init_85 (fun v85_2 => ?_)
    refine r_alen (pc := 88) E dX12_init_88 (fun v88_2 => ?_)
    refine r_icmp_ge (pc := 89) (tgt := 111) E dX12_init_89 (by decide) ?_ ?_
    · exact r_none
    · refine r_aload_n (pc := 92) E dX12_init_92 rfl 0 rfl ?_
      refine r_getA (pc := 93) E fd_12_5 wf_RX12_40 dX12_init_93 (fun v93_2 => ?_)
      refine r_iload_n (pc := 96) E dX12_init_96 rfl 0 rfl ?_
      refine r_new (pc := 97) E cd_2 (by decide) wx_RX12_38 dX12_init_97 (by decide) (by decide) (fun v97_2 M97_2 => ?_)
      refine r_widen (k := 47) (n := 51787) (by decide) (by decide) ?_
      refine r_dup (pc := 100) E dX12_init_100 (rv_cat _ _) ?_
      refine r_callI (pc := 101) (As := []) (rest := [rv x v97_2, .int v105_1, rv x v93_2]) E wc_X2_init wi_RX2 hd_X2_init wl_RX12_48 rfl wn_X2_init dX12_init_101 (by decide) (Nat.le_of_ble_eq_true rfl) (ctX2_init l x _ _) rfl (fun v101_2 M101_2 => ?_)
      refine r_widen (k := 70) (n := 66460) (by decide) (by decide) ?_
      refine r_aastore19 (pc := 104) E dX12_init_104 (fun M104_2 => ?_)
      refine r_iinc (pc := 105) (w := 1) (lf := fun v105_2 => [(1, v105_2)]) (ll' := []) (lr' := [(0, a0)]) E dX12_init_105 0 rfl (by decide) (by decide) (fun _ => rfl) rfl rfl (fun v105_2 => ?_)
      refine r_goto (pc := 108) (tgt := 83) E dX12_init_108 (by decide) ?_
      refine r_iload_n (pc := 83) E dX12_init_83 rfl 0 rfl ?_
      refine r_aload_n (pc := 84) E dX12_init_84 rfl 0 rfl ?_
      refine r_getA (pc := 85) E fd_12_5 wf_RX12_40 dX12_init_85 (fun v85_3 => ?_)
      refine r_alen (pc := 88) E dX12_init_88 (fun v88_3 => ?_)
      refine r_icmp_ge (pc := 89) (tgt := 111) E dX12_init_89 (by decide) ?_ ?_
      · exact r_none
      · refine r_aload_n (pc := 92) E dX12_init_92 rfl 0 rfl ?_
        refine r_getA (pc := 93) E fd_12_5 wf_RX12_40 dX12_init_93 (fun v93_3 => ?_)
        refine r_iload_n (pc := 96) E dX12_init_96 rfl 0 rfl ?_
        refine r_new (pc := 97) E cd_2 (by decide) wx_RX12_38 dX12_init_97 (by decide) (by decide) (fun v97_3 M97_3 => ?_)
        refine r_widen (k := 71) (n := 66467) (by decide) (by decide) ?_
        refine r_dup (pc := 100) E dX12_init_100 (rv_cat _ _) ?_
        refine r_callI (pc := 101) (As := []) (rest := [rv x v97_3, .int v105_2, rv x v93_3]) E wc_X2_init wi_RX2 hd_X2_init wl_RX12_48 rfl wn_X2_init dX12_init_101 (by decide) (Nat.le_of_ble_eq_true rfl) (ctX2_init l x _ _) rfl (fun v101_3 M101_3 => ?_)
        refine r_widen (k := 94) (n := 81140) (by decide) (by decide) ?_
        refine r_aastore19 (pc := 104) E dX12_init_104 (fun M104_3 => ?_)
        refine r_iinc (pc := 105) (w := 1) (lf := fun v105_3 => [(1, v105_3)]) (ll' := []) (lr' := [(0, a0)]) E dX12_init_105 0 rfl (by decide) (by decide) (fun _ => rfl) rfl rfl (fun v105_3 => ?_)
        refine r_goto (pc := 108) (tgt := 83) E dX12_init_108 (by decide) ?_
        refine r_iload_n (pc := 83) E dX12_init_83 rfl 0 rfl ?_
        refine r_aload_n (pc := 84) E dX12_init_84 rfl 0 rfl ?_
        refine r_getA (pc := 85) E fd_12_5 wf_RX12_40 dX12_init_85 (fun v85_4 => ?_)
        refine r_alen (pc := 88) E dX12_init_88 (fun v88_4 => ?_)
        refine r_icmp_ge (pc := 89) (tgt := 111) E dX12_init_89 (by decide) ?_ ?_
        · refine r_iconst (pc := 111) (v := 3) E dX12_init_111 (by decide) ?_
          refine r_anew20 (pc := 112) E wx_RX12_49 dX12_init_112 (by decide) (by decide) (by decide) (fun v112_4 M112_4 => ?_)
          refine r_widen (k := 95) (n := 81143) (by decide) (by decide) ?_
          refine r_astore_n (pc := 115) (lf := fun v115_4 => []) (lg := fun v115_4 => []) (lk := fun v115_4 => [(1, v115_4), (0, a0)]) E dX12_init_115 rfl (by decide) (fun _ => rfl) (fun _ => rfl) (fun _ => rfl) (fun v115_4 => ?_)
          refine r_iconst (pc := 116) (v := 0) E dX12_init_116 (by decide) ?_
          refine r_istore_n (pc := 117) (lf := fun v117_4 => [(2, v117_4)]) (lg := fun v117_4 => []) (lk := fun v117_4 => [(1, v115_4), (0, a0)]) E dX12_init_117 rfl (by decide) (fun _ => rfl) (fun _ => rfl) (fun _ => rfl) (fun v117_4 => ?_)
          refine r_iload_n (pc := 118) E dX12_init_118 rfl 0 rfl ?_
          refine r_iconst (pc := 119) (v := 3) E dX12_init_119 (by decide) ?_
          refine r_icmp_ge (pc := 120) (tgt := 146) E dX12_init_120 (by decide) ?_ ?_
          · exact r_none
          · refine r_aload_n (pc := 123) E dX12_init_123 rfl 0 rfl ?_
            refine r_iload_n (pc := 124) E dX12_init_124 rfl 0 rfl ?_
            refine r_new (pc := 125) E cd_10 (by decide) wx_RX12_49 dX12_init_125 (by decide) (by decide) (fun v125_5 M125_5 => ?_)
            refine r_widen (k := 96) (n := 81152) (by decide) (by decide) ?_
            refine r_dup (pc := 128) E dX12_init_128 (rv_cat _ _) ?_
            refine r_callI (pc := 129) (As := []) (rest := [rv x v125_5, .int v117_4, rv x v115_4]) E wc_X10_init wi_RX10 hd_X10_init wl_RX12_51 rfl wn_X10_init dX12_init_129 (by decide) (Nat.le_of_ble_eq_true rfl) (ctX10_init l x _ _) rfl (fun v129_5 M129_5 => ?_)
            refine r_widen (k := 100) (n := 82176) (by decide) (by decide) ?_
            refine r_aastore20 (pc := 132) E dX12_init_132 (fun M132_5 => ?_)
            refine r_aload_n (pc := 133) E dX12_init_133 rfl 0 rfl ?_
            refine r_iload_n (pc := 134) E dX12_init_134 rfl 0 rfl ?_
            refine r_aaload20 (pc := 135) E dX12_init_135 (fun v135_5 => ?_)
            refine r_iload_n (pc := 136) E dX12_init_136 rfl 0 rfl ?_
            refine r_kVv (pc := 137) (As := [.int v117_4]) (rest := []) E wc_X10_buildDefault wi_RX10 hd_X10_buildDefault (ci := 10) rfl wl_RX12_52 wn_X10_buildDefault ws_X10_buildDefault dX12_init_137 (by decide) (Nat.le_of_ble_eq_true rfl) ⟨rfl, rfl⟩ (ctX10_buildDefault l x _ _ _) rfl (fun v137_5 M137_5 => ?_)
            refine r_iinc (pc := 140) (w := 1) (lf := fun v140_5 => [(2, v140_5)]) (ll' := []) (lr' := [(1, v115_4), (0, a0)]) E dX12_init_140 0 rfl (by decide) (by decide) (fun _ => rfl) rfl rfl (fun v140_5 => ?_)
            refine r_goto (pc := 143) (tgt := 118) E dX12_init_143 (by decide) ?_
            refine r_iload_n (pc := 118) E dX12_init_118 rfl 0 rfl ?_
            refine r_iconst (pc := 119) (v := 3) E dX12_init_119 (by decide) ?_
            refine r_icmp_ge (pc := 120) (tgt := 146) E dX12_init_120 (by decide) ?_ ?_
            · exact r_none
            · refine r_aload_n (pc := 123) E dX12_init_123 rfl 0 rfl ?_
              refine r_iload_n (pc := 124) E dX12_init_124 rfl 0 rfl ?_
              refine r_new (pc := 125) E cd_10 (by decide) wx_RX12_49 dX12_init_125 (by decide) (by decide) (fun v125_6 M125_6 => ?_)
              refine r_widen (k := 101) (n := 82185) (by decide) (by decide) ?_
              refine r_dup (pc := 128) E dX12_init_128 (rv_cat _ _) ?_
              refine r_callI (pc := 129) (As := []) (rest := [rv x v125_6, .int v140_5, rv x v115_4]) E wc_X10_init wi_RX10 hd_X10_init wl_RX12_51 rfl wn_X10_init dX12_init_129 (by decide) (Nat.le_of_ble_eq_true rfl) (ctX10_init l x _ _) rfl (fun v129_6 M129_6 => ?_)
              refine r_widen (k := 105) (n := 83209) (by decide) (by decide) ?_
              refine r_aastore20 (pc := 132) E dX12_init_132 (fun M132_6 => ?_)
              refine r_aload_n (pc := 133) E dX12_init_133 rfl 0 rfl ?_
              refine r_iload_n (pc := 134) E dX12_init_134 rfl 0 rfl ?_
              refine r_aaload20 (pc := 135) E dX12_init_135 (fun v135_6 => ?_)
              refine r_iload_n (pc := 136) E dX12_init_136 rfl 0 rfl ?_
              refine r_kVv (pc := 137) (As := [.int v140_5]) (rest := []) E wc_X10_buildDefault wi_RX10 hd_X10_buildDefault (ci := 10) rfl wl_RX12_52 wn_X10_buildDefault ws_X10_buildDefault dX12_init_137 (by decide) (Nat.le_of_ble_eq_true rfl) ⟨rfl, rfl⟩ (ctX10_buildDefault l x _ _ _) rfl (fun v137_6 M137_6 => ?_)
              refine r_iinc (pc := 140) (w := 1) (lf := fun v140_6 => [(2, v140_6)]) (ll' := []) (lr' := [(1, v115_4), (0, a0)]) E dX12_init_140 0 rfl (by decide) (by decide) (fun _ => rfl) rfl rfl (fun v140_6 => ?_)
              refine r_goto (pc := 143) (tgt := 118) E dX12_init_143 (by decide) ?_
              refine r_iload_n (pc := 118) E dX12_init_118 rfl 0 rfl ?_
              refine r_iconst (pc := 119) (v := 3) E dX12_init_119 (by decide) ?_
              refine r_icmp_ge (pc := 120) (tgt := 146) E dX12_init_120 (by decide) ?_ ?_
              · exact r_none
              · refine r_aload_n (pc := 123) E dX12_init_123 rfl 0 rfl ?_
                refine r_iload_n (pc := 124) E dX12_init_124 rfl 0 rfl ?_
                refine r_new (pc := 125) E cd_10 (by decide) wx_RX12_49 dX12_init_125 (by decide) (by decide) (fun v125_7 M125_7 => ?_)
                refine r_widen (k := 106) (n := 83218) (by decide) (by decide) ?_
                refine r_dup (pc := 128) E dX12_init_128 (rv_cat _ _) ?_
                refine r_callI (pc := 129) (As := []) (rest := [rv x v125_7, .int v140_6, rv x v115_4]) E wc_X10_init wi_RX10 hd_X10_init wl_RX12_51 rfl wn_X10_init dX12_init_129 (by decide) (Nat.le_of_ble_eq_true rfl) (ctX10_init l x _ _) rfl (fun v129_7 M129_7 => ?_)
                refine r_widen (k := 110) (n := 84242) (by decide) (by decide) ?_
                refine r_aastore20 (pc := 132) E dX12_init_132 (fun M132_7 => ?_)
                refine r_aload_n (pc := 133) E dX12_init_133 rfl 0 rfl ?_
                refine r_iload_n (pc := 134) E dX12_init_134 rfl 0 rfl ?_
                refine r_aaload20 (pc := 135) E dX12_init_135 (fun v135_7 => ?_)
                refine r_iload_n (pc := 136) E dX12_init_136 rfl 0 rfl ?_
                refine r_kVv (pc := 137) (As := [.int v140_6]) (rest := []) E wc_X10_buildDefault wi_RX10 hd_X10_buildDefault (ci := 10) rfl wl_RX12_52 wn_X10_buildDefault ws_X10_buildDefault dX12_init_137 (by decide) (Nat.le_of_ble_eq_true rfl) ⟨rfl, rfl⟩ (ctX10_buildDefault l x _ _ _) rfl (fun v137_7 M137_7 => ?_)
                refine r_iinc (pc := 140) (w := 1) (lf := fun v140_7 => [(2, v140_7)]) (ll' := []) (lr' := [(1, v115_4), (0, a0)]) E dX12_init_140 0 rfl (by decide) (by decide) (fun _ => rfl) rfl rfl (fun v140_7 => ?_)
                refine r_goto (pc := 143) (tgt := 118) E dX12_init_143 (by decide) ?_
                refine r_iload_n (pc := 118) E dX12_init_118 rfl 0 rfl ?_
                refine r_iconst (pc := 119) (v := 3) E dX12_init_119 (by decide) ?_
                refine r_icmp_ge (pc := 120) (tgt := 146) E dX12_init_120 (by decide) ?_ ?_
                · refine r_aload_n (pc := 146) E dX12_init_146 rfl 1 rfl ?_
                  refine r_new (pc := 147) E cd_5 (by decide) wx_RX12_55 dX12_init_147 (by decide) (by decide) (fun v147_8 M147_8 => ?_)
                  refine r_widen (k := 111) (n := 84261) (by decide) (by decide) ?_
                  refine r_dup (pc := 150) E dX12_init_150 (rv_cat _ _) ?_
                  refine r_aload_n (pc := 151) E dX12_init_151 rfl 1 rfl ?_
                  refine r_getR (pc := 152) E fd_12_4 wf_RX12_34 dX12_init_152 (fun v152_8 => ?_)
                  refine r_aload_n (pc := 155) E dX12_init_155 rfl 1 rfl ?_
                  refine r_getR (pc := 156) E fd_12_3 wf_RX12_27 dX12_init_156 (fun v156_8 => ?_)
                  refine r_aload_n (pc := 159) E dX12_init_159 rfl 0 rfl ?_
                  refine r_callI (pc := 160) (As := [rv x v152_8, rv x v156_8, rv x v115_4]) (rest := [rv x v147_8, rv x a0]) E wc_X5_init wi_RX5 hd_X5_init wl_RX12_57 rfl wn_X5_init dX12_init_160 (by decide) (Nat.le_of_ble_eq_true rfl) (ctX5_init l x _ _ _ _ _) rfl (fun v160_8 M160_8 => ?_)
                  refine r_widen (k := 147) (n := 116991) (by decide) (by decide) ?_
                  refine r_putR (pc := 163) E fd_12_6 wf_RX12_60 dX12_init_163 (Or.inr ⟨rfl, rfl⟩) (fun M163_8 => ?_)
                  refine r_aload_n (pc := 166) E dX12_init_166 rfl 1 rfl ?_
                  refine r_new (pc := 167) E cd_6 (by decide) wx_RX12_64 dX12_init_167 (by decide) (by decide) (fun v167_8 M167_8 => ?_)
                  refine r_widen (k := 148) (n := 117006) (by decide) (by decide) ?_
                  refine r_dup (pc := 170) E dX12_init_170 (rv_cat _ _) ?_
                  refine r_aload_n (pc := 171) E dX12_init_171 rfl 1 rfl ?_
                  refine r_getR (pc := 172) E fd_12_3 wf_RX12_27 dX12_init_172 (fun v172_8 => ?_)
                  refine r_aload_n (pc := 175) E dX12_init_175 rfl 0 rfl ?_
                  refine r_callI (pc := 176) (As := [rv x v172_8, rv x v115_4]) (rest := [rv x v167_8, rv x a0]) E wc_X6_init wi_RX6 hd_X6_init wl_RX12_66 rfl wn_X6_init dX12_init_176 (by decide) (Nat.le_of_ble_eq_true rfl) (ctX6_init l x _ _ _ _) rfl (fun v176_8 M176_8 => ?_)
                  refine r_widen (k := 186) (n := 164916) (by decide) (by decide) ?_
                  refine r_putR (pc := 179) E fd_12_7 wf_RX12_69 dX12_init_179 (Or.inr ⟨rfl, rfl⟩) (fun M179_8 => ?_)
                  refine r_widen (k := 186) (n := 164916) (by decide) (by decide) ?_
                  exact e_void (pc := 182) E dX12_init_182
                · exact r_none
        · exact r_none
def fX12_feed_L10 (M : Mem) : Option (Int32 × Mem) :=
  some ((-2), M)
def fX12_feed_B48 (k48 : Option Nat × Int64 × Int32 → Mem → Option (Int32 × Mem)) (p0 : Option Nat) (p1 : Int64) (p4 : Int32) (M : Mem) : Option (Int32 × Mem) :=
  if p4 < 0 then (
    bo (gR M p0 12 0) fun v75 =>
    bo (gI M v75 8 1) fun v78 =>
    some (v78, M)
  ) else (
    bo (gR M p0 12 0) fun v54 =>
    bo (chk M v54 8) fun _ => bd (fX8_add v54 ((ushJ p1 (8 * p4)).toInt32) M) fun v65 M65 =>
    bn (p4 + (-1)) fun v68 =>
    k48 ((p0, p1, v68)) M65
  )
def fX12_feed_L48 (p0 : Option Nat) (p1 : Int64) (p4 : Int32) (M : Mem) : Option (Int32 × Mem) :=
  lp (fun k48 (a : Option Nat × Int64 × Int32) M => fX12_feed_B48 k48 a.1 a.2.1 a.2.2 M) FU ((p0, p1, p4)) M
def fX12_feed_L43 (p0 : Option Nat) (p1 : Int64) (p3 : Int32) (M : Mem) : Option (Int32 × Mem) :=
  bn (p3 - 1) fun v46 =>
  fX12_feed_L48 p0 p1 v46 M
def fX12_feed (a0 : Option Nat) (a1 : Int64) (a3 : Int32) (M : Mem) : Option (Int32 × Mem) :=
  if a3 < 0 then (
    fX12_feed_L10 M
  ) else (
    if a3 ≤ 8 then (
      bo (gR M a0 12 0) fun v18 =>
      bo (gI M v18 8 1) fun v21 =>
      if a3 ≤ (8000 - v21) then (
        if a3 = 0 then (
          bo (gR M a0 12 0) fun v36 =>
          bo (pI M v36 8 1 0) fun M40 =>
          fX12_feed_L43 a0 a1 a3 M40
        ) else (
          fX12_feed_L43 a0 a1 a3 M
        )
      ) else (
        some ((-4), M)
      )
    ) else (
      fX12_feed_L10 M
    )
  )
def rmX12_feed : Room := { frames := 1, cells := 0, slots := 0, locals := 21 }
set_option maxRecDepth 100000 in
set_option maxHeartbeats 4000000 in
theorem ctX12_feed (l : Launch) (x : Cx) (a0 : Option Nat) (a1 : Int64) (a3 : Int32) (M : Mem) (v : Int32) (N : Mem) (h : fX12_feed a0 a1 a3 M = some (v, N)) : CT l yX12_feed cX12_feed 5 (some (FieldType.int)) rmX12_feed x [rv x a0, .long a1, .int a3] M (some (.int v)) N := by
  refine ct_mk (enc := fun v : Int32 => some (.int v)) (li := [(3, a3)]) (ll := [(1, a1)]) (lr := [(0, a0)]) (by decide +kernel) (by simp [lg_sl, rv_cat, cat_int, cat_long]) (by simp [flat, lv_args, rv_cat, cat_int, cat_long]) h ?_
  intro p e s m args below meth c E
  have hL10 : ∀ (M : Mem), RT p l e rmX12_feed s m args below meth c x 5 (QM below args s x (fun v : Int32 => some (.int v)) rmX12_feed.cells rmX12_feed.slots) 0 0 (fX12_feed_L10 M) 10 [] [] [] [] M := by
    intro M
    unfold fX12_feed_L10
    refine r_bipush (pc := 10) (v := (-2)) E dX12_feed_10 (by decide) ?_
    exact e_int (pc := 12) E dX12_feed_12
  have hL48 : ∀ (p0 : Option Nat) (p1 : Int64) (p4 : Int32) (M : Mem), RT p l e rmX12_feed s m args below meth c x 5 (QM below args s x (fun v : Int32 => some (.int v)) rmX12_feed.cells rmX12_feed.slots) 0 0 (fX12_feed_L48 p0 p1 p4 M) 48 [(4, p4)] [(1, p1)] [(0, p0)] [] M := by
    intro p0 p1 p4 M
    refine r_lp (fi := fun a : Option Nat × Int64 × Int32 => [(4, a.2.2)]) (fl := fun a : Option Nat × Int64 × Int32 => [(1, a.2.1)]) (fr := fun a : Option Nat × Int64 × Int32 => [(0, a.1)]) (fs := fun a : Option Nat × Int64 × Int32 => []) ?_ FU ((p0, p1, p4)) M
    intro k48 hk48 a M
    obtain ⟨p0, p1, p4⟩ := a
    show RT p l e rmX12_feed s m args below meth c x 5 (QM below args s x (fun v : Int32 => some (.int v)) rmX12_feed.cells rmX12_feed.slots) 0 0 (fX12_feed_B48 k48 p0 p1 p4 M) 48 [(4, p4)] [(1, p1)] [(0, p0)] [] M
    unfold fX12_feed_B48
    refine r_iload (pc := 48) E dX12_feed_48 0 rfl ?_
    refine r_if_lt (pc := 50) (tgt := 74) E dX12_feed_50 (by decide) ?_ ?_
    · refine r_aload_n (pc := 74) E dX12_feed_74 rfl 0 rfl ?_
      refine r_getR (pc := 75) E fd_12_0 wf_RX12_14 dX12_feed_75 (fun v75 => ?_)
      refine r_getI (pc := 78) E fd_8_1 wf_RX12_73 dX12_feed_78 (fun v78 => ?_)
      exact e_int (pc := 81) E dX12_feed_81
    · refine r_aload_n (pc := 53) E dX12_feed_53 rfl 0 rfl ?_
      refine r_getR (pc := 54) E fd_12_0 wf_RX12_14 dX12_feed_54 (fun v54 => ?_)
      refine r_lload_n (pc := 57) E dX12_feed_57 rfl 0 rfl ?_
      refine r_bipush (pc := 58) (v := 8) E dX12_feed_58 (by decide) ?_
      refine r_iload (pc := 60) E dX12_feed_60 0 rfl ?_
      refine r_imul (pc := 62) E dX12_feed_62 ?_
      refine r_lushr (pc := 63) E dX12_feed_63 ?_
      refine r_l2i (pc := 64) E dX12_feed_64 ?_
      refine r_kVv (pc := 65) (As := [.int ((ushJ p1 (8 * p4)).toInt32)]) (rest := []) E wc_X8_add wi_RX8 hd_X8_add (ci := 8) rfl wl_RX12_76 wn_X8_add ws_X8_add dX12_feed_65 (by decide) (Nat.le_of_ble_eq_true rfl) ⟨rfl, rfl⟩ (ctX8_add l x _ _ _) rfl (fun v65 M65 => ?_)
      refine r_iinc (pc := 68) (w := (-1)) (lf := fun v68 => [(4, v68)]) (ll' := [(1, p1)]) (lr' := [(0, p0)]) E dX12_feed_68 0 rfl (by decide) (by decide) (fun _ => rfl) rfl rfl (fun v68 => ?_)
      refine r_goto (pc := 71) (tgt := 48) E dX12_feed_71 (by decide) ?_
      exact r_sub [0] [0] [0] rfl rfl rfl (hk48 ((p0, p1, v68)) _)
  have hL43 : ∀ (p0 : Option Nat) (p1 : Int64) (p3 : Int32) (M : Mem), RT p l e rmX12_feed s m args below meth c x 5 (QM below args s x (fun v : Int32 => some (.int v)) rmX12_feed.cells rmX12_feed.slots) 0 0 (fX12_feed_L43 p0 p1 p3 M) 43 [(3, p3)] [(1, p1)] [(0, p0)] [] M := by
    intro p0 p1 p3 M
    unfold fX12_feed_L43
    refine r_iload_n (pc := 43) E dX12_feed_43 rfl 0 rfl ?_
    refine r_iconst (pc := 44) (v := 1) E dX12_feed_44 (by decide) ?_
    refine r_isub (pc := 45) E dX12_feed_45 ?_
    refine r_istore (pc := 46) (lf := fun v46 => [(4, v46), (3, p3)]) (lg := fun v46 => [(1, p1)]) (lk := fun v46 => [(0, p0)]) E dX12_feed_46 (by decide) (fun _ => rfl) (fun _ => rfl) (fun _ => rfl) (fun v46 => ?_)
    exact r_sub [0] [0] [0] rfl rfl rfl (hL48 p0 p1 v46 _)
  show RT p l e rmX12_feed s m args below meth c x 5 (QM below args s x (fun v : Int32 => some (.int v)) rmX12_feed.cells rmX12_feed.slots) 0 0 (fX12_feed a0 a1 a3 M) 0 [(3, a3)] [(1, a1)] [(0, a0)] [] M
  unfold fX12_feed
  refine r_iload_n (pc := 0) E dX12_feed_0 rfl 0 rfl ?_
  refine r_if_lt (pc := 1) (tgt := 10) E dX12_feed_1 (by decide) ?_ ?_
  · exact r_sub [] [] [] rfl rfl rfl (hL10 _)
  · refine r_iload_n (pc := 4) E dX12_feed_4 rfl 0 rfl ?_
    refine r_bipush (pc := 5) (v := 8) E dX12_feed_5 (by decide) ?_
    refine r_icmp_le (pc := 7) (tgt := 13) E dX12_feed_7 (by decide) ?_ ?_
    · refine r_iload_n (pc := 13) E dX12_feed_13 rfl 0 rfl ?_
      refine r_sipush (pc := 14) (v := 8000) E dX12_feed_14 (by decide) ?_
      refine r_aload_n (pc := 17) E dX12_feed_17 rfl 0 rfl ?_
      refine r_getR (pc := 18) E fd_12_0 wf_RX12_14 dX12_feed_18 (fun v18 => ?_)
      refine r_getI (pc := 21) E fd_8_1 wf_RX12_73 dX12_feed_21 (fun v21 => ?_)
      refine r_isub (pc := 24) E dX12_feed_24 ?_
      refine r_icmp_le (pc := 25) (tgt := 31) E dX12_feed_25 (by decide) ?_ ?_
      · refine r_iload_n (pc := 31) E dX12_feed_31 rfl 0 rfl ?_
        refine r_if_ne (pc := 32) (tgt := 43) E dX12_feed_32 (by decide) ?_ ?_
        · exact r_sub [0] [0] [0] rfl rfl rfl (hL43 a0 a1 a3 _)
        · refine r_aload_n (pc := 35) E dX12_feed_35 rfl 0 rfl ?_
          refine r_getR (pc := 36) E fd_12_0 wf_RX12_14 dX12_feed_36 (fun v36 => ?_)
          refine r_iconst (pc := 39) (v := 0) E dX12_feed_39 (by decide) ?_
          refine r_putI (pc := 40) E fd_8_1 wf_RX12_73 dX12_feed_40 (Or.inl rfl) (fun M40 => ?_)
          exact r_sub [0] [0] [0] rfl rfl rfl (hL43 a0 a1 a3 _)
      · refine r_bipush (pc := 28) (v := (-4)) E dX12_feed_28 (by decide) ?_
        exact e_int (pc := 30) E dX12_feed_30
    · exact r_sub [] [] [] rfl rfl rfl (hL10 _)
def fX12_fill_L14 (M : Mem) : Option (Int32 × Mem) :=
  some ((-2), M)
def fX12_fill_B41 (k41 : Option Nat × Int32 × Int32 × Int32 × Int32 → Mem → Option (Int32 × Mem)) (p0 : Option Nat) (p1 : Int32) (p3 : Int32) (p4 : Int32) (p5 : Int32) (M : Mem) : Option (Int32 × Mem) :=
  if p1 ≤ p5 then (
    bo (gR M p0 12 0) fun v78 =>
    bo (gI M v78 8 1) fun v81 =>
    some (v81, M)
  ) else (
    bn ((p4 * 1664525) + 1013904223) fun v55 =>
    bo (gR M p0 12 0) fun v58 =>
    bo (chk M v58 8) fun _ => bd (fX8_add v58 (ushI (ushI v55 24) p3) M) fun v68 M68 =>
    bn (p5 + 1) fun v71 =>
    k41 ((p0, p1, p3, v55, v71)) M68
  )
def fX12_fill_L41 (p0 : Option Nat) (p1 : Int32) (p3 : Int32) (p4 : Int32) (p5 : Int32) (M : Mem) : Option (Int32 × Mem) :=
  lp (fun k41 (a : Option Nat × Int32 × Int32 × Int32 × Int32) M => fX12_fill_B41 k41 a.1 a.2.1 a.2.2.1 a.2.2.2.1 a.2.2.2.2 M) FU ((p0, p1, p3, p4, p5)) M
def fX12_fill (a0 : Option Nat) (a1 : Int32) (a2 : Int32) (a3 : Int32) (M : Mem) : Option (Int32 × Mem) :=
  if a1 < 0 then (
    fX12_fill_L14 M
  ) else (
    if a3 < 0 then (
      fX12_fill_L14 M
    ) else (
      if a3 ≤ 7 then (
        bo (gR M a0 12 0) fun v22 =>
        bo (gI M v22 8 1) fun v25 =>
        if a1 ≤ (8000 - v25) then (
          bn (a2) fun v36 =>
          bn (0) fun v39 =>
          fX12_fill_L41 a0 a1 a3 v36 v39 M
        ) else (
          some ((-4), M)
        )
      ) else (
        fX12_fill_L14 M
      )
    )
  )
def rmX12_fill : Room := { frames := 1, cells := 0, slots := 0, locals := 21 }
set_option maxRecDepth 100000 in
set_option maxHeartbeats 4000000 in
theorem ctX12_fill (l : Launch) (x : Cx) (a0 : Option Nat) (a1 : Int32) (a2 : Int32) (a3 : Int32) (M : Mem) (v : Int32) (N : Mem) (h : fX12_fill a0 a1 a2 a3 M = some (v, N)) : CT l yX12_fill cX12_fill 6 (some (FieldType.int)) rmX12_fill x [rv x a0, .int a1, .int a2, .int a3] M (some (.int v)) N := by
  refine ct_mk (enc := fun v : Int32 => some (.int v)) (li := [(1, a1), (2, a2), (3, a3)]) (ll := []) (lr := [(0, a0)]) (by decide +kernel) (by simp [lg_sl, rv_cat, cat_int, cat_long]) (by simp [flat, lv_args, rv_cat, cat_int, cat_long]) h ?_
  intro p e s m args below meth c E
  have hL14 : ∀ (M : Mem), RT p l e rmX12_fill s m args below meth c x 6 (QM below args s x (fun v : Int32 => some (.int v)) rmX12_fill.cells rmX12_fill.slots) 0 0 (fX12_fill_L14 M) 14 [] [] [] [] M := by
    intro M
    unfold fX12_fill_L14
    refine r_bipush (pc := 14) (v := (-2)) E dX12_fill_14 (by decide) ?_
    exact e_int (pc := 16) E dX12_fill_16
  have hL41 : ∀ (p0 : Option Nat) (p1 : Int32) (p3 : Int32) (p4 : Int32) (p5 : Int32) (M : Mem), RT p l e rmX12_fill s m args below meth c x 6 (QM below args s x (fun v : Int32 => some (.int v)) rmX12_fill.cells rmX12_fill.slots) 0 0 (fX12_fill_L41 p0 p1 p3 p4 p5 M) 41 [(1, p1), (3, p3), (4, p4), (5, p5)] [] [(0, p0)] [] M := by
    intro p0 p1 p3 p4 p5 M
    refine r_lp (fi := fun a : Option Nat × Int32 × Int32 × Int32 × Int32 => [(1, a.2.1), (3, a.2.2.1), (4, a.2.2.2.1), (5, a.2.2.2.2)]) (fl := fun a : Option Nat × Int32 × Int32 × Int32 × Int32 => []) (fr := fun a : Option Nat × Int32 × Int32 × Int32 × Int32 => [(0, a.1)]) (fs := fun a : Option Nat × Int32 × Int32 × Int32 × Int32 => []) ?_ FU ((p0, p1, p3, p4, p5)) M
    intro k41 hk41 a M
    obtain ⟨p0, p1, p3, p4, p5⟩ := a
    show RT p l e rmX12_fill s m args below meth c x 6 (QM below args s x (fun v : Int32 => some (.int v)) rmX12_fill.cells rmX12_fill.slots) 0 0 (fX12_fill_B41 k41 p0 p1 p3 p4 p5 M) 41 [(1, p1), (3, p3), (4, p4), (5, p5)] [] [(0, p0)] [] M
    unfold fX12_fill_B41
    refine r_iload (pc := 41) E dX12_fill_41 3 rfl ?_
    refine r_iload_n (pc := 43) E dX12_fill_43 rfl 0 rfl ?_
    refine r_icmp_ge (pc := 44) (tgt := 77) E dX12_fill_44 (by decide) ?_ ?_
    · refine r_aload_n (pc := 77) E dX12_fill_77 rfl 0 rfl ?_
      refine r_getR (pc := 78) E fd_12_0 wf_RX12_14 dX12_fill_78 (fun v78 => ?_)
      refine r_getI (pc := 81) E fd_8_1 wf_RX12_73 dX12_fill_81 (fun v81 => ?_)
      exact e_int (pc := 84) E dX12_fill_84
    · refine r_iload (pc := 47) E dX12_fill_47 2 rfl ?_
      refine r_ldc (pc := 49) E wk_RX12_79 dX12_fill_49 ?_
      refine r_imul (pc := 51) E dX12_fill_51 ?_
      refine r_ldc (pc := 52) E wk_RX12_80 dX12_fill_52 ?_
      refine r_iadd (pc := 54) E dX12_fill_54 ?_
      refine r_istore (pc := 55) (lf := fun v55 => [(4, v55), (1, p1), (3, p3), (5, p5)]) (lg := fun v55 => []) (lk := fun v55 => [(0, p0)]) E dX12_fill_55 (by decide) (fun _ => rfl) (fun _ => rfl) (fun _ => rfl) (fun v55 => ?_)
      refine r_aload_n (pc := 57) E dX12_fill_57 rfl 0 rfl ?_
      refine r_getR (pc := 58) E fd_12_0 wf_RX12_14 dX12_fill_58 (fun v58 => ?_)
      refine r_iload (pc := 61) E dX12_fill_61 0 rfl ?_
      refine r_bipush (pc := 63) (v := 24) E dX12_fill_63 (by decide) ?_
      refine r_iushr (pc := 65) E dX12_fill_65 ?_
      refine r_iload_n (pc := 66) E dX12_fill_66 rfl 2 rfl ?_
      refine r_iushr (pc := 67) E dX12_fill_67 ?_
      refine r_kVv (pc := 68) (As := [.int (ushI (ushI v55 24) p3)]) (rest := []) E wc_X8_add wi_RX8 hd_X8_add (ci := 8) rfl wl_RX12_76 wn_X8_add ws_X8_add dX12_fill_68 (by decide) (Nat.le_of_ble_eq_true rfl) ⟨rfl, rfl⟩ (ctX8_add l x _ _ _) rfl (fun v68 M68 => ?_)
      refine r_iinc (pc := 71) (w := 1) (lf := fun v71 => [(5, v71), (4, v55), (1, p1), (3, p3)]) (ll' := []) (lr' := [(0, p0)]) E dX12_fill_71 3 rfl (by decide) (by decide) (fun _ => rfl) rfl rfl (fun v71 => ?_)
      refine r_goto (pc := 74) (tgt := 41) E dX12_fill_74 (by decide) ?_
      exact r_sub [2, 3, 1, 0] [] [0] rfl rfl rfl (hk41 ((p0, p1, p3, v55, v71)) _)
  show RT p l e rmX12_fill s m args below meth c x 6 (QM below args s x (fun v : Int32 => some (.int v)) rmX12_fill.cells rmX12_fill.slots) 0 0 (fX12_fill a0 a1 a2 a3 M) 0 [(1, a1), (2, a2), (3, a3)] [] [(0, a0)] [] M
  unfold fX12_fill
  refine r_iload_n (pc := 0) E dX12_fill_0 rfl 0 rfl ?_
  refine r_if_lt (pc := 1) (tgt := 14) E dX12_fill_1 (by decide) ?_ ?_
  · exact r_sub [] [] [] rfl rfl rfl (hL14 _)
  · refine r_iload_n (pc := 4) E dX12_fill_4 rfl 2 rfl ?_
    refine r_if_lt (pc := 5) (tgt := 14) E dX12_fill_5 (by decide) ?_ ?_
    · exact r_sub [] [] [] rfl rfl rfl (hL14 _)
    · refine r_iload_n (pc := 8) E dX12_fill_8 rfl 2 rfl ?_
      refine r_bipush (pc := 9) (v := 7) E dX12_fill_9 (by decide) ?_
      refine r_icmp_le (pc := 11) (tgt := 17) E dX12_fill_11 (by decide) ?_ ?_
      · refine r_iload_n (pc := 17) E dX12_fill_17 rfl 0 rfl ?_
        refine r_sipush (pc := 18) (v := 8000) E dX12_fill_18 (by decide) ?_
        refine r_aload_n (pc := 21) E dX12_fill_21 rfl 0 rfl ?_
        refine r_getR (pc := 22) E fd_12_0 wf_RX12_14 dX12_fill_22 (fun v22 => ?_)
        refine r_getI (pc := 25) E fd_8_1 wf_RX12_73 dX12_fill_25 (fun v25 => ?_)
        refine r_isub (pc := 28) E dX12_fill_28 ?_
        refine r_icmp_le (pc := 29) (tgt := 35) E dX12_fill_29 (by decide) ?_ ?_
        · refine r_iload_n (pc := 35) E dX12_fill_35 rfl 1 rfl ?_
          refine r_istore (pc := 36) (lf := fun v36 => [(4, v36), (1, a1), (2, a2), (3, a3)]) (lg := fun v36 => []) (lk := fun v36 => [(0, a0)]) E dX12_fill_36 (by decide) (fun _ => rfl) (fun _ => rfl) (fun _ => rfl) (fun v36 => ?_)
          refine r_iconst (pc := 38) (v := 0) E dX12_fill_38 (by decide) ?_
          refine r_istore (pc := 39) (lf := fun v39 => [(5, v39), (4, v36), (1, a1), (2, a2), (3, a3)]) (lg := fun v39 => []) (lk := fun v39 => [(0, a0)]) E dX12_fill_39 (by decide) (fun _ => rfl) (fun _ => rfl) (fun _ => rfl) (fun v39 => ?_)
          exact r_sub [2, 4, 1, 0] [] [0] rfl rfl rfl (hL41 a0 a1 a3 v36 v39 _)
        · refine r_bipush (pc := 32) (v := (-4)) E dX12_fill_32 (by decide) ?_
          exact e_int (pc := 34) E dX12_fill_34
      · exact r_sub [] [] [] rfl rfl rfl (hL14 _)
def fX12_size (a0 : Option Nat) (M : Mem) : Option (Int32 × Mem) :=
  bo (gR M a0 12 0) fun v1 =>
  bo (gI M v1 8 1) fun v4 =>
  some (v4, M)
def rmX12_size : Room := { frames := 0, cells := 0, slots := 0, locals := 0 }
set_option maxRecDepth 100000 in
set_option maxHeartbeats 4000000 in
theorem ctX12_size (l : Launch) (x : Cx) (a0 : Option Nat) (M : Mem) (v : Int32) (N : Mem) (h : fX12_size a0 M = some (v, N)) : CT l yX12_size cX12_size 1 (some (FieldType.int)) rmX12_size x [rv x a0] M (some (.int v)) N := by
  refine ct_mk (enc := fun v : Int32 => some (.int v)) (li := []) (ll := []) (lr := [(0, a0)]) (by decide +kernel) (by simp [lg_sl, rv_cat, cat_int, cat_long]) (by simp [flat, lv_args, rv_cat, cat_int, cat_long]) h ?_
  intro p e s m args below meth c E
  show RT p l e rmX12_size s m args below meth c x 1 (QM below args s x (fun v : Int32 => some (.int v)) rmX12_size.cells rmX12_size.slots) 0 0 (fX12_size a0 M) 0 [] [] [(0, a0)] [] M
  unfold fX12_size
  refine r_aload_n (pc := 0) E dX12_size_0 rfl 0 rfl ?_
  refine r_getR (pc := 1) E fd_12_0 wf_RX12_14 dX12_size_1 (fun v1 => ?_)
  refine r_getI (pc := 4) E fd_8_1 wf_RX12_73 dX12_size_4 (fun v4 => ?_)
  exact e_int (pc := 7) E dX12_size_7
def fX12_set_L26 (M : Mem) : Option (Int32 × Mem) :=
  some ((-2), M)
def fX12_set (a0 : Option Nat) (a1 : Int32) (a2 : Int32) (M : Mem) : Option (Int32 × Mem) :=
  if a1 < 0 then (
    fX12_set_L26 M
  ) else (
    bo (gR M a0 12 0) fun v6 =>
    bo (gI M v6 8 1) fun v9 =>
    if v9 ≤ a1 then (
      fX12_set_L26 M
    ) else (
      if a2 < 0 then (
        fX12_set_L26 M
      ) else (
        if a2 ≤ 255 then (
          bo (gR M a0 12 0) fun v30 =>
          bo (chk M v30 8) fun _ => bd (fX8_get v30 a1 M) fun v34 M34 =>
          bn (v34) fun v37 =>
          bo (gR M34 a0 12 0) fun v39 =>
          bo (chk M34 v39 8) fun _ => bd (fX8_put v39 a1 a2 M34) fun v44 M44 =>
          some (v37, M44)
        ) else (
          fX12_set_L26 M
        )
      )
    )
  )
def rmX12_set : Room := { frames := 1, cells := 0, slots := 0, locals := 22 }
set_option maxRecDepth 100000 in
set_option maxHeartbeats 4000000 in
theorem ctX12_set (l : Launch) (x : Cx) (a0 : Option Nat) (a1 : Int32) (a2 : Int32) (M : Mem) (v : Int32) (N : Mem) (h : fX12_set a0 a1 a2 M = some (v, N)) : CT l yX12_set cX12_set 4 (some (FieldType.int)) rmX12_set x [rv x a0, .int a1, .int a2] M (some (.int v)) N := by
  refine ct_mk (enc := fun v : Int32 => some (.int v)) (li := [(1, a1), (2, a2)]) (ll := []) (lr := [(0, a0)]) (by decide +kernel) (by simp [lg_sl, rv_cat, cat_int, cat_long]) (by simp [flat, lv_args, rv_cat, cat_int, cat_long]) h ?_
  intro p e s m args below meth c E
  have hL26 : ∀ (M : Mem), RT p l e rmX12_set s m args below meth c x 4 (QM below args s x (fun v : Int32 => some (.int v)) rmX12_set.cells rmX12_set.slots) 0 0 (fX12_set_L26 M) 26 [] [] [] [] M := by
    intro M
    unfold fX12_set_L26
    refine r_bipush (pc := 26) (v := (-2)) E dX12_set_26 (by decide) ?_
    exact e_int (pc := 28) E dX12_set_28
  show RT p l e rmX12_set s m args below meth c x 4 (QM below args s x (fun v : Int32 => some (.int v)) rmX12_set.cells rmX12_set.slots) 0 0 (fX12_set a0 a1 a2 M) 0 [(1, a1), (2, a2)] [] [(0, a0)] [] M
  unfold fX12_set
  refine r_iload_n (pc := 0) E dX12_set_0 rfl 0 rfl ?_
  refine r_if_lt (pc := 1) (tgt := 26) E dX12_set_1 (by decide) ?_ ?_
  · exact r_sub [] [] [] rfl rfl rfl (hL26 _)
  · refine r_iload_n (pc := 4) E dX12_set_4 rfl 0 rfl ?_
    refine r_aload_n (pc := 5) E dX12_set_5 rfl 0 rfl ?_
    refine r_getR (pc := 6) E fd_12_0 wf_RX12_14 dX12_set_6 (fun v6 => ?_)
    refine r_getI (pc := 9) E fd_8_1 wf_RX12_73 dX12_set_9 (fun v9 => ?_)
    refine r_icmp_ge (pc := 12) (tgt := 26) E dX12_set_12 (by decide) ?_ ?_
    · exact r_sub [] [] [] rfl rfl rfl (hL26 _)
    · refine r_iload_n (pc := 15) E dX12_set_15 rfl 1 rfl ?_
      refine r_if_lt (pc := 16) (tgt := 26) E dX12_set_16 (by decide) ?_ ?_
      · exact r_sub [] [] [] rfl rfl rfl (hL26 _)
      · refine r_iload_n (pc := 19) E dX12_set_19 rfl 1 rfl ?_
        refine r_sipush (pc := 20) (v := 255) E dX12_set_20 (by decide) ?_
        refine r_icmp_le (pc := 23) (tgt := 29) E dX12_set_23 (by decide) ?_ ?_
        · refine r_aload_n (pc := 29) E dX12_set_29 rfl 0 rfl ?_
          refine r_getR (pc := 30) E fd_12_0 wf_RX12_14 dX12_set_30 (fun v30 => ?_)
          refine r_iload_n (pc := 33) E dX12_set_33 rfl 0 rfl ?_
          refine r_kVi (pc := 34) (As := [.int a1]) (rest := []) E wc_X8_get wi_RX8 hd_X8_get (ci := 8) rfl wl_RX12_81 wn_X8_get ws_X8_get dX12_set_34 (by decide) (Nat.le_of_ble_eq_true rfl) ⟨rfl, rfl⟩ (ctX8_get l x _ _ _) rfl (fun v34 M34 => ?_)
          refine r_istore_n (pc := 37) (lf := fun v37 => [(3, v37), (1, a1), (2, a2)]) (lg := fun v37 => []) (lk := fun v37 => [(0, a0)]) E dX12_set_37 rfl (by decide) (fun _ => rfl) (fun _ => rfl) (fun _ => rfl) (fun v37 => ?_)
          refine r_aload_n (pc := 38) E dX12_set_38 rfl 0 rfl ?_
          refine r_getR (pc := 39) E fd_12_0 wf_RX12_14 dX12_set_39 (fun v39 => ?_)
          refine r_iload_n (pc := 42) E dX12_set_42 rfl 1 rfl ?_
          refine r_iload_n (pc := 43) E dX12_set_43 rfl 2 rfl ?_
          refine r_kVv (pc := 44) (As := [.int a1, .int a2]) (rest := []) E wc_X8_put wi_RX8 hd_X8_put (ci := 8) rfl wl_RX12_85 wn_X8_put ws_X8_put dX12_set_44 (by decide) (Nat.le_of_ble_eq_true rfl) ⟨rfl, rfl⟩ (ctX8_put l x _ _ _ _) rfl (fun v44 M44 => ?_)
          refine r_iload_n (pc := 47) E dX12_set_47 rfl 0 rfl ?_
          exact e_int (pc := 48) E dX12_set_48
        · exact r_sub [] [] [] rfl rfl rfl (hL26 _)
def fX12_cut_L15 (M : Mem) : Option (Int32 × Mem) :=
  some ((-2), M)
def fX12_cut (a0 : Option Nat) (a1 : Int32) (M : Mem) : Option (Int32 × Mem) :=
  if a1 < 0 then (
    fX12_cut_L15 M
  ) else (
    bo (gR M a0 12 0) fun v6 =>
    bo (gI M v6 8 1) fun v9 =>
    if a1 ≤ v9 then (
      bo (gR M a0 12 0) fun v19 =>
      bo (gI M v19 8 1) fun v22 =>
      bn (v22) fun v25 =>
      bo (gR M a0 12 0) fun v27 =>
      bo (pI M v27 8 1 a1) fun M31 =>
      some (v25, M31)
    ) else (
      fX12_cut_L15 M
    )
  )
def rmX12_cut : Room := { frames := 0, cells := 0, slots := 0, locals := 0 }
set_option maxRecDepth 100000 in
set_option maxHeartbeats 4000000 in
theorem ctX12_cut (l : Launch) (x : Cx) (a0 : Option Nat) (a1 : Int32) (M : Mem) (v : Int32) (N : Mem) (h : fX12_cut a0 a1 M = some (v, N)) : CT l yX12_cut cX12_cut 3 (some (FieldType.int)) rmX12_cut x [rv x a0, .int a1] M (some (.int v)) N := by
  refine ct_mk (enc := fun v : Int32 => some (.int v)) (li := [(1, a1)]) (ll := []) (lr := [(0, a0)]) (by decide +kernel) (by simp [lg_sl, rv_cat, cat_int, cat_long]) (by simp [flat, lv_args, rv_cat, cat_int, cat_long]) h ?_
  intro p e s m args below meth c E
  have hL15 : ∀ (M : Mem), RT p l e rmX12_cut s m args below meth c x 3 (QM below args s x (fun v : Int32 => some (.int v)) rmX12_cut.cells rmX12_cut.slots) 0 0 (fX12_cut_L15 M) 15 [] [] [] [] M := by
    intro M
    unfold fX12_cut_L15
    refine r_bipush (pc := 15) (v := (-2)) E dX12_cut_15 (by decide) ?_
    exact e_int (pc := 17) E dX12_cut_17
  show RT p l e rmX12_cut s m args below meth c x 3 (QM below args s x (fun v : Int32 => some (.int v)) rmX12_cut.cells rmX12_cut.slots) 0 0 (fX12_cut a0 a1 M) 0 [(1, a1)] [] [(0, a0)] [] M
  unfold fX12_cut
  refine r_iload_n (pc := 0) E dX12_cut_0 rfl 0 rfl ?_
  refine r_if_lt (pc := 1) (tgt := 15) E dX12_cut_1 (by decide) ?_ ?_
  · exact r_sub [] [] [] rfl rfl rfl (hL15 _)
  · refine r_iload_n (pc := 4) E dX12_cut_4 rfl 0 rfl ?_
    refine r_aload_n (pc := 5) E dX12_cut_5 rfl 0 rfl ?_
    refine r_getR (pc := 6) E fd_12_0 wf_RX12_14 dX12_cut_6 (fun v6 => ?_)
    refine r_getI (pc := 9) E fd_8_1 wf_RX12_73 dX12_cut_9 (fun v9 => ?_)
    refine r_icmp_le (pc := 12) (tgt := 18) E dX12_cut_12 (by decide) ?_ ?_
    · refine r_aload_n (pc := 18) E dX12_cut_18 rfl 0 rfl ?_
      refine r_getR (pc := 19) E fd_12_0 wf_RX12_14 dX12_cut_19 (fun v19 => ?_)
      refine r_getI (pc := 22) E fd_8_1 wf_RX12_73 dX12_cut_22 (fun v22 => ?_)
      refine r_istore_n (pc := 25) (lf := fun v25 => [(2, v25), (1, a1)]) (lg := fun v25 => []) (lk := fun v25 => [(0, a0)]) E dX12_cut_25 rfl (by decide) (fun _ => rfl) (fun _ => rfl) (fun _ => rfl) (fun v25 => ?_)
      refine r_aload_n (pc := 26) E dX12_cut_26 rfl 0 rfl ?_
      refine r_getR (pc := 27) E fd_12_0 wf_RX12_14 dX12_cut_27 (fun v27 => ?_)
      refine r_iload_n (pc := 30) E dX12_cut_30 rfl 1 rfl ?_
      refine r_putI (pc := 31) E fd_8_1 wf_RX12_73 dX12_cut_31 (Or.inl rfl) (fun M31 => ?_)
      refine r_iload_n (pc := 34) E dX12_cut_34 rfl 0 rfl ?_
      exact e_int (pc := 35) E dX12_cut_35
    · exact r_sub [] [] [] rfl rfl rfl (hL15 _)
def fX12_again_L32 (M : Mem) : Option (Int32 × Mem) :=
  some ((-2), M)
def fX12_again (a0 : Option Nat) (a1 : Int32) (a2 : Int32) (M : Mem) : Option (Int32 × Mem) :=
  if a1 < 0 then (
    fX12_again_L32 M
  ) else (
    if a2 < 0 then (
      fX12_again_L32 M
    ) else (
      bo (gR M a0 12 0) fun v10 =>
      bo (gI M v10 8 1) fun v13 =>
      if v13 < a1 then (
        fX12_again_L32 M
      ) else (
        bo (gR M a0 12 0) fun v21 =>
        bo (gI M v21 8 1) fun v24 =>
        if a2 ≤ (v24 - a1) then (
          bo (gR M a0 12 0) fun v40 =>
          bo (gI M v40 8 1) fun v43 =>
          if a2 ≤ (8000 - v43) then (
            bo (gR M a0 12 0) fun v54 =>
            bo (gR M a0 12 0) fun v58 =>
            bo (chk M v54 8) fun _ => bd (fX8_addFrom v54 v58 a1 a2 M) fun v63 M63 =>
            bo (gR M63 a0 12 0) fun v67 =>
            bo (gI M63 v67 8 1) fun v70 =>
            some (v70, M63)
          ) else (
            some ((-4), M)
          )
        ) else (
          fX12_again_L32 M
        )
      )
    )
  )
def rmX12_again : Room := { frames := 2, cells := 0, slots := 0, locals := 48 }
set_option maxRecDepth 100000 in
set_option maxHeartbeats 4000000 in
theorem ctX12_again (l : Launch) (x : Cx) (a0 : Option Nat) (a1 : Int32) (a2 : Int32) (M : Mem) (v : Int32) (N : Mem) (h : fX12_again a0 a1 a2 M = some (v, N)) : CT l yX12_again cX12_again 3 (some (FieldType.int)) rmX12_again x [rv x a0, .int a1, .int a2] M (some (.int v)) N := by
  refine ct_mk (enc := fun v : Int32 => some (.int v)) (li := [(1, a1), (2, a2)]) (ll := []) (lr := [(0, a0)]) (by decide +kernel) (by simp [lg_sl, rv_cat, cat_int, cat_long]) (by simp [flat, lv_args, rv_cat, cat_int, cat_long]) h ?_
  intro p e s m args below meth c E
  have hL32 : ∀ (M : Mem), RT p l e rmX12_again s m args below meth c x 3 (QM below args s x (fun v : Int32 => some (.int v)) rmX12_again.cells rmX12_again.slots) 0 0 (fX12_again_L32 M) 32 [] [] [] [] M := by
    intro M
    unfold fX12_again_L32
    refine r_bipush (pc := 32) (v := (-2)) E dX12_again_32 (by decide) ?_
    exact e_int (pc := 34) E dX12_again_34
  show RT p l e rmX12_again s m args below meth c x 3 (QM below args s x (fun v : Int32 => some (.int v)) rmX12_again.cells rmX12_again.slots) 0 0 (fX12_again a0 a1 a2 M) 0 [(1, a1), (2, a2)] [] [(0, a0)] [] M
  unfold fX12_again
  refine r_iload_n (pc := 0) E dX12_again_0 rfl 0 rfl ?_
  refine r_if_lt (pc := 1) (tgt := 32) E dX12_again_1 (by decide) ?_ ?_
  · exact r_sub [] [] [] rfl rfl rfl (hL32 _)
  · refine r_iload_n (pc := 4) E dX12_again_4 rfl 1 rfl ?_
    refine r_if_lt (pc := 5) (tgt := 32) E dX12_again_5 (by decide) ?_ ?_
    · exact r_sub [] [] [] rfl rfl rfl (hL32 _)
    · refine r_iload_n (pc := 8) E dX12_again_8 rfl 0 rfl ?_
      refine r_aload_n (pc := 9) E dX12_again_9 rfl 0 rfl ?_
      refine r_getR (pc := 10) E fd_12_0 wf_RX12_14 dX12_again_10 (fun v10 => ?_)
      refine r_getI (pc := 13) E fd_8_1 wf_RX12_73 dX12_again_13 (fun v13 => ?_)
      refine r_icmp_gt (pc := 16) (tgt := 32) E dX12_again_16 (by decide) ?_ ?_
      · exact r_sub [] [] [] rfl rfl rfl (hL32 _)
      · refine r_iload_n (pc := 19) E dX12_again_19 rfl 1 rfl ?_
        refine r_aload_n (pc := 20) E dX12_again_20 rfl 0 rfl ?_
        refine r_getR (pc := 21) E fd_12_0 wf_RX12_14 dX12_again_21 (fun v21 => ?_)
        refine r_getI (pc := 24) E fd_8_1 wf_RX12_73 dX12_again_24 (fun v24 => ?_)
        refine r_iload_n (pc := 27) E dX12_again_27 rfl 0 rfl ?_
        refine r_isub (pc := 28) E dX12_again_28 ?_
        refine r_icmp_le (pc := 29) (tgt := 35) E dX12_again_29 (by decide) ?_ ?_
        · refine r_iload_n (pc := 35) E dX12_again_35 rfl 1 rfl ?_
          refine r_sipush (pc := 36) (v := 8000) E dX12_again_36 (by decide) ?_
          refine r_aload_n (pc := 39) E dX12_again_39 rfl 0 rfl ?_
          refine r_getR (pc := 40) E fd_12_0 wf_RX12_14 dX12_again_40 (fun v40 => ?_)
          refine r_getI (pc := 43) E fd_8_1 wf_RX12_73 dX12_again_43 (fun v43 => ?_)
          refine r_isub (pc := 46) E dX12_again_46 ?_
          refine r_icmp_le (pc := 47) (tgt := 53) E dX12_again_47 (by decide) ?_ ?_
          · refine r_aload_n (pc := 53) E dX12_again_53 rfl 0 rfl ?_
            refine r_getR (pc := 54) E fd_12_0 wf_RX12_14 dX12_again_54 (fun v54 => ?_)
            refine r_aload_n (pc := 57) E dX12_again_57 rfl 0 rfl ?_
            refine r_getR (pc := 58) E fd_12_0 wf_RX12_14 dX12_again_58 (fun v58 => ?_)
            refine r_iload_n (pc := 61) E dX12_again_61 rfl 0 rfl ?_
            refine r_iload_n (pc := 62) E dX12_again_62 rfl 1 rfl ?_
            refine r_kVv (pc := 63) (As := [rv x v58, .int a1, .int a2]) (rest := []) E wc_X8_addFrom wi_RX8 hd_X8_addFrom (ci := 8) rfl wl_RX12_89 wn_X8_addFrom ws_X8_addFrom dX12_again_63 (by decide) (Nat.le_of_ble_eq_true rfl) ⟨rfl, rfl⟩ (ctX8_addFrom l x _ _ _ _ _) rfl (fun v63 M63 => ?_)
            refine r_aload_n (pc := 66) E dX12_again_66 rfl 0 rfl ?_
            refine r_getR (pc := 67) E fd_12_0 wf_RX12_14 dX12_again_67 (fun v67 => ?_)
            refine r_getI (pc := 70) E fd_8_1 wf_RX12_73 dX12_again_70 (fun v70 => ?_)
            exact e_int (pc := 73) E dX12_again_73
          · refine r_bipush (pc := 50) (v := (-4)) E dX12_again_50 (by decide) ?_
            exact e_int (pc := 52) E dX12_again_52
        · exact r_sub [] [] [] rfl rfl rfl (hL32 _)
def fX12_swap (a0 : Option Nat) (M : Mem) : Option (Int32 × Mem) :=
  bo (gR M a0 12 0) fun v1 =>
  bn (v1) fun v4 =>
  bo (gR M a0 12 1) fun v7 =>
  bo (pR M a0 12 0 v7) fun M10 =>
  bo (pR M10 a0 12 1 v4) fun M15 =>
  bo (gR M15 a0 12 0) fun v19 =>
  bo (gI M15 v19 8 1) fun v22 =>
  some (v22, M15)
def rmX12_swap : Room := { frames := 0, cells := 0, slots := 0, locals := 0 }
set_option maxRecDepth 100000 in
set_option maxHeartbeats 4000000 in
theorem ctX12_swap (l : Launch) (x : Cx) (a0 : Option Nat) (M : Mem) (v : Int32) (N : Mem) (h : fX12_swap a0 M = some (v, N)) : CT l yX12_swap cX12_swap 2 (some (FieldType.int)) rmX12_swap x [rv x a0] M (some (.int v)) N := by
  refine ct_mk (enc := fun v : Int32 => some (.int v)) (li := []) (ll := []) (lr := [(0, a0)]) (by decide +kernel) (by simp [lg_sl, rv_cat, cat_int, cat_long]) (by simp [flat, lv_args, rv_cat, cat_int, cat_long]) h ?_
  intro p e s m args below meth c E
  show RT p l e rmX12_swap s m args below meth c x 2 (QM below args s x (fun v : Int32 => some (.int v)) rmX12_swap.cells rmX12_swap.slots) 0 0 (fX12_swap a0 M) 0 [] [] [(0, a0)] [] M
  unfold fX12_swap
  refine r_aload_n (pc := 0) E dX12_swap_0 rfl 0 rfl ?_
  refine r_getR (pc := 1) E fd_12_0 wf_RX12_14 dX12_swap_1 (fun v1 => ?_)
  refine r_astore_n (pc := 4) (lf := fun v4 => []) (lg := fun v4 => []) (lk := fun v4 => [(1, v4), (0, a0)]) E dX12_swap_4 rfl (by decide) (fun _ => rfl) (fun _ => rfl) (fun _ => rfl) (fun v4 => ?_)
  refine r_aload_n (pc := 5) E dX12_swap_5 rfl 1 rfl ?_
  refine r_aload_n (pc := 6) E dX12_swap_6 rfl 1 rfl ?_
  refine r_getR (pc := 7) E fd_12_1 wf_RX12_18 dX12_swap_7 (fun v7 => ?_)
  refine r_putR (pc := 10) E fd_12_0 wf_RX12_14 dX12_swap_10 (Or.inl rfl) (fun M10 => ?_)
  refine r_aload_n (pc := 13) E dX12_swap_13 rfl 1 rfl ?_
  refine r_aload_n (pc := 14) E dX12_swap_14 rfl 0 rfl ?_
  refine r_putR (pc := 15) E fd_12_1 wf_RX12_18 dX12_swap_15 (Or.inl rfl) (fun M15 => ?_)
  refine r_aload_n (pc := 18) E dX12_swap_18 rfl 1 rfl ?_
  refine r_getR (pc := 19) E fd_12_0 wf_RX12_14 dX12_swap_19 (fun v19 => ?_)
  refine r_getI (pc := 22) E fd_8_1 wf_RX12_73 dX12_swap_22 (fun v22 => ?_)
  exact e_int (pc := 25) E dX12_swap_25
def fX12_differ_L66 (p2 : Int32) (M : Mem) : Option (Int32 × Mem) :=
  some (p2, M)
def fX12_differ_B20 (k20 : Option Nat × Int32 × Int32 → Mem → Option (Int32 × Mem)) (p0 : Option Nat) (p1 : Int32) (p2 : Int32) (M : Mem) : Option (Int32 × Mem) :=
  if p1 ≤ p2 then (
    some ((-3), M)
  ) else (
    bo (gR M p0 12 0) fun v27 =>
    bo (gI M v27 8 1) fun v30 =>
    if v30 ≤ p2 then (
      fX12_differ_L66 p2 M
    ) else (
      bo (gR M p0 12 1) fun v38 =>
      bo (gI M v38 8 1) fun v41 =>
      if v41 ≤ p2 then (
        fX12_differ_L66 p2 M
      ) else (
        bo (gR M p0 12 0) fun v48 =>
        bo (chk M v48 8) fun _ => bd (fX8_get v48 p2 M) fun v52 M52 =>
        bo (gR M52 p0 12 1) fun v56 =>
        bo (chk M52 v56 8) fun _ => bd (fX8_get v56 p2 M52) fun v60 M60 =>
        if v52 = v60 then (
          bn (p2 + 1) fun v68 =>
          k20 ((p0, p1, v68)) M60
        ) else (
          fX12_differ_L66 p2 M60
        )
      )
    )
  )
def fX12_differ_L20 (p0 : Option Nat) (p1 : Int32) (p2 : Int32) (M : Mem) : Option (Int32 × Mem) :=
  lp (fun k20 (a : Option Nat × Int32 × Int32) M => fX12_differ_B20 k20 a.1 a.2.1 a.2.2 M) FU ((p0, p1, p2)) M
def fX12_differ (a0 : Option Nat) (M : Mem) : Option (Int32 × Mem) :=
  bo (gR M a0 12 0) fun v1 =>
  bo (gI M v1 8 1) fun v4 =>
  bo (gR M a0 12 1) fun v8 =>
  bo (gI M v8 8 1) fun v11 =>
  bn (maxI v4 v11) fun v17 =>
  bn (0) fun v19 =>
  fX12_differ_L20 a0 v17 v19 M
def rmX12_differ : Room := { frames := 1, cells := 0, slots := 0, locals := 23 }
set_option maxRecDepth 100000 in
set_option maxHeartbeats 4000000 in
theorem ctX12_differ (l : Launch) (x : Cx) (a0 : Option Nat) (M : Mem) (v : Int32) (N : Mem) (h : fX12_differ a0 M = some (v, N)) : CT l yX12_differ cX12_differ 3 (some (FieldType.int)) rmX12_differ x [rv x a0] M (some (.int v)) N := by
  refine ct_mk (enc := fun v : Int32 => some (.int v)) (li := []) (ll := []) (lr := [(0, a0)]) (by decide +kernel) (by simp [lg_sl, rv_cat, cat_int, cat_long]) (by simp [flat, lv_args, rv_cat, cat_int, cat_long]) h ?_
  intro p e s m args below meth c E
  have hL66 : ∀ (p2 : Int32) (M : Mem), RT p l e rmX12_differ s m args below meth c x 3 (QM below args s x (fun v : Int32 => some (.int v)) rmX12_differ.cells rmX12_differ.slots) 0 0 (fX12_differ_L66 p2 M) 66 [(2, p2)] [] [] [] M := by
    intro p2 M
    unfold fX12_differ_L66
    refine r_iload_n (pc := 66) E dX12_differ_66 rfl 0 rfl ?_
    exact e_int (pc := 67) E dX12_differ_67
  have hL20 : ∀ (p0 : Option Nat) (p1 : Int32) (p2 : Int32) (M : Mem), RT p l e rmX12_differ s m args below meth c x 3 (QM below args s x (fun v : Int32 => some (.int v)) rmX12_differ.cells rmX12_differ.slots) 0 0 (fX12_differ_L20 p0 p1 p2 M) 20 [(1, p1), (2, p2)] [] [(0, p0)] [] M := by
    intro p0 p1 p2 M
    refine r_lp (fi := fun a : Option Nat × Int32 × Int32 => [(1, a.2.1), (2, a.2.2)]) (fl := fun a : Option Nat × Int32 × Int32 => []) (fr := fun a : Option Nat × Int32 × Int32 => [(0, a.1)]) (fs := fun a : Option Nat × Int32 × Int32 => []) ?_ FU ((p0, p1, p2)) M
    intro k20 hk20 a M
    obtain ⟨p0, p1, p2⟩ := a
    show RT p l e rmX12_differ s m args below meth c x 3 (QM below args s x (fun v : Int32 => some (.int v)) rmX12_differ.cells rmX12_differ.slots) 0 0 (fX12_differ_B20 k20 p0 p1 p2 M) 20 [(1, p1), (2, p2)] [] [(0, p0)] [] M
    unfold fX12_differ_B20
    refine r_iload_n (pc := 20) E dX12_differ_20 rfl 1 rfl ?_
    refine r_iload_n (pc := 21) E dX12_differ_21 rfl 0 rfl ?_
    refine r_icmp_ge (pc := 22) (tgt := 74) E dX12_differ_22 (by decide) ?_ ?_
    · refine r_bipush (pc := 74) (v := (-3)) E dX12_differ_74 (by decide) ?_
      exact e_int (pc := 76) E dX12_differ_76
    · refine r_iload_n (pc := 25) E dX12_differ_25 rfl 1 rfl ?_
      refine r_aload_n (pc := 26) E dX12_differ_26 rfl 0 rfl ?_
      refine r_getR (pc := 27) E fd_12_0 wf_RX12_14 dX12_differ_27 (fun v27 => ?_)
      refine r_getI (pc := 30) E fd_8_1 wf_RX12_73 dX12_differ_30 (fun v30 => ?_)
      refine r_icmp_ge (pc := 33) (tgt := 66) E dX12_differ_33 (by decide) ?_ ?_
      · exact r_sub [1] [] [] rfl rfl rfl (hL66 p2 _)
      · refine r_iload_n (pc := 36) E dX12_differ_36 rfl 1 rfl ?_
        refine r_aload_n (pc := 37) E dX12_differ_37 rfl 0 rfl ?_
        refine r_getR (pc := 38) E fd_12_1 wf_RX12_18 dX12_differ_38 (fun v38 => ?_)
        refine r_getI (pc := 41) E fd_8_1 wf_RX12_73 dX12_differ_41 (fun v41 => ?_)
        refine r_icmp_ge (pc := 44) (tgt := 66) E dX12_differ_44 (by decide) ?_ ?_
        · exact r_sub [1] [] [] rfl rfl rfl (hL66 p2 _)
        · refine r_aload_n (pc := 47) E dX12_differ_47 rfl 0 rfl ?_
          refine r_getR (pc := 48) E fd_12_0 wf_RX12_14 dX12_differ_48 (fun v48 => ?_)
          refine r_iload_n (pc := 51) E dX12_differ_51 rfl 1 rfl ?_
          refine r_kVi (pc := 52) (As := [.int p2]) (rest := []) E wc_X8_get wi_RX8 hd_X8_get (ci := 8) rfl wl_RX12_81 wn_X8_get ws_X8_get dX12_differ_52 (by decide) (Nat.le_of_ble_eq_true rfl) ⟨rfl, rfl⟩ (ctX8_get l x _ _ _) rfl (fun v52 M52 => ?_)
          refine r_aload_n (pc := 55) E dX12_differ_55 rfl 0 rfl ?_
          refine r_getR (pc := 56) E fd_12_1 wf_RX12_18 dX12_differ_56 (fun v56 => ?_)
          refine r_iload_n (pc := 59) E dX12_differ_59 rfl 1 rfl ?_
          refine r_kVi (pc := 60) (As := [.int p2]) (rest := [.int v52]) E wc_X8_get wi_RX8 hd_X8_get (ci := 8) rfl wl_RX12_81 wn_X8_get ws_X8_get dX12_differ_60 (by decide) (Nat.le_of_ble_eq_true rfl) ⟨rfl, rfl⟩ (ctX8_get l x _ _ _) rfl (fun v60 M60 => ?_)
          refine r_icmp_eq (pc := 63) (tgt := 68) E dX12_differ_63 (by decide) ?_ ?_
          · refine r_iinc (pc := 68) (w := 1) (lf := fun v68 => [(2, v68), (1, p1)]) (ll' := []) (lr' := [(0, p0)]) E dX12_differ_68 1 rfl (by decide) (by decide) (fun _ => rfl) rfl rfl (fun v68 => ?_)
            refine r_goto (pc := 71) (tgt := 20) E dX12_differ_71 (by decide) ?_
            exact r_sub [1, 0] [] [0] rfl rfl rfl (hk20 ((p0, p1, v68)) _)
          · exact r_sub [1] [] [] rfl rfl rfl (hL66 p2 _)
  show RT p l e rmX12_differ s m args below meth c x 3 (QM below args s x (fun v : Int32 => some (.int v)) rmX12_differ.cells rmX12_differ.slots) 0 0 (fX12_differ a0 M) 0 [] [] [(0, a0)] [] M
  unfold fX12_differ
  refine r_aload_n (pc := 0) E dX12_differ_0 rfl 0 rfl ?_
  refine r_getR (pc := 1) E fd_12_0 wf_RX12_14 dX12_differ_1 (fun v1 => ?_)
  refine r_getI (pc := 4) E fd_8_1 wf_RX12_73 dX12_differ_4 (fun v4 => ?_)
  refine r_aload_n (pc := 7) E dX12_differ_7 rfl 0 rfl ?_
  refine r_getR (pc := 8) E fd_12_1 wf_RX12_18 dX12_differ_8 (fun v8 => ?_)
  refine r_getI (pc := 11) E fd_8_1 wf_RX12_73 dX12_differ_11 (fun v11 => ?_)
  refine r_mmax (pc := 14) E wl_RX12_93 wm_smax wi_math wm_cmax dX12_differ_14 (by decide) (Nat.le_of_ble_eq_true rfl) ?_
  refine r_istore_n (pc := 17) (lf := fun v17 => [(1, v17)]) (lg := fun v17 => []) (lk := fun v17 => [(0, a0)]) E dX12_differ_17 rfl (by decide) (fun _ => rfl) (fun _ => rfl) (fun _ => rfl) (fun v17 => ?_)
  refine r_iconst (pc := 18) (v := 0) E dX12_differ_18 (by decide) ?_
  refine r_istore_n (pc := 19) (lf := fun v19 => [(2, v19), (1, v17)]) (lg := fun v19 => []) (lk := fun v19 => [(0, a0)]) E dX12_differ_19 rfl (by decide) (fun _ => rfl) (fun _ => rfl) (fun _ => rfl) (fun v19 => ?_)
  exact r_sub [1, 0] [] [0] rfl rfl rfl (hL20 a0 v17 v19 _)
def fX12_unusedDictionary_L44 (k2 : Option Nat × Int32 → Mem → Option (Option Nat × Mem)) (p0 : Option Nat) (p1 : Int32) (M : Mem) : Option (Option Nat × Mem) :=
  bn (p1 + 1) fun v44 =>
  k2 ((p0, v44)) M
def fX12_unusedDictionary_B2 (k2 : Option Nat × Int32 → Mem → Option (Option Nat × Mem)) (p0 : Option Nat) (p1 : Int32) (M : Mem) : Option (Option Nat × Mem) :=
  bo (gR M p0 12 5) fun v4 =>
  bo (aL M v4) fun v7 =>
  if v7 ≤ p1 then (
    bo (gR M p0 12 5) fun v51 =>
    bo (aR M v51 19 0) fun v55 =>
    some (v55, M)
  ) else (
    bo (gR M p0 12 5) fun v12 =>
    bo (aR M v12 19 p1) fun v16 =>
    bo (gR M p0 12 8) fun v18 =>
    bo (chN M v16 2) fun _ => bo (chN M v18 2) fun _ =>
    if v16 = v18 then (
      fX12_unusedDictionary_L44 k2 p0 p1 M
    ) else (
      bo (gR M p0 12 5) fun v25 =>
      bo (aR M v25 19 p1) fun v29 =>
      bo (gR M p0 12 9) fun v31 =>
      bo (chN M v29 2) fun _ => bo (chN M v31 2) fun _ =>
      if v29 = v31 then (
        fX12_unusedDictionary_L44 k2 p0 p1 M
      ) else (
        bo (gR M p0 12 5) fun v38 =>
        bo (aR M v38 19 p1) fun v42 =>
        some (v42, M)
      )
    )
  )
def fX12_unusedDictionary_L2 (p0 : Option Nat) (p1 : Int32) (M : Mem) : Option (Option Nat × Mem) :=
  lp (fun k2 (a : Option Nat × Int32) M => fX12_unusedDictionary_B2 k2 a.1 a.2 M) FU ((p0, p1)) M
def fX12_unusedDictionary (a0 : Option Nat) (M : Mem) : Option (Option Nat × Mem) :=
  bn (1) fun v1 =>
  fX12_unusedDictionary_L2 a0 v1 M
def rmX12_unusedDictionary : Room := { frames := 0, cells := 0, slots := 0, locals := 0 }
set_option maxRecDepth 100000 in
set_option maxHeartbeats 4000000 in
theorem ctX12_unusedDictionary (l : Launch) (x : Cx) (a0 : Option Nat) (M : Mem) (v : Option Nat) (N : Mem) (h : fX12_unusedDictionary a0 M = some (v, N)) : CT l yX12_unusedDictionary cX12_unusedDictionary 2 (some ((FieldType.object "TabledFrames$Dictionary"))) rmX12_unusedDictionary x [rv x a0] M (some (rv x v)) N := by
  refine ct_mk (enc := fun v : Option Nat => some (rv x v)) (li := []) (ll := []) (lr := [(0, a0)]) (by decide +kernel) (by simp [lg_sl, rv_cat, cat_int, cat_long]) (by simp [flat, lv_args, rv_cat, cat_int, cat_long]) h ?_
  intro p e s m args below meth c E
  have hL44 : ∀ (k2 : Option Nat × Int32 → Mem → Option (Option Nat × Mem)) (hk2 : ∀ a M, RT p l e rmX12_unusedDictionary s m args below meth c x 2 (QM below args s x (fun v : Option Nat => some (rv x v)) rmX12_unusedDictionary.cells rmX12_unusedDictionary.slots) 0 0 (k2 a M) 2 [(1, a.2)] [] [(0, a.1)] [] M) (p0 : Option Nat) (p1 : Int32) (M : Mem), RT p l e rmX12_unusedDictionary s m args below meth c x 2 (QM below args s x (fun v : Option Nat => some (rv x v)) rmX12_unusedDictionary.cells rmX12_unusedDictionary.slots) 0 0 (fX12_unusedDictionary_L44 k2 p0 p1 M) 44 [(1, p1)] [] [(0, p0)] [] M := by
    intro k2 hk2 p0 p1 M
    unfold fX12_unusedDictionary_L44
    refine r_iinc (pc := 44) (w := 1) (lf := fun v44 => [(1, v44)]) (ll' := []) (lr' := [(0, p0)]) E dX12_unusedDictionary_44 0 rfl (by decide) (by decide) (fun _ => rfl) rfl rfl (fun v44 => ?_)
    refine r_goto (pc := 47) (tgt := 2) E dX12_unusedDictionary_47 (by decide) ?_
    exact r_sub [0] [] [0] rfl rfl rfl (hk2 ((p0, v44)) _)
  have hL2 : ∀ (p0 : Option Nat) (p1 : Int32) (M : Mem), RT p l e rmX12_unusedDictionary s m args below meth c x 2 (QM below args s x (fun v : Option Nat => some (rv x v)) rmX12_unusedDictionary.cells rmX12_unusedDictionary.slots) 0 0 (fX12_unusedDictionary_L2 p0 p1 M) 2 [(1, p1)] [] [(0, p0)] [] M := by
    intro p0 p1 M
    refine r_lp (fi := fun a : Option Nat × Int32 => [(1, a.2)]) (fl := fun a : Option Nat × Int32 => []) (fr := fun a : Option Nat × Int32 => [(0, a.1)]) (fs := fun a : Option Nat × Int32 => []) ?_ FU ((p0, p1)) M
    intro k2 hk2 a M
    obtain ⟨p0, p1⟩ := a
    show RT p l e rmX12_unusedDictionary s m args below meth c x 2 (QM below args s x (fun v : Option Nat => some (rv x v)) rmX12_unusedDictionary.cells rmX12_unusedDictionary.slots) 0 0 (fX12_unusedDictionary_B2 k2 p0 p1 M) 2 [(1, p1)] [] [(0, p0)] [] M
    unfold fX12_unusedDictionary_B2
    refine r_iload_n (pc := 2) E dX12_unusedDictionary_2 rfl 0 rfl ?_
    refine r_aload_n (pc := 3) E dX12_unusedDictionary_3 rfl 0 rfl ?_
    refine r_getA (pc := 4) E fd_12_5 wf_RX12_40 dX12_unusedDictionary_4 (fun v4 => ?_)
    refine r_alen (pc := 7) E dX12_unusedDictionary_7 (fun v7 => ?_)
    refine r_icmp_ge (pc := 8) (tgt := 50) E dX12_unusedDictionary_8 (by decide) ?_ ?_
    · refine r_aload_n (pc := 50) E dX12_unusedDictionary_50 rfl 0 rfl ?_
      refine r_getA (pc := 51) E fd_12_5 wf_RX12_40 dX12_unusedDictionary_51 (fun v51 => ?_)
      refine r_iconst (pc := 54) (v := 0) E dX12_unusedDictionary_54 (by decide) ?_
      refine r_aaload19 (pc := 55) E dX12_unusedDictionary_55 (fun v55 => ?_)
      exact e_ref (pc := 56) E (Or.inl ⟨_, rfl⟩) dX12_unusedDictionary_56
    · refine r_aload_n (pc := 11) E dX12_unusedDictionary_11 rfl 0 rfl ?_
      refine r_getA (pc := 12) E fd_12_5 wf_RX12_40 dX12_unusedDictionary_12 (fun v12 => ?_)
      refine r_iload_n (pc := 15) E dX12_unusedDictionary_15 rfl 0 rfl ?_
      refine r_aaload19 (pc := 16) E dX12_unusedDictionary_16 (fun v16 => ?_)
      refine r_aload_n (pc := 17) E dX12_unusedDictionary_17 rfl 0 rfl ?_
      refine r_getR (pc := 18) E fd_12_8 wf_RX12_107 dX12_unusedDictionary_18 (fun v18 => ?_)
      refine r_acmp_eq (pc := 21) (kd := 2) (tgt := 44) E (by decide) dX12_unusedDictionary_21 (by decide) ?_ ?_
      · exact r_sub [0] [] [0] rfl rfl rfl (hL44 k2 hk2 p0 p1 _)
      · refine r_aload_n (pc := 24) E dX12_unusedDictionary_24 rfl 0 rfl ?_
        refine r_getA (pc := 25) E fd_12_5 wf_RX12_40 dX12_unusedDictionary_25 (fun v25 => ?_)
        refine r_iload_n (pc := 28) E dX12_unusedDictionary_28 rfl 0 rfl ?_
        refine r_aaload19 (pc := 29) E dX12_unusedDictionary_29 (fun v29 => ?_)
        refine r_aload_n (pc := 30) E dX12_unusedDictionary_30 rfl 0 rfl ?_
        refine r_getR (pc := 31) E fd_12_9 wf_RX12_118 dX12_unusedDictionary_31 (fun v31 => ?_)
        refine r_acmp_eq (pc := 34) (kd := 2) (tgt := 44) E (by decide) dX12_unusedDictionary_34 (by decide) ?_ ?_
        · exact r_sub [0] [] [0] rfl rfl rfl (hL44 k2 hk2 p0 p1 _)
        · refine r_aload_n (pc := 37) E dX12_unusedDictionary_37 rfl 0 rfl ?_
          refine r_getA (pc := 38) E fd_12_5 wf_RX12_40 dX12_unusedDictionary_38 (fun v38 => ?_)
          refine r_iload_n (pc := 41) E dX12_unusedDictionary_41 rfl 0 rfl ?_
          refine r_aaload19 (pc := 42) E dX12_unusedDictionary_42 (fun v42 => ?_)
          exact e_ref (pc := 43) E (Or.inl ⟨_, rfl⟩) dX12_unusedDictionary_43
  show RT p l e rmX12_unusedDictionary s m args below meth c x 2 (QM below args s x (fun v : Option Nat => some (rv x v)) rmX12_unusedDictionary.cells rmX12_unusedDictionary.slots) 0 0 (fX12_unusedDictionary a0 M) 0 [] [] [(0, a0)] [] M
  unfold fX12_unusedDictionary
  refine r_iconst (pc := 0) (v := 1) E dX12_unusedDictionary_0 (by decide) ?_
  refine r_istore_n (pc := 1) (lf := fun v1 => [(1, v1)]) (lg := fun v1 => []) (lk := fun v1 => [(0, a0)]) E dX12_unusedDictionary_1 rfl (by decide) (fun _ => rfl) (fun _ => rfl) (fun _ => rfl) (fun v1 => ?_)
  exact r_sub [0] [] [0] rfl rfl rfl (hL2 a0 v1 _)
def fX12_keep (a0 : Option Nat) (M : Mem) : Option (Int32 × Mem) :=
  bo (chk M a0 12) fun _ => bd (fX12_unusedDictionary a0 M) fun v1 M1 =>
  bn (v1) fun v4 =>
  bo (gR M1 a0 12 0) fun v7 =>
  bo (gR M1 a0 12 3) fun v11 =>
  bo (chk M1 v4 2) fun _ => bd (fX2_read v4 v7 v11 M1) fun v14 M14 =>
  if v14 = 0 then (
    bo (pI M14 a0 12 10 0) fun M22 =>
    some ((-31), M22)
  ) else (
    bo (gR M14 a0 12 0) fun v29 =>
    bo (gI M14 v29 8 1) fun v32 =>
    if v32 ≤ 3000 then (
      bo (pI M14 a0 12 10 ((-1))) fun M46 =>
      bo (gR M46 a0 12 0) fun v50 =>
      bo (gI M46 v50 8 1) fun v53 =>
      if v53 = 0 then (
        bo (pR M46 a0 12 8 none) fun M61 =>
        some (0, M61)
      ) else (
        bo (gR M46 a0 12 0) fun v68 =>
        bo (chk M46 v4 2) fun _ => bd (fX2_takeContent v4 v68 M46) fun v71 M71 =>
        bo (pR M71 a0 12 8 v4) fun M76 =>
        bo (gI M76 v4 2 0) fun v80 =>
        some (v80, M76)
      )
    ) else (
      some ((-4), M14)
    )
  )
def rmX12_keep : Room := { frames := 5, cells := 0, slots := 0, locals := 134 }
set_option maxRecDepth 100000 in
set_option maxHeartbeats 4000000 in
theorem ctX12_keep (l : Launch) (x : Cx) (a0 : Option Nat) (M : Mem) (v : Int32) (N : Mem) (h : fX12_keep a0 M = some (v, N)) : CT l yX12_keep cX12_keep 2 (some (FieldType.int)) rmX12_keep x [rv x a0] M (some (.int v)) N := by
  refine ct_mk (enc := fun v : Int32 => some (.int v)) (li := []) (ll := []) (lr := [(0, a0)]) (by decide +kernel) (by simp [lg_sl, rv_cat, cat_int, cat_long]) (by simp [flat, lv_args, rv_cat, cat_int, cat_long]) h ?_
  intro p e s m args below meth c E
  show RT p l e rmX12_keep s m args below meth c x 2 (QM below args s x (fun v : Int32 => some (.int v)) rmX12_keep.cells rmX12_keep.slots) 0 0 (fX12_keep a0 M) 0 [] [] [(0, a0)] [] M
  unfold fX12_keep
  refine r_aload_n (pc := 0) E dX12_keep_0 rfl 0 rfl ?_
  refine r_kVr (pc := 1) (As := []) (rest := []) E wc_X12_unusedDictionary wi_RX12 hd_X12_unusedDictionary (ci := 12) rfl wl_RX12_99 wn_X12_unusedDictionary ws_X12_unusedDictionary dX12_keep_1 (by decide) (Nat.le_of_ble_eq_true rfl) ⟨rfl, rfl⟩ (ctX12_unusedDictionary l x _ _) rfl (fun v1 M1 => ?_)
  refine r_astore_n (pc := 4) (lf := fun v4 => []) (lg := fun v4 => []) (lk := fun v4 => [(1, v4), (0, a0)]) E dX12_keep_4 rfl (by decide) (fun _ => rfl) (fun _ => rfl) (fun _ => rfl) (fun v4 => ?_)
  refine r_aload_n (pc := 5) E dX12_keep_5 rfl 0 rfl ?_
  refine r_aload_n (pc := 6) E dX12_keep_6 rfl 1 rfl ?_
  refine r_getR (pc := 7) E fd_12_0 wf_RX12_14 dX12_keep_7 (fun v7 => ?_)
  refine r_aload_n (pc := 10) E dX12_keep_10 rfl 1 rfl ?_
  refine r_getR (pc := 11) E fd_12_3 wf_RX12_27 dX12_keep_11 (fun v11 => ?_)
  refine r_kVi (pc := 14) (As := [rv x v7, rv x v11]) (rest := []) E wc_X2_read wi_RX2 hd_X2_read (ci := 2) rfl wl_RX12_103 wn_X2_read ws_X2_read dX12_keep_14 (by decide) (Nat.le_of_ble_eq_true rfl) ⟨rfl, rfl⟩ (ctX2_read l x _ _ _ _) rfl (fun v14 M14 => ?_)
  refine r_if_ne (pc := 17) (tgt := 28) E dX12_keep_17 (by decide) ?_ ?_
  · refine r_aload_n (pc := 28) E dX12_keep_28 rfl 1 rfl ?_
    refine r_getR (pc := 29) E fd_12_0 wf_RX12_14 dX12_keep_29 (fun v29 => ?_)
    refine r_getI (pc := 32) E fd_8_1 wf_RX12_73 dX12_keep_32 (fun v32 => ?_)
    refine r_sipush (pc := 35) (v := 3000) E dX12_keep_35 (by decide) ?_
    refine r_icmp_le (pc := 38) (tgt := 44) E dX12_keep_38 (by decide) ?_ ?_
    · refine r_aload_n (pc := 44) E dX12_keep_44 rfl 1 rfl ?_
      refine r_iconst (pc := 45) (v := (-1)) E dX12_keep_45 (by decide) ?_
      refine r_putI (pc := 46) E fd_12_10 wf_RX12_44 dX12_keep_46 (Or.inl rfl) (fun M46 => ?_)
      refine r_aload_n (pc := 49) E dX12_keep_49 rfl 1 rfl ?_
      refine r_getR (pc := 50) E fd_12_0 wf_RX12_14 dX12_keep_50 (fun v50 => ?_)
      refine r_getI (pc := 53) E fd_8_1 wf_RX12_73 dX12_keep_53 (fun v53 => ?_)
      refine r_if_ne (pc := 56) (tgt := 66) E dX12_keep_56 (by decide) ?_ ?_
      · refine r_aload_n (pc := 66) E dX12_keep_66 rfl 0 rfl ?_
        refine r_aload_n (pc := 67) E dX12_keep_67 rfl 1 rfl ?_
        refine r_getR (pc := 68) E fd_12_0 wf_RX12_14 dX12_keep_68 (fun v68 => ?_)
        refine r_kVv (pc := 71) (As := [rv x v68]) (rest := []) E wc_X2_takeContent wi_RX2 hd_X2_takeContent (ci := 2) rfl wl_RX12_111 wn_X2_takeContent ws_X2_takeContent dX12_keep_71 (by decide) (Nat.le_of_ble_eq_true rfl) ⟨rfl, rfl⟩ (ctX2_takeContent l x _ _ _) rfl (fun v71 M71 => ?_)
        refine r_aload_n (pc := 74) E dX12_keep_74 rfl 1 rfl ?_
        refine r_aload_n (pc := 75) E dX12_keep_75 rfl 0 rfl ?_
        refine r_putR (pc := 76) E fd_12_8 wf_RX12_107 dX12_keep_76 (Or.inl rfl) (fun M76 => ?_)
        refine r_aload_n (pc := 79) E dX12_keep_79 rfl 0 rfl ?_
        refine r_getI (pc := 80) E fd_2_0 wf_RX12_115 dX12_keep_80 (fun v80 => ?_)
        exact e_int (pc := 83) E dX12_keep_83
      · refine r_aload_n (pc := 59) E dX12_keep_59 rfl 1 rfl ?_
        refine r_null (pc := 60) E dX12_keep_60 ?_
        refine r_putR (pc := 61) E fd_12_8 wf_RX12_107 dX12_keep_61 (Or.inl rfl) (fun M61 => ?_)
        refine r_iconst (pc := 64) (v := 0) E dX12_keep_64 (by decide) ?_
        exact e_int (pc := 65) E dX12_keep_65
    · refine r_bipush (pc := 41) (v := (-4)) E dX12_keep_41 (by decide) ?_
      exact e_int (pc := 43) E dX12_keep_43
  · refine r_aload_n (pc := 20) E dX12_keep_20 rfl 1 rfl ?_
    refine r_iconst (pc := 21) (v := 0) E dX12_keep_21 (by decide) ?_
    refine r_putI (pc := 22) E fd_12_10 wf_RX12_44 dX12_keep_22 (Or.inl rfl) (fun M22 => ?_)
    refine r_bipush (pc := 25) (v := (-31)) E dX12_keep_25 (by decide) ?_
    exact e_int (pc := 27) E dX12_keep_27
def fX12_spareCameOut (a0 : Option Nat) (M : Mem) : Option (Unit × Mem) :=
  bo (gR M a0 12 1) fun v1 =>
  bn (v1) fun v4 =>
  bo (gR M a0 12 2) fun v7 =>
  bo (pR M a0 12 1 v7) fun M10 =>
  bo (pR M10 a0 12 2 v4) fun M15 =>
  some ((), M15)
def rmX12_spareCameOut : Room := { frames := 0, cells := 0, slots := 0, locals := 0 }
set_option maxRecDepth 100000 in
set_option maxHeartbeats 4000000 in
theorem ctX12_spareCameOut (l : Launch) (x : Cx) (a0 : Option Nat) (M : Mem) (v : Unit) (N : Mem) (h : fX12_spareCameOut a0 M = some (v, N)) : CT l yX12_spareCameOut cX12_spareCameOut 2 (none) rmX12_spareCameOut x [rv x a0] M none N := by
  refine ct_mk (enc := fun _ : Unit => none) (li := []) (ll := []) (lr := [(0, a0)]) (by decide +kernel) (by simp [lg_sl, rv_cat, cat_int, cat_long]) (by simp [flat, lv_args, rv_cat, cat_int, cat_long]) h ?_
  intro p e s m args below meth c E
  show RT p l e rmX12_spareCameOut s m args below meth c x 2 (QM below args s x (fun _ : Unit => none) rmX12_spareCameOut.cells rmX12_spareCameOut.slots) 0 0 (fX12_spareCameOut a0 M) 0 [] [] [(0, a0)] [] M
  unfold fX12_spareCameOut
  refine r_aload_n (pc := 0) E dX12_spareCameOut_0 rfl 0 rfl ?_
  refine r_getR (pc := 1) E fd_12_1 wf_RX12_18 dX12_spareCameOut_1 (fun v1 => ?_)
  refine r_astore_n (pc := 4) (lf := fun v4 => []) (lg := fun v4 => []) (lk := fun v4 => [(1, v4), (0, a0)]) E dX12_spareCameOut_4 rfl (by decide) (fun _ => rfl) (fun _ => rfl) (fun _ => rfl) (fun v4 => ?_)
  refine r_aload_n (pc := 5) E dX12_spareCameOut_5 rfl 1 rfl ?_
  refine r_aload_n (pc := 6) E dX12_spareCameOut_6 rfl 1 rfl ?_
  refine r_getR (pc := 7) E fd_12_2 wf_RX12_21 dX12_spareCameOut_7 (fun v7 => ?_)
  refine r_putR (pc := 10) E fd_12_1 wf_RX12_18 dX12_spareCameOut_10 (Or.inl rfl) (fun M10 => ?_)
  refine r_aload_n (pc := 13) E dX12_spareCameOut_13 rfl 1 rfl ?_
  refine r_aload_n (pc := 14) E dX12_spareCameOut_14 rfl 0 rfl ?_
  refine r_putR (pc := 15) E fd_12_2 wf_RX12_21 dX12_spareCameOut_15 (Or.inl rfl) (fun M15 => ?_)
  exact e_void (pc := 18) E dX12_spareCameOut_18
def fX12_open (a0 : Option Nat) (a1 : Int64) (M : Mem) : Option (Int32 × Mem) :=
  if 0 ≤ (lg_cmp a1 0) then (
    bo (gR M a0 12 8) fun v11 =>
    bo (pR M a0 12 9 v11) fun M14 =>
    bo (gR M14 a0 12 6) fun v18 =>
    bo (gR M14 a0 12 0) fun v22 =>
    bo (gR M14 a0 12 2) fun v26 =>
    bo (gR M14 a0 12 8) fun v30 =>
    bo (chk M14 v18 5) fun _ => bd (fX5_openAll v18 v22 v26 v30 a1 M14) fun v34 M34 =>
    if v34 = 0 then (
      bo (gR M34 a0 12 4) fun v42 =>
      bo (gI M34 v42 7 1) fun v45 =>
      bo (pI M34 a0 12 10 v45) fun M48 =>
      bo (gR M48 a0 12 4) fun v54 =>
      bo (gI M48 v54 7 0) fun v57 =>
      some (((-10)) - v57, M48)
    ) else (
      bo (pI M34 a0 12 10 ((-1))) fun M64 =>
      bo (chk M64 a0 12) fun _ => bd (fX12_spareCameOut a0 M64) fun v68 M68 =>
      bo (gR M68 a0 12 1) fun v72 =>
      bo (gI M68 v72 8 1) fun v75 =>
      some (v75, M68)
    )
  ) else (
    some ((-2), M)
  )
def rmX12_open : Room := { frames := 7, cells := 0, slots := 0, locals := 184 }
set_option maxRecDepth 100000 in
set_option maxHeartbeats 4000000 in
theorem ctX12_open (l : Launch) (x : Cx) (a0 : Option Nat) (a1 : Int64) (M : Mem) (v : Int32) (N : Mem) (h : fX12_open a0 a1 M = some (v, N)) : CT l yX12_open cX12_open 3 (some (FieldType.int)) rmX12_open x [rv x a0, .long a1] M (some (.int v)) N := by
  refine ct_mk (enc := fun v : Int32 => some (.int v)) (li := []) (ll := [(1, a1)]) (lr := [(0, a0)]) (by decide +kernel) (by simp [lg_sl, rv_cat, cat_int, cat_long]) (by simp [flat, lv_args, rv_cat, cat_int, cat_long]) h ?_
  intro p e s m args below meth c E
  show RT p l e rmX12_open s m args below meth c x 3 (QM below args s x (fun v : Int32 => some (.int v)) rmX12_open.cells rmX12_open.slots) 0 0 (fX12_open a0 a1 M) 0 [] [(1, a1)] [(0, a0)] [] M
  unfold fX12_open
  refine r_lload_n (pc := 0) E dX12_open_0 rfl 0 rfl ?_
  refine r_lconst (pc := 1) (v := 0) E dX12_open_1 (by decide) ?_
  refine r_lcmp (pc := 2) E dX12_open_2 ?_
  refine r_if_ge (pc := 3) (tgt := 9) E dX12_open_3 (by decide) ?_ ?_
  · refine r_aload_n (pc := 9) E dX12_open_9 rfl 0 rfl ?_
    refine r_aload_n (pc := 10) E dX12_open_10 rfl 0 rfl ?_
    refine r_getR (pc := 11) E fd_12_8 wf_RX12_107 dX12_open_11 (fun v11 => ?_)
    refine r_putR (pc := 14) E fd_12_9 wf_RX12_118 dX12_open_14 (Or.inl rfl) (fun M14 => ?_)
    refine r_aload_n (pc := 17) E dX12_open_17 rfl 0 rfl ?_
    refine r_getR (pc := 18) E fd_12_6 wf_RX12_60 dX12_open_18 (fun v18 => ?_)
    refine r_aload_n (pc := 21) E dX12_open_21 rfl 0 rfl ?_
    refine r_getR (pc := 22) E fd_12_0 wf_RX12_14 dX12_open_22 (fun v22 => ?_)
    refine r_aload_n (pc := 25) E dX12_open_25 rfl 0 rfl ?_
    refine r_getR (pc := 26) E fd_12_2 wf_RX12_21 dX12_open_26 (fun v26 => ?_)
    refine r_aload_n (pc := 29) E dX12_open_29 rfl 0 rfl ?_
    refine r_getR (pc := 30) E fd_12_8 wf_RX12_107 dX12_open_30 (fun v30 => ?_)
    refine r_lload_n (pc := 33) E dX12_open_33 rfl 0 rfl ?_
    refine r_kVi (pc := 34) (As := [rv x v22, rv x v26, rv x v30, .long a1]) (rest := []) E wc_X5_openAll wi_RX5 hd_X5_openAll (ci := 5) rfl wl_RX12_121 wn_X5_openAll ws_X5_openAll dX12_open_34 (by decide) (Nat.le_of_ble_eq_true rfl) ⟨rfl, rfl⟩ (ctX5_openAll l x _ _ _ _ _ _) rfl (fun v34 M34 => ?_)
    refine r_if_ne (pc := 37) (tgt := 62) E dX12_open_37 (by decide) ?_ ?_
    · refine r_aload_n (pc := 62) E dX12_open_62 rfl 0 rfl ?_
      refine r_iconst (pc := 63) (v := (-1)) E dX12_open_63 (by decide) ?_
      refine r_putI (pc := 64) E fd_12_10 wf_RX12_44 dX12_open_64 (Or.inl rfl) (fun M64 => ?_)
      refine r_aload_n (pc := 67) E dX12_open_67 rfl 0 rfl ?_
      refine r_kVv (pc := 68) (As := []) (rest := []) E wc_X12_spareCameOut wi_RX12 hd_X12_spareCameOut (ci := 12) rfl wl_RX12_129 wn_X12_spareCameOut ws_X12_spareCameOut dX12_open_68 (by decide) (Nat.le_of_ble_eq_true rfl) ⟨rfl, rfl⟩ (ctX12_spareCameOut l x _ _) rfl (fun v68 M68 => ?_)
      refine r_aload_n (pc := 71) E dX12_open_71 rfl 0 rfl ?_
      refine r_getR (pc := 72) E fd_12_1 wf_RX12_18 dX12_open_72 (fun v72 => ?_)
      refine r_getI (pc := 75) E fd_8_1 wf_RX12_73 dX12_open_75 (fun v75 => ?_)
      exact e_int (pc := 78) E dX12_open_78
    · refine r_aload_n (pc := 40) E dX12_open_40 rfl 0 rfl ?_
      refine r_aload_n (pc := 41) E dX12_open_41 rfl 0 rfl ?_
      refine r_getR (pc := 42) E fd_12_4 wf_RX12_34 dX12_open_42 (fun v42 => ?_)
      refine r_getI (pc := 45) E fd_7_1 wf_RX12_125 dX12_open_45 (fun v45 => ?_)
      refine r_putI (pc := 48) E fd_12_10 wf_RX12_44 dX12_open_48 (Or.inl rfl) (fun M48 => ?_)
      refine r_bipush (pc := 51) (v := (-10)) E dX12_open_51 (by decide) ?_
      refine r_aload_n (pc := 53) E dX12_open_53 rfl 0 rfl ?_
      refine r_getR (pc := 54) E fd_12_4 wf_RX12_34 dX12_open_54 (fun v54 => ?_)
      refine r_getI (pc := 57) E fd_7_0 wf_RX12_126 dX12_open_57 (fun v57 => ?_)
      refine r_isub (pc := 60) E dX12_open_60 ?_
      exact e_int (pc := 61) E dX12_open_61
  · refine r_bipush (pc := 6) (v := (-2)) E dX12_open_6 (by decide) ?_
    exact e_int (pc := 8) E dX12_open_8
def fX12_place (a0 : Option Nat) (M : Mem) : Option (Int32 × Mem) :=
  bo (gI M a0 12 10) fun v1 =>
  some (v1, M)
def rmX12_place : Room := { frames := 0, cells := 0, slots := 0, locals := 0 }
set_option maxRecDepth 100000 in
set_option maxHeartbeats 4000000 in
theorem ctX12_place (l : Launch) (x : Cx) (a0 : Option Nat) (M : Mem) (v : Int32) (N : Mem) (h : fX12_place a0 M = some (v, N)) : CT l yX12_place cX12_place 1 (some (FieldType.int)) rmX12_place x [rv x a0] M (some (.int v)) N := by
  refine ct_mk (enc := fun v : Int32 => some (.int v)) (li := []) (ll := []) (lr := [(0, a0)]) (by decide +kernel) (by simp [lg_sl, rv_cat, cat_int, cat_long]) (by simp [flat, lv_args, rv_cat, cat_int, cat_long]) h ?_
  intro p e s m args below meth c E
  show RT p l e rmX12_place s m args below meth c x 1 (QM below args s x (fun v : Int32 => some (.int v)) rmX12_place.cells rmX12_place.slots) 0 0 (fX12_place a0 M) 0 [] [] [(0, a0)] [] M
  unfold fX12_place
  refine r_aload_n (pc := 0) E dX12_place_0 rfl 0 rfl ?_
  refine r_getI (pc := 1) E fd_12_10 wf_RX12_44 dX12_place_1 (fun v1 => ?_)
  exact e_int (pc := 4) E dX12_place_4
def fX12_pack_L19 (M : Mem) : Option (Int32 × Mem) :=
  some ((-2), M)
def fX12_pack_L88 (p0 : Option Nat) (p1 : Int32) (p2 : Int32) (q0 : Option Nat) (q1 : Option Nat) (q2 : Option Nat) (q3 : Option Nat) (M : Mem) : Option (Int32 × Mem) :=
  bo (chk M q0 6) fun _ => bd (fX6_packRow q0 q1 q2 q3 p1 p2 M) fun v90 M90 =>
  bo (chk M90 p0 12) fun _ => bd (fX12_spareCameOut p0 M90) fun v94 M94 =>
  bo (gR M94 p0 12 1) fun v98 =>
  bo (gI M94 v98 8 1) fun v101 =>
  some (v101, M94)
def fX12_pack_L48 (p0 : Option Nat) (p1 : Int32) (p2 : Int32) (p3 : Int32) (M : Mem) : Option (Int32 × Mem) :=
  bo (gR M p0 12 0) fun v49 =>
  bo (gI M v49 8 1) fun v52 =>
  if v52 ≤ 6000 then (
    bo (gR M p0 12 7) fun v65 =>
    bo (gR M p0 12 0) fun v69 =>
    bo (gR M p0 12 2) fun v73 =>
    if p3 = 0 then (
      fX12_pack_L88 p0 p1 p2 v65 v69 v73 none M
    ) else (
      bo (gR M p0 12 8) fun v81 =>
      fX12_pack_L88 p0 p1 p2 v65 v69 v73 v81 M
    )
  ) else (
    some ((-4), M)
  )
def fX12_pack_L33 (p0 : Option Nat) (p1 : Int32) (p2 : Int32) (q0 : Int32) (M : Mem) : Option (Int32 × Mem) :=
  bn (q0) fun v33 =>
  if v33 = 0 then (
    fX12_pack_L48 p0 p1 p2 v33 M
  ) else (
    bo (gR M p0 12 8) fun v39 =>
    if v39 = none then (
      some ((-3), M)
    ) else (
      fX12_pack_L48 p0 p1 p2 v33 M
    )
  )
def fX12_pack (a0 : Option Nat) (a1 : Int32) (a2 : Int32) (M : Mem) : Option (Int32 × Mem) :=
  if a1 < 0 then (
    fX12_pack_L19 M
  ) else (
    if 2 < a1 then (
      fX12_pack_L19 M
    ) else (
      if a2 < 0 then (
        fX12_pack_L19 M
      ) else (
        if a2 ≤ 7 then (
          if (a2 &&& 4) = 0 then (
            fX12_pack_L33 a0 a1 a2 0 M
          ) else (
            fX12_pack_L33 a0 a1 a2 1 M
          )
        ) else (
          fX12_pack_L19 M
        )
      )
    )
  )
def rmX12_pack : Room := { frames := 7, cells := 0, slots := 0, locals := 185 }
set_option maxRecDepth 100000 in
set_option maxHeartbeats 4000000 in
theorem ctX12_pack (l : Launch) (x : Cx) (a0 : Option Nat) (a1 : Int32) (a2 : Int32) (M : Mem) (v : Int32) (N : Mem) (h : fX12_pack a0 a1 a2 M = some (v, N)) : CT l yX12_pack cX12_pack 4 (some (FieldType.int)) rmX12_pack x [rv x a0, .int a1, .int a2] M (some (.int v)) N := by
  refine ct_mk (enc := fun v : Int32 => some (.int v)) (li := [(1, a1), (2, a2)]) (ll := []) (lr := [(0, a0)]) (by decide +kernel) (by simp [lg_sl, rv_cat, cat_int, cat_long]) (by simp [flat, lv_args, rv_cat, cat_int, cat_long]) h ?_
  intro p e s m args below meth c E
  have hL19 : ∀ (M : Mem), RT p l e rmX12_pack s m args below meth c x 4 (QM below args s x (fun v : Int32 => some (.int v)) rmX12_pack.cells rmX12_pack.slots) 0 0 (fX12_pack_L19 M) 19 [] [] [] [] M := by
    intro M
    unfold fX12_pack_L19
    refine r_bipush (pc := 19) (v := (-2)) E dX12_pack_19 (by decide) ?_
    exact e_int (pc := 21) E dX12_pack_21
  have hL88 : ∀ (p0 : Option Nat) (p1 : Int32) (p2 : Int32) (q0 : Option Nat) (q1 : Option Nat) (q2 : Option Nat) (q3 : Option Nat) (M : Mem), RT p l e rmX12_pack s m args below meth c x 4 (QM below args s x (fun v : Int32 => some (.int v)) rmX12_pack.cells rmX12_pack.slots) 0 0 (fX12_pack_L88 p0 p1 p2 q0 q1 q2 q3 M) 88 [(1, p1), (2, p2)] [] [(0, p0)] [rv x q3, rv x q2, rv x q1, rv x q0] M := by
    intro p0 p1 p2 q0 q1 q2 q3 M
    unfold fX12_pack_L88
    refine r_iload_n (pc := 88) E dX12_pack_88 rfl 0 rfl ?_
    refine r_iload_n (pc := 89) E dX12_pack_89 rfl 1 rfl ?_
    refine r_kVv (pc := 90) (As := [rv x q1, rv x q2, rv x q3, .int p1, .int p2]) (rest := []) E wc_X6_packRow wi_RX6 hd_X6_packRow (ci := 6) rfl wl_RX12_132 wn_X6_packRow ws_X6_packRow dX12_pack_90 (by decide) (Nat.le_of_ble_eq_true rfl) ⟨rfl, rfl⟩ (ctX6_packRow l x _ _ _ _ _ _ _) rfl (fun v90 M90 => ?_)
    refine r_aload_n (pc := 93) E dX12_pack_93 rfl 0 rfl ?_
    refine r_kVv (pc := 94) (As := []) (rest := []) E wc_X12_spareCameOut wi_RX12 hd_X12_spareCameOut (ci := 12) rfl wl_RX12_129 wn_X12_spareCameOut ws_X12_spareCameOut dX12_pack_94 (by decide) (Nat.le_of_ble_eq_true rfl) ⟨rfl, rfl⟩ (ctX12_spareCameOut l x _ _) rfl (fun v94 M94 => ?_)
    refine r_aload_n (pc := 97) E dX12_pack_97 rfl 0 rfl ?_
    refine r_getR (pc := 98) E fd_12_1 wf_RX12_18 dX12_pack_98 (fun v98 => ?_)
    refine r_getI (pc := 101) E fd_8_1 wf_RX12_73 dX12_pack_101 (fun v101 => ?_)
    exact e_int (pc := 104) E dX12_pack_104
  have hL48 : ∀ (p0 : Option Nat) (p1 : Int32) (p2 : Int32) (p3 : Int32) (M : Mem), RT p l e rmX12_pack s m args below meth c x 4 (QM below args s x (fun v : Int32 => some (.int v)) rmX12_pack.cells rmX12_pack.slots) 0 0 (fX12_pack_L48 p0 p1 p2 p3 M) 48 [(1, p1), (2, p2), (3, p3)] [] [(0, p0)] [] M := by
    intro p0 p1 p2 p3 M
    unfold fX12_pack_L48
    refine r_aload_n (pc := 48) E dX12_pack_48 rfl 0 rfl ?_
    refine r_getR (pc := 49) E fd_12_0 wf_RX12_14 dX12_pack_49 (fun v49 => ?_)
    refine r_getI (pc := 52) E fd_8_1 wf_RX12_73 dX12_pack_52 (fun v52 => ?_)
    refine r_sipush (pc := 55) (v := 6000) E dX12_pack_55 (by decide) ?_
    refine r_icmp_le (pc := 58) (tgt := 64) E dX12_pack_58 (by decide) ?_ ?_
    · refine r_aload_n (pc := 64) E dX12_pack_64 rfl 0 rfl ?_
      refine r_getR (pc := 65) E fd_12_7 wf_RX12_69 dX12_pack_65 (fun v65 => ?_)
      refine r_aload_n (pc := 68) E dX12_pack_68 rfl 0 rfl ?_
      refine r_getR (pc := 69) E fd_12_0 wf_RX12_14 dX12_pack_69 (fun v69 => ?_)
      refine r_aload_n (pc := 72) E dX12_pack_72 rfl 0 rfl ?_
      refine r_getR (pc := 73) E fd_12_2 wf_RX12_21 dX12_pack_73 (fun v73 => ?_)
      refine r_iload_n (pc := 76) E dX12_pack_76 rfl 2 rfl ?_
      refine r_if_eq (pc := 77) (tgt := 87) E dX12_pack_77 (by decide) ?_ ?_
      · refine r_null (pc := 87) E dX12_pack_87 ?_
        exact r_sub [0, 1] [] [0] rfl rfl rfl (hL88 p0 p1 p2 v65 v69 v73 none _)
      · refine r_aload_n (pc := 80) E dX12_pack_80 rfl 0 rfl ?_
        refine r_getR (pc := 81) E fd_12_8 wf_RX12_107 dX12_pack_81 (fun v81 => ?_)
        refine r_goto (pc := 84) (tgt := 88) E dX12_pack_84 (by decide) ?_
        exact r_sub [0, 1] [] [0] rfl rfl rfl (hL88 p0 p1 p2 v65 v69 v73 v81 _)
    · refine r_bipush (pc := 61) (v := (-4)) E dX12_pack_61 (by decide) ?_
      exact e_int (pc := 63) E dX12_pack_63
  have hL33 : ∀ (p0 : Option Nat) (p1 : Int32) (p2 : Int32) (q0 : Int32) (M : Mem), RT p l e rmX12_pack s m args below meth c x 4 (QM below args s x (fun v : Int32 => some (.int v)) rmX12_pack.cells rmX12_pack.slots) 0 0 (fX12_pack_L33 p0 p1 p2 q0 M) 33 [(1, p1), (2, p2)] [] [(0, p0)] [.int q0] M := by
    intro p0 p1 p2 q0 M
    unfold fX12_pack_L33
    refine r_istore_n (pc := 33) (lf := fun v33 => [(3, v33), (1, p1), (2, p2)]) (lg := fun v33 => []) (lk := fun v33 => [(0, p0)]) E dX12_pack_33 rfl (by decide) (fun _ => rfl) (fun _ => rfl) (fun _ => rfl) (fun v33 => ?_)
    refine r_iload_n (pc := 34) E dX12_pack_34 rfl 0 rfl ?_
    refine r_if_eq (pc := 35) (tgt := 48) E dX12_pack_35 (by decide) ?_ ?_
    · exact r_sub [1, 2, 0] [] [0] rfl rfl rfl (hL48 p0 p1 p2 v33 _)
    · refine r_aload_n (pc := 38) E dX12_pack_38 rfl 0 rfl ?_
      refine r_getR (pc := 39) E fd_12_8 wf_RX12_107 dX12_pack_39 (fun v39 => ?_)
      refine r_ifnonnull (pc := 42) (tgt := 48) E dX12_pack_42 (by decide) ?_ ?_
      · exact r_sub [1, 2, 0] [] [0] rfl rfl rfl (hL48 p0 p1 p2 v33 _)
      · refine r_bipush (pc := 45) (v := (-3)) E dX12_pack_45 (by decide) ?_
        exact e_int (pc := 47) E dX12_pack_47
  show RT p l e rmX12_pack s m args below meth c x 4 (QM below args s x (fun v : Int32 => some (.int v)) rmX12_pack.cells rmX12_pack.slots) 0 0 (fX12_pack a0 a1 a2 M) 0 [(1, a1), (2, a2)] [] [(0, a0)] [] M
  unfold fX12_pack
  refine r_iload_n (pc := 0) E dX12_pack_0 rfl 0 rfl ?_
  refine r_if_lt (pc := 1) (tgt := 19) E dX12_pack_1 (by decide) ?_ ?_
  · exact r_sub [] [] [] rfl rfl rfl (hL19 _)
  · refine r_iload_n (pc := 4) E dX12_pack_4 rfl 0 rfl ?_
    refine r_iconst (pc := 5) (v := 2) E dX12_pack_5 (by decide) ?_
    refine r_icmp_gt (pc := 6) (tgt := 19) E dX12_pack_6 (by decide) ?_ ?_
    · exact r_sub [] [] [] rfl rfl rfl (hL19 _)
    · refine r_iload_n (pc := 9) E dX12_pack_9 rfl 1 rfl ?_
      refine r_if_lt (pc := 10) (tgt := 19) E dX12_pack_10 (by decide) ?_ ?_
      · exact r_sub [] [] [] rfl rfl rfl (hL19 _)
      · refine r_iload_n (pc := 13) E dX12_pack_13 rfl 1 rfl ?_
        refine r_bipush (pc := 14) (v := 7) E dX12_pack_14 (by decide) ?_
        refine r_icmp_le (pc := 16) (tgt := 22) E dX12_pack_16 (by decide) ?_ ?_
        · refine r_iload_n (pc := 22) E dX12_pack_22 rfl 1 rfl ?_
          refine r_iconst (pc := 23) (v := 4) E dX12_pack_23 (by decide) ?_
          refine r_iand (pc := 24) E dX12_pack_24 ?_
          refine r_if_eq (pc := 25) (tgt := 32) E dX12_pack_25 (by decide) ?_ ?_
          · refine r_iconst (pc := 32) (v := 0) E dX12_pack_32 (by decide) ?_
            exact r_sub [0, 1] [] [0] rfl rfl rfl (hL33 a0 a1 a2 0 _)
          · refine r_iconst (pc := 28) (v := 1) E dX12_pack_28 (by decide) ?_
            refine r_goto (pc := 29) (tgt := 33) E dX12_pack_29 (by decide) ?_
            exact r_sub [0, 1] [] [0] rfl rfl rfl (hL33 a0 a1 a2 1 _)
        · exact r_sub [] [] [] rfl rfl rfl (hL19 _)
def fX12_out_L28 (q0 : Int32) (M : Mem) : Option (Int32 × Mem) :=
  some (q0, M)
def fX12_out_L15 (M : Mem) : Option (Int32 × Mem) :=
  fX12_out_L28 ((-2)) M
def fX12_out (a0 : Option Nat) (a1 : Int32) (M : Mem) : Option (Int32 × Mem) :=
  if a1 < 0 then (
    fX12_out_L15 M
  ) else (
    bo (gR M a0 12 1) fun v6 =>
    bo (gI M v6 8 1) fun v9 =>
    if a1 < v9 then (
      bo (gR M a0 12 1) fun v21 =>
      bo (chk M v21 8) fun _ => bd (fX8_get v21 a1 M) fun v25 M25 =>
      fX12_out_L28 v25 M25
    ) else (
      fX12_out_L15 M
    )
  )
def rmX12_out : Room := { frames := 1, cells := 0, slots := 0, locals := 21 }
set_option maxRecDepth 100000 in
set_option maxHeartbeats 4000000 in
theorem ctX12_out (l : Launch) (x : Cx) (a0 : Option Nat) (a1 : Int32) (M : Mem) (v : Int32) (N : Mem) (h : fX12_out a0 a1 M = some (v, N)) : CT l yX12_out cX12_out 2 (some (FieldType.int)) rmX12_out x [rv x a0, .int a1] M (some (.int v)) N := by
  refine ct_mk (enc := fun v : Int32 => some (.int v)) (li := [(1, a1)]) (ll := []) (lr := [(0, a0)]) (by decide +kernel) (by simp [lg_sl, rv_cat, cat_int, cat_long]) (by simp [flat, lv_args, rv_cat, cat_int, cat_long]) h ?_
  intro p e s m args below meth c E
  have hL28 : ∀ (q0 : Int32) (M : Mem), RT p l e rmX12_out s m args below meth c x 2 (QM below args s x (fun v : Int32 => some (.int v)) rmX12_out.cells rmX12_out.slots) 0 0 (fX12_out_L28 q0 M) 28 [] [] [] [.int q0] M := by
    intro q0 M
    unfold fX12_out_L28
    exact e_int (pc := 28) E dX12_out_28
  have hL15 : ∀ (M : Mem), RT p l e rmX12_out s m args below meth c x 2 (QM below args s x (fun v : Int32 => some (.int v)) rmX12_out.cells rmX12_out.slots) 0 0 (fX12_out_L15 M) 15 [] [] [] [] M := by
    intro M
    unfold fX12_out_L15
    refine r_bipush (pc := 15) (v := (-2)) E dX12_out_15 (by decide) ?_
    refine r_goto (pc := 17) (tgt := 28) E dX12_out_17 (by decide) ?_
    exact r_sub [] [] [] rfl rfl rfl (hL28 ((-2)) _)
  show RT p l e rmX12_out s m args below meth c x 2 (QM below args s x (fun v : Int32 => some (.int v)) rmX12_out.cells rmX12_out.slots) 0 0 (fX12_out a0 a1 M) 0 [(1, a1)] [] [(0, a0)] [] M
  unfold fX12_out
  refine r_iload_n (pc := 0) E dX12_out_0 rfl 0 rfl ?_
  refine r_if_lt (pc := 1) (tgt := 15) E dX12_out_1 (by decide) ?_ ?_
  · exact r_sub [] [] [] rfl rfl rfl (hL15 _)
  · refine r_iload_n (pc := 4) E dX12_out_4 rfl 0 rfl ?_
    refine r_aload_n (pc := 5) E dX12_out_5 rfl 0 rfl ?_
    refine r_getR (pc := 6) E fd_12_1 wf_RX12_18 dX12_out_6 (fun v6 => ?_)
    refine r_getI (pc := 9) E fd_8_1 wf_RX12_73 dX12_out_9 (fun v9 => ?_)
    refine r_icmp_lt (pc := 12) (tgt := 20) E dX12_out_12 (by decide) ?_ ?_
    · refine r_aload_n (pc := 20) E dX12_out_20 rfl 0 rfl ?_
      refine r_getR (pc := 21) E fd_12_1 wf_RX12_18 dX12_out_21 (fun v21 => ?_)
      refine r_iload_n (pc := 24) E dX12_out_24 rfl 0 rfl ?_
      refine r_kVi (pc := 25) (As := [.int a1]) (rest := []) E wc_X8_get wi_RX8 hd_X8_get (ci := 8) rfl wl_RX12_81 wn_X8_get ws_X8_get dX12_out_25 (by decide) (Nat.le_of_ble_eq_true rfl) ⟨rfl, rfl⟩ (ctX8_get l x _ _ _) rfl (fun v25 M25 => ?_)
      exact r_sub [] [] [] rfl rfl rfl (hL28 v25 _)
    · exact r_sub [] [] [] rfl rfl rfl (hL15 _)
