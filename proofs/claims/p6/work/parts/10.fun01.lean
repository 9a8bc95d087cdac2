def fX2_readTable_L33 (q0 : Int32) (M : Mem) : Option (Int32 × Mem) :=
  some (q0, M)
def fX2_readTable (a0 : Option Nat) (a1 : Option Nat) (a2 : Int32) (a3 : Int32) (M : Mem) : Option (Int32 × Mem) :=
  if 0 ≤ a2 then (
    bo (gR M a0 2 3) fun v9 =>
    bo (aR M v9 20 a3) fun v13 =>
    bo (gI M a1 8 1) fun v17 =>
    bo (aI M ((some 0)) 15 a3) fun v24 =>
    bo (aI M ((some 1)) 15 a3) fun v29 =>
    bo (chk M v13 10) fun _ => bd (fX10_read v13 a1 a2 v17 v24 v29 M) fun v30 M30 =>
    fX2_readTable_L33 v30 M30
  ) else (
    fX2_readTable_L33 ((-1)) M
  )
def rmX2_readTable : Room := { frames := 3, cells := 0, slots := 0, locals := 85 }
set_option maxRecDepth 100000 in
set_option maxHeartbeats 4000000 in
theorem ctX2_readTable (l : Launch) (x : Cx) (a0 : Option Nat) (a1 : Option Nat) (a2 : Int32) (a3 : Int32) (M : Mem) (v : Int32) (N : Mem) (h : fX2_readTable a0 a1 a2 a3 M = some (v, N)) : CT l yX2_readTable cX2_readTable 4 (some (FieldType.int)) rmX2_readTable x [rv x a0, rv x a1, .int a2, .int a3] M (some (.int v)) N := by
  refine ct_mk (enc := fun v : Int32 => some (.int v)) (li := [(2, a2), (3, a3)]) (ll := []) (lr := [(0, a0), (1, a1)]) (by decide +kernel) (by simp [lg_sl, rv_cat, cat_int, cat_long]) (by simp [flat, lv_args, rv_cat, cat_int, cat_long]) h ?_
  intro p e s m args below meth c E
  have hL33 : ∀ (q0 : Int32) (M : Mem), RT p l e rmX2_readTable s m args below meth c x 4 (QM below args s x (fun v : Int32 => some (.int v)) rmX2_readTable.cells rmX2_readTable.slots) 0 0 (fX2_readTable_L33 q0 M) 33 [] [] [] [.int q0] M := by
    intro q0 M
    unfold fX2_readTable_L33
    exact e_int (pc := 33) E dX2_readTable_33
  show RT p l e rmX2_readTable s m args below meth c x 4 (QM below args s x (fun v : Int32 => some (.int v)) rmX2_readTable.cells rmX2_readTable.slots) 0 0 (fX2_readTable a0 a1 a2 a3 M) 0 [(2, a2), (3, a3)] [] [(0, a0), (1, a1)] [] M
  unfold fX2_readTable
  refine r_iload_n (pc := 0) E dX2_readTable_0 rfl 0 rfl ?_
  refine r_if_ge (pc := 1) (tgt := 8) E dX2_readTable_1 (by decide) ?_ ?_
  · refine r_aload_n (pc := 8) E dX2_readTable_8 rfl 0 rfl ?_
    refine r_getA (pc := 9) E fd_2_3 wf_RX2_17 dX2_readTable_9 (fun v9 => ?_)
    refine r_iload_n (pc := 12) E dX2_readTable_12 rfl 1 rfl ?_
    refine r_aaload20 (pc := 13) E dX2_readTable_13 (fun v13 => ?_)
    refine r_aload_n (pc := 14) E dX2_readTable_14 rfl 1 rfl ?_
    refine r_iload_n (pc := 15) E dX2_readTable_15 rfl 0 rfl ?_
    refine r_aload_n (pc := 16) E dX2_readTable_16 rfl 1 rfl ?_
    refine r_getI (pc := 17) E fd_8_1 wf_RX2_49 dX2_readTable_17 (fun v17 => ?_)
    refine r_getsN (pc := 20) E 0 (by decide) (by decide +kernel) dX2_readTable_20 ?_
    refine r_iload_n (pc := 23) E dX2_readTable_23 rfl 1 rfl ?_
    refine r_iaload (pc := 24) E dX2_readTable_24 (fun v24 => ?_)
    refine r_getsN (pc := 25) E 1 (by decide) (by decide +kernel) dX2_readTable_25 ?_
    refine r_iload_n (pc := 28) E dX2_readTable_28 rfl 1 rfl ?_
    refine r_iaload (pc := 29) E dX2_readTable_29 (fun v29 => ?_)
    refine r_kVi (pc := 30) (As := [rv x a1, .int a2, .int v17, .int v24, .int v29]) (rest := []) E wc_X10_read wi_RX10 hd_X10_read (ci := 10) rfl wl_RX2_84 wn_X10_read ws_X10_read dX2_readTable_30 (by decide) (Nat.le_of_ble_eq_true rfl) ⟨rfl, rfl⟩ (ctX10_read l x _ _ _ _ _ _ _) rfl (fun v30 M30 => ?_)
    exact r_sub [] [] [] rfl rfl rfl (hL33 v30 _)
  · refine r_iconst (pc := 4) (v := (-1)) E dX2_readTable_4 (by decide) ?_
    refine r_goto (pc := 5) (tgt := 33) E dX2_readTable_5 (by decide) ?_
    exact r_sub [] [] [] rfl rfl rfl (hL33 ((-1)) _)
def fX2_readRemembered_L42 (M : Mem) : Option (Int32 × Mem) :=
  rtZ 0 M
def fX2_readRemembered_B2 (k2 : Option Nat × Option Nat × Int32 × Int32 → Mem → Option (Int32 × Mem)) (p0 : Option Nat) (p1 : Option Nat) (p2 : Int32) (p3 : Int32) (M : Mem) : Option (Int32 × Mem) :=
  if 3 ≤ p3 then (
    rtZ 1 M
  ) else (
    bo (chk M p1 8) fun _ => bd (fX8_number p1 (p2 + (4 * p3)) 4 M) fun v14 M14 =>
    bn (v14) fun v17 =>
    if (lg_cmp v17 0) = 0 then (
      fX2_readRemembered_L42 M14
    ) else (
      bo (gI M14 p1 8 1) fun v29 =>
      bo (gI M14 p0 2 6) fun v33 =>
      if (lg_cmp v17 ((v29 - v33).toInt64)) ≤ 0 then (
        bo (gR M14 p0 2 2) fun v45 =>
        bo (wI M14 v45 p3 v17.toInt32) fun M52 =>
        bn (p3 + 1) fun v53 =>
        k2 ((p0, p1, p2, v53)) M52
      ) else (
        fX2_readRemembered_L42 M14
      )
    )
  )
def fX2_readRemembered_L2 (p0 : Option Nat) (p1 : Option Nat) (p2 : Int32) (p3 : Int32) (M : Mem) : Option (Int32 × Mem) :=
  lp (fun k2 (a : Option Nat × Option Nat × Int32 × Int32) M => fX2_readRemembered_B2 k2 a.1 a.2.1 a.2.2.1 a.2.2.2 M) FU ((p0, p1, p2, p3)) M
def fX2_readRemembered (a0 : Option Nat) (a1 : Option Nat) (a2 : Int32) (M : Mem) : Option (Int32 × Mem) :=
  bn (0) fun v1 =>
  fX2_readRemembered_L2 a0 a1 a2 v1 M
def rmX2_readRemembered : Room := { frames := 2, cells := 0, slots := 0, locals := 46 }
set_option maxRecDepth 100000 in
set_option maxHeartbeats 4000000 in
theorem ctX2_readRemembered (l : Launch) (x : Cx) (a0 : Option Nat) (a1 : Option Nat) (a2 : Int32) (M : Mem) (v : Int32) (N : Mem) (h : fX2_readRemembered a0 a1 a2 M = some (v, N)) : CT l yX2_readRemembered cX2_readRemembered 6 (some (FieldType.boolean)) rmX2_readRemembered x [rv x a0, rv x a1, .int a2] M (some (.int v)) N := by
  refine ct_mk (enc := fun v : Int32 => some (.int v)) (li := [(2, a2)]) (ll := []) (lr := [(0, a0), (1, a1)]) (by decide +kernel) (by simp [lg_sl, rv_cat, cat_int, cat_long]) (by simp [flat, lv_args, rv_cat, cat_int, cat_long]) h ?_
  intro p e s m args below meth c E
  have hL42 : ∀ (M : Mem), RT p l e rmX2_readRemembered s m args below meth c x 6 (QM below args s x (fun v : Int32 => some (.int v)) rmX2_readRemembered.cells rmX2_readRemembered.slots) 0 0 (fX2_readRemembered_L42 M) 42 [] [] [] [] M := by
    intro M
    unfold fX2_readRemembered_L42
    refine r_iconst (pc := 42) (v := 0) E dX2_readRemembered_42 (by decide) ?_
    exact e_bool (pc := 43) E dX2_readRemembered_43
  have hL2 : ∀ (p0 : Option Nat) (p1 : Option Nat) (p2 : Int32) (p3 : Int32) (M : Mem), RT p l e rmX2_readRemembered s m args below meth c x 6 (QM below args s x (fun v : Int32 => some (.int v)) rmX2_readRemembered.cells rmX2_readRemembered.slots) 0 0 (fX2_readRemembered_L2 p0 p1 p2 p3 M) 2 [(2, p2), (3, p3)] [] [(0, p0), (1, p1)] [] M := by
    intro p0 p1 p2 p3 M
    refine r_lp (fi := fun a : Option Nat × Option Nat × Int32 × Int32 => [(2, a.2.2.1), (3, a.2.2.2)]) (fl := fun a : Option Nat × Option Nat × Int32 × Int32 => []) (fr := fun a : Option Nat × Option Nat × Int32 × Int32 => [(0, a.1), (1, a.2.1)]) (fs := fun a : Option Nat × Option Nat × Int32 × Int32 => []) ?_ FU ((p0, p1, p2, p3)) M
    intro k2 hk2 a M
    obtain ⟨p0, p1, p2, p3⟩ := a
    show RT p l e rmX2_readRemembered s m args below meth c x 6 (QM below args s x (fun v : Int32 => some (.int v)) rmX2_readRemembered.cells rmX2_readRemembered.slots) 0 0 (fX2_readRemembered_B2 k2 p0 p1 p2 p3 M) 2 [(2, p2), (3, p3)] [] [(0, p0), (1, p1)] [] M
    unfold fX2_readRemembered_B2
    refine r_iload_n (pc := 2) E dX2_readRemembered_2 rfl 1 rfl ?_
    refine r_iconst (pc := 3) (v := 3) E dX2_readRemembered_3 (by decide) ?_
    refine r_icmp_ge (pc := 4) (tgt := 59) E dX2_readRemembered_4 (by decide) ?_ ?_
    · refine r_iconst (pc := 59) (v := 1) E dX2_readRemembered_59 (by decide) ?_
      exact e_bool (pc := 60) E dX2_readRemembered_60
    · refine r_aload_n (pc := 7) E dX2_readRemembered_7 rfl 1 rfl ?_
      refine r_iload_n (pc := 8) E dX2_readRemembered_8 rfl 0 rfl ?_
      refine r_iconst (pc := 9) (v := 4) E dX2_readRemembered_9 (by decide) ?_
      refine r_iload_n (pc := 10) E dX2_readRemembered_10 rfl 1 rfl ?_
      refine r_imul (pc := 11) E dX2_readRemembered_11 ?_
      refine r_iadd (pc := 12) E dX2_readRemembered_12 ?_
      refine r_iconst (pc := 13) (v := 4) E dX2_readRemembered_13 (by decide) ?_
      refine r_kVl (pc := 14) (As := [.int (p2 + (4 * p3)), .int 4]) (rest := []) E wc_X8_number wi_RX8 hd_X8_number (ci := 8) rfl wl_RX2_52 wn_X8_number ws_X8_number dX2_readRemembered_14 (by decide) (Nat.le_of_ble_eq_true rfl) ⟨rfl, rfl⟩ (ctX8_number l x _ _ _ _) rfl (fun v14 M14 => ?_)
      refine r_lstore (pc := 17) (lf := fun v17 => [(2, p2), (3, p3)]) (lg := fun v17 => [(4, v17)]) (lk := fun v17 => [(0, p0), (1, p1)]) E dX2_readRemembered_17 (by decide) (fun _ => rfl) (fun _ => rfl) (fun _ => rfl) (fun v17 => ?_)
      refine r_lload (pc := 19) E dX2_readRemembered_19 0 rfl ?_
      refine r_lconst (pc := 21) (v := 0) E dX2_readRemembered_21 (by decide) ?_
      refine r_lcmp (pc := 22) E dX2_readRemembered_22 ?_
      refine r_if_eq (pc := 23) (tgt := 42) E dX2_readRemembered_23 (by decide) ?_ ?_
      · exact r_sub [] [] [] rfl rfl rfl (hL42 _)
      · refine r_lload (pc := 26) E dX2_readRemembered_26 0 rfl ?_
        refine r_aload_n (pc := 28) E dX2_readRemembered_28 rfl 1 rfl ?_
        refine r_getI (pc := 29) E fd_8_1 wf_RX2_49 dX2_readRemembered_29 (fun v29 => ?_)
        refine r_aload_n (pc := 32) E dX2_readRemembered_32 rfl 0 rfl ?_
        refine r_getI (pc := 33) E fd_2_6 wf_RX2_46 dX2_readRemembered_33 (fun v33 => ?_)
        refine r_isub (pc := 36) E dX2_readRemembered_36 ?_
        refine r_i2l (pc := 37) E dX2_readRemembered_37 ?_
        refine r_lcmp (pc := 38) E dX2_readRemembered_38 ?_
        refine r_if_le (pc := 39) (tgt := 44) E dX2_readRemembered_39 (by decide) ?_ ?_
        · refine r_aload_n (pc := 44) E dX2_readRemembered_44 rfl 0 rfl ?_
          refine r_getA (pc := 45) E fd_2_2 wf_RX2_9 dX2_readRemembered_45 (fun v45 => ?_)
          refine r_iload_n (pc := 48) E dX2_readRemembered_48 rfl 1 rfl ?_
          refine r_lload (pc := 49) E dX2_readRemembered_49 0 rfl ?_
          refine r_l2i (pc := 51) E dX2_readRemembered_51 ?_
          refine r_iastore (pc := 52) E dX2_readRemembered_52 (fun M52 => ?_)
          refine r_iinc (pc := 53) (w := 1) (lf := fun v53 => [(3, v53), (2, p2)]) (ll' := [(4, v17)]) (lr' := [(0, p0), (1, p1)]) E dX2_readRemembered_53 1 rfl (by decide) (by decide) (fun _ => rfl) rfl rfl (fun v53 => ?_)
          refine r_goto (pc := 56) (tgt := 2) E dX2_readRemembered_56 (by decide) ?_
          exact r_sub [1, 0] [] [0, 1] rfl rfl rfl (hk2 ((p0, p1, p2, v53)) _)
        · exact r_sub [] [] [] rfl rfl rfl (hL42 _)
  show RT p l e rmX2_readRemembered s m args below meth c x 6 (QM below args s x (fun v : Int32 => some (.int v)) rmX2_readRemembered.cells rmX2_readRemembered.slots) 0 0 (fX2_readRemembered a0 a1 a2 M) 0 [(2, a2)] [] [(0, a0), (1, a1)] [] M
  unfold fX2_readRemembered
  refine r_iconst (pc := 0) (v := 0) E dX2_readRemembered_0 (by decide) ?_
  refine r_istore_n (pc := 1) (lf := fun v1 => [(3, v1), (2, a2)]) (lg := fun v1 => []) (lk := fun v1 => [(0, a0), (1, a1)]) E dX2_readRemembered_1 rfl (by decide) (fun _ => rfl) (fun _ => rfl) (fun _ => rfl) (fun v1 => ?_)
  exact r_sub [1, 0] [] [0, 1] rfl rfl rfl (hL2 a0 a1 a2 v1 _)
def fX2_read_L177 (q0 : Int32) (M : Mem) : Option (Int32 × Mem) :=
  rtZ q0 M
def fX2_read_L176 (M : Mem) : Option (Int32 × Mem) :=
  fX2_read_L177 0 M
def fX2_read_L78 (p0 : Option Nat) (p1 : Option Nat) (p2 : Option Nat) (q0 : Option Nat) (q1 : Int32) (M : Mem) : Option (Int32 × Mem) :=
  bo (pI M q0 2 0 q1) fun M78 =>
  bo (gI M78 p0 2 0) fun v82 =>
  if v82 = 0 then (
    rtZ 0 M78
  ) else (
    bo (gI M78 p1 8 1) fun v95 =>
    bo (chk M78 p2 11) fun _ => bd (fX11_read p2 p1 8 v95 M78) fun v98 M98 =>
    bn (v98) fun v101 =>
    if 0 ≤ v101 then (
      bo (gR M98 p0 2 4) fun v109 =>
      bo (chk M98 v109 1) fun _ => bd (fX1_build v109 p2 M98) fun v113 M113 =>
      bo (chk M113 p0 2) fun _ => bd (fX2_readTable p0 p1 v101 1 M113) fun v120 M120 =>
      bn (v120) fun v123 =>
      bo (chk M120 p0 2) fun _ => bd (fX2_readTable p0 p1 v123 2 M120) fun v128 M128 =>
      bn (v128) fun v131 =>
      bo (chk M128 p0 2) fun _ => bd (fX2_readTable p0 p1 v131 0 M128) fun v136 M136 =>
      bn (v136) fun v139 =>
      bo (pI M136 p0 2 6 (v139 + 12)) fun M145 =>
      if v139 < 0 then (
        fX2_read_L176 M145
      ) else (
        bo (gI M145 p0 2 6) fun v153 =>
        bo (gI M145 p1 8 1) fun v157 =>
        if v157 < v153 then (
          fX2_read_L176 M145
        ) else (
          bo (chk M145 p0 2) fun _ => bd (fX2_readRemembered p0 p1 v139 M145) fun v166 M166 =>
          if v166 = 0 then (
            fX2_read_L176 M166
          ) else (
            fX2_read_L177 1 M166
          )
        )
      )
    ) else (
      rtZ 0 M98
    )
  )
def fX2_read_L45 (p0 : Option Nat) (p1 : Option Nat) (p2 : Option Nat) (q0 : Option Nat) (q1 : Int32) (M : Mem) : Option (Int32 × Mem) :=
  bo (pZ M q0 2 1 q1) fun M45 =>
  bo (gI M45 p0 2 1) fun v49 =>
  if v49 = 0 then (
    rtZ 1 M45
  ) else (
    bo (gI M45 p1 8 1) fun v59 =>
    if 8 ≤ v59 then (
      bo (chk M45 p1 8) fun _ => bd (fX8_number p1 4 4 M45) fun v74 M74 =>
      fX2_read_L78 p0 p1 p2 p0 v74.toInt32 M74
    ) else (
      fX2_read_L78 p0 p1 p2 p0 0 M45
    )
  )
def fX2_read_L44 (p0 : Option Nat) (p1 : Option Nat) (p2 : Option Nat) (q0 : Option Nat) (M : Mem) : Option (Int32 × Mem) :=
  fX2_read_L45 p0 p1 p2 q0 0 M
def fX2_read (a0 : Option Nat) (a1 : Option Nat) (a2 : Option Nat) (M : Mem) : Option (Int32 × Mem) :=
  bo (gR M a0 2 2) fun v1 =>
  bd (fX12_rememberFirst v1 none M) fun v5 M5 =>
  bo (pI M5 a0 2 0 0) fun M10 =>
  bo (pI M10 a0 2 6 0) fun M15 =>
  bo (gI M15 a1 8 1) fun v20 =>
  if v20 < 4 then (
    fX2_read_L44 a0 a1 a2 a0 M15
  ) else (
    bo (chk M15 a1 8) fun _ => bd (fX8_number a1 0 4 M15) fun v30 M30 =>
    if (lg_cmp v30 3962610743) = 0 then (
      fX2_read_L45 a0 a1 a2 a0 1 M30
    ) else (
      fX2_read_L44 a0 a1 a2 a0 M30
    )
  )
def rmX2_read : Room := { frames := 4, cells := 0, slots := 0, locals := 111 }
set_option maxRecDepth 100000 in
set_option maxHeartbeats 4000000 in
theorem ctX2_read (l : Launch) (x : Cx) (a0 : Option Nat) (a1 : Option Nat) (a2 : Option Nat) (M : Mem) (v : Int32) (N : Mem) (h : fX2_read a0 a1 a2 M = some (v, N)) : CT l yX2_read cX2_read 4 (some (FieldType.boolean)) rmX2_read x [rv x a0, rv x a1, rv x a2] M (some (.int v)) N := by
  refine ct_mk (enc := fun v : Int32 => some (.int v)) (li := []) (ll := []) (lr := [(0, a0), (1, a1), (2, a2)]) (by decide +kernel) (by simp [lg_sl, rv_cat, cat_int, cat_long]) (by simp [flat, lv_args, rv_cat, cat_int, cat_long]) h ?_
  intro p e s m args below meth c E
  have hL177 : ∀ (q0 : Int32) (M : Mem), RT p l e rmX2_read s m args below meth c x 4 (QM below args s x (fun v : Int32 => some (.int v)) rmX2_read.cells rmX2_read.slots) 0 0 (fX2_read_L177 q0 M) 177 [] [] [] [.int q0] M := by
    intro q0 M
    unfold fX2_read_L177
    exact e_bool (pc := 177) E dX2_read_177
  have hL176 : ∀ (M : Mem), RT p l e rmX2_read s m args below meth c x 4 (QM below args s x (fun v : Int32 => some (.int v)) rmX2_read.cells rmX2_read.slots) 0 0 (fX2_read_L176 M) 176 [] [] [] [] M := by
    intro M
    unfold fX2_read_L176
    refine r_iconst (pc := 176) (v := 0) E dX2_read_176 (by decide) ?_
    exact r_sub [] [] [] rfl rfl rfl (hL177 0 _)
  have hL78 : ∀ (p0 : Option Nat) (p1 : Option Nat) (p2 : Option Nat) (q0 : Option Nat) (q1 : Int32) (M : Mem), RT p l e rmX2_read s m args below meth c x 4 (QM below args s x (fun v : Int32 => some (.int v)) rmX2_read.cells rmX2_read.slots) 0 0 (fX2_read_L78 p0 p1 p2 q0 q1 M) 78 [] [] [(0, p0), (1, p1), (2, p2)] [.int q1, rv x q0] M := by
    intro p0 p1 p2 q0 q1 M
    unfold fX2_read_L78
    refine r_putI (pc := 78) E fd_2_0 wf_RX2_42 dX2_read_78 (Or.inl rfl) (fun M78 => ?_)
    refine r_aload_n (pc := 81) E dX2_read_81 rfl 0 rfl ?_
    refine r_getI (pc := 82) E fd_2_0 wf_RX2_42 dX2_read_82 (fun v82 => ?_)
    refine r_if_ne (pc := 85) (tgt := 90) E dX2_read_85 (by decide) ?_ ?_
    · refine r_aload_n (pc := 90) E dX2_read_90 rfl 2 rfl ?_
      refine r_aload_n (pc := 91) E dX2_read_91 rfl 1 rfl ?_
      refine r_bipush (pc := 92) (v := 8) E dX2_read_92 (by decide) ?_
      refine r_aload_n (pc := 94) E dX2_read_94 rfl 1 rfl ?_
      refine r_getI (pc := 95) E fd_8_1 wf_RX2_49 dX2_read_95 (fun v95 => ?_)
      refine r_kVi (pc := 98) (As := [rv x p1, .int 8, .int v95]) (rest := []) E wc_X11_read wi_RX11 hd_X11_read (ci := 11) rfl wl_RX2_61 wn_X11_read ws_X11_read dX2_read_98 (by decide) (Nat.le_of_ble_eq_true rfl) ⟨rfl, rfl⟩ (ctX11_read l x _ _ _ _ _) rfl (fun v98 M98 => ?_)
      refine r_istore_n (pc := 101) (lf := fun v101 => [(3, v101)]) (lg := fun v101 => []) (lk := fun v101 => [(0, p0), (1, p1), (2, p2)]) E dX2_read_101 rfl (by decide) (fun _ => rfl) (fun _ => rfl) (fun _ => rfl) (fun v101 => ?_)
      refine r_iload_n (pc := 102) E dX2_read_102 rfl 0 rfl ?_
      refine r_if_ge (pc := 103) (tgt := 108) E dX2_read_103 (by decide) ?_ ?_
      · refine r_aload_n (pc := 108) E dX2_read_108 rfl 0 rfl ?_
        refine r_getR (pc := 109) E fd_2_4 wf_RX2_24 dX2_read_109 (fun v109 => ?_)
        refine r_aload_n (pc := 112) E dX2_read_112 rfl 2 rfl ?_
        refine r_kVv (pc := 113) (As := [rv x p2]) (rest := []) E wc_X1_build wi_RX1 hd_X1_build (ci := 1) rfl wl_RX2_67 wn_X1_build ws_X1_build dX2_read_113 (by decide) (Nat.le_of_ble_eq_true rfl) ⟨rfl, rfl⟩ (ctX1_build l x _ _ _) rfl (fun v113 M113 => ?_)
        refine r_aload_n (pc := 116) E dX2_read_116 rfl 0 rfl ?_
        refine r_aload_n (pc := 117) E dX2_read_117 rfl 1 rfl ?_
        refine r_iload_n (pc := 118) E dX2_read_118 rfl 0 rfl ?_
        refine r_iconst (pc := 119) (v := 1) E dX2_read_119 (by decide) ?_
        refine r_kVi (pc := 120) (As := [rv x p1, .int v101, .int 1]) (rest := []) E wc_X2_readTable wi_RX2 hd_X2_readTable (ci := 2) rfl wl_RX2_71 wn_X2_readTable ws_X2_readTable dX2_read_120 (by decide) (Nat.le_of_ble_eq_true rfl) ⟨rfl, rfl⟩ (ctX2_readTable l x _ _ _ _ _) rfl (fun v120 M120 => ?_)
        refine r_istore_n (pc := 123) (lf := fun v123 => [(3, v123)]) (lg := fun v123 => []) (lk := fun v123 => [(0, p0), (1, p1), (2, p2)]) E dX2_read_123 rfl (by decide) (fun _ => rfl) (fun _ => rfl) (fun _ => rfl) (fun v123 => ?_)
        refine r_aload_n (pc := 124) E dX2_read_124 rfl 0 rfl ?_
        refine r_aload_n (pc := 125) E dX2_read_125 rfl 1 rfl ?_
        refine r_iload_n (pc := 126) E dX2_read_126 rfl 0 rfl ?_
        refine r_iconst (pc := 127) (v := 2) E dX2_read_127 (by decide) ?_
        refine r_kVi (pc := 128) (As := [rv x p1, .int v123, .int 2]) (rest := []) E wc_X2_readTable wi_RX2 hd_X2_readTable (ci := 2) rfl wl_RX2_71 wn_X2_readTable ws_X2_readTable dX2_read_128 (by decide) (Nat.le_of_ble_eq_true rfl) ⟨rfl, rfl⟩ (ctX2_readTable l x _ _ _ _ _) rfl (fun v128 M128 => ?_)
        refine r_istore_n (pc := 131) (lf := fun v131 => [(3, v131)]) (lg := fun v131 => []) (lk := fun v131 => [(0, p0), (1, p1), (2, p2)]) E dX2_read_131 rfl (by decide) (fun _ => rfl) (fun _ => rfl) (fun _ => rfl) (fun v131 => ?_)
        refine r_aload_n (pc := 132) E dX2_read_132 rfl 0 rfl ?_
        refine r_aload_n (pc := 133) E dX2_read_133 rfl 1 rfl ?_
        refine r_iload_n (pc := 134) E dX2_read_134 rfl 0 rfl ?_
        refine r_iconst (pc := 135) (v := 0) E dX2_read_135 (by decide) ?_
        refine r_kVi (pc := 136) (As := [rv x p1, .int v131, .int 0]) (rest := []) E wc_X2_readTable wi_RX2 hd_X2_readTable (ci := 2) rfl wl_RX2_71 wn_X2_readTable ws_X2_readTable dX2_read_136 (by decide) (Nat.le_of_ble_eq_true rfl) ⟨rfl, rfl⟩ (ctX2_readTable l x _ _ _ _ _) rfl (fun v136 M136 => ?_)
        refine r_istore_n (pc := 139) (lf := fun v139 => [(3, v139)]) (lg := fun v139 => []) (lk := fun v139 => [(0, p0), (1, p1), (2, p2)]) E dX2_read_139 rfl (by decide) (fun _ => rfl) (fun _ => rfl) (fun _ => rfl) (fun v139 => ?_)
        refine r_aload_n (pc := 140) E dX2_read_140 rfl 0 rfl ?_
        refine r_iload_n (pc := 141) E dX2_read_141 rfl 0 rfl ?_
        refine r_bipush (pc := 142) (v := 12) E dX2_read_142 (by decide) ?_
        refine r_iadd (pc := 144) E dX2_read_144 ?_
        refine r_putI (pc := 145) E fd_2_6 wf_RX2_46 dX2_read_145 (Or.inl rfl) (fun M145 => ?_)
        refine r_iload_n (pc := 148) E dX2_read_148 rfl 0 rfl ?_
        refine r_if_lt (pc := 149) (tgt := 176) E dX2_read_149 (by decide) ?_ ?_
        · exact r_sub [] [] [] rfl rfl rfl (hL176 _)
        · refine r_aload_n (pc := 152) E dX2_read_152 rfl 0 rfl ?_
          refine r_getI (pc := 153) E fd_2_6 wf_RX2_46 dX2_read_153 (fun v153 => ?_)
          refine r_aload_n (pc := 156) E dX2_read_156 rfl 1 rfl ?_
          refine r_getI (pc := 157) E fd_8_1 wf_RX2_49 dX2_read_157 (fun v157 => ?_)
          refine r_icmp_gt (pc := 160) (tgt := 176) E dX2_read_160 (by decide) ?_ ?_
          · exact r_sub [] [] [] rfl rfl rfl (hL176 _)
          · refine r_aload_n (pc := 163) E dX2_read_163 rfl 0 rfl ?_
            refine r_aload_n (pc := 164) E dX2_read_164 rfl 1 rfl ?_
            refine r_iload_n (pc := 165) E dX2_read_165 rfl 0 rfl ?_
            refine r_kVi (pc := 166) (As := [rv x p1, .int v139]) (rest := []) E wc_X2_readRemembered wi_RX2 hd_X2_readRemembered (ci := 2) rfl wl_RX2_74 wn_X2_readRemembered ws_X2_readRemembered dX2_read_166 (by decide) (Nat.le_of_ble_eq_true rfl) ⟨rfl, rfl⟩ (ctX2_readRemembered l x _ _ _ _) rfl (fun v166 M166 => ?_)
            refine r_if_eq (pc := 169) (tgt := 176) E dX2_read_169 (by decide) ?_ ?_
            · exact r_sub [] [] [] rfl rfl rfl (hL176 _)
            · refine r_iconst (pc := 172) (v := 1) E dX2_read_172 (by decide) ?_
              refine r_goto (pc := 173) (tgt := 177) E dX2_read_173 (by decide) ?_
              exact r_sub [] [] [] rfl rfl rfl (hL177 1 _)
      · refine r_iconst (pc := 106) (v := 0) E dX2_read_106 (by decide) ?_
        exact e_bool (pc := 107) E dX2_read_107
    · refine r_iconst (pc := 88) (v := 0) E dX2_read_88 (by decide) ?_
      exact e_bool (pc := 89) E dX2_read_89
  have hL45 : ∀ (p0 : Option Nat) (p1 : Option Nat) (p2 : Option Nat) (q0 : Option Nat) (q1 : Int32) (M : Mem), RT p l e rmX2_read s m args below meth c x 4 (QM below args s x (fun v : Int32 => some (.int v)) rmX2_read.cells rmX2_read.slots) 0 0 (fX2_read_L45 p0 p1 p2 q0 q1 M) 45 [] [] [(0, p0), (1, p1), (2, p2)] [.int q1, rv x q0] M := by
    intro p0 p1 p2 q0 q1 M
    unfold fX2_read_L45
    refine r_putZ (pc := 45) E fd_2_1 wf_RX2_57 dX2_read_45 (Or.inl rfl) (fun M45 => ?_)
    refine r_aload_n (pc := 48) E dX2_read_48 rfl 0 rfl ?_
    refine r_getZ (pc := 49) E fd_2_1 wf_RX2_57 dX2_read_49 (fun v49 => ?_)
    refine r_if_ne (pc := 52) (tgt := 57) E dX2_read_52 (by decide) ?_ ?_
    · refine r_aload_n (pc := 57) E dX2_read_57 rfl 0 rfl ?_
      refine r_aload_n (pc := 58) E dX2_read_58 rfl 1 rfl ?_
      refine r_getI (pc := 59) E fd_8_1 wf_RX2_49 dX2_read_59 (fun v59 => ?_)
      refine r_bipush (pc := 62) (v := 8) E dX2_read_62 (by decide) ?_
      refine r_icmp_ge (pc := 64) (tgt := 71) E dX2_read_64 (by decide) ?_ ?_
      · refine r_aload_n (pc := 71) E dX2_read_71 rfl 1 rfl ?_
        refine r_iconst (pc := 72) (v := 4) E dX2_read_72 (by decide) ?_
        refine r_iconst (pc := 73) (v := 4) E dX2_read_73 (by decide) ?_
        refine r_kVl (pc := 74) (As := [.int 4, .int 4]) (rest := [rv x p0]) E wc_X8_number wi_RX8 hd_X8_number (ci := 8) rfl wl_RX2_52 wn_X8_number ws_X8_number dX2_read_74 (by decide) (Nat.le_of_ble_eq_true rfl) ⟨rfl, rfl⟩ (ctX8_number l x _ _ _ _) rfl (fun v74 M74 => ?_)
        refine r_l2i (pc := 77) E dX2_read_77 ?_
        exact r_sub [] [] [0, 1, 2] rfl rfl rfl (hL78 p0 p1 p2 p0 v74.toInt32 _)
      · refine r_iconst (pc := 67) (v := 0) E dX2_read_67 (by decide) ?_
        refine r_goto (pc := 68) (tgt := 78) E dX2_read_68 (by decide) ?_
        exact r_sub [] [] [0, 1, 2] rfl rfl rfl (hL78 p0 p1 p2 p0 0 _)
    · refine r_iconst (pc := 55) (v := 1) E dX2_read_55 (by decide) ?_
      exact e_bool (pc := 56) E dX2_read_56
  have hL44 : ∀ (p0 : Option Nat) (p1 : Option Nat) (p2 : Option Nat) (q0 : Option Nat) (M : Mem), RT p l e rmX2_read s m args below meth c x 4 (QM below args s x (fun v : Int32 => some (.int v)) rmX2_read.cells rmX2_read.slots) 0 0 (fX2_read_L44 p0 p1 p2 q0 M) 44 [] [] [(0, p0), (1, p1), (2, p2)] [rv x q0] M := by
    intro p0 p1 p2 q0 M
    unfold fX2_read_L44
    refine r_iconst (pc := 44) (v := 0) E dX2_read_44 (by decide) ?_
    exact r_sub [] [] [0, 1, 2] rfl rfl rfl (hL45 p0 p1 p2 q0 0 _)
  show RT p l e rmX2_read s m args below meth c x 4 (QM below args s x (fun v : Int32 => some (.int v)) rmX2_read.cells rmX2_read.slots) 0 0 (fX2_read a0 a1 a2 M) 0 [] [] [(0, a0), (1, a1), (2, a2)] [] M
  unfold fX2_read
  refine r_aload_n (pc := 0) E dX2_read_0 rfl 0 rfl ?_
  refine r_getA (pc := 1) E fd_2_2 wf_RX2_9 dX2_read_1 (fun v1 => ?_)
  refine r_null (pc := 4) E dX2_read_4 ?_
  refine r_kSNv (pc := 5) (As := [rv x v1, rv x none]) (rest := []) E wc_X12_rememberFirst wi_RX12 hd_X12_rememberFirst (host := "TabledFrames") (by decide +kernel) wt_X12_rememberFirst dX2_read_5 (by decide) (Nat.le_of_ble_eq_true rfl) ⟨rfl, rfl⟩ (ctX12_rememberFirst l x _ _ _) rfl (fun v5 M5 => ?_)
  refine r_aload_n (pc := 8) E dX2_read_8 rfl 0 rfl ?_
  refine r_iconst (pc := 9) (v := 0) E dX2_read_9 (by decide) ?_
  refine r_putI (pc := 10) E fd_2_0 wf_RX2_42 dX2_read_10 (Or.inl rfl) (fun M10 => ?_)
  refine r_aload_n (pc := 13) E dX2_read_13 rfl 0 rfl ?_
  refine r_iconst (pc := 14) (v := 0) E dX2_read_14 (by decide) ?_
  refine r_putI (pc := 15) E fd_2_6 wf_RX2_46 dX2_read_15 (Or.inl rfl) (fun M15 => ?_)
  refine r_aload_n (pc := 18) E dX2_read_18 rfl 0 rfl ?_
  refine r_aload_n (pc := 19) E dX2_read_19 rfl 1 rfl ?_
  refine r_getI (pc := 20) E fd_8_1 wf_RX2_49 dX2_read_20 (fun v20 => ?_)
  refine r_iconst (pc := 23) (v := 4) E dX2_read_23 (by decide) ?_
  refine r_icmp_lt (pc := 24) (tgt := 44) E dX2_read_24 (by decide) ?_ ?_
  · exact r_sub [] [] [0, 1, 2] rfl rfl rfl (hL44 a0 a1 a2 a0 _)
  · refine r_aload_n (pc := 27) E dX2_read_27 rfl 1 rfl ?_
    refine r_iconst (pc := 28) (v := 0) E dX2_read_28 (by decide) ?_
    refine r_iconst (pc := 29) (v := 4) E dX2_read_29 (by decide) ?_
    refine r_kVl (pc := 30) (As := [.int 0, .int 4]) (rest := [rv x a0]) E wc_X8_number wi_RX8 hd_X8_number (ci := 8) rfl wl_RX2_52 wn_X8_number ws_X8_number dX2_read_30 (by decide) (Nat.le_of_ble_eq_true rfl) ⟨rfl, rfl⟩ (ctX8_number l x _ _ _ _) rfl (fun v30 M30 => ?_)
    refine r_ldc2 (pc := 33) E wk_RX2_55 dX2_read_33 ?_
    refine r_lcmp (pc := 36) E dX2_read_36 ?_
    refine r_if_ne (pc := 37) (tgt := 44) E dX2_read_37 (by decide) ?_ ?_
    · exact r_sub [] [] [0, 1, 2] rfl rfl rfl (hL44 a0 a1 a2 a0 _)
    · refine r_iconst (pc := 40) (v := 1) E dX2_read_40 (by decide) ?_
      refine r_goto (pc := 41) (tgt := 45) E dX2_read_41 (by decide) ?_
      exact r_sub [] [] [0, 1, 2] rfl rfl rfl (hL45 a0 a1 a2 a0 1 _)
def fX8_addFrom_B19 (k19 : Option Nat × Option Nat × Int32 × Int32 × Int32 × Int32 → Mem → Option (Unit × Mem)) (p0 : Option Nat) (p1 : Option Nat) (p2 : Int32) (p3 : Int32) (p4 : Int32) (p5 : Int32) (M : Mem) : Option (Unit × Mem) :=
  if p4 ≤ p5 then (
    bo (gI M p0 8 1) fun v55 =>
    bo (pI M p0 8 1 (v55 + p3)) fun M60 =>
    some ((), M60)
  ) else (
    bo (gR M p0 8 0) fun v27 =>
    bo (gI M p0 8 1) fun v31 =>
    bo (chk M p1 8) fun _ => bd (fX8_get p1 (p2 + p5) M) fun v42 M42 =>
    bo (wB M42 v27 (v31 + p5) (i2b v42)) fun M46 =>
    bn (p5 + 1) fun v47 =>
    k19 ((p0, p1, p2, p3, p4, v47)) M46
  )
def fX8_addFrom_L19 (p0 : Option Nat) (p1 : Option Nat) (p2 : Int32) (p3 : Int32) (p4 : Int32) (p5 : Int32) (M : Mem) : Option (Unit × Mem) :=
  lp (fun k19 (a : Option Nat × Option Nat × Int32 × Int32 × Int32 × Int32) M => fX8_addFrom_B19 k19 a.1 a.2.1 a.2.2.1 a.2.2.2.1 a.2.2.2.2.1 a.2.2.2.2.2 M) FU ((p0, p1, p2, p3, p4, p5)) M
def fX8_addFrom (a0 : Option Nat) (a1 : Option Nat) (a2 : Int32) (a3 : Int32) (M : Mem) : Option (Unit × Mem) :=
  bo (gR M a0 8 0) fun v2 =>
  bo (aL M v2) fun v5 =>
  bo (gI M a0 8 1) fun v7 =>
  bn (minI a3 (v5 - v7)) fun v14 =>
  bn (0) fun v17 =>
  fX8_addFrom_L19 a0 a1 a2 a3 v14 v17 M
def rmX8_addFrom : Room := { frames := 1, cells := 0, slots := 0, locals := 23 }
set_option maxRecDepth 100000 in
set_option maxHeartbeats 4000000 in
theorem ctX8_addFrom (l : Launch) (x : Cx) (a0 : Option Nat) (a1 : Option Nat) (a2 : Int32) (a3 : Int32) (M : Mem) (v : Unit) (N : Mem) (h : fX8_addFrom a0 a1 a2 a3 M = some (v, N)) : CT l yX8_addFrom cX8_addFrom 6 (none) rmX8_addFrom x [rv x a0, rv x a1, .int a2, .int a3] M none N := by
  refine ct_mk (enc := fun _ : Unit => none) (li := [(2, a2), (3, a3)]) (ll := []) (lr := [(0, a0), (1, a1)]) (by decide +kernel) (by simp [lg_sl, rv_cat, cat_int, cat_long]) (by simp [flat, lv_args, rv_cat, cat_int, cat_long]) h ?_
  intro p e s m args below meth c E
  have hL19 : ∀ (p0 : Option Nat) (p1 : Option Nat) (p2 : Int32) (p3 : Int32) (p4 : Int32) (p5 : Int32) (M : Mem), RT p l e rmX8_addFrom s m args below meth c x 6 (QM below args s x (fun _ : Unit => none) rmX8_addFrom.cells rmX8_addFrom.slots) 0 0 (fX8_addFrom_L19 p0 p1 p2 p3 p4 p5 M) 19 [(2, p2), (3, p3), (4, p4), (5, p5)] [] [(0, p0), (1, p1)] [] M := by
    intro p0 p1 p2 p3 p4 p5 M
    refine r_lp (fi := fun a : Option Nat × Option Nat × Int32 × Int32 × Int32 × Int32 => [(2, a.2.2.1), (3, a.2.2.2.1), (4, a.2.2.2.2.1), (5, a.2.2.2.2.2)]) (fl := fun a : Option Nat × Option Nat × Int32 × Int32 × Int32 × Int32 => []) (fr := fun a : Option Nat × Option Nat × Int32 × Int32 × Int32 × Int32 => [(0, a.1), (1, a.2.1)]) (fs := fun a : Option Nat × Option Nat × Int32 × Int32 × Int32 × Int32 => []) ?_ FU ((p0, p1, p2, p3, p4, p5)) M
    intro k19 hk19 a M
    obtain ⟨p0, p1, p2, p3, p4, p5⟩ := a
    show RT p l e rmX8_addFrom s m args below meth c x 6 (QM below args s x (fun _ : Unit => none) rmX8_addFrom.cells rmX8_addFrom.slots) 0 0 (fX8_addFrom_B19 k19 p0 p1 p2 p3 p4 p5 M) 19 [(2, p2), (3, p3), (4, p4), (5, p5)] [] [(0, p0), (1, p1)] [] M
    unfold fX8_addFrom_B19
    refine r_iload (pc := 19) E dX8_addFrom_19 3 rfl ?_
    refine r_iload (pc := 21) E dX8_addFrom_21 2 rfl ?_
    refine r_icmp_ge (pc := 23) (tgt := 53) E dX8_addFrom_23 (by decide) ?_ ?_
    · refine r_aload_n (pc := 53) E dX8_addFrom_53 rfl 0 rfl ?_
      refine r_dup (pc := 54) E dX8_addFrom_54 (rv_cat _ _) ?_
      refine r_getI (pc := 55) E fd_8_1 wf_RX8_21 dX8_addFrom_55 (fun v55 => ?_)
      refine r_iload_n (pc := 58) E dX8_addFrom_58 rfl 1 rfl ?_
      refine r_iadd (pc := 59) E dX8_addFrom_59 ?_
      refine r_putI (pc := 60) E fd_8_1 wf_RX8_21 dX8_addFrom_60 (Or.inl rfl) (fun M60 => ?_)
      exact e_void (pc := 63) E dX8_addFrom_63
    · refine r_aload_n (pc := 26) E dX8_addFrom_26 rfl 0 rfl ?_
      refine r_getA (pc := 27) E fd_8_0 wf_RX8_15 dX8_addFrom_27 (fun v27 => ?_)
      refine r_aload_n (pc := 30) E dX8_addFrom_30 rfl 0 rfl ?_
      refine r_getI (pc := 31) E fd_8_1 wf_RX8_21 dX8_addFrom_31 (fun v31 => ?_)
      refine r_iload (pc := 34) E dX8_addFrom_34 3 rfl ?_
      refine r_iadd (pc := 36) E dX8_addFrom_36 ?_
      refine r_aload_n (pc := 37) E dX8_addFrom_37 rfl 1 rfl ?_
      refine r_iload_n (pc := 38) E dX8_addFrom_38 rfl 0 rfl ?_
      refine r_iload (pc := 39) E dX8_addFrom_39 3 rfl ?_
      refine r_iadd (pc := 41) E dX8_addFrom_41 ?_
      refine r_kVi (pc := 42) (As := [.int (p2 + p5)]) (rest := [.int (v31 + p5), rv x v27]) E wc_X8_get wi_RX8 hd_X8_get (ci := 8) rfl wl_RX8_28 wn_X8_get ws_X8_get dX8_addFrom_42 (by decide) (Nat.le_of_ble_eq_true rfl) ⟨rfl, rfl⟩ (ctX8_get l x _ _ _) rfl (fun v42 M42 => ?_)
      refine r_i2b (pc := 45) E dX8_addFrom_45 ?_
      refine r_bastore (pc := 46) E dX8_addFrom_46 (fun M46 => ?_)
      refine r_iinc (pc := 47) (w := 1) (lf := fun v47 => [(5, v47), (2, p2), (3, p3), (4, p4)]) (ll' := []) (lr' := [(0, p0), (1, p1)]) E dX8_addFrom_47 3 rfl (by decide) (by decide) (fun _ => rfl) rfl rfl (fun v47 => ?_)
      refine r_goto (pc := 50) (tgt := 19) E dX8_addFrom_50 (by decide) ?_
      exact r_sub [1, 2, 3, 0] [] [0, 1] rfl rfl rfl (hk19 ((p0, p1, p2, p3, p4, v47)) _)
  show RT p l e rmX8_addFrom s m args below meth c x 6 (QM below args s x (fun _ : Unit => none) rmX8_addFrom.cells rmX8_addFrom.slots) 0 0 (fX8_addFrom a0 a1 a2 a3 M) 0 [(2, a2), (3, a3)] [] [(0, a0), (1, a1)] [] M
  unfold fX8_addFrom
  refine r_iload_n (pc := 0) E dX8_addFrom_0 rfl 1 rfl ?_
  refine r_aload_n (pc := 1) E dX8_addFrom_1 rfl 0 rfl ?_
  refine r_getA (pc := 2) E fd_8_0 wf_RX8_15 dX8_addFrom_2 (fun v2 => ?_)
  refine r_alen (pc := 5) E dX8_addFrom_5 (fun v5 => ?_)
  refine r_aload_n (pc := 6) E dX8_addFrom_6 rfl 0 rfl ?_
  refine r_getI (pc := 7) E fd_8_1 wf_RX8_21 dX8_addFrom_7 (fun v7 => ?_)
  refine r_isub (pc := 10) E dX8_addFrom_10 ?_
  refine r_mmin (pc := 11) E wl_RX8_25 wm_smin wi_math wm_cmin dX8_addFrom_11 (by decide) (Nat.le_of_ble_eq_true rfl) ?_
  refine r_istore (pc := 14) (lf := fun v14 => [(4, v14), (2, a2), (3, a3)]) (lg := fun v14 => []) (lk := fun v14 => [(0, a0), (1, a1)]) E dX8_addFrom_14 (by decide) (fun _ => rfl) (fun _ => rfl) (fun _ => rfl) (fun v14 => ?_)
  refine r_iconst (pc := 16) (v := 0) E dX8_addFrom_16 (by decide) ?_
  refine r_istore (pc := 17) (lf := fun v17 => [(5, v17), (4, v14), (2, a2), (3, a3)]) (lg := fun v17 => []) (lk := fun v17 => [(0, a0), (1, a1)]) E dX8_addFrom_17 (by decide) (fun _ => rfl) (fun _ => rfl) (fun _ => rfl) (fun v17 => ?_)
  exact r_sub [2, 3, 1, 0] [] [0, 1] rfl rfl rfl (hL19 a0 a1 a2 a3 v14 v17 _)
def fX2_takeContent (a0 : Option Nat) (a1 : Option Nat) (M : Mem) : Option (Unit × Mem) :=
  bo (gR M a0 2 5) fun v1 =>
  bo (pI M v1 8 1 0) fun M5 =>
  bo (gR M5 a0 2 5) fun v9 =>
  bo (gI M5 a0 2 6) fun v14 =>
  bo (gI M5 a1 8 1) fun v18 =>
  bo (gI M5 a0 2 6) fun v22 =>
  bo (chk M5 v9 8) fun _ => bd (fX8_addFrom v9 a1 v14 (v18 - v22) M5) fun v26 M26 =>
  some ((), M26)
def rmX2_takeContent : Room := { frames := 2, cells := 0, slots := 0, locals := 48 }
set_option maxRecDepth 100000 in
set_option maxHeartbeats 4000000 in
theorem ctX2_takeContent (l : Launch) (x : Cx) (a0 : Option Nat) (a1 : Option Nat) (M : Mem) (v : Unit) (N : Mem) (h : fX2_takeContent a0 a1 M = some (v, N)) : CT l yX2_takeContent cX2_takeContent 2 (none) rmX2_takeContent x [rv x a0, rv x a1] M none N := by
  refine ct_mk (enc := fun _ : Unit => none) (li := []) (ll := []) (lr := [(0, a0), (1, a1)]) (by decide +kernel) (by simp [lg_sl, rv_cat, cat_int, cat_long]) (by simp [flat, lv_args, rv_cat, cat_int, cat_long]) h ?_
  intro p e s m args below meth c E
  show RT p l e rmX2_takeContent s m args below meth c x 2 (QM below args s x (fun _ : Unit => none) rmX2_takeContent.cells rmX2_takeContent.slots) 0 0 (fX2_takeContent a0 a1 M) 0 [] [] [(0, a0), (1, a1)] [] M
  unfold fX2_takeContent
  refine r_aload_n (pc := 0) E dX2_takeContent_0 rfl 0 rfl ?_
  refine r_getR (pc := 1) E fd_2_5 wf_RX2_33 dX2_takeContent_1 (fun v1 => ?_)
  refine r_iconst (pc := 4) (v := 0) E dX2_takeContent_4 (by decide) ?_
  refine r_putI (pc := 5) E fd_8_1 wf_RX2_49 dX2_takeContent_5 (Or.inl rfl) (fun M5 => ?_)
  refine r_aload_n (pc := 8) E dX2_takeContent_8 rfl 0 rfl ?_
  refine r_getR (pc := 9) E fd_2_5 wf_RX2_33 dX2_takeContent_9 (fun v9 => ?_)
  refine r_aload_n (pc := 12) E dX2_takeContent_12 rfl 1 rfl ?_
  refine r_aload_n (pc := 13) E dX2_takeContent_13 rfl 0 rfl ?_
  refine r_getI (pc := 14) E fd_2_6 wf_RX2_46 dX2_takeContent_14 (fun v14 => ?_)
  refine r_aload_n (pc := 17) E dX2_takeContent_17 rfl 1 rfl ?_
  refine r_getI (pc := 18) E fd_8_1 wf_RX2_49 dX2_takeContent_18 (fun v18 => ?_)
  refine r_aload_n (pc := 21) E dX2_takeContent_21 rfl 0 rfl ?_
  refine r_getI (pc := 22) E fd_2_6 wf_RX2_46 dX2_takeContent_22 (fun v22 => ?_)
  refine r_isub (pc := 25) E dX2_takeContent_25 ?_
  refine r_kVv (pc := 26) (As := [rv x a1, .int v14, .int (v18 - v22)]) (rest := []) E wc_X8_addFrom wi_RX8 hd_X8_addFrom (ci := 8) rfl wl_RX2_87 wn_X8_addFrom ws_X8_addFrom dX2_takeContent_26 (by decide) (Nat.le_of_ble_eq_true rfl) ⟨rfl, rfl⟩ (ctX8_addFrom l x _ _ _ _ _) rfl (fun v26 M26 => ?_)
  exact e_void (pc := 29) E dX2_takeContent_29
def fX3_init (a0 : Option Nat) (M : Mem) : Option (Unit × Mem) :=
  bo (chk0 a0) fun _ =>
  bd (nw M 8) fun v5 M5 =>
  bo (chk0 v5) fun _ => bd (fX8_init v5 2048 M5) fun v12 M12 =>
  bo (pR M12 a0 3 0 v5) fun M15 =>
  bd (nwA M15 15 512 512) fun v22 M22 =>
  bo (pR M22 a0 3 2 v22) fun M24 =>
  bd (nwA M24 15 512 512) fun v31 M31 =>
  bo (pR M31 a0 3 3 v31) fun M33 =>
  bd (nwA M33 15 512 512) fun v40 M40 =>
  bo (pR M40 a0 3 4 v40) fun M42 =>
  bd (nw M42 8) fun v46 M46 =>
  bo (chk0 v46) fun _ => bd (fX8_init v46 9000 M46) fun v53 M53 =>
  bo (pR M53 a0 3 5 v46) fun M56 =>
  bd (nwA M56 15 4096 4096) fun v63 M63 =>
  bo (pR M63 a0 3 6 v63) fun M65 =>
  bd (nwA M65 15 9000 9000) fun v72 M72 =>
  bo (pR M72 a0 3 7 v72) fun M74 =>
  some ((), M74)
def rmX3_init : Room := { frames := 2, cells := 9, slots := 32640, locals := 44 }
set_option maxRecDepth 100000 in
set_option maxHeartbeats 4000000 in
theorem ctX3_init (l : Launch) (x : Cx) (a0 : Option Nat) (M : Mem) (v : Unit) (N : Mem) (h : fX3_init a0 M = some (v, N)) : CT l yX3_init cX3_init 1 (none) rmX3_init x [rv x a0] M none N := by
  refine ct_mk (enc := fun _ : Unit => none) (li := []) (ll := []) (lr := [(0, a0)]) (by decide +kernel) (by simp [lg_sl, rv_cat, cat_int, cat_long]) (by simp [flat, lv_args, rv_cat, cat_int, cat_long]) h ?_
  intro p e s m args below meth c E
  show RT p l e rmX3_init s m args below meth c x 1 (QM below args s x (fun _ : Unit => none) rmX3_init.cells rmX3_init.slots) 0 0 (fX3_init a0 M) 0 [] [] [(0, a0)] [] M
  unfold fX3_init
  refine r_aload_n (pc := 0) E dX3_init_0 rfl 0 rfl ?_
  refine r_obj (pc := 1) E wl_RX3_3 wo_inst wo_code dX3_init_1 (by decide) (by decide) (Nat.le_of_ble_eq_true rfl) ?_
  refine r_aload_n (pc := 4) E dX3_init_4 rfl 0 rfl ?_
  refine r_new (pc := 5) E cd_8 (by decide) wx_RX3_9 dX3_init_5 (by decide) (by decide) (fun v5 M5 => ?_)
  refine r_widen (k := 1) (n := 4) (by decide) (by decide) ?_
  refine r_dup (pc := 8) E dX3_init_8 (rv_cat _ _) ?_
  refine r_sipush (pc := 9) (v := 2048) E dX3_init_9 (by decide) ?_
  refine r_callI (pc := 12) (As := [.int 2048]) (rest := [rv x v5, rv x a0]) E wc_X8_init wi_RX8 hd_X8_init wl_RX3_11 rfl wn_X8_init dX3_init_12 (by decide) (Nat.le_of_ble_eq_true rfl) (ctX8_init l x _ _ _) rfl (fun v12 M12 => ?_)
  refine r_widen (k := 2) (n := 9004) (by decide) (by decide) ?_
  refine r_putR (pc := 15) E fd_3_0 wf_RX3_14 dX3_init_15 (Or.inr ⟨rfl, rfl⟩) (fun M15 => ?_)
  refine r_aload_n (pc := 18) E dX3_init_18 rfl 0 rfl ?_
  refine r_sipush (pc := 19) (v := 512) E dX3_init_19 (by decide) ?_
  refine r_newarrayI (pc := 22) E wa_I dX3_init_22 (by decide) (by decide) (by decide) (fun v22 M22 => ?_)
  refine r_widen (k := 3) (n := 9516) (by decide) (by decide) ?_
  refine r_putA (pc := 24) E fd_3_2 wf_RX3_20 dX3_init_24 (Or.inr ⟨rfl, rfl⟩) (fun M24 => ?_)
  refine r_aload_n (pc := 27) E dX3_init_27 rfl 0 rfl ?_
  refine r_sipush (pc := 28) (v := 512) E dX3_init_28 (by decide) ?_
  refine r_newarrayI (pc := 31) E wa_I dX3_init_31 (by decide) (by decide) (by decide) (fun v31 M31 => ?_)
  refine r_widen (k := 4) (n := 10028) (by decide) (by decide) ?_
  refine r_putA (pc := 33) E fd_3_3 wf_RX3_24 dX3_init_33 (Or.inr ⟨rfl, rfl⟩) (fun M33 => ?_)
  refine r_aload_n (pc := 36) E dX3_init_36 rfl 0 rfl ?_
  refine r_sipush (pc := 37) (v := 512) E dX3_init_37 (by decide) ?_
  refine r_newarrayI (pc := 40) E wa_I dX3_init_40 (by decide) (by decide) (by decide) (fun v40 M40 => ?_)
  refine r_widen (k := 5) (n := 10540) (by decide) (by decide) ?_
  refine r_putA (pc := 42) E fd_3_4 wf_RX3_27 dX3_init_42 (Or.inr ⟨rfl, rfl⟩) (fun M42 => ?_)
  refine r_aload_n (pc := 45) E dX3_init_45 rfl 0 rfl ?_
  refine r_new (pc := 46) E cd_8 (by decide) wx_RX3_9 dX3_init_46 (by decide) (by decide) (fun v46 M46 => ?_)
  refine r_widen (k := 6) (n := 10544) (by decide) (by decide) ?_
  refine r_dup (pc := 49) E dX3_init_49 (rv_cat _ _) ?_
  refine r_sipush (pc := 50) (v := 9000) E dX3_init_50 (by decide) ?_
  refine r_callI (pc := 53) (As := [.int 9000]) (rest := [rv x v46, rv x a0]) E wc_X8_init wi_RX8 hd_X8_init wl_RX3_11 rfl wn_X8_init dX3_init_53 (by decide) (Nat.le_of_ble_eq_true rfl) (ctX8_init l x _ _ _) rfl (fun v53 M53 => ?_)
  refine r_widen (k := 7) (n := 19544) (by decide) (by decide) ?_
  refine r_putR (pc := 56) E fd_3_5 wf_RX3_30 dX3_init_56 (Or.inr ⟨rfl, rfl⟩) (fun M56 => ?_)
  refine r_aload_n (pc := 59) E dX3_init_59 rfl 0 rfl ?_
  refine r_sipush (pc := 60) (v := 4096) E dX3_init_60 (by decide) ?_
  refine r_newarrayI (pc := 63) E wa_I dX3_init_63 (by decide) (by decide) (by decide) (fun v63 M63 => ?_)
  refine r_widen (k := 8) (n := 23640) (by decide) (by decide) ?_
  refine r_putA (pc := 65) E fd_3_6 wf_RX3_33 dX3_init_65 (Or.inr ⟨rfl, rfl⟩) (fun M65 => ?_)
  refine r_aload_n (pc := 68) E dX3_init_68 rfl 0 rfl ?_
  refine r_sipush (pc := 69) (v := 9000) E dX3_init_69 (by decide) ?_
  refine r_newarrayI (pc := 72) E wa_I dX3_init_72 (by decide) (by decide) (by decide) (fun v72 M72 => ?_)
  refine r_widen (k := 9) (n := 32640) (by decide) (by decide) ?_
  refine r_putA (pc := 74) E fd_3_7 wf_RX3_36 dX3_init_74 (Or.inr ⟨rfl, rfl⟩) (fun M74 => ?_)
  refine r_widen (k := 9) (n := 32640) (by decide) (by decide) ?_
  exact e_void (pc := 77) E dX3_init_77
def fX3_begin_L25 (p0 : Option Nat) (p1 : Option Nat) (M : Mem) : Option (Unit × Mem) :=
  bo (gR M p0 3 5) fun v27 =>
  bo (gI M v27 8 1) fun v30 =>
  bo (pI M p0 3 8 v30) fun M33 =>
  bo (gR M33 p0 3 5) fun v37 =>
  bo (gI M33 p1 8 1) fun v43 =>
  bo (chk M33 v37 8) fun _ => bd (fX8_addFrom v37 p1 0 v43 M33) fun v46 M46 =>
  bo (gR M46 p0 3 6) fun v50 =>
  bd (fJ7_fill_53178 v50 ((-1)) M46) fun v54 M54 =>
  bo (pI M54 p0 3 9 0) fun M59 =>
  some ((), M59)
def fX3_begin (a0 : Option Nat) (a1 : Option Nat) (a2 : Option Nat) (M : Mem) : Option (Unit × Mem) :=
  bo (gR M a0 3 5) fun v1 =>
  bo (pI M v1 8 1 0) fun M5 =>
  if a2 = none then (
    fX3_begin_L25 a0 a1 M5
  ) else (
    bo (gR M5 a0 3 5) fun v13 =>
    bo (gI M5 a2 8 1) fun v19 =>
    bo (chk M5 v13 8) fun _ => bd (fX8_addFrom v13 a2 0 v19 M5) fun v22 M22 =>
    fX3_begin_L25 a0 a1 M22
  )
def rmX3_begin : Room := { frames := 2, cells := 0, slots := 0, locals := 48 }
set_option maxRecDepth 100000 in
set_option maxHeartbeats 4000000 in
theorem ctX3_begin (l : Launch) (x : Cx) (a0 : Option Nat) (a1 : Option Nat) (a2 : Option Nat) (M : Mem) (v : Unit) (N : Mem) (h : fX3_begin a0 a1 a2 M = some (v, N)) : CT l yX3_begin cX3_begin 3 (none) rmX3_begin x [rv x a0, rv x a1, rv x a2] M none N := by
  refine ct_mk (enc := fun _ : Unit => none) (li := []) (ll := []) (lr := [(0, a0), (1, a1), (2, a2)]) (by decide +kernel) (by simp [lg_sl, rv_cat, cat_int, cat_long]) (by simp [flat, lv_args, rv_cat, cat_int, cat_long]) h ?_
  intro p e s m args below meth c E
  have hL25 : ∀ (p0 : Option Nat) (p1 : Option Nat) (M : Mem), RT p l e rmX3_begin s m args below meth c x 3 (QM below args s x (fun _ : Unit => none) rmX3_begin.cells rmX3_begin.slots) 0 0 (fX3_begin_L25 p0 p1 M) 25 [] [] [(0, p0), (1, p1)] [] M := by
    intro p0 p1 M
    unfold fX3_begin_L25
    refine r_aload_n (pc := 25) E dX3_begin_25 rfl 0 rfl ?_
    refine r_aload_n (pc := 26) E dX3_begin_26 rfl 0 rfl ?_
    refine r_getR (pc := 27) E fd_3_5 wf_RX3_30 dX3_begin_27 (fun v27 => ?_)
    refine r_getI (pc := 30) E fd_8_1 wf_RX3_39 dX3_begin_30 (fun v30 => ?_)
    refine r_putI (pc := 33) E fd_3_8 wf_RX3_47 dX3_begin_33 (Or.inl rfl) (fun M33 => ?_)
    refine r_aload_n (pc := 36) E dX3_begin_36 rfl 0 rfl ?_
    refine r_getR (pc := 37) E fd_3_5 wf_RX3_30 dX3_begin_37 (fun v37 => ?_)
    refine r_aload_n (pc := 40) E dX3_begin_40 rfl 1 rfl ?_
    refine r_iconst (pc := 41) (v := 0) E dX3_begin_41 (by decide) ?_
    refine r_aload_n (pc := 42) E dX3_begin_42 rfl 1 rfl ?_
    refine r_getI (pc := 43) E fd_8_1 wf_RX3_39 dX3_begin_43 (fun v43 => ?_)
    refine r_kVv (pc := 46) (As := [rv x p1, .int 0, .int v43]) (rest := []) E wc_X8_addFrom wi_RX8 hd_X8_addFrom (ci := 8) rfl wl_RX3_43 wn_X8_addFrom ws_X8_addFrom dX3_begin_46 (by decide) (Nat.le_of_ble_eq_true rfl) ⟨rfl, rfl⟩ (ctX8_addFrom l x _ _ _ _ _) rfl (fun v46 M46 => ?_)
    refine r_aload_n (pc := 49) E dX3_begin_49 rfl 0 rfl ?_
    refine r_getA (pc := 50) E fd_3_6 wf_RX3_33 dX3_begin_50 (fun v50 => ?_)
    refine r_iconst (pc := 53) (v := (-1)) E dX3_begin_53 (by decide) ?_
    refine r_kSv (pc := 54) (As := [rv x v50, .int ((-1))]) (rest := []) E wc_J7_fill_53178 wi_RJ7 hd_J7_fill_53178 wl_RX3_50 wt_J7_fill_53178 dX3_begin_54 (by decide) (Nat.le_of_ble_eq_true rfl) ⟨rfl, rfl⟩ (ctJ7_fill_53178 l x _ _ _) rfl (fun v54 M54 => ?_)
    refine r_aload_n (pc := 57) E dX3_begin_57 rfl 0 rfl ?_
    refine r_iconst (pc := 58) (v := 0) E dX3_begin_58 (by decide) ?_
    refine r_putI (pc := 59) E fd_3_9 wf_RX3_56 dX3_begin_59 (Or.inl rfl) (fun M59 => ?_)
    exact e_void (pc := 62) E dX3_begin_62
  show RT p l e rmX3_begin s m args below meth c x 3 (QM below args s x (fun _ : Unit => none) rmX3_begin.cells rmX3_begin.slots) 0 0 (fX3_begin a0 a1 a2 M) 0 [] [] [(0, a0), (1, a1), (2, a2)] [] M
  unfold fX3_begin
  refine r_aload_n (pc := 0) E dX3_begin_0 rfl 0 rfl ?_
  refine r_getR (pc := 1) E fd_3_5 wf_RX3_30 dX3_begin_1 (fun v1 => ?_)
  refine r_iconst (pc := 4) (v := 0) E dX3_begin_4 (by decide) ?_
  refine r_putI (pc := 5) E fd_8_1 wf_RX3_39 dX3_begin_5 (Or.inl rfl) (fun M5 => ?_)
  refine r_aload_n (pc := 8) E dX3_begin_8 rfl 2 rfl ?_
  refine r_ifnull (pc := 9) (tgt := 25) E dX3_begin_9 (by decide) ?_ ?_
  · exact r_sub [] [] [0, 1] rfl rfl rfl (hL25 a0 a1 _)
  · refine r_aload_n (pc := 12) E dX3_begin_12 rfl 0 rfl ?_
    refine r_getR (pc := 13) E fd_3_5 wf_RX3_30 dX3_begin_13 (fun v13 => ?_)
    refine r_aload_n (pc := 16) E dX3_begin_16 rfl 2 rfl ?_
    refine r_iconst (pc := 17) (v := 0) E dX3_begin_17 (by decide) ?_
    refine r_aload_n (pc := 18) E dX3_begin_18 rfl 2 rfl ?_
    refine r_getI (pc := 19) E fd_8_1 wf_RX3_39 dX3_begin_19 (fun v19 => ?_)
    refine r_kVv (pc := 22) (As := [rv x a2, .int 0, .int v19]) (rest := []) E wc_X8_addFrom wi_RX8 hd_X8_addFrom (ci := 8) rfl wl_RX3_43 wn_X8_addFrom ws_X8_addFrom dX3_begin_22 (by decide) (Nat.le_of_ble_eq_true rfl) ⟨rfl, rfl⟩ (ctX8_addFrom l x _ _ _ _ _) rfl (fun v22 M22 => ?_)
    exact r_sub [] [] [0, 1] rfl rfl rfl (hL25 a0 a1 _)
def fX3_chainOf (a0 : Option Nat) (a1 : Int32) (M : Mem) : Option (Int32 × Mem) :=
  bo (gR M a0 3 5) fun v1 =>
  bo (chk M v1 8) fun _ => bd (fX8_get v1 a1 M) fun v5 M5 =>
  bo (gR M5 a0 3 5) fun v9 =>
  bo (chk M5 v9 8) fun _ => bd (fX8_get v9 (a1 + 1) M5) fun v15 M15 =>
  bo (gR M15 a0 3 5) fun v23 =>
  bo (chk M15 v23 8) fun _ => bd (fX8_get v23 (a1 + 2) M15) fun v29 M29 =>
  bo (gR M29 a0 3 5) fun v37 =>
  bo (chk M29 v37 8) fun _ => bd (fX8_get v37 (a1 + 3) M29) fun v43 M43 =>
  bn (((v5 ||| (shlI v15 8)) ||| (shlI v29 16)) ||| (shlI v43 24)) fun v50 =>
  some (ushI (v50 * ((-1640531535))) 20, M43)
def rmX3_chainOf : Room := { frames := 1, cells := 0, slots := 0, locals := 21 }
set_option maxRecDepth 100000 in
set_option maxHeartbeats 4000000 in
theorem ctX3_chainOf (l : Launch) (x : Cx) (a0 : Option Nat) (a1 : Int32) (M : Mem) (v : Int32) (N : Mem) (h : fX3_chainOf a0 a1 M = some (v, N)) : CT l yX3_chainOf cX3_chainOf 3 (some (FieldType.int)) rmX3_chainOf x [rv x a0, .int a1] M (some (.int v)) N := by
  refine ct_mk (enc := fun v : Int32 => some (.int v)) (li := [(1, a1)]) (ll := []) (lr := [(0, a0)]) (by decide +kernel) (by simp [lg_sl, rv_cat, cat_int, cat_long]) (by simp [flat, lv_args, rv_cat, cat_int, cat_long]) h ?_
  intro p e s m args below meth c E
  show RT p l e rmX3_chainOf s m args below meth c x 3 (QM below args s x (fun v : Int32 => some (.int v)) rmX3_chainOf.cells rmX3_chainOf.slots) 0 0 (fX3_chainOf a0 a1 M) 0 [(1, a1)] [] [(0, a0)] [] M
  unfold fX3_chainOf
  refine r_aload_n (pc := 0) E dX3_chainOf_0 rfl 0 rfl ?_
  refine r_getR (pc := 1) E fd_3_5 wf_RX3_30 dX3_chainOf_1 (fun v1 => ?_)
  refine r_iload_n (pc := 4) E dX3_chainOf_4 rfl 0 rfl ?_
  refine r_kVi (pc := 5) (As := [.int a1]) (rest := []) E wc_X8_get wi_RX8 hd_X8_get (ci := 8) rfl wl_RX3_69 wn_X8_get ws_X8_get dX3_chainOf_5 (by decide) (Nat.le_of_ble_eq_true rfl) ⟨rfl, rfl⟩ (ctX8_get l x _ _ _) rfl (fun v5 M5 => ?_)
  refine r_aload_n (pc := 8) E dX3_chainOf_8 rfl 0 rfl ?_
  refine r_getR (pc := 9) E fd_3_5 wf_RX3_30 dX3_chainOf_9 (fun v9 => ?_)
  refine r_iload_n (pc := 12) E dX3_chainOf_12 rfl 0 rfl ?_
  refine r_iconst (pc := 13) (v := 1) E dX3_chainOf_13 (by decide) ?_
  refine r_iadd (pc := 14) E dX3_chainOf_14 ?_
  refine r_kVi (pc := 15) (As := [.int (a1 + 1)]) (rest := [.int v5]) E wc_X8_get wi_RX8 hd_X8_get (ci := 8) rfl wl_RX3_69 wn_X8_get ws_X8_get dX3_chainOf_15 (by decide) (Nat.le_of_ble_eq_true rfl) ⟨rfl, rfl⟩ (ctX8_get l x _ _ _) rfl (fun v15 M15 => ?_)
  refine r_bipush (pc := 18) (v := 8) E dX3_chainOf_18 (by decide) ?_
  refine r_ishl (pc := 20) E dX3_chainOf_20 ?_
  refine r_ior (pc := 21) E dX3_chainOf_21 ?_
  refine r_aload_n (pc := 22) E dX3_chainOf_22 rfl 0 rfl ?_
  refine r_getR (pc := 23) E fd_3_5 wf_RX3_30 dX3_chainOf_23 (fun v23 => ?_)
  refine r_iload_n (pc := 26) E dX3_chainOf_26 rfl 0 rfl ?_
  refine r_iconst (pc := 27) (v := 2) E dX3_chainOf_27 (by decide) ?_
  refine r_iadd (pc := 28) E dX3_chainOf_28 ?_
  refine r_kVi (pc := 29) (As := [.int (a1 + 2)]) (rest := [.int (v5 ||| (shlI v15 8))]) E wc_X8_get wi_RX8 hd_X8_get (ci := 8) rfl wl_RX3_69 wn_X8_get ws_X8_get dX3_chainOf_29 (by decide) (Nat.le_of_ble_eq_true rfl) ⟨rfl, rfl⟩ (ctX8_get l x _ _ _) rfl (fun v29 M29 => ?_)
  refine r_bipush (pc := 32) (v := 16) E dX3_chainOf_32 (by decide) ?_
  refine r_ishl (pc := 34) E dX3_chainOf_34 ?_
  refine r_ior (pc := 35) E dX3_chainOf_35 ?_
  refine r_aload_n (pc := 36) E dX3_chainOf_36 rfl 0 rfl ?_
  refine r_getR (pc := 37) E fd_3_5 wf_RX3_30 dX3_chainOf_37 (fun v37 => ?_)
  refine r_iload_n (pc := 40) E dX3_chainOf_40 rfl 0 rfl ?_
  refine r_iconst (pc := 41) (v := 3) E dX3_chainOf_41 (by decide) ?_
  refine r_iadd (pc := 42) E dX3_chainOf_42 ?_
  refine r_kVi (pc := 43) (As := [.int (a1 + 3)]) (rest := [.int ((v5 ||| (shlI v15 8)) ||| (shlI v29 16))]) E wc_X8_get wi_RX8 hd_X8_get (ci := 8) rfl wl_RX3_69 wn_X8_get ws_X8_get dX3_chainOf_43 (by decide) (Nat.le_of_ble_eq_true rfl) ⟨rfl, rfl⟩ (ctX8_get l x _ _ _) rfl (fun v43 M43 => ?_)
  refine r_bipush (pc := 46) (v := 24) E dX3_chainOf_46 (by decide) ?_
  refine r_ishl (pc := 48) E dX3_chainOf_48 ?_
  refine r_ior (pc := 49) E dX3_chainOf_49 ?_
  refine r_istore_n (pc := 50) (lf := fun v50 => [(2, v50), (1, a1)]) (lg := fun v50 => []) (lk := fun v50 => [(0, a0)]) E dX3_chainOf_50 rfl (by decide) (fun _ => rfl) (fun _ => rfl) (fun _ => rfl) (fun v50 => ?_)
  refine r_iload_n (pc := 51) E dX3_chainOf_51 rfl 0 rfl ?_
  refine r_ldc (pc := 52) E wk_RX3_89 dX3_chainOf_52 ?_
  refine r_imul (pc := 54) E dX3_chainOf_54 ?_
  refine r_bipush (pc := 55) (v := 20) E dX3_chainOf_55 (by decide) ?_
  refine r_iushr (pc := 57) E dX3_chainOf_57 ?_
  exact e_int (pc := 58) E dX3_chainOf_58
def fX3_linkUpTo_L67 (M : Mem) : Option (Unit × Mem) :=
  some ((), M)
def fX3_linkUpTo_B0 (k0 : Option Nat × Int32 → Mem → Option (Unit × Mem)) (p0 : Option Nat) (p1 : Int32) (M : Mem) : Option (Unit × Mem) :=
  bo (gI M p0 3 9) fun v1 =>
  if p1 ≤ v1 then (
    fX3_linkUpTo_L67 M
  ) else (
    bo (gI M p0 3 9) fun v9 =>
    bo (gR M p0 3 7) fun v13 =>
    bo (aL M v13) fun v16 =>
    if v16 ≤ v9 then (
      fX3_linkUpTo_L67 M
    ) else (
      bo (gI M p0 3 9) fun v22 =>
      bo (chk M p0 3) fun _ => bd (fX3_chainOf p0 v22 M) fun v25 M25 =>
      bn (v25) fun v28 =>
      bo (gR M25 p0 3 7) fun v30 =>
      bo (gI M25 p0 3 9) fun v34 =>
      bo (gR M25 p0 3 6) fun v38 =>
      bo (aI M25 v38 15 v28) fun v42 =>
      bo (wI M25 v30 v34 v42) fun M43 =>
      bo (gR M43 p0 3 6) fun v45 =>
      bo (gI M43 p0 3 9) fun v50 =>
      bo (wI M43 v45 v28 v50) fun M53 =>
      bo (gI M53 p0 3 9) fun v56 =>
      bo (pI M53 p0 3 9 (v56 + 1)) fun M61 =>
      k0 ((p0, p1)) M61
    )
  )
def fX3_linkUpTo_L0 (p0 : Option Nat) (p1 : Int32) (M : Mem) : Option (Unit × Mem) :=
  lp (fun k0 (a : Option Nat × Int32) M => fX3_linkUpTo_B0 k0 a.1 a.2 M) FU ((p0, p1)) M
def fX3_linkUpTo (a0 : Option Nat) (a1 : Int32) (M : Mem) : Option (Unit × Mem) :=
  fX3_linkUpTo_L0 a0 a1 M
def rmX3_linkUpTo : Room := { frames := 2, cells := 0, slots := 0, locals := 43 }
set_option maxRecDepth 100000 in
set_option maxHeartbeats 4000000 in
theorem ctX3_linkUpTo (l : Launch) (x : Cx) (a0 : Option Nat) (a1 : Int32) (M : Mem) (v : Unit) (N : Mem) (h : fX3_linkUpTo a0 a1 M = some (v, N)) : CT l yX3_linkUpTo cX3_linkUpTo 3 (none) rmX3_linkUpTo x [rv x a0, .int a1] M none N := by
  refine ct_mk (enc := fun _ : Unit => none) (li := [(1, a1)]) (ll := []) (lr := [(0, a0)]) (by decide +kernel) (by simp [lg_sl, rv_cat, cat_int, cat_long]) (by simp [flat, lv_args, rv_cat, cat_int, cat_long]) h ?_
  intro p e s m args below meth c E
  have hL67 : ∀ (M : Mem), RT p l e rmX3_linkUpTo s m args below meth c x 3 (QM below args s x (fun _ : Unit => none) rmX3_linkUpTo.cells rmX3_linkUpTo.slots) 0 0 (fX3_linkUpTo_L67 M) 67 [] [] [] [] M := by
    intro M
    unfold fX3_linkUpTo_L67
    exact e_void (pc := 67) E dX3_linkUpTo_67
  have hL0 : ∀ (p0 : Option Nat) (p1 : Int32) (M : Mem), RT p l e rmX3_linkUpTo s m args below meth c x 3 (QM below args s x (fun _ : Unit => none) rmX3_linkUpTo.cells rmX3_linkUpTo.slots) 0 0 (fX3_linkUpTo_L0 p0 p1 M) 0 [(1, p1)] [] [(0, p0)] [] M := by
    intro p0 p1 M
    refine r_lp (fi := fun a : Option Nat × Int32 => [(1, a.2)]) (fl := fun a : Option Nat × Int32 => []) (fr := fun a : Option Nat × Int32 => [(0, a.1)]) (fs := fun a : Option Nat × Int32 => []) ?_ FU ((p0, p1)) M
    intro k0 hk0 a M
    obtain ⟨p0, p1⟩ := a
    show RT p l e rmX3_linkUpTo s m args below meth c x 3 (QM below args s x (fun _ : Unit => none) rmX3_linkUpTo.cells rmX3_linkUpTo.slots) 0 0 (fX3_linkUpTo_B0 k0 p0 p1 M) 0 [(1, p1)] [] [(0, p0)] [] M
    unfold fX3_linkUpTo_B0
    refine r_aload_n (pc := 0) E dX3_linkUpTo_0 rfl 0 rfl ?_
    refine r_getI (pc := 1) E fd_3_9 wf_RX3_56 dX3_linkUpTo_1 (fun v1 => ?_)
    refine r_iload_n (pc := 4) E dX3_linkUpTo_4 rfl 0 rfl ?_
    refine r_icmp_ge (pc := 5) (tgt := 67) E dX3_linkUpTo_5 (by decide) ?_ ?_
    · exact r_sub [] [] [] rfl rfl rfl (hL67 _)
    · refine r_aload_n (pc := 8) E dX3_linkUpTo_8 rfl 0 rfl ?_
      refine r_getI (pc := 9) E fd_3_9 wf_RX3_56 dX3_linkUpTo_9 (fun v9 => ?_)
      refine r_aload_n (pc := 12) E dX3_linkUpTo_12 rfl 0 rfl ?_
      refine r_getA (pc := 13) E fd_3_7 wf_RX3_36 dX3_linkUpTo_13 (fun v13 => ?_)
      refine r_alen (pc := 16) E dX3_linkUpTo_16 (fun v16 => ?_)
      refine r_icmp_ge (pc := 17) (tgt := 67) E dX3_linkUpTo_17 (by decide) ?_ ?_
      · exact r_sub [] [] [] rfl rfl rfl (hL67 _)
      · refine r_aload_n (pc := 20) E dX3_linkUpTo_20 rfl 0 rfl ?_
        refine r_aload_n (pc := 21) E dX3_linkUpTo_21 rfl 0 rfl ?_
        refine r_getI (pc := 22) E fd_3_9 wf_RX3_56 dX3_linkUpTo_22 (fun v22 => ?_)
        refine r_kVi (pc := 25) (As := [.int v22]) (rest := []) E wc_X3_chainOf wi_RX3 hd_X3_chainOf (ci := 3) rfl wl_RX3_82 wn_X3_chainOf ws_X3_chainOf dX3_linkUpTo_25 (by decide) (Nat.le_of_ble_eq_true rfl) ⟨rfl, rfl⟩ (ctX3_chainOf l x _ _ _) rfl (fun v25 M25 => ?_)
        refine r_istore_n (pc := 28) (lf := fun v28 => [(2, v28), (1, p1)]) (lg := fun v28 => []) (lk := fun v28 => [(0, p0)]) E dX3_linkUpTo_28 rfl (by decide) (fun _ => rfl) (fun _ => rfl) (fun _ => rfl) (fun v28 => ?_)
        refine r_aload_n (pc := 29) E dX3_linkUpTo_29 rfl 0 rfl ?_
        refine r_getA (pc := 30) E fd_3_7 wf_RX3_36 dX3_linkUpTo_30 (fun v30 => ?_)
        refine r_aload_n (pc := 33) E dX3_linkUpTo_33 rfl 0 rfl ?_
        refine r_getI (pc := 34) E fd_3_9 wf_RX3_56 dX3_linkUpTo_34 (fun v34 => ?_)
        refine r_aload_n (pc := 37) E dX3_linkUpTo_37 rfl 0 rfl ?_
        refine r_getA (pc := 38) E fd_3_6 wf_RX3_33 dX3_linkUpTo_38 (fun v38 => ?_)
        refine r_iload_n (pc := 41) E dX3_linkUpTo_41 rfl 0 rfl ?_
        refine r_iaload (pc := 42) E dX3_linkUpTo_42 (fun v42 => ?_)
        refine r_iastore (pc := 43) E dX3_linkUpTo_43 (fun M43 => ?_)
        refine r_aload_n (pc := 44) E dX3_linkUpTo_44 rfl 0 rfl ?_
        refine r_getA (pc := 45) E fd_3_6 wf_RX3_33 dX3_linkUpTo_45 (fun v45 => ?_)
        refine r_iload_n (pc := 48) E dX3_linkUpTo_48 rfl 0 rfl ?_
        refine r_aload_n (pc := 49) E dX3_linkUpTo_49 rfl 0 rfl ?_
        refine r_getI (pc := 50) E fd_3_9 wf_RX3_56 dX3_linkUpTo_50 (fun v50 => ?_)
        refine r_iastore (pc := 53) E dX3_linkUpTo_53 (fun M53 => ?_)
        refine r_aload_n (pc := 54) E dX3_linkUpTo_54 rfl 0 rfl ?_
        refine r_dup (pc := 55) E dX3_linkUpTo_55 (rv_cat _ _) ?_
        refine r_getI (pc := 56) E fd_3_9 wf_RX3_56 dX3_linkUpTo_56 (fun v56 => ?_)
        refine r_iconst (pc := 59) (v := 1) E dX3_linkUpTo_59 (by decide) ?_
        refine r_iadd (pc := 60) E dX3_linkUpTo_60 ?_
        refine r_putI (pc := 61) E fd_3_9 wf_RX3_56 dX3_linkUpTo_61 (Or.inl rfl) (fun M61 => ?_)
        refine r_goto (pc := 64) (tgt := 0) E dX3_linkUpTo_64 (by decide) ?_
        exact r_sub [1] [] [0] rfl rfl rfl (hk0 ((p0, p1)) _)
  show RT p l e rmX3_linkUpTo s m args below meth c x 3 (QM below args s x (fun _ : Unit => none) rmX3_linkUpTo.cells rmX3_linkUpTo.slots) 0 0 (fX3_linkUpTo a0 a1 M) 0 [(1, a1)] [] [(0, a0)] [] M
  unfold fX3_linkUpTo
  exact r_sub [0] [] [0] rfl rfl rfl (hL0 a0 a1 _)
def fX3_sameFrom_L48 (p4 : Int32) (M : Mem) : Option (Int32 × Mem) :=
  some (p4, M)
def fX3_sameFrom_B6 (k6 : Option Nat × Int32 × Int32 × Int32 × Int32 × Int32 → Mem → Option (Int32 × Mem)) (p0 : Option Nat) (p1 : Int32) (p2 : Int32) (p3 : Int32) (p4 : Int32) (p5 : Int32) (M : Mem) : Option (Int32 × Mem) :=
  if p3 ≤ (p2 + p5) then (
    fX3_sameFrom_L48 p4 M
  ) else (
    bo (gR M p0 3 5) fun v15 =>
    bo (chk M v15 8) fun _ => bd (fX8_get v15 (p1 + p5) M) fun v22 M22 =>
    bo (gR M22 p0 3 5) fun v26 =>
    bo (chk M22 v26 8) fun _ => bd (fX8_get v26 (p2 + p5) M22) fun v33 M33 =>
    if v22 = v33 then (
      bn (p4 + 1) fun v39 =>
      bn (p5 + 1) fun v42 =>
      k6 ((p0, p1, p2, p3, v39, v42)) M33
    ) else (
      fX3_sameFrom_L48 p4 M33
    )
  )
def fX3_sameFrom_L6 (p0 : Option Nat) (p1 : Int32) (p2 : Int32) (p3 : Int32) (p4 : Int32) (p5 : Int32) (M : Mem) : Option (Int32 × Mem) :=
  lp (fun k6 (a : Option Nat × Int32 × Int32 × Int32 × Int32 × Int32) M => fX3_sameFrom_B6 k6 a.1 a.2.1 a.2.2.1 a.2.2.2.1 a.2.2.2.2.1 a.2.2.2.2.2 M) FU ((p0, p1, p2, p3, p4, p5)) M
def fX3_sameFrom (a0 : Option Nat) (a1 : Int32) (a2 : Int32) (a3 : Int32) (M : Mem) : Option (Int32 × Mem) :=
  bn (0) fun v1 =>
  bn (0) fun v4 =>
  fX3_sameFrom_L6 a0 a1 a2 a3 v1 v4 M
def rmX3_sameFrom : Room := { frames := 1, cells := 0, slots := 0, locals := 21 }
set_option maxRecDepth 100000 in
set_option maxHeartbeats 4000000 in
theorem ctX3_sameFrom (l : Launch) (x : Cx) (a0 : Option Nat) (a1 : Int32) (a2 : Int32) (a3 : Int32) (M : Mem) (v : Int32) (N : Mem) (h : fX3_sameFrom a0 a1 a2 a3 M = some (v, N)) : CT l yX3_sameFrom cX3_sameFrom 6 (some (FieldType.int)) rmX3_sameFrom x [rv x a0, .int a1, .int a2, .int a3] M (some (.int v)) N := by
  refine ct_mk (enc := fun v : Int32 => some (.int v)) (li := [(1, a1), (2, a2), (3, a3)]) (ll := []) (lr := [(0, a0)]) (by decide +kernel) (by simp [lg_sl, rv_cat, cat_int, cat_long]) (by simp [flat, lv_args, rv_cat, cat_int, cat_long]) h ?_
  intro p e s m args below meth c E
  have hL48 : ∀ (p4 : Int32) (M : Mem), RT p l e rmX3_sameFrom s m args below meth c x 6 (QM below args s x (fun v : Int32 => some (.int v)) rmX3_sameFrom.cells rmX3_sameFrom.slots) 0 0 (fX3_sameFrom_L48 p4 M) 48 [(4, p4)] [] [] [] M := by
    intro p4 M
    unfold fX3_sameFrom_L48
    refine r_iload (pc := 48) E dX3_sameFrom_48 0 rfl ?_
    exact e_int (pc := 50) E dX3_sameFrom_50
  have hL6 : ∀ (p0 : Option Nat) (p1 : Int32) (p2 : Int32) (p3 : Int32) (p4 : Int32) (p5 : Int32) (M : Mem), RT p l e rmX3_sameFrom s m args below meth c x 6 (QM below args s x (fun v : Int32 => some (.int v)) rmX3_sameFrom.cells rmX3_sameFrom.slots) 0 0 (fX3_sameFrom_L6 p0 p1 p2 p3 p4 p5 M) 6 [(1, p1), (2, p2), (3, p3), (4, p4), (5, p5)] [] [(0, p0)] [] M := by
    intro p0 p1 p2 p3 p4 p5 M
    refine r_lp (fi := fun a : Option Nat × Int32 × Int32 × Int32 × Int32 × Int32 => [(1, a.2.1), (2, a.2.2.1), (3, a.2.2.2.1), (4, a.2.2.2.2.1), (5, a.2.2.2.2.2)]) (fl := fun a : Option Nat × Int32 × Int32 × Int32 × Int32 × Int32 => []) (fr := fun a : Option Nat × Int32 × Int32 × Int32 × Int32 × Int32 => [(0, a.1)]) (fs := fun a : Option Nat × Int32 × Int32 × Int32 × Int32 × Int32 => []) ?_ FU ((p0, p1, p2, p3, p4, p5)) M
    intro k6 hk6 a M
    obtain ⟨p0, p1, p2, p3, p4, p5⟩ := a
    show RT p l e rmX3_sameFrom s m args below meth c x 6 (QM below args s x (fun v : Int32 => some (.int v)) rmX3_sameFrom.cells rmX3_sameFrom.slots) 0 0 (fX3_sameFrom_B6 k6 p0 p1 p2 p3 p4 p5 M) 6 [(1, p1), (2, p2), (3, p3), (4, p4), (5, p5)] [] [(0, p0)] [] M
    unfold fX3_sameFrom_B6
    refine r_iload_n (pc := 6) E dX3_sameFrom_6 rfl 1 rfl ?_
    refine r_iload (pc := 7) E dX3_sameFrom_7 4 rfl ?_
    refine r_iadd (pc := 9) E dX3_sameFrom_9 ?_
    refine r_iload_n (pc := 10) E dX3_sameFrom_10 rfl 2 rfl ?_
    refine r_icmp_ge (pc := 11) (tgt := 48) E dX3_sameFrom_11 (by decide) ?_ ?_
    · exact r_sub [3] [] [] rfl rfl rfl (hL48 p4 _)
    · refine r_aload_n (pc := 14) E dX3_sameFrom_14 rfl 0 rfl ?_
      refine r_getR (pc := 15) E fd_3_5 wf_RX3_30 dX3_sameFrom_15 (fun v15 => ?_)
      refine r_iload_n (pc := 18) E dX3_sameFrom_18 rfl 0 rfl ?_
      refine r_iload (pc := 19) E dX3_sameFrom_19 4 rfl ?_
      refine r_iadd (pc := 21) E dX3_sameFrom_21 ?_
      refine r_kVi (pc := 22) (As := [.int (p1 + p5)]) (rest := []) E wc_X8_get wi_RX8 hd_X8_get (ci := 8) rfl wl_RX3_69 wn_X8_get ws_X8_get dX3_sameFrom_22 (by decide) (Nat.le_of_ble_eq_true rfl) ⟨rfl, rfl⟩ (ctX8_get l x _ _ _) rfl (fun v22 M22 => ?_)
      refine r_aload_n (pc := 25) E dX3_sameFrom_25 rfl 0 rfl ?_
      refine r_getR (pc := 26) E fd_3_5 wf_RX3_30 dX3_sameFrom_26 (fun v26 => ?_)
      refine r_iload_n (pc := 29) E dX3_sameFrom_29 rfl 1 rfl ?_
      refine r_iload (pc := 30) E dX3_sameFrom_30 4 rfl ?_
      refine r_iadd (pc := 32) E dX3_sameFrom_32 ?_
      refine r_kVi (pc := 33) (As := [.int (p2 + p5)]) (rest := [.int v22]) E wc_X8_get wi_RX8 hd_X8_get (ci := 8) rfl wl_RX3_69 wn_X8_get ws_X8_get dX3_sameFrom_33 (by decide) (Nat.le_of_ble_eq_true rfl) ⟨rfl, rfl⟩ (ctX8_get l x _ _ _) rfl (fun v33 M33 => ?_)
      refine r_icmp_ne (pc := 36) (tgt := 48) E dX3_sameFrom_36 (by decide) ?_ ?_
      · exact r_sub [3] [] [] rfl rfl rfl (hL48 p4 _)
      · refine r_iinc (pc := 39) (w := 1) (lf := fun v39 => [(4, v39), (1, p1), (2, p2), (3, p3), (5, p5)]) (ll' := []) (lr' := [(0, p0)]) E dX3_sameFrom_39 3 rfl (by decide) (by decide) (fun _ => rfl) rfl rfl (fun v39 => ?_)
        refine r_iinc (pc := 42) (w := 1) (lf := fun v42 => [(5, v42), (4, v39), (1, p1), (2, p2), (3, p3)]) (ll' := []) (lr' := [(0, p0)]) E dX3_sameFrom_42 4 rfl (by decide) (by decide) (fun _ => rfl) rfl rfl (fun v42 => ?_)
        refine r_goto (pc := 45) (tgt := 6) E dX3_sameFrom_45 (by decide) ?_
        exact r_sub [2, 3, 4, 1, 0] [] [0] rfl rfl rfl (hk6 ((p0, p1, p2, p3, v39, v42)) _)
  show RT p l e rmX3_sameFrom s m args below meth c x 6 (QM below args s x (fun v : Int32 => some (.int v)) rmX3_sameFrom.cells rmX3_sameFrom.slots) 0 0 (fX3_sameFrom a0 a1 a2 a3 M) 0 [(1, a1), (2, a2), (3, a3)] [] [(0, a0)] [] M
  unfold fX3_sameFrom
  refine r_iconst (pc := 0) (v := 0) E dX3_sameFrom_0 (by decide) ?_
  refine r_istore (pc := 1) (lf := fun v1 => [(4, v1), (1, a1), (2, a2), (3, a3)]) (lg := fun v1 => []) (lk := fun v1 => [(0, a0)]) E dX3_sameFrom_1 (by decide) (fun _ => rfl) (fun _ => rfl) (fun _ => rfl) (fun v1 => ?_)
  refine r_iconst (pc := 3) (v := 0) E dX3_sameFrom_3 (by decide) ?_
  refine r_istore (pc := 4) (lf := fun v4 => [(5, v4), (4, v1), (1, a1), (2, a2), (3, a3)]) (lg := fun v4 => []) (lk := fun v4 => [(0, a0)]) E dX3_sameFrom_4 (by decide) (fun _ => rfl) (fun _ => rfl) (fun _ => rfl) (fun v4 => ?_)
  exact r_sub [2, 3, 4, 1, 0] [] [0] rfl rfl rfl (hL6 a0 a1 a2 a3 v1 v4 _)
def fX3_findBest_L125 (M : Mem) : Option (Unit × Mem) :=
  some ((), M)
def fX3_findBest_L117 (k35 : Option Nat × Int32 × Int32 × Int32 × Int32 × Int32 → Mem → Option (Unit × Mem)) (p0 : Option Nat) (p1 : Int32) (p2 : Int32) (p3 : Int32) (p5 : Int32) (q0 : Int32) (M : Mem) : Option (Unit × Mem) :=
  bn (q0) fun v117 =>
  bn (p5 + 1) fun v119 =>
  k35 ((p0, p1, p2, p3, v117, v119)) M
def fX3_findBest_L96 (k35 : Option Nat × Int32 × Int32 × Int32 × Int32 × Int32 → Mem → Option (Unit × Mem)) (p0 : Option Nat) (p1 : Int32) (p2 : Int32) (p3 : Int32) (p4 : Int32) (p5 : Int32) (M : Mem) : Option (Unit × Mem) :=
  bo (gR M p0 3 7) fun v99 =>
  bo (aL M v99) fun v102 =>
  if v102 ≤ p4 then (
    fX3_findBest_L117 k35 p0 p1 p2 p3 p5 ((-1)) M
  ) else (
    bo (gR M p0 3 7) fun v107 =>
    bo (aI M v107 15 p4) fun v112 =>
    fX3_findBest_L117 k35 p0 p1 p2 p3 p5 v112 M
  )
def fX3_findBest_B35 (k35 : Option Nat × Int32 × Int32 × Int32 × Int32 × Int32 → Mem → Option (Unit × Mem)) (p0 : Option Nat) (p1 : Int32) (p2 : Int32) (p3 : Int32) (p4 : Int32) (p5 : Int32) (M : Mem) : Option (Unit × Mem) :=
  bo (gR M p0 3 7) fun v38 =>
  bo (aL M v38) fun v41 =>
  if v41 ≤ p5 then (
    fX3_findBest_L125 M
  ) else (
    if p4 < 0 then (
      fX3_findBest_L125 M
    ) else (
      if 8 ≤ p3 then (
        fX3_findBest_L125 M
      ) else (
        bo (chk M p0 3) fun _ => bd (fX3_sameFrom p0 p4 p1 p2 M) fun v61 M61 =>
        bn (v61) fun v64 =>
        if v64 < 4 then (
          fX3_findBest_L96 k35 p0 p1 p2 p3 p4 p5 M61
        ) else (
          bn (p3 + 1) fun v72 =>
          bo (gI M61 p0 3 10) fun v78 =>
          if v64 ≤ v78 then (
            fX3_findBest_L96 k35 p0 p1 p2 v72 p4 p5 M61
          ) else (
            bo (pI M61 p0 3 10 v64) fun M87 =>
            bo (pI M87 p0 3 11 p4) fun M93 =>
            fX3_findBest_L96 k35 p0 p1 p2 v72 p4 p5 M93
          )
        )
      )
    )
  )
def fX3_findBest_L35 (p0 : Option Nat) (p1 : Int32) (p2 : Int32) (p3 : Int32) (p4 : Int32) (p5 : Int32) (M : Mem) : Option (Unit × Mem) :=
  lp (fun k35 (a : Option Nat × Int32 × Int32 × Int32 × Int32 × Int32) M => fX3_findBest_B35 k35 a.1 a.2.1 a.2.2.1 a.2.2.2.1 a.2.2.2.2.1 a.2.2.2.2.2 M) FU ((p0, p1, p2, p3, p4, p5)) M
def fX3_findBest (a0 : Option Nat) (a1 : Int32) (a2 : Int32) (M : Mem) : Option (Unit × Mem) :=
  bo (pI M a0 3 10 0) fun M2 =>
  if 4 ≤ (a2 - a1) then (
    bo (chk M2 a0 3) fun _ => bd (fX3_linkUpTo a0 a1 M2) fun v15 M15 =>
    bn (0) fun v19 =>
    bo (gR M15 a0 3 6) fun v21 =>
    bo (chk M15 a0 3) fun _ => bd (fX3_chainOf a0 a1 M15) fun v26 M26 =>
    bo (aI M26 v21 15 v26) fun v29 =>
    bn (v29) fun v30 =>
    bn (0) fun v33 =>
    fX3_findBest_L35 a0 a1 a2 v19 v30 v33 M26
  ) else (
    some ((), M2)
  )
def rmX3_findBest : Room := { frames := 3, cells := 0, slots := 0, locals := 65 }
set_option maxRecDepth 100000 in
set_option maxHeartbeats 4000000 in
theorem ctX3_findBest (l : Launch) (x : Cx) (a0 : Option Nat) (a1 : Int32) (a2 : Int32) (M : Mem) (v : Unit) (N : Mem) (h : fX3_findBest a0 a1 a2 M = some (v, N)) : CT l yX3_findBest cX3_findBest 7 (none) rmX3_findBest x [rv x a0, .int a1, .int a2] M none N := by
  refine ct_mk (enc := fun _ : Unit => none) (li := [(1, a1), (2, a2)]) (ll := []) (lr := [(0, a0)]) (by decide +kernel) (by simp [lg_sl, rv_cat, cat_int, cat_long]) (by simp [flat, lv_args, rv_cat, cat_int, cat_long]) h ?_
  intro p e s m args below meth c E
  have hL125 : ∀ (M : Mem), RT p l e rmX3_findBest s m args below meth c x 7 (QM below args s x (fun _ : Unit => none) rmX3_findBest.cells rmX3_findBest.slots) 0 0 (fX3_findBest_L125 M) 125 [] [] [] [] M := by
    intro M
    unfold fX3_findBest_L125
    exact e_void (pc := 125) E dX3_findBest_125
  have hL117 : ∀ (k35 : Option Nat × Int32 × Int32 × Int32 × Int32 × Int32 → Mem → Option (Unit × Mem)) (hk35 : ∀ a M, RT p l e rmX3_findBest s m args below meth c x 7 (QM below args s x (fun _ : Unit => none) rmX3_findBest.cells rmX3_findBest.slots) 0 0 (k35 a M) 35 [(1, a.2.1), (2, a.2.2.1), (3, a.2.2.2.1), (4, a.2.2.2.2.1), (5, a.2.2.2.2.2)] [] [(0, a.1)] [] M) (p0 : Option Nat) (p1 : Int32) (p2 : Int32) (p3 : Int32) (p5 : Int32) (q0 : Int32) (M : Mem), RT p l e rmX3_findBest s m args below meth c x 7 (QM below args s x (fun _ : Unit => none) rmX3_findBest.cells rmX3_findBest.slots) 0 0 (fX3_findBest_L117 k35 p0 p1 p2 p3 p5 q0 M) 117 [(1, p1), (2, p2), (3, p3), (5, p5)] [] [(0, p0)] [.int q0] M := by
    intro k35 hk35 p0 p1 p2 p3 p5 q0 M
    unfold fX3_findBest_L117
    refine r_istore (pc := 117) (lf := fun v117 => [(4, v117), (1, p1), (2, p2), (3, p3), (5, p5)]) (lg := fun v117 => []) (lk := fun v117 => [(0, p0)]) E dX3_findBest_117 (by decide) (fun _ => rfl) (fun _ => rfl) (fun _ => rfl) (fun v117 => ?_)
    refine r_iinc (pc := 119) (w := 1) (lf := fun v119 => [(5, v119), (4, v117), (1, p1), (2, p2), (3, p3)]) (ll' := []) (lr' := [(0, p0)]) E dX3_findBest_119 4 rfl (by decide) (by decide) (fun _ => rfl) rfl rfl (fun v119 => ?_)
    refine r_goto (pc := 122) (tgt := 35) E dX3_findBest_122 (by decide) ?_
    exact r_sub [2, 3, 4, 1, 0] [] [0] rfl rfl rfl (hk35 ((p0, p1, p2, p3, v117, v119)) _)
  have hL96 : ∀ (k35 : Option Nat × Int32 × Int32 × Int32 × Int32 × Int32 → Mem → Option (Unit × Mem)) (hk35 : ∀ a M, RT p l e rmX3_findBest s m args below meth c x 7 (QM below args s x (fun _ : Unit => none) rmX3_findBest.cells rmX3_findBest.slots) 0 0 (k35 a M) 35 [(1, a.2.1), (2, a.2.2.1), (3, a.2.2.2.1), (4, a.2.2.2.2.1), (5, a.2.2.2.2.2)] [] [(0, a.1)] [] M) (p0 : Option Nat) (p1 : Int32) (p2 : Int32) (p3 : Int32) (p4 : Int32) (p5 : Int32) (M : Mem), RT p l e rmX3_findBest s m args below meth c x 7 (QM below args s x (fun _ : Unit => none) rmX3_findBest.cells rmX3_findBest.slots) 0 0 (fX3_findBest_L96 k35 p0 p1 p2 p3 p4 p5 M) 96 [(1, p1), (2, p2), (3, p3), (4, p4), (5, p5)] [] [(0, p0)] [] M := by
    intro k35 hk35 p0 p1 p2 p3 p4 p5 M
    unfold fX3_findBest_L96
    refine r_iload (pc := 96) E dX3_findBest_96 3 rfl ?_
    refine r_aload_n (pc := 98) E dX3_findBest_98 rfl 0 rfl ?_
    refine r_getA (pc := 99) E fd_3_7 wf_RX3_36 dX3_findBest_99 (fun v99 => ?_)
    refine r_alen (pc := 102) E dX3_findBest_102 (fun v102 => ?_)
    refine r_icmp_ge (pc := 103) (tgt := 116) E dX3_findBest_103 (by decide) ?_ ?_
    · refine r_iconst (pc := 116) (v := (-1)) E dX3_findBest_116 (by decide) ?_
      exact r_sub [0, 1, 2, 4] [] [0] rfl rfl rfl (hL117 k35 hk35 p0 p1 p2 p3 p5 ((-1)) _)
    · refine r_aload_n (pc := 106) E dX3_findBest_106 rfl 0 rfl ?_
      refine r_getA (pc := 107) E fd_3_7 wf_RX3_36 dX3_findBest_107 (fun v107 => ?_)
      refine r_iload (pc := 110) E dX3_findBest_110 3 rfl ?_
      refine r_iaload (pc := 112) E dX3_findBest_112 (fun v112 => ?_)
      refine r_goto (pc := 113) (tgt := 117) E dX3_findBest_113 (by decide) ?_
      exact r_sub [0, 1, 2, 4] [] [0] rfl rfl rfl (hL117 k35 hk35 p0 p1 p2 p3 p5 v112 _)
  have hL35 : ∀ (p0 : Option Nat) (p1 : Int32) (p2 : Int32) (p3 : Int32) (p4 : Int32) (p5 : Int32) (M : Mem), RT p l e rmX3_findBest s m args below meth c x 7 (QM below args s x (fun _ : Unit => none) rmX3_findBest.cells rmX3_findBest.slots) 0 0 (fX3_findBest_L35 p0 p1 p2 p3 p4 p5 M) 35 [(1, p1), (2, p2), (3, p3), (4, p4), (5, p5)] [] [(0, p0)] [] M := by
    intro p0 p1 p2 p3 p4 p5 M
    refine r_lp (fi := fun a : Option Nat × Int32 × Int32 × Int32 × Int32 × Int32 => [(1, a.2.1), (2, a.2.2.1), (3, a.2.2.2.1), (4, a.2.2.2.2.1), (5, a.2.2.2.2.2)]) (fl := fun a : Option Nat × Int32 × Int32 × Int32 × Int32 × Int32 => []) (fr := fun a : Option Nat × Int32 × Int32 × Int32 × Int32 × Int32 => [(0, a.1)]) (fs := fun a : Option Nat × Int32 × Int32 × Int32 × Int32 × Int32 => []) ?_ FU ((p0, p1, p2, p3, p4, p5)) M
    intro k35 hk35 a M
    obtain ⟨p0, p1, p2, p3, p4, p5⟩ := a
    show RT p l e rmX3_findBest s m args below meth c x 7 (QM below args s x (fun _ : Unit => none) rmX3_findBest.cells rmX3_findBest.slots) 0 0 (fX3_findBest_B35 k35 p0 p1 p2 p3 p4 p5 M) 35 [(1, p1), (2, p2), (3, p3), (4, p4), (5, p5)] [] [(0, p0)] [] M
    unfold fX3_findBest_B35
    refine r_iload (pc := 35) E dX3_findBest_35 4 rfl ?_
    refine r_aload_n (pc := 37) E dX3_findBest_37 rfl 0 rfl ?_
    refine r_getA (pc := 38) E fd_3_7 wf_RX3_36 dX3_findBest_38 (fun v38 => ?_)
    refine r_alen (pc := 41) E dX3_findBest_41 (fun v41 => ?_)
    refine r_icmp_ge (pc := 42) (tgt := 125) E dX3_findBest_42 (by decide) ?_ ?_
    · exact r_sub [] [] [] rfl rfl rfl (hL125 _)
    · refine r_iload (pc := 45) E dX3_findBest_45 3 rfl ?_
      refine r_if_lt (pc := 47) (tgt := 125) E dX3_findBest_47 (by decide) ?_ ?_
      · exact r_sub [] [] [] rfl rfl rfl (hL125 _)
      · refine r_iload_n (pc := 50) E dX3_findBest_50 rfl 2 rfl ?_
        refine r_bipush (pc := 51) (v := 8) E dX3_findBest_51 (by decide) ?_
        refine r_icmp_ge (pc := 53) (tgt := 125) E dX3_findBest_53 (by decide) ?_ ?_
        · exact r_sub [] [] [] rfl rfl rfl (hL125 _)
        · refine r_aload_n (pc := 56) E dX3_findBest_56 rfl 0 rfl ?_
          refine r_iload (pc := 57) E dX3_findBest_57 3 rfl ?_
          refine r_iload_n (pc := 59) E dX3_findBest_59 rfl 0 rfl ?_
          refine r_iload_n (pc := 60) E dX3_findBest_60 rfl 1 rfl ?_
          refine r_kVi (pc := 61) (As := [.int p4, .int p1, .int p2]) (rest := []) E wc_X3_sameFrom wi_RX3 hd_X3_sameFrom (ci := 3) rfl wl_RX3_85 wn_X3_sameFrom ws_X3_sameFrom dX3_findBest_61 (by decide) (Nat.le_of_ble_eq_true rfl) ⟨rfl, rfl⟩ (ctX3_sameFrom l x _ _ _ _ _) rfl (fun v61 M61 => ?_)
          refine r_istore (pc := 64) (lf := fun v64 => [(6, v64), (1, p1), (2, p2), (3, p3), (4, p4), (5, p5)]) (lg := fun v64 => []) (lk := fun v64 => [(0, p0)]) E dX3_findBest_64 (by decide) (fun _ => rfl) (fun _ => rfl) (fun _ => rfl) (fun v64 => ?_)
          refine r_iload (pc := 66) E dX3_findBest_66 0 rfl ?_
          refine r_iconst (pc := 68) (v := 4) E dX3_findBest_68 (by decide) ?_
          refine r_icmp_lt (pc := 69) (tgt := 96) E dX3_findBest_69 (by decide) ?_ ?_
          · exact r_sub [1, 2, 3, 4, 5] [] [0] rfl rfl rfl (hL96 k35 hk35 p0 p1 p2 p3 p4 p5 _)
          · refine r_iinc (pc := 72) (w := 1) (lf := fun v72 => [(3, v72), (6, v64), (1, p1), (2, p2), (4, p4), (5, p5)]) (ll' := []) (lr' := [(0, p0)]) E dX3_findBest_72 3 rfl (by decide) (by decide) (fun _ => rfl) rfl rfl (fun v72 => ?_)
            refine r_iload (pc := 75) E dX3_findBest_75 1 rfl ?_
            refine r_aload_n (pc := 77) E dX3_findBest_77 rfl 0 rfl ?_
            refine r_getI (pc := 78) E fd_3_10 wf_RX3_66 dX3_findBest_78 (fun v78 => ?_)
            refine r_icmp_le (pc := 81) (tgt := 96) E dX3_findBest_81 (by decide) ?_ ?_
            · exact r_sub [2, 3, 0, 4, 5] [] [0] rfl rfl rfl (hL96 k35 hk35 p0 p1 p2 v72 p4 p5 _)
            · refine r_aload_n (pc := 84) E dX3_findBest_84 rfl 0 rfl ?_
              refine r_iload (pc := 85) E dX3_findBest_85 1 rfl ?_
              refine r_putI (pc := 87) E fd_3_10 wf_RX3_66 dX3_findBest_87 (Or.inl rfl) (fun M87 => ?_)
              refine r_aload_n (pc := 90) E dX3_findBest_90 rfl 0 rfl ?_
              refine r_iload (pc := 91) E dX3_findBest_91 4 rfl ?_
              refine r_putI (pc := 93) E fd_3_11 wf_RX3_76 dX3_findBest_93 (Or.inl rfl) (fun M93 => ?_)
              exact r_sub [2, 3, 0, 4, 5] [] [0] rfl rfl rfl (hL96 k35 hk35 p0 p1 p2 v72 p4 p5 _)
  show RT p l e rmX3_findBest s m args below meth c x 7 (QM below args s x (fun _ : Unit => none) rmX3_findBest.cells rmX3_findBest.slots) 0 0 (fX3_findBest a0 a1 a2 M) 0 [(1, a1), (2, a2)] [] [(0, a0)] [] M
  unfold fX3_findBest
  refine r_aload_n (pc := 0) E dX3_findBest_0 rfl 0 rfl ?_
  refine r_iconst (pc := 1) (v := 0) E dX3_findBest_1 (by decide) ?_
  refine r_putI (pc := 2) E fd_3_10 wf_RX3_66 dX3_findBest_2 (Or.inl rfl) (fun M2 => ?_)
  refine r_iload_n (pc := 5) E dX3_findBest_5 rfl 1 rfl ?_
  refine r_iload_n (pc := 6) E dX3_findBest_6 rfl 0 rfl ?_
  refine r_isub (pc := 7) E dX3_findBest_7 ?_
  refine r_iconst (pc := 8) (v := 4) E dX3_findBest_8 (by decide) ?_
  refine r_icmp_ge (pc := 9) (tgt := 13) E dX3_findBest_9 (by decide) ?_ ?_
  · refine r_aload_n (pc := 13) E dX3_findBest_13 rfl 0 rfl ?_
    refine r_iload_n (pc := 14) E dX3_findBest_14 rfl 0 rfl ?_
    refine r_kVv (pc := 15) (As := [.int a1]) (rest := []) E wc_X3_linkUpTo wi_RX3 hd_X3_linkUpTo (ci := 3) rfl wl_RX3_79 wn_X3_linkUpTo ws_X3_linkUpTo dX3_findBest_15 (by decide) (Nat.le_of_ble_eq_true rfl) ⟨rfl, rfl⟩ (ctX3_linkUpTo l x _ _ _) rfl (fun v15 M15 => ?_)
    refine r_iconst (pc := 18) (v := 0) E dX3_findBest_18 (by decide) ?_
    refine r_istore_n (pc := 19) (lf := fun v19 => [(3, v19), (1, a1), (2, a2)]) (lg := fun v19 => []) (lk := fun v19 => [(0, a0)]) E dX3_findBest_19 rfl (by decide) (fun _ => rfl) (fun _ => rfl) (fun _ => rfl) (fun v19 => ?_)
    refine r_aload_n (pc := 20) E dX3_findBest_20 rfl 0 rfl ?_
    refine r_getA (pc := 21) E fd_3_6 wf_RX3_33 dX3_findBest_21 (fun v21 => ?_)
    refine r_aload_n (pc := 24) E dX3_findBest_24 rfl 0 rfl ?_
    refine r_iload_n (pc := 25) E dX3_findBest_25 rfl 1 rfl ?_
    refine r_kVi (pc := 26) (As := [.int a1]) (rest := [rv x v21]) E wc_X3_chainOf wi_RX3 hd_X3_chainOf (ci := 3) rfl wl_RX3_82 wn_X3_chainOf ws_X3_chainOf dX3_findBest_26 (by decide) (Nat.le_of_ble_eq_true rfl) ⟨rfl, rfl⟩ (ctX3_chainOf l x _ _ _) rfl (fun v26 M26 => ?_)
    refine r_iaload (pc := 29) E dX3_findBest_29 (fun v29 => ?_)
    refine r_istore (pc := 30) (lf := fun v30 => [(4, v30), (3, v19), (1, a1), (2, a2)]) (lg := fun v30 => []) (lk := fun v30 => [(0, a0)]) E dX3_findBest_30 (by decide) (fun _ => rfl) (fun _ => rfl) (fun _ => rfl) (fun v30 => ?_)
    refine r_iconst (pc := 32) (v := 0) E dX3_findBest_32 (by decide) ?_
    refine r_istore (pc := 33) (lf := fun v33 => [(5, v33), (4, v30), (3, v19), (1, a1), (2, a2)]) (lg := fun v33 => []) (lk := fun v33 => [(0, a0)]) E dX3_findBest_33 (by decide) (fun _ => rfl) (fun _ => rfl) (fun _ => rfl) (fun v33 => ?_)
    exact r_sub [3, 4, 2, 1, 0] [] [0] rfl rfl rfl (hL35 a0 a1 a2 v19 v30 v33 _)
  · exact e_void (pc := 12) E dX3_findBest_12
def fX8_add_L30 (p0 : Option Nat) (M : Mem) : Option (Unit × Mem) :=
  bo (gI M p0 8 1) fun v32 =>
  bo (pI M p0 8 1 (v32 + 1)) fun M37 =>
  some ((), M37)
def fX8_add (a0 : Option Nat) (a1 : Int32) (M : Mem) : Option (Unit × Mem) :=
  bo (gI M a0 8 1) fun v1 =>
  if v1 < 0 then (
    fX8_add_L30 a0 M
  ) else (
    bo (gI M a0 8 1) fun v8 =>
    bo (gR M a0 8 0) fun v12 =>
    bo (aL M v12) fun v15 =>
    if v15 ≤ v8 then (
      fX8_add_L30 a0 M
    ) else (
      bo (gR M a0 8 0) fun v20 =>
      bo (gI M a0 8 1) fun v24 =>
      bo (wB M v20 v24 (i2b a1)) fun M29 =>
      fX8_add_L30 a0 M29
    )
  )
def rmX8_add : Room := { frames := 0, cells := 0, slots := 0, locals := 0 }
set_option maxRecDepth 100000 in
set_option maxHeartbeats 4000000 in
theorem ctX8_add (l : Launch) (x : Cx) (a0 : Option Nat) (a1 : Int32) (M : Mem) (v : Unit) (N : Mem) (h : fX8_add a0 a1 M = some (v, N)) : CT l yX8_add cX8_add 2 (none) rmX8_add x [rv x a0, .int a1] M none N := by
  refine ct_mk (enc := fun _ : Unit => none) (li := [(1, a1)]) (ll := []) (lr := [(0, a0)]) (by decide +kernel) (by simp [lg_sl, rv_cat, cat_int, cat_long]) (by simp [flat, lv_args, rv_cat, cat_int, cat_long]) h ?_
  intro p e s m args below meth c E
  have hL30 : ∀ (p0 : Option Nat) (M : Mem), RT p l e rmX8_add s m args below meth c x 2 (QM below args s x (fun _ : Unit => none) rmX8_add.cells rmX8_add.slots) 0 0 (fX8_add_L30 p0 M) 30 [] [] [(0, p0)] [] M := by
    intro p0 M
    unfold fX8_add_L30
    refine r_aload_n (pc := 30) E dX8_add_30 rfl 0 rfl ?_
    refine r_dup (pc := 31) E dX8_add_31 (rv_cat _ _) ?_
    refine r_getI (pc := 32) E fd_8_1 wf_RX8_21 dX8_add_32 (fun v32 => ?_)
    refine r_iconst (pc := 35) (v := 1) E dX8_add_35 (by decide) ?_
    refine r_iadd (pc := 36) E dX8_add_36 ?_
    refine r_putI (pc := 37) E fd_8_1 wf_RX8_21 dX8_add_37 (Or.inl rfl) (fun M37 => ?_)
    exact e_void (pc := 40) E dX8_add_40
  show RT p l e rmX8_add s m args below meth c x 2 (QM below args s x (fun _ : Unit => none) rmX8_add.cells rmX8_add.slots) 0 0 (fX8_add a0 a1 M) 0 [(1, a1)] [] [(0, a0)] [] M
  unfold fX8_add
  refine r_aload_n (pc := 0) E dX8_add_0 rfl 0 rfl ?_
  refine r_getI (pc := 1) E fd_8_1 wf_RX8_21 dX8_add_1 (fun v1 => ?_)
  refine r_if_lt (pc := 4) (tgt := 30) E dX8_add_4 (by decide) ?_ ?_
  · exact r_sub [] [] [0] rfl rfl rfl (hL30 a0 _)
  · refine r_aload_n (pc := 7) E dX8_add_7 rfl 0 rfl ?_
    refine r_getI (pc := 8) E fd_8_1 wf_RX8_21 dX8_add_8 (fun v8 => ?_)
    refine r_aload_n (pc := 11) E dX8_add_11 rfl 0 rfl ?_
    refine r_getA (pc := 12) E fd_8_0 wf_RX8_15 dX8_add_12 (fun v12 => ?_)
    refine r_alen (pc := 15) E dX8_add_15 (fun v15 => ?_)
    refine r_icmp_ge (pc := 16) (tgt := 30) E dX8_add_16 (by decide) ?_ ?_
    · exact r_sub [] [] [0] rfl rfl rfl (hL30 a0 _)
    · refine r_aload_n (pc := 19) E dX8_add_19 rfl 0 rfl ?_
      refine r_getA (pc := 20) E fd_8_0 wf_RX8_15 dX8_add_20 (fun v20 => ?_)
      refine r_aload_n (pc := 23) E dX8_add_23 rfl 0 rfl ?_
      refine r_getI (pc := 24) E fd_8_1 wf_RX8_21 dX8_add_24 (fun v24 => ?_)
      refine r_iload_n (pc := 27) E dX8_add_27 rfl 0 rfl ?_
      refine r_i2b (pc := 28) E dX8_add_28 ?_
      refine r_bastore (pc := 29) E dX8_add_29 (fun M29 => ?_)
      exact r_sub [] [] [0] rfl rfl rfl (hL30 a0 _)
def fX3_find_L165 (M : Mem) : Option (Unit × Mem) :=
  some ((), M)
def fX3_find_L159 (k34 : Option Nat × Int32 × Int32 × Int32 × Int32 → Mem → Option (Unit × Mem)) (p0 : Option Nat) (p3 : Int32) (p4 : Int32) (p5 : Int32) (p6 : Int32) (M : Mem) : Option (Unit × Mem) :=
  bn (p6 + 1) fun v159 =>
  k34 ((p0, p3, p4, p5, v159)) M
def fX3_find_L72 (k34 : Option Nat × Int32 × Int32 × Int32 × Int32 → Mem → Option (Unit × Mem)) (p0 : Option Nat) (p3 : Int32) (p4 : Int32) (p5 : Int32) (p6 : Int32) (M : Mem) : Option (Unit × Mem) :=
  bo (gR M p0 3 0) fun v73 =>
  bo (gR M p0 3 5) fun v77 =>
  bo (chk M v77 8) fun _ => bd (fX8_get v77 p4 M) fun v82 M82 =>
  bo (chk M82 v73 8) fun _ => bd (fX8_add v73 v82 M82) fun v85 M85 =>
  bn (p5 + 1) fun v88 =>
  bn (p4 + 1) fun v91 =>
  fX3_find_L159 k34 p0 p3 v91 v88 p6 M85
def fX3_find_B34 (k34 : Option Nat × Int32 × Int32 × Int32 × Int32 → Mem → Option (Unit × Mem)) (p0 : Option Nat) (p3 : Int32) (p4 : Int32) (p5 : Int32) (p6 : Int32) (M : Mem) : Option (Unit × Mem) :=
  if 2048 ≤ p6 then (
    fX3_find_L165 M
  ) else (
    if p3 ≤ p4 then (
      fX3_find_L165 M
    ) else (
      bo (chk M p0 3) fun _ => bd (fX3_findBest p0 p4 p3 M) fun v52 M52 =>
      bo (gI M52 p0 3 10) fun v56 =>
      if v56 = 0 then (
        fX3_find_L72 k34 p0 p3 p4 p5 p6 M52
      ) else (
        bo (gI M52 p0 3 1) fun v63 =>
        if v63 < 512 then (
          bo (gR M52 p0 3 2) fun v98 =>
          bo (gI M52 p0 3 1) fun v102 =>
          bo (wI M52 v98 v102 p5) fun M107 =>
          bo (gR M107 p0 3 3) fun v109 =>
          bo (gI M107 p0 3 1) fun v113 =>
          bo (gI M107 p0 3 10) fun v117 =>
          bo (wI M107 v109 v113 v117) fun M120 =>
          bo (gR M120 p0 3 4) fun v122 =>
          bo (gI M120 p0 3 1) fun v126 =>
          bo (gI M120 p0 3 11) fun v132 =>
          bo (wI M120 v122 v126 (p4 - v132)) fun M136 =>
          bo (gI M136 p0 3 1) fun v139 =>
          bo (pI M136 p0 3 1 (v139 + 1)) fun M144 =>
          bn (0) fun v148 =>
          bo (gI M144 p0 3 10) fun v153 =>
          bn (p4 + v153) fun v157 =>
          fX3_find_L159 k34 p0 p3 v157 v148 p6 M144
        ) else (
          fX3_find_L72 k34 p0 p3 p4 p5 p6 M52
        )
      )
    )
  )
def fX3_find_L34 (p0 : Option Nat) (p3 : Int32) (p4 : Int32) (p5 : Int32) (p6 : Int32) (M : Mem) : Option (Unit × Mem) :=
  lp (fun k34 (a : Option Nat × Int32 × Int32 × Int32 × Int32) M => fX3_find_B34 k34 a.1 a.2.1 a.2.2.1 a.2.2.2.1 a.2.2.2.2 M) FU ((p0, p3, p4, p5, p6)) M
def fX3_find (a0 : Option Nat) (a1 : Int32) (a2 : Int32) (M : Mem) : Option (Unit × Mem) :=
  bo (gI M a0 3 8) fun v1 =>
  bn (v1 + a2) fun v6 =>
  bo (gI M a0 3 8) fun v8 =>
  bn (v8 + a1) fun v13 =>
  bn (0) fun v16 =>
  bo (pI M a0 3 1 0) fun M20 =>
  bo (gR M20 a0 3 0) fun v24 =>
  bo (pI M20 v24 8 1 0) fun M28 =>
  bn (0) fun v32 =>
  fX3_find_L34 a0 v6 v13 v16 v32 M28
def rmX3_find : Room := { frames := 4, cells := 0, slots := 0, locals := 91 }
set_option maxRecDepth 100000 in
set_option maxHeartbeats 4000000 in
theorem ctX3_find (l : Launch) (x : Cx) (a0 : Option Nat) (a1 : Int32) (a2 : Int32) (M : Mem) (v : Unit) (N : Mem) (h : fX3_find a0 a1 a2 M = some (v, N)) : CT l yX3_find cX3_find 7 (none) rmX3_find x [rv x a0, .int a1, .int a2] M none N := by
  refine ct_mk (enc := fun _ : Unit => none) (li := [(1, a1), (2, a2)]) (ll := []) (lr := [(0, a0)]) (by decide +kernel) (by simp [lg_sl, rv_cat, cat_int, cat_long]) (by simp [flat, lv_args, rv_cat, cat_int, cat_long]) h ?_
  intro p e s m args below meth c E
  have hL165 : ∀ (M : Mem), RT p l e rmX3_find s m args below meth c x 7 (QM below args s x (fun _ : Unit => none) rmX3_find.cells rmX3_find.slots) 0 0 (fX3_find_L165 M) 165 [] [] [] [] M := by
    intro M
    unfold fX3_find_L165
    exact e_void (pc := 165) E dX3_find_165
  have hL159 : ∀ (k34 : Option Nat × Int32 × Int32 × Int32 × Int32 → Mem → Option (Unit × Mem)) (hk34 : ∀ a M, RT p l e rmX3_find s m args below meth c x 7 (QM below args s x (fun _ : Unit => none) rmX3_find.cells rmX3_find.slots) 0 0 (k34 a M) 34 [(3, a.2.1), (4, a.2.2.1), (5, a.2.2.2.1), (6, a.2.2.2.2)] [] [(0, a.1)] [] M) (p0 : Option Nat) (p3 : Int32) (p4 : Int32) (p5 : Int32) (p6 : Int32) (M : Mem), RT p l e rmX3_find s m args below meth c x 7 (QM below args s x (fun _ : Unit => none) rmX3_find.cells rmX3_find.slots) 0 0 (fX3_find_L159 k34 p0 p3 p4 p5 p6 M) 159 [(3, p3), (4, p4), (5, p5), (6, p6)] [] [(0, p0)] [] M := by
    intro k34 hk34 p0 p3 p4 p5 p6 M
    unfold fX3_find_L159
    refine r_iinc (pc := 159) (w := 1) (lf := fun v159 => [(6, v159), (3, p3), (4, p4), (5, p5)]) (ll' := []) (lr' := [(0, p0)]) E dX3_find_159 3 rfl (by decide) (by decide) (fun _ => rfl) rfl rfl (fun v159 => ?_)
    refine r_goto (pc := 162) (tgt := 34) E dX3_find_162 (by decide) ?_
    exact r_sub [1, 2, 3, 0] [] [0] rfl rfl rfl (hk34 ((p0, p3, p4, p5, v159)) _)
  have hL72 : ∀ (k34 : Option Nat × Int32 × Int32 × Int32 × Int32 → Mem → Option (Unit × Mem)) (hk34 : ∀ a M, RT p l e rmX3_find s m args below meth c x 7 (QM below args s x (fun _ : Unit => none) rmX3_find.cells rmX3_find.slots) 0 0 (k34 a M) 34 [(3, a.2.1), (4, a.2.2.1), (5, a.2.2.2.1), (6, a.2.2.2.2)] [] [(0, a.1)] [] M) (p0 : Option Nat) (p3 : Int32) (p4 : Int32) (p5 : Int32) (p6 : Int32) (M : Mem), RT p l e rmX3_find s m args below meth c x 7 (QM below args s x (fun _ : Unit => none) rmX3_find.cells rmX3_find.slots) 0 0 (fX3_find_L72 k34 p0 p3 p4 p5 p6 M) 72 [(3, p3), (4, p4), (5, p5), (6, p6)] [] [(0, p0)] [] M := by
    intro k34 hk34 p0 p3 p4 p5 p6 M
    unfold fX3_find_L72
    refine r_aload_n (pc := 72) E dX3_find_72 rfl 0 rfl ?_
    refine r_getR (pc := 73) E fd_3_0 wf_RX3_14 dX3_find_73 (fun v73 => ?_)
    refine r_aload_n (pc := 76) E dX3_find_76 rfl 0 rfl ?_
    refine r_getR (pc := 77) E fd_3_5 wf_RX3_30 dX3_find_77 (fun v77 => ?_)
    refine r_iload (pc := 80) E dX3_find_80 1 rfl ?_
    refine r_kVi (pc := 82) (As := [.int p4]) (rest := [rv x v73]) E wc_X8_get wi_RX8 hd_X8_get (ci := 8) rfl wl_RX3_69 wn_X8_get ws_X8_get dX3_find_82 (by decide) (Nat.le_of_ble_eq_true rfl) ⟨rfl, rfl⟩ (ctX8_get l x _ _ _) rfl (fun v82 M82 => ?_)
    refine r_kVv (pc := 85) (As := [.int v82]) (rest := []) E wc_X8_add wi_RX8 hd_X8_add (ci := 8) rfl wl_RX3_73 wn_X8_add ws_X8_add dX3_find_85 (by decide) (Nat.le_of_ble_eq_true rfl) ⟨rfl, rfl⟩ (ctX8_add l x _ _ _) rfl (fun v85 M85 => ?_)
    refine r_iinc (pc := 88) (w := 1) (lf := fun v88 => [(5, v88), (3, p3), (4, p4), (6, p6)]) (ll' := []) (lr' := [(0, p0)]) E dX3_find_88 2 rfl (by decide) (by decide) (fun _ => rfl) rfl rfl (fun v88 => ?_)
    refine r_iinc (pc := 91) (w := 1) (lf := fun v91 => [(4, v91), (5, v88), (3, p3), (6, p6)]) (ll' := []) (lr' := [(0, p0)]) E dX3_find_91 2 rfl (by decide) (by decide) (fun _ => rfl) rfl rfl (fun v91 => ?_)
    refine r_goto (pc := 94) (tgt := 159) E dX3_find_94 (by decide) ?_
    exact r_sub [2, 0, 1, 3] [] [0] rfl rfl rfl (hL159 k34 hk34 p0 p3 v91 v88 p6 _)
  have hL34 : ∀ (p0 : Option Nat) (p3 : Int32) (p4 : Int32) (p5 : Int32) (p6 : Int32) (M : Mem), RT p l e rmX3_find s m args below meth c x 7 (QM below args s x (fun _ : Unit => none) rmX3_find.cells rmX3_find.slots) 0 0 (fX3_find_L34 p0 p3 p4 p5 p6 M) 34 [(3, p3), (4, p4), (5, p5), (6, p6)] [] [(0, p0)] [] M := by
    intro p0 p3 p4 p5 p6 M
    refine r_lp (fi := fun a : Option Nat × Int32 × Int32 × Int32 × Int32 => [(3, a.2.1), (4, a.2.2.1), (5, a.2.2.2.1), (6, a.2.2.2.2)]) (fl := fun a : Option Nat × Int32 × Int32 × Int32 × Int32 => []) (fr := fun a : Option Nat × Int32 × Int32 × Int32 × Int32 => [(0, a.1)]) (fs := fun a : Option Nat × Int32 × Int32 × Int32 × Int32 => []) ?_ FU ((p0, p3, p4, p5, p6)) M
    intro k34 hk34 a M
    obtain ⟨p0, p3, p4, p5, p6⟩ := a
    show RT p l e rmX3_find s m args below meth c x 7 (QM below args s x (fun _ : Unit => none) rmX3_find.cells rmX3_find.slots) 0 0 (fX3_find_B34 k34 p0 p3 p4 p5 p6 M) 34 [(3, p3), (4, p4), (5, p5), (6, p6)] [] [(0, p0)] [] M
    unfold fX3_find_B34
    refine r_iload (pc := 34) E dX3_find_34 3 rfl ?_
    refine r_sipush (pc := 36) (v := 2048) E dX3_find_36 (by decide) ?_
    refine r_icmp_ge (pc := 39) (tgt := 165) E dX3_find_39 (by decide) ?_ ?_
    · exact r_sub [] [] [] rfl rfl rfl (hL165 _)
    · refine r_iload (pc := 42) E dX3_find_42 1 rfl ?_
      refine r_iload_n (pc := 44) E dX3_find_44 rfl 0 rfl ?_
      refine r_icmp_ge (pc := 45) (tgt := 165) E dX3_find_45 (by decide) ?_ ?_
      · exact r_sub [] [] [] rfl rfl rfl (hL165 _)
      · refine r_aload_n (pc := 48) E dX3_find_48 rfl 0 rfl ?_
        refine r_iload (pc := 49) E dX3_find_49 1 rfl ?_
        refine r_iload_n (pc := 51) E dX3_find_51 rfl 0 rfl ?_
        refine r_kVv (pc := 52) (As := [.int p4, .int p3]) (rest := []) E wc_X3_findBest wi_RX3 hd_X3_findBest (ci := 3) rfl wl_RX3_62 wn_X3_findBest ws_X3_findBest dX3_find_52 (by decide) (Nat.le_of_ble_eq_true rfl) ⟨rfl, rfl⟩ (ctX3_findBest l x _ _ _ _) rfl (fun v52 M52 => ?_)
        refine r_aload_n (pc := 55) E dX3_find_55 rfl 0 rfl ?_
        refine r_getI (pc := 56) E fd_3_10 wf_RX3_66 dX3_find_56 (fun v56 => ?_)
        refine r_if_eq (pc := 59) (tgt := 72) E dX3_find_59 (by decide) ?_ ?_
        · exact r_sub [0, 1, 2, 3] [] [0] rfl rfl rfl (hL72 k34 hk34 p0 p3 p4 p5 p6 _)
        · refine r_aload_n (pc := 62) E dX3_find_62 rfl 0 rfl ?_
          refine r_getI (pc := 63) E fd_3_1 wf_RX3_59 dX3_find_63 (fun v63 => ?_)
          refine r_sipush (pc := 66) (v := 512) E dX3_find_66 (by decide) ?_
          refine r_icmp_lt (pc := 69) (tgt := 97) E dX3_find_69 (by decide) ?_ ?_
          · refine r_aload_n (pc := 97) E dX3_find_97 rfl 0 rfl ?_
            refine r_getA (pc := 98) E fd_3_2 wf_RX3_20 dX3_find_98 (fun v98 => ?_)
            refine r_aload_n (pc := 101) E dX3_find_101 rfl 0 rfl ?_
            refine r_getI (pc := 102) E fd_3_1 wf_RX3_59 dX3_find_102 (fun v102 => ?_)
            refine r_iload (pc := 105) E dX3_find_105 2 rfl ?_
            refine r_iastore (pc := 107) E dX3_find_107 (fun M107 => ?_)
            refine r_aload_n (pc := 108) E dX3_find_108 rfl 0 rfl ?_
            refine r_getA (pc := 109) E fd_3_3 wf_RX3_24 dX3_find_109 (fun v109 => ?_)
            refine r_aload_n (pc := 112) E dX3_find_112 rfl 0 rfl ?_
            refine r_getI (pc := 113) E fd_3_1 wf_RX3_59 dX3_find_113 (fun v113 => ?_)
            refine r_aload_n (pc := 116) E dX3_find_116 rfl 0 rfl ?_
            refine r_getI (pc := 117) E fd_3_10 wf_RX3_66 dX3_find_117 (fun v117 => ?_)
            refine r_iastore (pc := 120) E dX3_find_120 (fun M120 => ?_)
            refine r_aload_n (pc := 121) E dX3_find_121 rfl 0 rfl ?_
            refine r_getA (pc := 122) E fd_3_4 wf_RX3_27 dX3_find_122 (fun v122 => ?_)
            refine r_aload_n (pc := 125) E dX3_find_125 rfl 0 rfl ?_
            refine r_getI (pc := 126) E fd_3_1 wf_RX3_59 dX3_find_126 (fun v126 => ?_)
            refine r_iload (pc := 129) E dX3_find_129 1 rfl ?_
            refine r_aload_n (pc := 131) E dX3_find_131 rfl 0 rfl ?_
            refine r_getI (pc := 132) E fd_3_11 wf_RX3_76 dX3_find_132 (fun v132 => ?_)
            refine r_isub (pc := 135) E dX3_find_135 ?_
            refine r_iastore (pc := 136) E dX3_find_136 (fun M136 => ?_)
            refine r_aload_n (pc := 137) E dX3_find_137 rfl 0 rfl ?_
            refine r_dup (pc := 138) E dX3_find_138 (rv_cat _ _) ?_
            refine r_getI (pc := 139) E fd_3_1 wf_RX3_59 dX3_find_139 (fun v139 => ?_)
            refine r_iconst (pc := 142) (v := 1) E dX3_find_142 (by decide) ?_
            refine r_iadd (pc := 143) E dX3_find_143 ?_
            refine r_putI (pc := 144) E fd_3_1 wf_RX3_59 dX3_find_144 (Or.inl rfl) (fun M144 => ?_)
            refine r_iconst (pc := 147) (v := 0) E dX3_find_147 (by decide) ?_
            refine r_istore (pc := 148) (lf := fun v148 => [(5, v148), (3, p3), (4, p4), (6, p6)]) (lg := fun v148 => []) (lk := fun v148 => [(0, p0)]) E dX3_find_148 (by decide) (fun _ => rfl) (fun _ => rfl) (fun _ => rfl) (fun v148 => ?_)
            refine r_iload (pc := 150) E dX3_find_150 2 rfl ?_
            refine r_aload_n (pc := 152) E dX3_find_152 rfl 0 rfl ?_
            refine r_getI (pc := 153) E fd_3_10 wf_RX3_66 dX3_find_153 (fun v153 => ?_)
            refine r_iadd (pc := 156) E dX3_find_156 ?_
            refine r_istore (pc := 157) (lf := fun v157 => [(4, v157), (5, v148), (3, p3), (6, p6)]) (lg := fun v157 => []) (lk := fun v157 => [(0, p0)]) E dX3_find_157 (by decide) (fun _ => rfl) (fun _ => rfl) (fun _ => rfl) (fun v157 => ?_)
            exact r_sub [2, 0, 1, 3] [] [0] rfl rfl rfl (hL159 k34 hk34 p0 p3 v157 v148 p6 _)
          · exact r_sub [0, 1, 2, 3] [] [0] rfl rfl rfl (hL72 k34 hk34 p0 p3 p4 p5 p6 _)
  show RT p l e rmX3_find s m args below meth c x 7 (QM below args s x (fun _ : Unit => none) rmX3_find.cells rmX3_find.slots) 0 0 (fX3_find a0 a1 a2 M) 0 [(1, a1), (2, a2)] [] [(0, a0)] [] M
  unfold fX3_find
  refine r_aload_n (pc := 0) E dX3_find_0 rfl 0 rfl ?_
  refine r_getI (pc := 1) E fd_3_8 wf_RX3_47 dX3_find_1 (fun v1 => ?_)
  refine r_iload_n (pc := 4) E dX3_find_4 rfl 1 rfl ?_
  refine r_iadd (pc := 5) E dX3_find_5 ?_
  refine r_istore_n (pc := 6) (lf := fun v6 => [(3, v6), (1, a1), (2, a2)]) (lg := fun v6 => []) (lk := fun v6 => [(0, a0)]) E dX3_find_6 rfl (by decide) (fun _ => rfl) (fun _ => rfl) (fun _ => rfl) (fun v6 => ?_)
  refine r_aload_n (pc := 7) E dX3_find_7 rfl 0 rfl ?_
  refine r_getI (pc := 8) E fd_3_8 wf_RX3_47 dX3_find_8 (fun v8 => ?_)
  refine r_iload_n (pc := 11) E dX3_find_11 rfl 1 rfl ?_
  refine r_iadd (pc := 12) E dX3_find_12 ?_
  refine r_istore (pc := 13) (lf := fun v13 => [(4, v13), (3, v6), (1, a1), (2, a2)]) (lg := fun v13 => []) (lk := fun v13 => [(0, a0)]) E dX3_find_13 (by decide) (fun _ => rfl) (fun _ => rfl) (fun _ => rfl) (fun v13 => ?_)
  refine r_iconst (pc := 15) (v := 0) E dX3_find_15 (by decide) ?_
  refine r_istore (pc := 16) (lf := fun v16 => [(5, v16), (4, v13), (3, v6), (1, a1), (2, a2)]) (lg := fun v16 => []) (lk := fun v16 => [(0, a0)]) E dX3_find_16 (by decide) (fun _ => rfl) (fun _ => rfl) (fun _ => rfl) (fun v16 => ?_)
  refine r_aload_n (pc := 18) E dX3_find_18 rfl 0 rfl ?_
  refine r_iconst (pc := 19) (v := 0) E dX3_find_19 (by decide) ?_
  refine r_putI (pc := 20) E fd_3_1 wf_RX3_59 dX3_find_20 (Or.inl rfl) (fun M20 => ?_)
  refine r_aload_n (pc := 23) E dX3_find_23 rfl 0 rfl ?_
  refine r_getR (pc := 24) E fd_3_0 wf_RX3_14 dX3_find_24 (fun v24 => ?_)
  refine r_iconst (pc := 27) (v := 0) E dX3_find_27 (by decide) ?_
  refine r_putI (pc := 28) E fd_8_1 wf_RX3_39 dX3_find_28 (Or.inl rfl) (fun M28 => ?_)
  refine r_iconst (pc := 31) (v := 0) E dX3_find_31 (by decide) ?_
  refine r_istore (pc := 32) (lf := fun v32 => [(6, v32), (5, v16), (4, v13), (3, v6), (1, a1), (2, a2)]) (lg := fun v32 => []) (lk := fun v32 => [(0, a0)]) E dX3_find_32 (by decide) (fun _ => rfl) (fun _ => rfl) (fun _ => rfl) (fun v32 => ?_)
  exact r_sub [3, 2, 1, 0] [] [0] rfl rfl rfl (hL34 a0 v6 v13 v16 v32 _)
def fX4_init (a0 : Option Nat) (a1 : Option Nat) (a2 : Option Nat) (M : Mem) : Option (Unit × Mem) :=
  bo (chk0 a0) fun _ =>
  bd (nw M 8) fun v5 M5 =>
  bo (chk0 v5) fun _ => bd (fX8_init v5 8000 M5) fun v12 M12 =>
  bo (pR M12 a0 4 0 v5) fun M15 =>
  bd (nw M15 1) fun v19 M19 =>
  bo (chk0 v19) fun _ => bd (fX1_init v19 M19) fun v23 M23 =>
  bo (pR M23 a0 4 4 v19) fun M26 =>
  bd (nw M26 0) fun v30 M30 =>
  bo (chk0 v30) fun _ => bd (fX0_init v30 M30) fun v34 M34 =>
  bo (pR M34 a0 4 7 v30) fun M37 =>
  bo (pR M37 a0 4 5 a1) fun M42 =>
  bo (pR M42 a0 4 6 a2) fun M47 =>
  bo (gR M47 a0 4 4) fun v52 =>
  bo (pR M47 a0 4 1 v52) fun M55 =>
  some ((), M55)
def rmX4_init : Room := { frames := 2, cells := 8, slots := 11572, locals := 44 }
set_option maxRecDepth 100000 in
set_option maxHeartbeats 4000000 in
theorem ctX4_init (l : Launch) (x : Cx) (a0 : Option Nat) (a1 : Option Nat) (a2 : Option Nat) (M : Mem) (v : Unit) (N : Mem) (h : fX4_init a0 a1 a2 M = some (v, N)) : CT l yX4_init cX4_init 3 (none) rmX4_init x [rv x a0, rv x a1, rv x a2] M none N := by
  refine ct_mk (enc := fun _ : Unit => none) (li := []) (ll := []) (lr := [(0, a0), (1, a1), (2, a2)]) (by decide +kernel) (by simp [lg_sl, rv_cat, cat_int, cat_long]) (by simp [flat, lv_args, rv_cat, cat_int, cat_long]) h ?_
  intro p e s m args below meth c E
  show RT p l e rmX4_init s m args below meth c x 3 (QM below args s x (fun _ : Unit => none) rmX4_init.cells rmX4_init.slots) 0 0 (fX4_init a0 a1 a2 M) 0 [] [] [(0, a0), (1, a1), (2, a2)] [] M
  unfold fX4_init
  refine r_aload_n (pc := 0) E dX4_init_0 rfl 0 rfl ?_
  refine r_obj (pc := 1) E wl_RX4_3 wo_inst wo_code dX4_init_1 (by decide) (by decide) (Nat.le_of_ble_eq_true rfl) ?_
  refine r_aload_n (pc := 4) E dX4_init_4 rfl 0 rfl ?_
  refine r_new (pc := 5) E cd_8 (by decide) wx_RX4_9 dX4_init_5 (by decide) (by decide) (fun v5 M5 => ?_)
  refine r_widen (k := 1) (n := 4) (by decide) (by decide) ?_
  refine r_dup (pc := 8) E dX4_init_8 (rv_cat _ _) ?_
  refine r_sipush (pc := 9) (v := 8000) E dX4_init_9 (by decide) ?_
  refine r_callI (pc := 12) (As := [.int 8000]) (rest := [rv x v5, rv x a0]) E wc_X8_init wi_RX8 hd_X8_init wl_RX4_11 rfl wn_X8_init dX4_init_12 (by decide) (Nat.le_of_ble_eq_true rfl) (ctX8_init l x _ _ _) rfl (fun v12 M12 => ?_)
  refine r_widen (k := 2) (n := 9004) (by decide) (by decide) ?_
  refine r_putR (pc := 15) E fd_4_0 wf_RX4_14 dX4_init_15 (Or.inr ⟨rfl, rfl⟩) (fun M15 => ?_)
  refine r_aload_n (pc := 18) E dX4_init_18 rfl 0 rfl ?_
  refine r_new (pc := 19) E cd_1 (by decide) wx_RX4_20 dX4_init_19 (by decide) (by decide) (fun v19 M19 => ?_)
  refine r_widen (k := 3) (n := 9008) (by decide) (by decide) ?_
  refine r_dup (pc := 22) E dX4_init_22 (rv_cat _ _) ?_
  refine r_callI (pc := 23) (As := []) (rest := [rv x v19, rv x a0]) E wc_X1_init wi_RX1 hd_X1_init wl_RX4_22 rfl wn_X1_init dX4_init_23 (by decide) (Nat.le_of_ble_eq_true rfl) (ctX1_init l x _ _) rfl (fun v23 M23 => ?_)
  refine r_widen (k := 6) (n := 11568) (by decide) (by decide) ?_
  refine r_putR (pc := 26) E fd_4_4 wf_RX4_23 dX4_init_26 (Or.inr ⟨rfl, rfl⟩) (fun M26 => ?_)
  refine r_aload_n (pc := 29) E dX4_init_29 rfl 0 rfl ?_
  refine r_new (pc := 30) E cd_0 (by decide) wx_RX4_27 dX4_init_30 (by decide) (by decide) (fun v30 M30 => ?_)
  refine r_widen (k := 7) (n := 11572) (by decide) (by decide) ?_
  refine r_dup (pc := 33) E dX4_init_33 (rv_cat _ _) ?_
  refine r_callI (pc := 34) (As := []) (rest := [rv x v30, rv x a0]) E wc_X0_init wi_RX0 hd_X0_init wl_RX4_29 rfl wn_X0_init dX4_init_34 (by decide) (Nat.le_of_ble_eq_true rfl) (ctX0_init l x _ _) rfl (fun v34 M34 => ?_)
  refine r_widen (k := 8) (n := 11572) (by decide) (by decide) ?_
  refine r_putR (pc := 37) E fd_4_7 wf_RX4_30 dX4_init_37 (Or.inr ⟨rfl, rfl⟩) (fun M37 => ?_)
  refine r_aload_n (pc := 40) E dX4_init_40 rfl 0 rfl ?_
  refine r_aload_n (pc := 41) E dX4_init_41 rfl 1 rfl ?_
  refine r_putR (pc := 42) E fd_4_5 wf_RX4_34 dX4_init_42 (Or.inr ⟨rfl, rfl⟩) (fun M42 => ?_)
  refine r_aload_n (pc := 45) E dX4_init_45 rfl 0 rfl ?_
  refine r_aload_n (pc := 46) E dX4_init_46 rfl 2 rfl ?_
  refine r_putR (pc := 47) E fd_4_6 wf_RX4_38 dX4_init_47 (Or.inr ⟨rfl, rfl⟩) (fun M47 => ?_)
  refine r_aload_n (pc := 50) E dX4_init_50 rfl 0 rfl ?_
  refine r_aload_n (pc := 51) E dX4_init_51 rfl 0 rfl ?_
  refine r_getR (pc := 52) E fd_4_4 wf_RX4_23 dX4_init_52 (fun v52 => ?_)
  refine r_putR (pc := 55) E fd_4_1 wf_RX4_42 dX4_init_55 (Or.inl rfl) (fun M55 => ?_)
  refine r_widen (k := 8) (n := 11572) (by decide) (by decide) ?_
  exact e_void (pc := 58) E dX4_init_58
def fX4_beginFrame_L43 (q0 : Option Nat) (q1 : Option Nat) (M : Mem) : Option (Unit × Mem) :=
  bo (pR M q0 4 1 q1) fun M43 =>
  some ((), M43)
def fX4_beginFrame_L39 (p0 : Option Nat) (q0 : Option Nat) (M : Mem) : Option (Unit × Mem) :=
  bo (gR M p0 4 4) fun v40 =>
  fX4_beginFrame_L43 q0 v40 M
def fX4_beginFrame_L17 (p0 : Option Nat) (p1 : Option Nat) (q0 : Option Nat) (q1 : Int32) (M : Mem) : Option (Unit × Mem) :=
  bo (pZ M q0 4 2 q1) fun M17 =>
  if p1 = none then (
    fX4_beginFrame_L39 p0 p0 M17
  ) else (
    bo (gI M17 p1 2 1) fun v26 =>
    if v26 = 0 then (
      fX4_beginFrame_L39 p0 p0 M17
    ) else (
      bo (gR M17 p1 2 4) fun v33 =>
      fX4_beginFrame_L43 p0 v33 M17
    )
  )
def fX4_beginFrame_L16 (p0 : Option Nat) (p1 : Option Nat) (q0 : Option Nat) (M : Mem) : Option (Unit × Mem) :=
  fX4_beginFrame_L17 p0 p1 q0 0 M
def fX4_beginFrame (a0 : Option Nat) (a1 : Option Nat) (M : Mem) : Option (Unit × Mem) :=
  if a1 = none then (
    fX4_beginFrame_L16 a0 a1 a0 M
  ) else (
    bo (gI M a1 2 1) fun v6 =>
    if v6 = 0 then (
      fX4_beginFrame_L16 a0 a1 a0 M
    ) else (
      fX4_beginFrame_L17 a0 a1 a0 1 M
    )
  )
def rmX4_beginFrame : Room := { frames := 0, cells := 0, slots := 0, locals := 0 }
set_option maxRecDepth 100000 in
set_option maxHeartbeats 4000000 in
theorem ctX4_beginFrame (l : Launch) (x : Cx) (a0 : Option Nat) (a1 : Option Nat) (M : Mem) (v : Unit) (N : Mem) (h : fX4_beginFrame a0 a1 M = some (v, N)) : CT l yX4_beginFrame cX4_beginFrame 2 (none) rmX4_beginFrame x [rv x a0, rv x a1] M none N := by
  refine ct_mk (enc := fun _ : Unit => none) (li := []) (ll := []) (lr := [(0, a0), (1, a1)]) (by decide +kernel) (by simp [lg_sl, rv_cat, cat_int, cat_long]) (by simp [flat, lv_args, rv_cat, cat_int, cat_long]) h ?_
  intro p e s m args below meth c E
  have hL43 : ∀ (q0 : Option Nat) (q1 : Option Nat) (M : Mem), RT p l e rmX4_beginFrame s m args below meth c x 2 (QM below args s x (fun _ : Unit => none) rmX4_beginFrame.cells rmX4_beginFrame.slots) 0 0 (fX4_beginFrame_L43 q0 q1 M) 43 [] [] [] [rv x q1, rv x q0] M := by
    intro q0 q1 M
    unfold fX4_beginFrame_L43
    refine r_putR (pc := 43) E fd_4_1 wf_RX4_42 dX4_beginFrame_43 (Or.inl rfl) (fun M43 => ?_)
    exact e_void (pc := 46) E dX4_beginFrame_46
  have hL39 : ∀ (p0 : Option Nat) (q0 : Option Nat) (M : Mem), RT p l e rmX4_beginFrame s m args below meth c x 2 (QM below args s x (fun _ : Unit => none) rmX4_beginFrame.cells rmX4_beginFrame.slots) 0 0 (fX4_beginFrame_L39 p0 q0 M) 39 [] [] [(0, p0)] [rv x q0] M := by
    intro p0 q0 M
    unfold fX4_beginFrame_L39
    refine r_aload_n (pc := 39) E dX4_beginFrame_39 rfl 0 rfl ?_
    refine r_getR (pc := 40) E fd_4_4 wf_RX4_23 dX4_beginFrame_40 (fun v40 => ?_)
    exact r_sub [] [] [] rfl rfl rfl (hL43 q0 v40 _)
  have hL17 : ∀ (p0 : Option Nat) (p1 : Option Nat) (q0 : Option Nat) (q1 : Int32) (M : Mem), RT p l e rmX4_beginFrame s m args below meth c x 2 (QM below args s x (fun _ : Unit => none) rmX4_beginFrame.cells rmX4_beginFrame.slots) 0 0 (fX4_beginFrame_L17 p0 p1 q0 q1 M) 17 [] [] [(0, p0), (1, p1)] [.int q1, rv x q0] M := by
    intro p0 p1 q0 q1 M
    unfold fX4_beginFrame_L17
    refine r_putZ (pc := 17) E fd_4_2 wf_RX4_51 dX4_beginFrame_17 (Or.inl rfl) (fun M17 => ?_)
    refine r_aload_n (pc := 20) E dX4_beginFrame_20 rfl 0 rfl ?_
    refine r_aload_n (pc := 21) E dX4_beginFrame_21 rfl 1 rfl ?_
    refine r_ifnull (pc := 22) (tgt := 39) E dX4_beginFrame_22 (by decide) ?_ ?_
    · exact r_sub [] [] [0] rfl rfl rfl (hL39 p0 p0 _)
    · refine r_aload_n (pc := 25) E dX4_beginFrame_25 rfl 1 rfl ?_
      refine r_getZ (pc := 26) E fd_2_1 wf_RX4_45 dX4_beginFrame_26 (fun v26 => ?_)
      refine r_if_eq (pc := 29) (tgt := 39) E dX4_beginFrame_29 (by decide) ?_ ?_
      · exact r_sub [] [] [0] rfl rfl rfl (hL39 p0 p0 _)
      · refine r_aload_n (pc := 32) E dX4_beginFrame_32 rfl 1 rfl ?_
        refine r_getR (pc := 33) E fd_2_4 wf_RX4_54 dX4_beginFrame_33 (fun v33 => ?_)
        refine r_goto (pc := 36) (tgt := 43) E dX4_beginFrame_36 (by decide) ?_
        exact r_sub [] [] [] rfl rfl rfl (hL43 p0 v33 _)
  have hL16 : ∀ (p0 : Option Nat) (p1 : Option Nat) (q0 : Option Nat) (M : Mem), RT p l e rmX4_beginFrame s m args below meth c x 2 (QM below args s x (fun _ : Unit => none) rmX4_beginFrame.cells rmX4_beginFrame.slots) 0 0 (fX4_beginFrame_L16 p0 p1 q0 M) 16 [] [] [(0, p0), (1, p1)] [rv x q0] M := by
    intro p0 p1 q0 M
    unfold fX4_beginFrame_L16
    refine r_iconst (pc := 16) (v := 0) E dX4_beginFrame_16 (by decide) ?_
    exact r_sub [] [] [0, 1] rfl rfl rfl (hL17 p0 p1 q0 0 _)
  show RT p l e rmX4_beginFrame s m args below meth c x 2 (QM below args s x (fun _ : Unit => none) rmX4_beginFrame.cells rmX4_beginFrame.slots) 0 0 (fX4_beginFrame a0 a1 M) 0 [] [] [(0, a0), (1, a1)] [] M
  unfold fX4_beginFrame
  refine r_aload_n (pc := 0) E dX4_beginFrame_0 rfl 0 rfl ?_
  refine r_aload_n (pc := 1) E dX4_beginFrame_1 rfl 1 rfl ?_
  refine r_ifnull (pc := 2) (tgt := 16) E dX4_beginFrame_2 (by decide) ?_ ?_
  · exact r_sub [] [] [0, 1] rfl rfl rfl (hL16 a0 a1 a0 _)
  · refine r_aload_n (pc := 5) E dX4_beginFrame_5 rfl 1 rfl ?_
    refine r_getZ (pc := 6) E fd_2_1 wf_RX4_45 dX4_beginFrame_6 (fun v6 => ?_)
    refine r_if_eq (pc := 9) (tgt := 16) E dX4_beginFrame_9 (by decide) ?_ ?_
    · exact r_sub [] [] [0, 1] rfl rfl rfl (hL16 a0 a1 a0 _)
    · refine r_iconst (pc := 12) (v := 1) E dX4_beginFrame_12 (by decide) ?_
      refine r_goto (pc := 13) (tgt := 17) E dX4_beginFrame_13 (by decide) ?_
      exact r_sub [] [] [0, 1] rfl rfl rfl (hL17 a0 a1 a0 1 _)
def fX4_coded_L13 (q0 : Int32) (M : Mem) : Option (Int32 × Mem) :=
  rtZ q0 M
def fX4_coded (a0 : Option Nat) (M : Mem) : Option (Int32 × Mem) :=
  bo (gI M a0 4 10) fun v1 =>
  if v1 < 2 then (
    fX4_coded_L13 0 M
  ) else (
    fX4_coded_L13 1 M
  )
def rmX4_coded : Room := { frames := 0, cells := 0, slots := 0, locals := 0 }
set_option maxRecDepth 100000 in
set_option maxHeartbeats 4000000 in
theorem ctX4_coded (l : Launch) (x : Cx) (a0 : Option Nat) (M : Mem) (v : Int32) (N : Mem) (h : fX4_coded a0 M = some (v, N)) : CT l yX4_coded cX4_coded 1 (some (FieldType.boolean)) rmX4_coded x [rv x a0] M (some (.int v)) N := by
  refine ct_mk (enc := fun v : Int32 => some (.int v)) (li := []) (ll := []) (lr := [(0, a0)]) (by decide +kernel) (by simp [lg_sl, rv_cat, cat_int, cat_long]) (by simp [flat, lv_args, rv_cat, cat_int, cat_long]) h ?_
  intro p e s m args below meth c E
  have hL13 : ∀ (q0 : Int32) (M : Mem), RT p l e rmX4_coded s m args below meth c x 1 (QM below args s x (fun v : Int32 => some (.int v)) rmX4_coded.cells rmX4_coded.slots) 0 0 (fX4_coded_L13 q0 M) 13 [] [] [] [.int q0] M := by
    intro q0 M
    unfold fX4_coded_L13
    exact e_bool (pc := 13) E dX4_coded_13
  show RT p l e rmX4_coded s m args below meth c x 1 (QM below args s x (fun v : Int32 => some (.int v)) rmX4_coded.cells rmX4_coded.slots) 0 0 (fX4_coded a0 M) 0 [] [] [(0, a0)] [] M
  unfold fX4_coded
  refine r_aload_n (pc := 0) E dX4_coded_0 rfl 0 rfl ?_
  refine r_getI (pc := 1) E fd_4_10 wf_RX4_65 dX4_coded_1 (fun v1 => ?_)
  refine r_iconst (pc := 4) (v := 2) E dX4_coded_4 (by decide) ?_
  refine r_icmp_lt (pc := 5) (tgt := 12) E dX4_coded_5 (by decide) ?_ ?_
  · refine r_iconst (pc := 12) (v := 0) E dX4_coded_12 (by decide) ?_
    exact r_sub [] [] [] rfl rfl rfl (hL13 0 _)
  · refine r_iconst (pc := 8) (v := 1) E dX4_coded_8 (by decide) ?_
    refine r_goto (pc := 9) (tgt := 13) E dX4_coded_9 (by decide) ?_
    exact r_sub [] [] [] rfl rfl rfl (hL13 1 _)
def fX7_fail (a0 : Option Nat) (a1 : Int32) (a2 : Int32) (M : Mem) : Option (Int32 × Mem) :=
  bo (pI M a0 7 0 a1) fun M2 =>
  bo (pI M2 a0 7 1 a2) fun M7 =>
  rtZ 0 M7
def rmX7_fail : Room := { frames := 0, cells := 0, slots := 0, locals := 0 }
set_option maxRecDepth 100000 in
set_option maxHeartbeats 4000000 in
theorem ctX7_fail (l : Launch) (x : Cx) (a0 : Option Nat) (a1 : Int32) (a2 : Int32) (M : Mem) (v : Int32) (N : Mem) (h : fX7_fail a0 a1 a2 M = some (v, N)) : CT l yX7_fail cX7_fail 3 (some (FieldType.boolean)) rmX7_fail x [rv x a0, .int a1, .int a2] M (some (.int v)) N := by
  refine ct_mk (enc := fun v : Int32 => some (.int v)) (li := [(1, a1), (2, a2)]) (ll := []) (lr := [(0, a0)]) (by decide +kernel) (by simp [lg_sl, rv_cat, cat_int, cat_long]) (by simp [flat, lv_args, rv_cat, cat_int, cat_long]) h ?_
  intro p e s m args below meth c E
  show RT p l e rmX7_fail s m args below meth c x 3 (QM below args s x (fun v : Int32 => some (.int v)) rmX7_fail.cells rmX7_fail.slots) 0 0 (fX7_fail a0 a1 a2 M) 0 [(1, a1), (2, a2)] [] [(0, a0)] [] M
  unfold fX7_fail
  refine r_aload_n (pc := 0) E dX7_fail_0 rfl 0 rfl ?_
  refine r_iload_n (pc := 1) E dX7_fail_1 rfl 0 rfl ?_
  refine r_putI (pc := 2) E fd_7_0 wf_RX7_24 dX7_fail_2 (Or.inl rfl) (fun M2 => ?_)
  refine r_aload_n (pc := 5) E dX7_fail_5 rfl 0 rfl ?_
  refine r_iload_n (pc := 6) E dX7_fail_6 rfl 1 rfl ?_
  refine r_putI (pc := 7) E fd_7_1 wf_RX7_28 dX7_fail_7 (Or.inl rfl) (fun M7 => ?_)
  refine r_iconst (pc := 10) (v := 0) E dX7_fail_10 (by decide) ?_
  exact e_bool (pc := 11) E dX7_fail_11
def fX4_readHead_L96 (p0 : Option Nat) (M : Mem) : Option (Int32 × Mem) :=
  bo (gR M p0 4 5) fun v97 =>
  bo (gI M p0 4 8) fun v103 =>
  bo (chk M v97 7) fun _ => bd (fX7_fail v97 10 v103 M) fun v106 M106 =>
  rtZ v106 M106
def fX4_readHead_L288 (q0 : Int32) (M : Mem) : Option (Int32 × Mem) :=
  rtZ q0 M
def fX4_readHead_L283 (M : Mem) : Option (Int32 × Mem) :=
  fX4_readHead_L288 1 M
def fX4_readHead_L267 (p0 : Option Nat) (M : Mem) : Option (Int32 × Mem) :=
  bo (gR M p0 4 5) fun v268 =>
  bo (gI M p0 4 8) fun v274 =>
  bo (chk M v268 7) fun _ => bd (fX7_fail v268 10 v274 M) fun v277 M277 =>
  if v277 = 0 then (
    fX4_readHead_L288 0 M277
  ) else (
    fX4_readHead_L283 M277
  )
def fX4_readHead_L239 (p0 : Option Nat) (p3 : Int32) (p4 : Int32) (p8 : Int32) (M : Mem) : Option (Int32 × Mem) :=
  bo (gI M p0 4 9) fun v241 =>
  bo (pI M p0 4 3 (v241 + p8)) fun M247 =>
  bo (gI M247 p0 4 12) fun v251 =>
  if p4 < v251 then (
    fX4_readHead_L267 p0 M247
  ) else (
    bo (gI M247 p0 4 3) fun v260 =>
    if v260 ≤ p3 then (
      fX4_readHead_L283 M247
    ) else (
      fX4_readHead_L267 p0 M247
    )
  )
def fX4_readHead_L237 (p0 : Option Nat) (p3 : Int32) (p4 : Int32) (q0 : Int32) (M : Mem) : Option (Int32 × Mem) :=
  bn (q0) fun v237 =>
  fX4_readHead_L239 p0 p3 p4 v237 M
def fX4_readHead_L216 (p0 : Option Nat) (p3 : Int32) (p4 : Int32) (q0 : Option Nat) (q1 : Int64) (q2 : Int32) (M : Mem) : Option (Int32 × Mem) :=
  bo (pI M q0 4 12 ((shrJ q1 q2).toInt32)) fun M218 =>
  bo (gI M218 p0 4 10) fun v222 =>
  if v222 = 1 then (
    fX4_readHead_L237 p0 p3 p4 1 M218
  ) else (
    bo (gI M218 p0 4 12) fun v234 =>
    fX4_readHead_L237 p0 p3 p4 v234 M218
  )
def fX4_readHead_L168 (p0 : Option Nat) (p3 : Int32) (p4 : Int32) (p6 : Int64) (q0 : Int32) (M : Mem) : Option (Int32 × Mem) :=
  bn (q0) fun v168 =>
  bo (pI M p0 4 12 (((shrJ p6 4) &&& ((shlJ 1 v168) - 1)).toInt32)) fun M183 =>
  bn ((shrJ p6 (4 + v168)).toInt32) fun v194 =>
  fX4_readHead_L239 p0 p3 p4 v194 M183
def fX4_readHead_L75 (p0 : Option Nat) (p1 : Option Nat) (p3 : Int32) (p4 : Int32) (q0 : Int32) (M : Mem) : Option (Int32 × Mem) :=
  bn (q0) fun v75 =>
  bo (gI M p0 4 8) fun v78 =>
  if p3 ≤ v78 then (
    fX4_readHead_L96 p0 M
  ) else (
    bo (gI M p0 4 8) fun v89 =>
    if v75 ≤ (p3 - v89) then (
      bo (gI M p0 4 8) fun v112 =>
      bo (chk M p1 8) fun _ => bd (fX8_number p1 v112 v75 M) fun v117 M117 =>
      bn (v117) fun v120 =>
      bo (gI M117 p0 4 8) fun v124 =>
      bo (pI M117 p0 4 9 (v124 + v75)) fun M130 =>
      bo (chk M130 p0 4) fun _ => bd (fX4_coded p0 M130) fun v134 M134 =>
      if v134 = 0 then (
        bo (gI M134 p0 4 11) fun v203 =>
        bo (rm v203 2) fun v207 =>
        if v207 = 0 then (
          fX4_readHead_L216 p0 p3 p4 p0 v120 3 M134
        ) else (
          fX4_readHead_L216 p0 p3 p4 p0 v120 4 M134
        )
      ) else (
        bo (gI M134 p0 4 11) fun v141 =>
        if 2 ≤ v141 then (
          bo (gI M134 p0 4 11) fun v154 =>
          if v154 = 2 then (
            fX4_readHead_L168 p0 p3 p4 v120 14 M134
          ) else (
            fX4_readHead_L168 p0 p3 p4 v120 18 M134
          )
        ) else (
          fX4_readHead_L168 p0 p3 p4 v120 10 M134
        )
      )
    ) else (
      fX4_readHead_L96 p0 M
    )
  )
def fX4_readHead (a0 : Option Nat) (a1 : Option Nat) (a2 : Int32) (a3 : Int32) (a4 : Int32) (M : Mem) : Option (Int32 × Mem) :=
  bo (pI M a0 4 8 a2) fun M2 =>
  bo (gI M2 a0 4 8) fun v8 =>
  bo (chk M2 a1 8) fun _ => bd (fX8_get a1 v8 M2) fun v11 M11 =>
  bo (pI M11 a0 4 10 (v11 &&& 3)) fun M16 =>
  bo (gI M16 a0 4 8) fun v22 =>
  bo (chk M16 a1 8) fun _ => bd (fX8_get a1 v22 M16) fun v25 M25 =>
  bo (pI M25 a0 4 11 ((shrI v25 2) &&& 3)) fun M32 =>
  bo (chk M32 a0 4) fun _ => bd (fX4_coded a0 M32) fun v36 M36 =>
  if v36 = 0 then (
    bo (gI M36 a0 4 11) fun v56 =>
    if v56 = 3 then (
      fX4_readHead_L75 a0 a1 a3 a4 3 M36
    ) else (
      bo (gI M36 a0 4 11) fun v68 =>
      bo (rm v68 2) fun v72 =>
      fX4_readHead_L75 a0 a1 a3 a4 (v72 + 1) M36
    )
  ) else (
    bo (gI M36 a0 4 11) fun v43 =>
    fX4_readHead_L75 a0 a1 a3 a4 (maxI (v43 + 2) 3) M36
  )
def rmX4_readHead : Room := { frames := 2, cells := 0, slots := 0, locals := 46 }
set_option maxRecDepth 100000 in
set_option maxHeartbeats 4000000 in
theorem ctX4_readHead (l : Launch) (x : Cx) (a0 : Option Nat) (a1 : Option Nat) (a2 : Int32) (a3 : Int32) (a4 : Int32) (M : Mem) (v : Int32) (N : Mem) (h : fX4_readHead a0 a1 a2 a3 a4 M = some (v, N)) : CT l yX4_readHead cX4_readHead 10 (some (FieldType.boolean)) rmX4_readHead x [rv x a0, rv x a1, .int a2, .int a3, .int a4] M (some (.int v)) N := by
  refine ct_mk (enc := fun v : Int32 => some (.int v)) (li := [(2, a2), (3, a3), (4, a4)]) (ll := []) (lr := [(0, a0), (1, a1)]) (by decide +kernel) (by simp [lg_sl, rv_cat, cat_int, cat_long]) (by simp [flat, lv_args, rv_cat, cat_int, cat_long]) h ?_
  intro p e s m args below meth c E
  have hL96 : ∀ (p0 : Option Nat) (M : Mem), RT p l e rmX4_readHead s m args below meth c x 10 (QM below args s x (fun v : Int32 => some (.int v)) rmX4_readHead.cells rmX4_readHead.slots) 0 0 (fX4_readHead_L96 p0 M) 96 [] [] [(0, p0)] [] M := by
    intro p0 M
    unfold fX4_readHead_L96
    refine r_aload_n (pc := 96) E dX4_readHead_96 rfl 0 rfl ?_
    refine r_getR (pc := 97) E fd_4_5 wf_RX4_34 dX4_readHead_97 (fun v97 => ?_)
    refine r_bipush (pc := 100) (v := 10) E dX4_readHead_100 (by decide) ?_
    refine r_aload_n (pc := 102) E dX4_readHead_102 rfl 0 rfl ?_
    refine r_getI (pc := 103) E fd_4_8 wf_RX4_57 dX4_readHead_103 (fun v103 => ?_)
    refine r_kVi (pc := 106) (As := [.int 10, .int v103]) (rest := []) E wc_X7_fail wi_RX7 hd_X7_fail (ci := 7) rfl wl_RX4_81 wn_X7_fail ws_X7_fail dX4_readHead_106 (by decide) (Nat.le_of_ble_eq_true rfl) ⟨rfl, rfl⟩ (ctX7_fail l x _ _ _ _) rfl (fun v106 M106 => ?_)
    exact e_bool (pc := 109) E dX4_readHead_109
  have hL288 : ∀ (q0 : Int32) (M : Mem), RT p l e rmX4_readHead s m args below meth c x 10 (QM below args s x (fun v : Int32 => some (.int v)) rmX4_readHead.cells rmX4_readHead.slots) 0 0 (fX4_readHead_L288 q0 M) 288 [] [] [] [.int q0] M := by
    intro q0 M
    unfold fX4_readHead_L288
    exact e_bool (pc := 288) E dX4_readHead_288
  have hL283 : ∀ (M : Mem), RT p l e rmX4_readHead s m args below meth c x 10 (QM below args s x (fun v : Int32 => some (.int v)) rmX4_readHead.cells rmX4_readHead.slots) 0 0 (fX4_readHead_L283 M) 283 [] [] [] [] M := by
    intro M
    unfold fX4_readHead_L283
    refine r_iconst (pc := 283) (v := 1) E dX4_readHead_283 (by decide) ?_
    refine r_goto (pc := 284) (tgt := 288) E dX4_readHead_284 (by decide) ?_
    exact r_sub [] [] [] rfl rfl rfl (hL288 1 _)
  have hL267 : ∀ (p0 : Option Nat) (M : Mem), RT p l e rmX4_readHead s m args below meth c x 10 (QM below args s x (fun v : Int32 => some (.int v)) rmX4_readHead.cells rmX4_readHead.slots) 0 0 (fX4_readHead_L267 p0 M) 267 [] [] [(0, p0)] [] M := by
    intro p0 M
    unfold fX4_readHead_L267
    refine r_aload_n (pc := 267) E dX4_readHead_267 rfl 0 rfl ?_
    refine r_getR (pc := 268) E fd_4_5 wf_RX4_34 dX4_readHead_268 (fun v268 => ?_)
    refine r_bipush (pc := 271) (v := 10) E dX4_readHead_271 (by decide) ?_
    refine r_aload_n (pc := 273) E dX4_readHead_273 rfl 0 rfl ?_
    refine r_getI (pc := 274) E fd_4_8 wf_RX4_57 dX4_readHead_274 (fun v274 => ?_)
    refine r_kVi (pc := 277) (As := [.int 10, .int v274]) (rest := []) E wc_X7_fail wi_RX7 hd_X7_fail (ci := 7) rfl wl_RX4_81 wn_X7_fail ws_X7_fail dX4_readHead_277 (by decide) (Nat.le_of_ble_eq_true rfl) ⟨rfl, rfl⟩ (ctX7_fail l x _ _ _ _) rfl (fun v277 M277 => ?_)
    refine r_if_eq (pc := 280) (tgt := 287) E dX4_readHead_280 (by decide) ?_ ?_
    · refine r_iconst (pc := 287) (v := 0) E dX4_readHead_287 (by decide) ?_
      exact r_sub [] [] [] rfl rfl rfl (hL288 0 _)
    · exact r_sub [] [] [] rfl rfl rfl (hL283 _)
  have hL239 : ∀ (p0 : Option Nat) (p3 : Int32) (p4 : Int32) (p8 : Int32) (M : Mem), RT p l e rmX4_readHead s m args below meth c x 10 (QM below args s x (fun v : Int32 => some (.int v)) rmX4_readHead.cells rmX4_readHead.slots) 0 0 (fX4_readHead_L239 p0 p3 p4 p8 M) 239 [(3, p3), (4, p4), (8, p8)] [] [(0, p0)] [] M := by
    intro p0 p3 p4 p8 M
    unfold fX4_readHead_L239
    refine r_aload_n (pc := 239) E dX4_readHead_239 rfl 0 rfl ?_
    refine r_aload_n (pc := 240) E dX4_readHead_240 rfl 0 rfl ?_
    refine r_getI (pc := 241) E fd_4_9 wf_RX4_91 dX4_readHead_241 (fun v241 => ?_)
    refine r_iload (pc := 244) E dX4_readHead_244 2 rfl ?_
    refine r_iadd (pc := 246) E dX4_readHead_246 ?_
    refine r_putI (pc := 247) E fd_4_3 wf_RX4_97 dX4_readHead_247 (Or.inl rfl) (fun M247 => ?_)
    refine r_aload_n (pc := 250) E dX4_readHead_250 rfl 0 rfl ?_
    refine r_getI (pc := 251) E fd_4_12 wf_RX4_94 dX4_readHead_251 (fun v251 => ?_)
    refine r_iload (pc := 254) E dX4_readHead_254 1 rfl ?_
    refine r_icmp_gt (pc := 256) (tgt := 267) E dX4_readHead_256 (by decide) ?_ ?_
    · exact r_sub [] [] [0] rfl rfl rfl (hL267 p0 _)
    · refine r_aload_n (pc := 259) E dX4_readHead_259 rfl 0 rfl ?_
      refine r_getI (pc := 260) E fd_4_3 wf_RX4_97 dX4_readHead_260 (fun v260 => ?_)
      refine r_iload_n (pc := 263) E dX4_readHead_263 rfl 0 rfl ?_
      refine r_icmp_le (pc := 264) (tgt := 283) E dX4_readHead_264 (by decide) ?_ ?_
      · exact r_sub [] [] [] rfl rfl rfl (hL283 _)
      · exact r_sub [] [] [0] rfl rfl rfl (hL267 p0 _)
  have hL237 : ∀ (p0 : Option Nat) (p3 : Int32) (p4 : Int32) (q0 : Int32) (M : Mem), RT p l e rmX4_readHead s m args below meth c x 10 (QM below args s x (fun v : Int32 => some (.int v)) rmX4_readHead.cells rmX4_readHead.slots) 0 0 (fX4_readHead_L237 p0 p3 p4 q0 M) 237 [(3, p3), (4, p4)] [] [(0, p0)] [.int q0] M := by
    intro p0 p3 p4 q0 M
    unfold fX4_readHead_L237
    refine r_istore (pc := 237) (lf := fun v237 => [(8, v237), (3, p3), (4, p4)]) (lg := fun v237 => []) (lk := fun v237 => [(0, p0)]) E dX4_readHead_237 (by decide) (fun _ => rfl) (fun _ => rfl) (fun _ => rfl) (fun v237 => ?_)
    exact r_sub [1, 2, 0] [] [0] rfl rfl rfl (hL239 p0 p3 p4 v237 _)
  have hL216 : ∀ (p0 : Option Nat) (p3 : Int32) (p4 : Int32) (q0 : Option Nat) (q1 : Int64) (q2 : Int32) (M : Mem), RT p l e rmX4_readHead s m args below meth c x 10 (QM below args s x (fun v : Int32 => some (.int v)) rmX4_readHead.cells rmX4_readHead.slots) 0 0 (fX4_readHead_L216 p0 p3 p4 q0 q1 q2 M) 216 [(3, p3), (4, p4)] [] [(0, p0)] [.int q2, .long q1, rv x q0] M := by
    intro p0 p3 p4 q0 q1 q2 M
    unfold fX4_readHead_L216
    refine r_lshr (pc := 216) E dX4_readHead_216 ?_
    refine r_l2i (pc := 217) E dX4_readHead_217 ?_
    refine r_putI (pc := 218) E fd_4_12 wf_RX4_94 dX4_readHead_218 (Or.inl rfl) (fun M218 => ?_)
    refine r_aload_n (pc := 221) E dX4_readHead_221 rfl 0 rfl ?_
    refine r_getI (pc := 222) E fd_4_10 wf_RX4_65 dX4_readHead_222 (fun v222 => ?_)
    refine r_iconst (pc := 225) (v := 1) E dX4_readHead_225 (by decide) ?_
    refine r_icmp_ne (pc := 226) (tgt := 233) E dX4_readHead_226 (by decide) ?_ ?_
    · refine r_aload_n (pc := 233) E dX4_readHead_233 rfl 0 rfl ?_
      refine r_getI (pc := 234) E fd_4_12 wf_RX4_94 dX4_readHead_234 (fun v234 => ?_)
      exact r_sub [0, 1] [] [0] rfl rfl rfl (hL237 p0 p3 p4 v234 _)
    · refine r_iconst (pc := 229) (v := 1) E dX4_readHead_229 (by decide) ?_
      refine r_goto (pc := 230) (tgt := 237) E dX4_readHead_230 (by decide) ?_
      exact r_sub [0, 1] [] [0] rfl rfl rfl (hL237 p0 p3 p4 1 _)
  have hL168 : ∀ (p0 : Option Nat) (p3 : Int32) (p4 : Int32) (p6 : Int64) (q0 : Int32) (M : Mem), RT p l e rmX4_readHead s m args below meth c x 10 (QM below args s x (fun v : Int32 => some (.int v)) rmX4_readHead.cells rmX4_readHead.slots) 0 0 (fX4_readHead_L168 p0 p3 p4 p6 q0 M) 168 [(3, p3), (4, p4)] [(6, p6)] [(0, p0)] [.int q0] M := by
    intro p0 p3 p4 p6 q0 M
    unfold fX4_readHead_L168
    refine r_istore (pc := 168) (lf := fun v168 => [(9, v168), (3, p3), (4, p4)]) (lg := fun v168 => [(6, p6)]) (lk := fun v168 => [(0, p0)]) E dX4_readHead_168 (by decide) (fun _ => rfl) (fun _ => rfl) (fun _ => rfl) (fun v168 => ?_)
    refine r_aload_n (pc := 170) E dX4_readHead_170 rfl 0 rfl ?_
    refine r_lload (pc := 171) E dX4_readHead_171 0 rfl ?_
    refine r_iconst (pc := 173) (v := 4) E dX4_readHead_173 (by decide) ?_
    refine r_lshr (pc := 174) E dX4_readHead_174 ?_
    refine r_lconst (pc := 175) (v := 1) E dX4_readHead_175 (by decide) ?_
    refine r_iload (pc := 176) E dX4_readHead_176 0 rfl ?_
    refine r_lshl (pc := 178) E dX4_readHead_178 ?_
    refine r_lconst (pc := 179) (v := 1) E dX4_readHead_179 (by decide) ?_
    refine r_lsub (pc := 180) E dX4_readHead_180 ?_
    refine r_land (pc := 181) E dX4_readHead_181 ?_
    refine r_l2i (pc := 182) E dX4_readHead_182 ?_
    refine r_putI (pc := 183) E fd_4_12 wf_RX4_94 dX4_readHead_183 (Or.inl rfl) (fun M183 => ?_)
    refine r_lload (pc := 186) E dX4_readHead_186 0 rfl ?_
    refine r_iconst (pc := 188) (v := 4) E dX4_readHead_188 (by decide) ?_
    refine r_iload (pc := 189) E dX4_readHead_189 0 rfl ?_
    refine r_iadd (pc := 191) E dX4_readHead_191 ?_
    refine r_lshr (pc := 192) E dX4_readHead_192 ?_
    refine r_l2i (pc := 193) E dX4_readHead_193 ?_
    refine r_istore (pc := 194) (lf := fun v194 => [(8, v194), (9, v168), (3, p3), (4, p4)]) (lg := fun v194 => [(6, p6)]) (lk := fun v194 => [(0, p0)]) E dX4_readHead_194 (by decide) (fun _ => rfl) (fun _ => rfl) (fun _ => rfl) (fun v194 => ?_)
    refine r_goto (pc := 196) (tgt := 239) E dX4_readHead_196 (by decide) ?_
    exact r_sub [2, 3, 0] [] [0] rfl rfl rfl (hL239 p0 p3 p4 v194 _)
  have hL75 : ∀ (p0 : Option Nat) (p1 : Option Nat) (p3 : Int32) (p4 : Int32) (q0 : Int32) (M : Mem), RT p l e rmX4_readHead s m args below meth c x 10 (QM below args s x (fun v : Int32 => some (.int v)) rmX4_readHead.cells rmX4_readHead.slots) 0 0 (fX4_readHead_L75 p0 p1 p3 p4 q0 M) 75 [(3, p3), (4, p4)] [] [(0, p0), (1, p1)] [.int q0] M := by
    intro p0 p1 p3 p4 q0 M
    unfold fX4_readHead_L75
    refine r_istore (pc := 75) (lf := fun v75 => [(5, v75), (3, p3), (4, p4)]) (lg := fun v75 => []) (lk := fun v75 => [(0, p0), (1, p1)]) E dX4_readHead_75 (by decide) (fun _ => rfl) (fun _ => rfl) (fun _ => rfl) (fun v75 => ?_)
    refine r_aload_n (pc := 77) E dX4_readHead_77 rfl 0 rfl ?_
    refine r_getI (pc := 78) E fd_4_8 wf_RX4_57 dX4_readHead_78 (fun v78 => ?_)
    refine r_iload_n (pc := 81) E dX4_readHead_81 rfl 1 rfl ?_
    refine r_icmp_ge (pc := 82) (tgt := 96) E dX4_readHead_82 (by decide) ?_ ?_
    · exact r_sub [] [] [0] rfl rfl rfl (hL96 p0 _)
    · refine r_iload (pc := 85) E dX4_readHead_85 0 rfl ?_
      refine r_iload_n (pc := 87) E dX4_readHead_87 rfl 1 rfl ?_
      refine r_aload_n (pc := 88) E dX4_readHead_88 rfl 0 rfl ?_
      refine r_getI (pc := 89) E fd_4_8 wf_RX4_57 dX4_readHead_89 (fun v89 => ?_)
      refine r_isub (pc := 92) E dX4_readHead_92 ?_
      refine r_icmp_le (pc := 93) (tgt := 110) E dX4_readHead_93 (by decide) ?_ ?_
      · refine r_aload_n (pc := 110) E dX4_readHead_110 rfl 1 rfl ?_
        refine r_aload_n (pc := 111) E dX4_readHead_111 rfl 0 rfl ?_
        refine r_getI (pc := 112) E fd_4_8 wf_RX4_57 dX4_readHead_112 (fun v112 => ?_)
        refine r_iload (pc := 115) E dX4_readHead_115 0 rfl ?_
        refine r_kVl (pc := 117) (As := [.int v112, .int v75]) (rest := []) E wc_X8_number wi_RX8 hd_X8_number (ci := 8) rfl wl_RX4_87 wn_X8_number ws_X8_number dX4_readHead_117 (by decide) (Nat.le_of_ble_eq_true rfl) ⟨rfl, rfl⟩ (ctX8_number l x _ _ _ _) rfl (fun v117 M117 => ?_)
        refine r_lstore (pc := 120) (lf := fun v120 => [(5, v75), (3, p3), (4, p4)]) (lg := fun v120 => [(6, v120)]) (lk := fun v120 => [(0, p0), (1, p1)]) E dX4_readHead_120 (by decide) (fun _ => rfl) (fun _ => rfl) (fun _ => rfl) (fun v120 => ?_)
        refine r_aload_n (pc := 122) E dX4_readHead_122 rfl 0 rfl ?_
        refine r_aload_n (pc := 123) E dX4_readHead_123 rfl 0 rfl ?_
        refine r_getI (pc := 124) E fd_4_8 wf_RX4_57 dX4_readHead_124 (fun v124 => ?_)
        refine r_iload (pc := 127) E dX4_readHead_127 0 rfl ?_
        refine r_iadd (pc := 129) E dX4_readHead_129 ?_
        refine r_putI (pc := 130) E fd_4_9 wf_RX4_91 dX4_readHead_130 (Or.inl rfl) (fun M130 => ?_)
        refine r_aload_n (pc := 133) E dX4_readHead_133 rfl 0 rfl ?_
        refine r_kVi (pc := 134) (As := []) (rest := []) E wc_X4_coded wi_RX4 hd_X4_coded (ci := 4) rfl wl_RX4_71 wn_X4_coded ws_X4_coded dX4_readHead_134 (by decide) (Nat.le_of_ble_eq_true rfl) ⟨rfl, rfl⟩ (ctX4_coded l x _ _) rfl (fun v134 M134 => ?_)
        refine r_if_eq (pc := 137) (tgt := 199) E dX4_readHead_137 (by decide) ?_ ?_
        · refine r_aload_n (pc := 199) E dX4_readHead_199 rfl 0 rfl ?_
          refine r_lload (pc := 200) E dX4_readHead_200 0 rfl ?_
          refine r_aload_n (pc := 202) E dX4_readHead_202 rfl 0 rfl ?_
          refine r_getI (pc := 203) E fd_4_11 wf_RX4_68 dX4_readHead_203 (fun v203 => ?_)
          refine r_iconst (pc := 206) (v := 2) E dX4_readHead_206 (by decide) ?_
          refine r_irem (pc := 207) E dX4_readHead_207 (fun v207 => ?_)
          refine r_if_ne (pc := 208) (tgt := 215) E dX4_readHead_208 (by decide) ?_ ?_
          · refine r_iconst (pc := 215) (v := 4) E dX4_readHead_215 (by decide) ?_
            exact r_sub [1, 2] [] [0] rfl rfl rfl (hL216 p0 p3 p4 p0 v120 4 _)
          · refine r_iconst (pc := 211) (v := 3) E dX4_readHead_211 (by decide) ?_
            refine r_goto (pc := 212) (tgt := 216) E dX4_readHead_212 (by decide) ?_
            exact r_sub [1, 2] [] [0] rfl rfl rfl (hL216 p0 p3 p4 p0 v120 3 _)
        · refine r_aload_n (pc := 140) E dX4_readHead_140 rfl 0 rfl ?_
          refine r_getI (pc := 141) E fd_4_11 wf_RX4_68 dX4_readHead_141 (fun v141 => ?_)
          refine r_iconst (pc := 144) (v := 2) E dX4_readHead_144 (by decide) ?_
          refine r_icmp_ge (pc := 145) (tgt := 153) E dX4_readHead_145 (by decide) ?_ ?_
          · refine r_aload_n (pc := 153) E dX4_readHead_153 rfl 0 rfl ?_
            refine r_getI (pc := 154) E fd_4_11 wf_RX4_68 dX4_readHead_154 (fun v154 => ?_)
            refine r_iconst (pc := 157) (v := 2) E dX4_readHead_157 (by decide) ?_
            refine r_icmp_ne (pc := 158) (tgt := 166) E dX4_readHead_158 (by decide) ?_ ?_
            · refine r_bipush (pc := 166) (v := 18) E dX4_readHead_166 (by decide) ?_
              exact r_sub [1, 2] [0] [0] rfl rfl rfl (hL168 p0 p3 p4 v120 18 _)
            · refine r_bipush (pc := 161) (v := 14) E dX4_readHead_161 (by decide) ?_
              refine r_goto (pc := 163) (tgt := 168) E dX4_readHead_163 (by decide) ?_
              exact r_sub [1, 2] [0] [0] rfl rfl rfl (hL168 p0 p3 p4 v120 14 _)
          · refine r_bipush (pc := 148) (v := 10) E dX4_readHead_148 (by decide) ?_
            refine r_goto (pc := 150) (tgt := 168) E dX4_readHead_150 (by decide) ?_
            exact r_sub [1, 2] [0] [0] rfl rfl rfl (hL168 p0 p3 p4 v120 10 _)
      · exact r_sub [] [] [0] rfl rfl rfl (hL96 p0 _)
  show RT p l e rmX4_readHead s m args below meth c x 10 (QM below args s x (fun v : Int32 => some (.int v)) rmX4_readHead.cells rmX4_readHead.slots) 0 0 (fX4_readHead a0 a1 a2 a3 a4 M) 0 [(2, a2), (3, a3), (4, a4)] [] [(0, a0), (1, a1)] [] M
  unfold fX4_readHead
  refine r_aload_n (pc := 0) E dX4_readHead_0 rfl 0 rfl ?_
  refine r_iload_n (pc := 1) E dX4_readHead_1 rfl 0 rfl ?_
  refine r_putI (pc := 2) E fd_4_8 wf_RX4_57 dX4_readHead_2 (Or.inl rfl) (fun M2 => ?_)
  refine r_aload_n (pc := 5) E dX4_readHead_5 rfl 0 rfl ?_
  refine r_aload_n (pc := 6) E dX4_readHead_6 rfl 1 rfl ?_
  refine r_aload_n (pc := 7) E dX4_readHead_7 rfl 0 rfl ?_
  refine r_getI (pc := 8) E fd_4_8 wf_RX4_57 dX4_readHead_8 (fun v8 => ?_)
  refine r_kVi (pc := 11) (As := [.int v8]) (rest := [rv x a0]) E wc_X8_get wi_RX8 hd_X8_get (ci := 8) rfl wl_RX4_61 wn_X8_get ws_X8_get dX4_readHead_11 (by decide) (Nat.le_of_ble_eq_true rfl) ⟨rfl, rfl⟩ (ctX8_get l x _ _ _) rfl (fun v11 M11 => ?_)
  refine r_iconst (pc := 14) (v := 3) E dX4_readHead_14 (by decide) ?_
  refine r_iand (pc := 15) E dX4_readHead_15 ?_
  refine r_putI (pc := 16) E fd_4_10 wf_RX4_65 dX4_readHead_16 (Or.inl rfl) (fun M16 => ?_)
  refine r_aload_n (pc := 19) E dX4_readHead_19 rfl 0 rfl ?_
  refine r_aload_n (pc := 20) E dX4_readHead_20 rfl 1 rfl ?_
  refine r_aload_n (pc := 21) E dX4_readHead_21 rfl 0 rfl ?_
  refine r_getI (pc := 22) E fd_4_8 wf_RX4_57 dX4_readHead_22 (fun v22 => ?_)
  refine r_kVi (pc := 25) (As := [.int v22]) (rest := [rv x a0]) E wc_X8_get wi_RX8 hd_X8_get (ci := 8) rfl wl_RX4_61 wn_X8_get ws_X8_get dX4_readHead_25 (by decide) (Nat.le_of_ble_eq_true rfl) ⟨rfl, rfl⟩ (ctX8_get l x _ _ _) rfl (fun v25 M25 => ?_)
  refine r_iconst (pc := 28) (v := 2) E dX4_readHead_28 (by decide) ?_
  refine r_ishr (pc := 29) E dX4_readHead_29 ?_
  refine r_iconst (pc := 30) (v := 3) E dX4_readHead_30 (by decide) ?_
  refine r_iand (pc := 31) E dX4_readHead_31 ?_
  refine r_putI (pc := 32) E fd_4_11 wf_RX4_68 dX4_readHead_32 (Or.inl rfl) (fun M32 => ?_)
  refine r_aload_n (pc := 35) E dX4_readHead_35 rfl 0 rfl ?_
  refine r_kVi (pc := 36) (As := []) (rest := []) E wc_X4_coded wi_RX4 hd_X4_coded (ci := 4) rfl wl_RX4_71 wn_X4_coded ws_X4_coded dX4_readHead_36 (by decide) (Nat.le_of_ble_eq_true rfl) ⟨rfl, rfl⟩ (ctX4_coded l x _ _) rfl (fun v36 M36 => ?_)
  refine r_if_eq (pc := 39) (tgt := 55) E dX4_readHead_39 (by decide) ?_ ?_
  · refine r_aload_n (pc := 55) E dX4_readHead_55 rfl 0 rfl ?_
    refine r_getI (pc := 56) E fd_4_11 wf_RX4_68 dX4_readHead_56 (fun v56 => ?_)
    refine r_iconst (pc := 59) (v := 3) E dX4_readHead_59 (by decide) ?_
    refine r_icmp_ne (pc := 60) (tgt := 67) E dX4_readHead_60 (by decide) ?_ ?_
    · refine r_aload_n (pc := 67) E dX4_readHead_67 rfl 0 rfl ?_
      refine r_getI (pc := 68) E fd_4_11 wf_RX4_68 dX4_readHead_68 (fun v68 => ?_)
      refine r_iconst (pc := 71) (v := 2) E dX4_readHead_71 (by decide) ?_
      refine r_irem (pc := 72) E dX4_readHead_72 (fun v72 => ?_)
      refine r_iconst (pc := 73) (v := 1) E dX4_readHead_73 (by decide) ?_
      refine r_iadd (pc := 74) E dX4_readHead_74 ?_
      exact r_sub [1, 2] [] [0, 1] rfl rfl rfl (hL75 a0 a1 a3 a4 (v72 + 1) _)
    · refine r_iconst (pc := 63) (v := 3) E dX4_readHead_63 (by decide) ?_
      refine r_goto (pc := 64) (tgt := 75) E dX4_readHead_64 (by decide) ?_
      exact r_sub [1, 2] [] [0, 1] rfl rfl rfl (hL75 a0 a1 a3 a4 3 _)
  · refine r_aload_n (pc := 42) E dX4_readHead_42 rfl 0 rfl ?_
    refine r_getI (pc := 43) E fd_4_11 wf_RX4_68 dX4_readHead_43 (fun v43 => ?_)
    refine r_iconst (pc := 46) (v := 2) E dX4_readHead_46 (by decide) ?_
    refine r_iadd (pc := 47) E dX4_readHead_47 ?_
    refine r_iconst (pc := 48) (v := 3) E dX4_readHead_48 (by decide) ?_
    refine r_mmax (pc := 49) E wl_RX4_75 wm_smax wi_math wm_cmax dX4_readHead_49 (by decide) (Nat.le_of_ble_eq_true rfl) ?_
    refine r_goto (pc := 52) (tgt := 75) E dX4_readHead_52 (by decide) ?_
    exact r_sub [1, 2] [] [0, 1] rfl rfl rfl (hL75 a0 a1 a3 a4 (maxI (v43 + 2) 3) _)
def fX4_readCode_L107 (q0 : Int32) (M : Mem) : Option (Int32 × Mem) :=
  rtZ q0 M
def fX4_readCode_L102 (M : Mem) : Option (Int32 × Mem) :=
  fX4_readCode_L107 1 M
def fX4_readCode_L72 (p0 : Option Nat) (M : Mem) : Option (Int32 × Mem) :=
  bo (chk M p0 4) fun _ => bd (fX4_coded p0 M) fun v73 M73 =>
  if v73 = 0 then (
    fX4_readCode_L102 M73
  ) else (
    bo (gI M73 p0 4 2) fun v80 =>
    if v80 = 0 then (
      bo (gR M73 p0 4 5) fun v87 =>
      bo (gI M73 p0 4 8) fun v93 =>
      bo (chk M73 v87 7) fun _ => bd (fX7_fail v87 12 v93 M73) fun v96 M96 =>
      if v96 = 0 then (
        fX4_readCode_L107 0 M96
      ) else (
        fX4_readCode_L102 M96
      )
    ) else (
      fX4_readCode_L102 M73
    )
  )
def fX4_readCode (a0 : Option Nat) (a1 : Option Nat) (M : Mem) : Option (Int32 × Mem) :=
  bo (gI M a0 4 10) fun v1 =>
  if v1 = 2 then (
    bo (gR M a0 4 6) fun v9 =>
    bo (gI M a0 4 9) fun v14 =>
    bo (gI M a0 4 3) fun v18 =>
    bo (chk M v9 11) fun _ => bd (fX11_read v9 a1 v14 v18 M) fun v21 M21 =>
    bn (v21) fun v24 =>
    if 0 ≤ v24 then (
      bo (gR M21 a0 4 4) fun v44 =>
      bo (gR M21 a0 4 6) fun v48 =>
      bo (chk M21 v44 1) fun _ => bd (fX1_build v44 v48 M21) fun v51 M51 =>
      bo (gR M51 a0 4 4) fun v56 =>
      bo (pR M51 a0 4 1 v56) fun M59 =>
      bo (pZ M59 a0 4 2 1) fun M64 =>
      bo (pI M64 a0 4 9 v24) fun M69 =>
      fX4_readCode_L72 a0 M69
    ) else (
      bo (gR M21 a0 4 5) fun v30 =>
      bo (gI M21 a0 4 9) fun v36 =>
      bo (chk M21 v30 7) fun _ => bd (fX7_fail v30 11 v36 M21) fun v39 M39 =>
      rtZ v39 M39
    )
  ) else (
    fX4_readCode_L72 a0 M
  )
def rmX4_readCode : Room := { frames := 4, cells := 0, slots := 0, locals := 111 }
set_option maxRecDepth 100000 in
set_option maxHeartbeats 4000000 in
theorem ctX4_readCode (l : Launch) (x : Cx) (a0 : Option Nat) (a1 : Option Nat) (M : Mem) (v : Int32) (N : Mem) (h : fX4_readCode a0 a1 M = some (v, N)) : CT l yX4_readCode cX4_readCode 3 (some (FieldType.boolean)) rmX4_readCode x [rv x a0, rv x a1] M (some (.int v)) N := by
  refine ct_mk (enc := fun v : Int32 => some (.int v)) (li := []) (ll := []) (lr := [(0, a0), (1, a1)]) (by decide +kernel) (by simp [lg_sl, rv_cat, cat_int, cat_long]) (by simp [flat, lv_args, rv_cat, cat_int, cat_long]) h ?_
  intro p e s m args below meth c E
  have hL107 : ∀ (q0 : Int32) (M : Mem), RT p l e rmX4_readCode s m args below meth c x 3 (QM below args s x (fun v : Int32 => some (.int v)) rmX4_readCode.cells rmX4_readCode.slots) 0 0 (fX4_readCode_L107 q0 M) 107 [] [] [] [.int q0] M := by
    intro q0 M
    unfold fX4_readCode_L107
    exact e_bool (pc := 107) E dX4_readCode_107
  have hL102 : ∀ (M : Mem), RT p l e rmX4_readCode s m args below meth c x 3 (QM below args s x (fun v : Int32 => some (.int v)) rmX4_readCode.cells rmX4_readCode.slots) 0 0 (fX4_readCode_L102 M) 102 [] [] [] [] M := by
    intro M
    unfold fX4_readCode_L102
    refine r_iconst (pc := 102) (v := 1) E dX4_readCode_102 (by decide) ?_
    refine r_goto (pc := 103) (tgt := 107) E dX4_readCode_103 (by decide) ?_
    exact r_sub [] [] [] rfl rfl rfl (hL107 1 _)
  have hL72 : ∀ (p0 : Option Nat) (M : Mem), RT p l e rmX4_readCode s m args below meth c x 3 (QM below args s x (fun v : Int32 => some (.int v)) rmX4_readCode.cells rmX4_readCode.slots) 0 0 (fX4_readCode_L72 p0 M) 72 [] [] [(0, p0)] [] M := by
    intro p0 M
    unfold fX4_readCode_L72
    refine r_aload_n (pc := 72) E dX4_readCode_72 rfl 0 rfl ?_
    refine r_kVi (pc := 73) (As := []) (rest := []) E wc_X4_coded wi_RX4 hd_X4_coded (ci := 4) rfl wl_RX4_71 wn_X4_coded ws_X4_coded dX4_readCode_73 (by decide) (Nat.le_of_ble_eq_true rfl) ⟨rfl, rfl⟩ (ctX4_coded l x _ _) rfl (fun v73 M73 => ?_)
    refine r_if_eq (pc := 76) (tgt := 102) E dX4_readCode_76 (by decide) ?_ ?_
    · exact r_sub [] [] [] rfl rfl rfl (hL102 _)
    · refine r_aload_n (pc := 79) E dX4_readCode_79 rfl 0 rfl ?_
      refine r_getZ (pc := 80) E fd_4_2 wf_RX4_51 dX4_readCode_80 (fun v80 => ?_)
      refine r_if_ne (pc := 83) (tgt := 102) E dX4_readCode_83 (by decide) ?_ ?_
      · exact r_sub [] [] [] rfl rfl rfl (hL102 _)
      · refine r_aload_n (pc := 86) E dX4_readCode_86 rfl 0 rfl ?_
        refine r_getR (pc := 87) E fd_4_5 wf_RX4_34 dX4_readCode_87 (fun v87 => ?_)
        refine r_bipush (pc := 90) (v := 12) E dX4_readCode_90 (by decide) ?_
        refine r_aload_n (pc := 92) E dX4_readCode_92 rfl 0 rfl ?_
        refine r_getI (pc := 93) E fd_4_8 wf_RX4_57 dX4_readCode_93 (fun v93 => ?_)
        refine r_kVi (pc := 96) (As := [.int 12, .int v93]) (rest := []) E wc_X7_fail wi_RX7 hd_X7_fail (ci := 7) rfl wl_RX4_81 wn_X7_fail ws_X7_fail dX4_readCode_96 (by decide) (Nat.le_of_ble_eq_true rfl) ⟨rfl, rfl⟩ (ctX7_fail l x _ _ _ _) rfl (fun v96 M96 => ?_)
        refine r_if_eq (pc := 99) (tgt := 106) E dX4_readCode_99 (by decide) ?_ ?_
        · refine r_iconst (pc := 106) (v := 0) E dX4_readCode_106 (by decide) ?_
          exact r_sub [] [] [] rfl rfl rfl (hL107 0 _)
        · exact r_sub [] [] [] rfl rfl rfl (hL102 _)
  show RT p l e rmX4_readCode s m args below meth c x 3 (QM below args s x (fun v : Int32 => some (.int v)) rmX4_readCode.cells rmX4_readCode.slots) 0 0 (fX4_readCode a0 a1 M) 0 [] [] [(0, a0), (1, a1)] [] M
  unfold fX4_readCode
  refine r_aload_n (pc := 0) E dX4_readCode_0 rfl 0 rfl ?_
  refine r_getI (pc := 1) E fd_4_10 wf_RX4_65 dX4_readCode_1 (fun v1 => ?_)
  refine r_iconst (pc := 4) (v := 2) E dX4_readCode_4 (by decide) ?_
  refine r_icmp_ne (pc := 5) (tgt := 72) E dX4_readCode_5 (by decide) ?_ ?_
  · exact r_sub [] [] [0] rfl rfl rfl (hL72 a0 _)
  · refine r_aload_n (pc := 8) E dX4_readCode_8 rfl 0 rfl ?_
    refine r_getR (pc := 9) E fd_4_6 wf_RX4_38 dX4_readCode_9 (fun v9 => ?_)
    refine r_aload_n (pc := 12) E dX4_readCode_12 rfl 1 rfl ?_
    refine r_aload_n (pc := 13) E dX4_readCode_13 rfl 0 rfl ?_
    refine r_getI (pc := 14) E fd_4_9 wf_RX4_91 dX4_readCode_14 (fun v14 => ?_)
    refine r_aload_n (pc := 17) E dX4_readCode_17 rfl 0 rfl ?_
    refine r_getI (pc := 18) E fd_4_3 wf_RX4_97 dX4_readCode_18 (fun v18 => ?_)
    refine r_kVi (pc := 21) (As := [rv x a1, .int v14, .int v18]) (rest := []) E wc_X11_read wi_RX11 hd_X11_read (ci := 11) rfl wl_RX4_100 wn_X11_read ws_X11_read dX4_readCode_21 (by decide) (Nat.le_of_ble_eq_true rfl) ⟨rfl, rfl⟩ (ctX11_read l x _ _ _ _ _) rfl (fun v21 M21 => ?_)
    refine r_istore_n (pc := 24) (lf := fun v24 => [(2, v24)]) (lg := fun v24 => []) (lk := fun v24 => [(0, a0), (1, a1)]) E dX4_readCode_24 rfl (by decide) (fun _ => rfl) (fun _ => rfl) (fun _ => rfl) (fun v24 => ?_)
    refine r_iload_n (pc := 25) E dX4_readCode_25 rfl 0 rfl ?_
    refine r_if_ge (pc := 26) (tgt := 43) E dX4_readCode_26 (by decide) ?_ ?_
    · refine r_aload_n (pc := 43) E dX4_readCode_43 rfl 0 rfl ?_
      refine r_getR (pc := 44) E fd_4_4 wf_RX4_23 dX4_readCode_44 (fun v44 => ?_)
      refine r_aload_n (pc := 47) E dX4_readCode_47 rfl 0 rfl ?_
      refine r_getR (pc := 48) E fd_4_6 wf_RX4_38 dX4_readCode_48 (fun v48 => ?_)
      refine r_kVv (pc := 51) (As := [rv x v48]) (rest := []) E wc_X1_build wi_RX1 hd_X1_build (ci := 1) rfl wl_RX4_106 wn_X1_build ws_X1_build dX4_readCode_51 (by decide) (Nat.le_of_ble_eq_true rfl) ⟨rfl, rfl⟩ (ctX1_build l x _ _ _) rfl (fun v51 M51 => ?_)
      refine r_aload_n (pc := 54) E dX4_readCode_54 rfl 0 rfl ?_
      refine r_aload_n (pc := 55) E dX4_readCode_55 rfl 0 rfl ?_
      refine r_getR (pc := 56) E fd_4_4 wf_RX4_23 dX4_readCode_56 (fun v56 => ?_)
      refine r_putR (pc := 59) E fd_4_1 wf_RX4_42 dX4_readCode_59 (Or.inl rfl) (fun M59 => ?_)
      refine r_aload_n (pc := 62) E dX4_readCode_62 rfl 0 rfl ?_
      refine r_iconst (pc := 63) (v := 1) E dX4_readCode_63 (by decide) ?_
      refine r_putZ (pc := 64) E fd_4_2 wf_RX4_51 dX4_readCode_64 (Or.inl rfl) (fun M64 => ?_)
      refine r_aload_n (pc := 67) E dX4_readCode_67 rfl 0 rfl ?_
      refine r_iload_n (pc := 68) E dX4_readCode_68 rfl 0 rfl ?_
      refine r_putI (pc := 69) E fd_4_9 wf_RX4_91 dX4_readCode_69 (Or.inl rfl) (fun M69 => ?_)
      exact r_sub [] [] [0] rfl rfl rfl (hL72 a0 _)
    · refine r_aload_n (pc := 29) E dX4_readCode_29 rfl 0 rfl ?_
      refine r_getR (pc := 30) E fd_4_5 wf_RX4_34 dX4_readCode_30 (fun v30 => ?_)
      refine r_bipush (pc := 33) (v := 11) E dX4_readCode_33 (by decide) ?_
      refine r_aload_n (pc := 35) E dX4_readCode_35 rfl 0 rfl ?_
      refine r_getI (pc := 36) E fd_4_9 wf_RX4_91 dX4_readCode_36 (fun v36 => ?_)
      refine r_kVi (pc := 39) (As := [.int 11, .int v36]) (rest := []) E wc_X7_fail wi_RX7 hd_X7_fail (ci := 7) rfl wl_RX4_81 wn_X7_fail ws_X7_fail dX4_readCode_39 (by decide) (Nat.le_of_ble_eq_true rfl) ⟨rfl, rfl⟩ (ctX7_fail l x _ _ _ _) rfl (fun v39 M39 => ?_)
      exact e_bool (pc := 42) E dX4_readCode_42
def fX8_addSame_B18 (k18 : Option Nat × Int32 × Int32 × Int32 × Int32 → Mem → Option (Unit × Mem)) (p0 : Option Nat) (p1 : Int32) (p2 : Int32) (p3 : Int32) (p4 : Int32) (M : Mem) : Option (Unit × Mem) :=
  if p3 ≤ p4 then (
    bo (gI M p0 8 1) fun v46 =>
    bo (pI M p0 8 1 (v46 + p2)) fun M51 =>
    some ((), M51)
  ) else (
    bo (gR M p0 8 0) fun v25 =>
    bo (gI M p0 8 1) fun v29 =>
    bo (wB M v25 (v29 + p4) (i2b p1)) fun M37 =>
    bn (p4 + 1) fun v38 =>
    k18 ((p0, p1, p2, p3, v38)) M37
  )
def fX8_addSame_L18 (p0 : Option Nat) (p1 : Int32) (p2 : Int32) (p3 : Int32) (p4 : Int32) (M : Mem) : Option (Unit × Mem) :=
  lp (fun k18 (a : Option Nat × Int32 × Int32 × Int32 × Int32) M => fX8_addSame_B18 k18 a.1 a.2.1 a.2.2.1 a.2.2.2.1 a.2.2.2.2 M) FU ((p0, p1, p2, p3, p4)) M
def fX8_addSame (a0 : Option Nat) (a1 : Int32) (a2 : Int32) (M : Mem) : Option (Unit × Mem) :=
  bo (gR M a0 8 0) fun v2 =>
  bo (aL M v2) fun v5 =>
  bo (gI M a0 8 1) fun v7 =>
  bn (minI a2 (v5 - v7)) fun v14 =>
  bn (0) fun v16 =>
  fX8_addSame_L18 a0 a1 a2 v14 v16 M
def rmX8_addSame : Room := { frames := 1, cells := 0, slots := 0, locals := 23 }
set_option maxRecDepth 100000 in
set_option maxHeartbeats 4000000 in
theorem ctX8_addSame (l : Launch) (x : Cx) (a0 : Option Nat) (a1 : Int32) (a2 : Int32) (M : Mem) (v : Unit) (N : Mem) (h : fX8_addSame a0 a1 a2 M = some (v, N)) : CT l yX8_addSame cX8_addSame 5 (none) rmX8_addSame x [rv x a0, .int a1, .int a2] M none N := by
  refine ct_mk (enc := fun _ : Unit => none) (li := [(1, a1), (2, a2)]) (ll := []) (lr := [(0, a0)]) (by decide +kernel) (by simp [lg_sl, rv_cat, cat_int, cat_long]) (by simp [flat, lv_args, rv_cat, cat_int, cat_long]) h ?_
  intro p e s m args below meth c E
  have hL18 : ∀ (p0 : Option Nat) (p1 : Int32) (p2 : Int32) (p3 : Int32) (p4 : Int32) (M : Mem), RT p l e rmX8_addSame s m args below meth c x 5 (QM below args s x (fun _ : Unit => none) rmX8_addSame.cells rmX8_addSame.slots) 0 0 (fX8_addSame_L18 p0 p1 p2 p3 p4 M) 18 [(1, p1), (2, p2), (3, p3), (4, p4)] [] [(0, p0)] [] M := by
    intro p0 p1 p2 p3 p4 M
    refine r_lp (fi := fun a : Option Nat × Int32 × Int32 × Int32 × Int32 => [(1, a.2.1), (2, a.2.2.1), (3, a.2.2.2.1), (4, a.2.2.2.2)]) (fl := fun a : Option Nat × Int32 × Int32 × Int32 × Int32 => []) (fr := fun a : Option Nat × Int32 × Int32 × Int32 × Int32 => [(0, a.1)]) (fs := fun a : Option Nat × Int32 × Int32 × Int32 × Int32 => []) ?_ FU ((p0, p1, p2, p3, p4)) M
    intro k18 hk18 a M
    obtain ⟨p0, p1, p2, p3, p4⟩ := a
    show RT p l e rmX8_addSame s m args below meth c x 5 (QM below args s x (fun _ : Unit => none) rmX8_addSame.cells rmX8_addSame.slots) 0 0 (fX8_addSame_B18 k18 p0 p1 p2 p3 p4 M) 18 [(1, p1), (2, p2), (3, p3), (4, p4)] [] [(0, p0)] [] M
    unfold fX8_addSame_B18
    refine r_iload (pc := 18) E dX8_addSame_18 3 rfl ?_
    refine r_iload_n (pc := 20) E dX8_addSame_20 rfl 2 rfl ?_
    refine r_icmp_ge (pc := 21) (tgt := 44) E dX8_addSame_21 (by decide) ?_ ?_
    · refine r_aload_n (pc := 44) E dX8_addSame_44 rfl 0 rfl ?_
      refine r_dup (pc := 45) E dX8_addSame_45 (rv_cat _ _) ?_
      refine r_getI (pc := 46) E fd_8_1 wf_RX8_21 dX8_addSame_46 (fun v46 => ?_)
      refine r_iload_n (pc := 49) E dX8_addSame_49 rfl 1 rfl ?_
      refine r_iadd (pc := 50) E dX8_addSame_50 ?_
      refine r_putI (pc := 51) E fd_8_1 wf_RX8_21 dX8_addSame_51 (Or.inl rfl) (fun M51 => ?_)
      exact e_void (pc := 54) E dX8_addSame_54
    · refine r_aload_n (pc := 24) E dX8_addSame_24 rfl 0 rfl ?_
      refine r_getA (pc := 25) E fd_8_0 wf_RX8_15 dX8_addSame_25 (fun v25 => ?_)
      refine r_aload_n (pc := 28) E dX8_addSame_28 rfl 0 rfl ?_
      refine r_getI (pc := 29) E fd_8_1 wf_RX8_21 dX8_addSame_29 (fun v29 => ?_)
      refine r_iload (pc := 32) E dX8_addSame_32 3 rfl ?_
      refine r_iadd (pc := 34) E dX8_addSame_34 ?_
      refine r_iload_n (pc := 35) E dX8_addSame_35 rfl 0 rfl ?_
      refine r_i2b (pc := 36) E dX8_addSame_36 ?_
      refine r_bastore (pc := 37) E dX8_addSame_37 (fun M37 => ?_)
      refine r_iinc (pc := 38) (w := 1) (lf := fun v38 => [(4, v38), (1, p1), (2, p2), (3, p3)]) (ll' := []) (lr' := [(0, p0)]) E dX8_addSame_38 3 rfl (by decide) (by decide) (fun _ => rfl) rfl rfl (fun v38 => ?_)
      refine r_goto (pc := 41) (tgt := 18) E dX8_addSame_41 (by decide) ?_
      exact r_sub [1, 2, 3, 0] [] [0] rfl rfl rfl (hk18 ((p0, p1, p2, p3, v38)) _)
  show RT p l e rmX8_addSame s m args below meth c x 5 (QM below args s x (fun _ : Unit => none) rmX8_addSame.cells rmX8_addSame.slots) 0 0 (fX8_addSame a0 a1 a2 M) 0 [(1, a1), (2, a2)] [] [(0, a0)] [] M
  unfold fX8_addSame
  refine r_iload_n (pc := 0) E dX8_addSame_0 rfl 1 rfl ?_
  refine r_aload_n (pc := 1) E dX8_addSame_1 rfl 0 rfl ?_
  refine r_getA (pc := 2) E fd_8_0 wf_RX8_15 dX8_addSame_2 (fun v2 => ?_)
  refine r_alen (pc := 5) E dX8_addSame_5 (fun v5 => ?_)
  refine r_aload_n (pc := 6) E dX8_addSame_6 rfl 0 rfl ?_
  refine r_getI (pc := 7) E fd_8_1 wf_RX8_21 dX8_addSame_7 (fun v7 => ?_)
  refine r_isub (pc := 10) E dX8_addSame_10 ?_
  refine r_mmin (pc := 11) E wl_RX8_25 wm_smin wi_math wm_cmin dX8_addSame_11 (by decide) (Nat.le_of_ble_eq_true rfl) ?_
  refine r_istore_n (pc := 14) (lf := fun v14 => [(3, v14), (1, a1), (2, a2)]) (lg := fun v14 => []) (lk := fun v14 => [(0, a0)]) E dX8_addSame_14 rfl (by decide) (fun _ => rfl) (fun _ => rfl) (fun _ => rfl) (fun v14 => ?_)
  refine r_iconst (pc := 15) (v := 0) E dX8_addSame_15 (by decide) ?_
  refine r_istore (pc := 16) (lf := fun v16 => [(4, v16), (3, v14), (1, a1), (2, a2)]) (lg := fun v16 => []) (lk := fun v16 => [(0, a0)]) E dX8_addSame_16 (by decide) (fun _ => rfl) (fun _ => rfl) (fun _ => rfl) (fun v16 => ?_)
  exact r_sub [2, 3, 1, 0] [] [0] rfl rfl rfl (hL18 a0 a1 a2 v14 v16 _)
def fX4_readStream_L18 (M : Mem) : Option (Int32 × Mem) :=
  rtZ 0 M
def fX4_readStream_L123 (q0 : Int32) (M : Mem) : Option (Int32 × Mem) :=
  rtZ q0 M
def fX4_readStream_B23 (k23 : Option Nat × Int32 × Int32 → Mem → Option (Int32 × Mem)) (p0 : Option Nat) (p4 : Int32) (p5 : Int32) (M : Mem) : Option (Int32 × Mem) :=
  if p4 ≤ p5 then (
    bo (gR M p0 4 7) fun v109 =>
    bo (gI M v109 0 2) fun v112 =>
    if v112 = 0 then (
      fX4_readStream_L123 1 M
    ) else (
      fX4_readStream_L123 0 M
    )
  ) else (
    bo (gR M p0 4 1) fun v31 =>
    bo (gR M p0 4 7) fun v35 =>
    bo (gR M p0 4 1) fun v39 =>
    bo (gI M v39 1 0) fun v42 =>
    bo (chk M v35 0) fun _ => bd (fX0_look v35 v42 M) fun v45 M45 =>
    bo (chk M45 v31 1) fun _ => bd (fX1_symbolOf v31 v45 M45) fun v48 M48 =>
    bn (v48) fun v51 =>
    bo (gR M48 p0 4 1) fun v54 =>
    bo (gR M48 v54 1 1) fun v57 =>
    bo (aI M48 v57 15 v51) fun v62 =>
    bn (v62) fun v63 =>
    bo (gR M48 p0 4 7) fun v68 =>
    bo (gI M48 v68 0 2) fun v71 =>
    if v63 ≤ v71 then (
      bo (gR M48 p0 4 7) fun v80 =>
      bo (gI M48 v80 0 2) fun v84 =>
      bo (pI M48 v80 0 2 (v84 - v63)) fun M90 =>
      bo (gR M90 p0 4 0) fun v94 =>
      bo (chk M90 v94 8) fun _ => bd (fX8_add v94 v51 M90) fun v99 M99 =>
      bn (p5 + 1) fun v102 =>
      k23 ((p0, p4, v102)) M99
    ) else (
      rtZ 0 M48
    )
  )
def fX4_readStream_L23 (p0 : Option Nat) (p4 : Int32) (p5 : Int32) (M : Mem) : Option (Int32 × Mem) :=
  lp (fun k23 (a : Option Nat × Int32 × Int32) M => fX4_readStream_B23 k23 a.1 a.2.1 a.2.2 M) FU ((p0, p4, p5)) M
def fX4_readStream (a0 : Option Nat) (a1 : Option Nat) (a2 : Int32) (a3 : Int32) (a4 : Int32) (M : Mem) : Option (Int32 × Mem) :=
  if a4 < 0 then (
    fX4_readStream_L18 M
  ) else (
    bo (gR M a0 4 7) fun v6 =>
    bo (chk M v6 0) fun _ => bd (fX0_begin v6 a1 a2 a3 M) fun v12 M12 =>
    if v12 = 0 then (
      fX4_readStream_L18 M12
    ) else (
      bn (0) fun v21 =>
      fX4_readStream_L23 a0 a4 v21 M12
    )
  )
def rmX4_readStream : Room := { frames := 2, cells := 0, slots := 0, locals := 48 }
set_option maxRecDepth 100000 in
set_option maxHeartbeats 4000000 in
theorem ctX4_readStream (l : Launch) (x : Cx) (a0 : Option Nat) (a1 : Option Nat) (a2 : Int32) (a3 : Int32) (a4 : Int32) (M : Mem) (v : Int32) (N : Mem) (h : fX4_readStream a0 a1 a2 a3 a4 M = some (v, N)) : CT l yX4_readStream cX4_readStream 8 (some (FieldType.boolean)) rmX4_readStream x [rv x a0, rv x a1, .int a2, .int a3, .int a4] M (some (.int v)) N := by
  refine ct_mk (enc := fun v : Int32 => some (.int v)) (li := [(2, a2), (3, a3), (4, a4)]) (ll := []) (lr := [(0, a0), (1, a1)]) (by decide +kernel) (by simp [lg_sl, rv_cat, cat_int, cat_long]) (by simp [flat, lv_args, rv_cat, cat_int, cat_long]) h ?_
  intro p e s m args below meth c E
  have hL18 : ∀ (M : Mem), RT p l e rmX4_readStream s m args below meth c x 8 (QM below args s x (fun v : Int32 => some (.int v)) rmX4_readStream.cells rmX4_readStream.slots) 0 0 (fX4_readStream_L18 M) 18 [] [] [] [] M := by
    intro M
    unfold fX4_readStream_L18
    refine r_iconst (pc := 18) (v := 0) E dX4_readStream_18 (by decide) ?_
    exact e_bool (pc := 19) E dX4_readStream_19
  have hL123 : ∀ (q0 : Int32) (M : Mem), RT p l e rmX4_readStream s m args below meth c x 8 (QM below args s x (fun v : Int32 => some (.int v)) rmX4_readStream.cells rmX4_readStream.slots) 0 0 (fX4_readStream_L123 q0 M) 123 [] [] [] [.int q0] M := by
    intro q0 M
    unfold fX4_readStream_L123
    exact e_bool (pc := 123) E dX4_readStream_123
  have hL23 : ∀ (p0 : Option Nat) (p4 : Int32) (p5 : Int32) (M : Mem), RT p l e rmX4_readStream s m args below meth c x 8 (QM below args s x (fun v : Int32 => some (.int v)) rmX4_readStream.cells rmX4_readStream.slots) 0 0 (fX4_readStream_L23 p0 p4 p5 M) 23 [(4, p4), (5, p5)] [] [(0, p0)] [] M := by
    intro p0 p4 p5 M
    refine r_lp (fi := fun a : Option Nat × Int32 × Int32 => [(4, a.2.1), (5, a.2.2)]) (fl := fun a : Option Nat × Int32 × Int32 => []) (fr := fun a : Option Nat × Int32 × Int32 => [(0, a.1)]) (fs := fun a : Option Nat × Int32 × Int32 => []) ?_ FU ((p0, p4, p5)) M
    intro k23 hk23 a M
    obtain ⟨p0, p4, p5⟩ := a
    show RT p l e rmX4_readStream s m args below meth c x 8 (QM below args s x (fun v : Int32 => some (.int v)) rmX4_readStream.cells rmX4_readStream.slots) 0 0 (fX4_readStream_B23 k23 p0 p4 p5 M) 23 [(4, p4), (5, p5)] [] [(0, p0)] [] M
    unfold fX4_readStream_B23
    refine r_iload (pc := 23) E dX4_readStream_23 1 rfl ?_
    refine r_iload (pc := 25) E dX4_readStream_25 0 rfl ?_
    refine r_icmp_ge (pc := 27) (tgt := 108) E dX4_readStream_27 (by decide) ?_ ?_
    · refine r_aload_n (pc := 108) E dX4_readStream_108 rfl 0 rfl ?_
      refine r_getR (pc := 109) E fd_4_7 wf_RX4_30 dX4_readStream_109 (fun v109 => ?_)
      refine r_getI (pc := 112) E fd_0_2 wf_RX4_147 dX4_readStream_112 (fun v112 => ?_)
      refine r_if_ne (pc := 115) (tgt := 122) E dX4_readStream_115 (by decide) ?_ ?_
      · refine r_iconst (pc := 122) (v := 0) E dX4_readStream_122 (by decide) ?_
        exact r_sub [] [] [] rfl rfl rfl (hL123 0 _)
      · refine r_iconst (pc := 118) (v := 1) E dX4_readStream_118 (by decide) ?_
        refine r_goto (pc := 119) (tgt := 123) E dX4_readStream_119 (by decide) ?_
        exact r_sub [] [] [] rfl rfl rfl (hL123 1 _)
    · refine r_aload_n (pc := 30) E dX4_readStream_30 rfl 0 rfl ?_
      refine r_getR (pc := 31) E fd_4_1 wf_RX4_42 dX4_readStream_31 (fun v31 => ?_)
      refine r_aload_n (pc := 34) E dX4_readStream_34 rfl 0 rfl ?_
      refine r_getR (pc := 35) E fd_4_7 wf_RX4_30 dX4_readStream_35 (fun v35 => ?_)
      refine r_aload_n (pc := 38) E dX4_readStream_38 rfl 0 rfl ?_
      refine r_getR (pc := 39) E fd_4_1 wf_RX4_42 dX4_readStream_39 (fun v39 => ?_)
      refine r_getI (pc := 42) E fd_1_0 wf_RX4_135 dX4_readStream_42 (fun v42 => ?_)
      refine r_kVi (pc := 45) (As := [.int v42]) (rest := [rv x v31]) E wc_X0_look wi_RX0 hd_X0_look (ci := 0) rfl wl_RX4_138 wn_X0_look ws_X0_look dX4_readStream_45 (by decide) (Nat.le_of_ble_eq_true rfl) ⟨rfl, rfl⟩ (ctX0_look l x _ _ _) rfl (fun v45 M45 => ?_)
      refine r_kVi (pc := 48) (As := [.int v45]) (rest := []) E wc_X1_symbolOf wi_RX1 hd_X1_symbolOf (ci := 1) rfl wl_RX4_141 wn_X1_symbolOf ws_X1_symbolOf dX4_readStream_48 (by decide) (Nat.le_of_ble_eq_true rfl) ⟨rfl, rfl⟩ (ctX1_symbolOf l x _ _ _) rfl (fun v48 M48 => ?_)
      refine r_istore (pc := 51) (lf := fun v51 => [(6, v51), (4, p4), (5, p5)]) (lg := fun v51 => []) (lk := fun v51 => [(0, p0)]) E dX4_readStream_51 (by decide) (fun _ => rfl) (fun _ => rfl) (fun _ => rfl) (fun v51 => ?_)
      refine r_aload_n (pc := 53) E dX4_readStream_53 rfl 0 rfl ?_
      refine r_getR (pc := 54) E fd_4_1 wf_RX4_42 dX4_readStream_54 (fun v54 => ?_)
      refine r_getA (pc := 57) E fd_1_1 wf_RX4_144 dX4_readStream_57 (fun v57 => ?_)
      refine r_iload (pc := 60) E dX4_readStream_60 0 rfl ?_
      refine r_iaload (pc := 62) E dX4_readStream_62 (fun v62 => ?_)
      refine r_istore (pc := 63) (lf := fun v63 => [(7, v63), (6, v51), (4, p4), (5, p5)]) (lg := fun v63 => []) (lk := fun v63 => [(0, p0)]) E dX4_readStream_63 (by decide) (fun _ => rfl) (fun _ => rfl) (fun _ => rfl) (fun v63 => ?_)
      refine r_iload (pc := 65) E dX4_readStream_65 0 rfl ?_
      refine r_aload_n (pc := 67) E dX4_readStream_67 rfl 0 rfl ?_
      refine r_getR (pc := 68) E fd_4_7 wf_RX4_30 dX4_readStream_68 (fun v68 => ?_)
      refine r_getI (pc := 71) E fd_0_2 wf_RX4_147 dX4_readStream_71 (fun v71 => ?_)
      refine r_icmp_le (pc := 74) (tgt := 79) E dX4_readStream_74 (by decide) ?_ ?_
      · refine r_aload_n (pc := 79) E dX4_readStream_79 rfl 0 rfl ?_
        refine r_getR (pc := 80) E fd_4_7 wf_RX4_30 dX4_readStream_80 (fun v80 => ?_)
        refine r_dup (pc := 83) E dX4_readStream_83 (rv_cat _ _) ?_
        refine r_getI (pc := 84) E fd_0_2 wf_RX4_147 dX4_readStream_84 (fun v84 => ?_)
        refine r_iload (pc := 87) E dX4_readStream_87 0 rfl ?_
        refine r_isub (pc := 89) E dX4_readStream_89 ?_
        refine r_putI (pc := 90) E fd_0_2 wf_RX4_147 dX4_readStream_90 (Or.inl rfl) (fun M90 => ?_)
        refine r_aload_n (pc := 93) E dX4_readStream_93 rfl 0 rfl ?_
        refine r_getR (pc := 94) E fd_4_0 wf_RX4_14 dX4_readStream_94 (fun v94 => ?_)
        refine r_iload (pc := 97) E dX4_readStream_97 1 rfl ?_
        refine r_kVv (pc := 99) (As := [.int v51]) (rest := []) E wc_X8_add wi_RX8 hd_X8_add (ci := 8) rfl wl_RX4_150 wn_X8_add ws_X8_add dX4_readStream_99 (by decide) (Nat.le_of_ble_eq_true rfl) ⟨rfl, rfl⟩ (ctX8_add l x _ _ _) rfl (fun v99 M99 => ?_)
        refine r_iinc (pc := 102) (w := 1) (lf := fun v102 => [(5, v102), (7, v63), (6, v51), (4, p4)]) (ll' := []) (lr' := [(0, p0)]) E dX4_readStream_102 3 rfl (by decide) (by decide) (fun _ => rfl) rfl rfl (fun v102 => ?_)
        refine r_goto (pc := 105) (tgt := 23) E dX4_readStream_105 (by decide) ?_
        exact r_sub [3, 0] [] [0] rfl rfl rfl (hk23 ((p0, p4, v102)) _)
      · refine r_iconst (pc := 77) (v := 0) E dX4_readStream_77 (by decide) ?_
        exact e_bool (pc := 78) E dX4_readStream_78
  show RT p l e rmX4_readStream s m args below meth c x 8 (QM below args s x (fun v : Int32 => some (.int v)) rmX4_readStream.cells rmX4_readStream.slots) 0 0 (fX4_readStream a0 a1 a2 a3 a4 M) 0 [(2, a2), (3, a3), (4, a4)] [] [(0, a0), (1, a1)] [] M
  unfold fX4_readStream
  refine r_iload (pc := 0) E dX4_readStream_0 2 rfl ?_
  refine r_if_lt (pc := 2) (tgt := 18) E dX4_readStream_2 (by decide) ?_ ?_
  · exact r_sub [] [] [] rfl rfl rfl (hL18 _)
  · refine r_aload_n (pc := 5) E dX4_readStream_5 rfl 0 rfl ?_
    refine r_getR (pc := 6) E fd_4_7 wf_RX4_30 dX4_readStream_6 (fun v6 => ?_)
    refine r_aload_n (pc := 9) E dX4_readStream_9 rfl 1 rfl ?_
    refine r_iload_n (pc := 10) E dX4_readStream_10 rfl 0 rfl ?_
    refine r_iload_n (pc := 11) E dX4_readStream_11 rfl 1 rfl ?_
    refine r_kVi (pc := 12) (As := [rv x a1, .int a2, .int a3]) (rest := []) E wc_X0_begin wi_RX0 hd_X0_begin (ci := 0) rfl wl_RX4_131 wn_X0_begin ws_X0_begin dX4_readStream_12 (by decide) (Nat.le_of_ble_eq_true rfl) ⟨rfl, rfl⟩ (ctX0_begin l x _ _ _ _ _) rfl (fun v12 M12 => ?_)
    refine r_if_ne (pc := 15) (tgt := 20) E dX4_readStream_15 (by decide) ?_ ?_
    · refine r_iconst (pc := 20) (v := 0) E dX4_readStream_20 (by decide) ?_
      refine r_istore (pc := 21) (lf := fun v21 => [(5, v21), (2, a2), (3, a3), (4, a4)]) (lg := fun v21 => []) (lk := fun v21 => [(0, a0), (1, a1)]) E dX4_readStream_21 (by decide) (fun _ => rfl) (fun _ => rfl) (fun _ => rfl) (fun v21 => ?_)
      exact r_sub [3, 0] [] [0] rfl rfl rfl (hL23 a0 a4 v21 _)
    · exact r_sub [] [] [] rfl rfl rfl (hL18 _)
def fX4_readFour_L76 (M : Mem) : Option (Int32 × Mem) :=
  rtZ 0 M
def fX4_readFour_B30 (k30 : Option Nat × Option Nat × Int32 × Int32 × Int32 → Mem → Option (Int32 × Mem)) (p0 : Option Nat) (p1 : Option Nat) (p2 : Int32) (p3 : Int32) (p4 : Int32) (M : Mem) : Option (Int32 × Mem) :=
  if 3 ≤ p4 then (
    bo (gI M p0 4 3) fun v91 =>
    bo (gI M p0 4 12) fun v95 =>
    bo (chk M p0 4) fun _ => bd (fX4_readStream p0 p1 p2 v91 (v95 - (3 * p3)) M) fun v102 M102 =>
    rtZ v102 M102
  ) else (
    bo (gI M p0 4 9) fun v39 =>
    bo (chk M p1 8) fun _ => bd (fX8_number p1 (v39 + (2 * p4)) 2 M) fun v48 M48 =>
    bn (p2 + v48.toInt32) fun v53 =>
    bo (gI M48 p0 4 3) fun v58 =>
    if v58 < v53 then (
      fX4_readFour_L76 M48
    ) else (
      bo (chk M48 p0 4) fun _ => bd (fX4_readStream p0 p1 p2 v53 p3 M48) fun v70 M70 =>
      if v70 = 0 then (
        fX4_readFour_L76 M70
      ) else (
        bn (v53) fun v80 =>
        bn (p4 + 1) fun v81 =>
        k30 ((p0, p1, v80, p3, v81)) M70
      )
    )
  )
def fX4_readFour_L30 (p0 : Option Nat) (p1 : Option Nat) (p2 : Int32) (p3 : Int32) (p4 : Int32) (M : Mem) : Option (Int32 × Mem) :=
  lp (fun k30 (a : Option Nat × Option Nat × Int32 × Int32 × Int32) M => fX4_readFour_B30 k30 a.1 a.2.1 a.2.2.1 a.2.2.2.1 a.2.2.2.2 M) FU ((p0, p1, p2, p3, p4)) M
def fX4_readFour (a0 : Option Nat) (a1 : Option Nat) (M : Mem) : Option (Int32 × Mem) :=
  bo (gI M a0 4 9) fun v1 =>
  bn (v1 + 6) fun v7 =>
  bo (gI M a0 4 12) fun v9 =>
  bo (dv (v9 + 3) 4) fun v15 =>
  bn (v15) fun v16 =>
  bo (gI M a0 4 3) fun v19 =>
  if v7 ≤ v19 then (
    bn (0) fun v28 =>
    fX4_readFour_L30 a0 a1 v7 v16 v28 M
  ) else (
    rtZ 0 M
  )
def rmX4_readFour : Room := { frames := 3, cells := 0, slots := 0, locals := 75 }
set_option maxRecDepth 100000 in
set_option maxHeartbeats 4000000 in
theorem ctX4_readFour (l : Launch) (x : Cx) (a0 : Option Nat) (a1 : Option Nat) (M : Mem) (v : Int32) (N : Mem) (h : fX4_readFour a0 a1 M = some (v, N)) : CT l yX4_readFour cX4_readFour 6 (some (FieldType.boolean)) rmX4_readFour x [rv x a0, rv x a1] M (some (.int v)) N := by
  refine ct_mk (enc := fun v : Int32 => some (.int v)) (li := []) (ll := []) (lr := [(0, a0), (1, a1)]) (by decide +kernel) (by simp [lg_sl, rv_cat, cat_int, cat_long]) (by simp [flat, lv_args, rv_cat, cat_int, cat_long]) h ?_
  intro p e s m args below meth c E
  have hL76 : ∀ (M : Mem), RT p l e rmX4_readFour s m args below meth c x 6 (QM below args s x (fun v : Int32 => some (.int v)) rmX4_readFour.cells rmX4_readFour.slots) 0 0 (fX4_readFour_L76 M) 76 [] [] [] [] M := by
    intro M
    unfold fX4_readFour_L76
    refine r_iconst (pc := 76) (v := 0) E dX4_readFour_76 (by decide) ?_
    exact e_bool (pc := 77) E dX4_readFour_77
  have hL30 : ∀ (p0 : Option Nat) (p1 : Option Nat) (p2 : Int32) (p3 : Int32) (p4 : Int32) (M : Mem), RT p l e rmX4_readFour s m args below meth c x 6 (QM below args s x (fun v : Int32 => some (.int v)) rmX4_readFour.cells rmX4_readFour.slots) 0 0 (fX4_readFour_L30 p0 p1 p2 p3 p4 M) 30 [(2, p2), (3, p3), (4, p4)] [] [(0, p0), (1, p1)] [] M := by
    intro p0 p1 p2 p3 p4 M
    refine r_lp (fi := fun a : Option Nat × Option Nat × Int32 × Int32 × Int32 => [(2, a.2.2.1), (3, a.2.2.2.1), (4, a.2.2.2.2)]) (fl := fun a : Option Nat × Option Nat × Int32 × Int32 × Int32 => []) (fr := fun a : Option Nat × Option Nat × Int32 × Int32 × Int32 => [(0, a.1), (1, a.2.1)]) (fs := fun a : Option Nat × Option Nat × Int32 × Int32 × Int32 => []) ?_ FU ((p0, p1, p2, p3, p4)) M
    intro k30 hk30 a M
    obtain ⟨p0, p1, p2, p3, p4⟩ := a
    show RT p l e rmX4_readFour s m args below meth c x 6 (QM below args s x (fun v : Int32 => some (.int v)) rmX4_readFour.cells rmX4_readFour.slots) 0 0 (fX4_readFour_B30 k30 p0 p1 p2 p3 p4 M) 30 [(2, p2), (3, p3), (4, p4)] [] [(0, p0), (1, p1)] [] M
    unfold fX4_readFour_B30
    refine r_iload (pc := 30) E dX4_readFour_30 2 rfl ?_
    refine r_iconst (pc := 32) (v := 3) E dX4_readFour_32 (by decide) ?_
    refine r_icmp_ge (pc := 33) (tgt := 87) E dX4_readFour_33 (by decide) ?_ ?_
    · refine r_aload_n (pc := 87) E dX4_readFour_87 rfl 0 rfl ?_
      refine r_aload_n (pc := 88) E dX4_readFour_88 rfl 1 rfl ?_
      refine r_iload_n (pc := 89) E dX4_readFour_89 rfl 0 rfl ?_
      refine r_aload_n (pc := 90) E dX4_readFour_90 rfl 0 rfl ?_
      refine r_getI (pc := 91) E fd_4_3 wf_RX4_97 dX4_readFour_91 (fun v91 => ?_)
      refine r_aload_n (pc := 94) E dX4_readFour_94 rfl 0 rfl ?_
      refine r_getI (pc := 95) E fd_4_12 wf_RX4_94 dX4_readFour_95 (fun v95 => ?_)
      refine r_iconst (pc := 98) (v := 3) E dX4_readFour_98 (by decide) ?_
      refine r_iload_n (pc := 99) E dX4_readFour_99 rfl 1 rfl ?_
      refine r_imul (pc := 100) E dX4_readFour_100 ?_
      refine r_isub (pc := 101) E dX4_readFour_101 ?_
      refine r_kVi (pc := 102) (As := [rv x p1, .int p2, .int v91, .int (v95 - (3 * p3))]) (rest := []) E wc_X4_readStream wi_RX4 hd_X4_readStream (ci := 4) rfl wl_RX4_119 wn_X4_readStream ws_X4_readStream dX4_readFour_102 (by decide) (Nat.le_of_ble_eq_true rfl) ⟨rfl, rfl⟩ (ctX4_readStream l x _ _ _ _ _ _) rfl (fun v102 M102 => ?_)
      exact e_bool (pc := 105) E dX4_readFour_105
    · refine r_iload_n (pc := 36) E dX4_readFour_36 rfl 0 rfl ?_
      refine r_aload_n (pc := 37) E dX4_readFour_37 rfl 1 rfl ?_
      refine r_aload_n (pc := 38) E dX4_readFour_38 rfl 0 rfl ?_
      refine r_getI (pc := 39) E fd_4_9 wf_RX4_91 dX4_readFour_39 (fun v39 => ?_)
      refine r_iconst (pc := 42) (v := 2) E dX4_readFour_42 (by decide) ?_
      refine r_iload (pc := 43) E dX4_readFour_43 2 rfl ?_
      refine r_imul (pc := 45) E dX4_readFour_45 ?_
      refine r_iadd (pc := 46) E dX4_readFour_46 ?_
      refine r_iconst (pc := 47) (v := 2) E dX4_readFour_47 (by decide) ?_
      refine r_kVl (pc := 48) (As := [.int (v39 + (2 * p4)), .int 2]) (rest := [.int p2]) E wc_X8_number wi_RX8 hd_X8_number (ci := 8) rfl wl_RX4_87 wn_X8_number ws_X8_number dX4_readFour_48 (by decide) (Nat.le_of_ble_eq_true rfl) ⟨rfl, rfl⟩ (ctX8_number l x _ _ _ _) rfl (fun v48 M48 => ?_)
      refine r_l2i (pc := 51) E dX4_readFour_51 ?_
      refine r_iadd (pc := 52) E dX4_readFour_52 ?_
      refine r_istore (pc := 53) (lf := fun v53 => [(5, v53), (2, p2), (3, p3), (4, p4)]) (lg := fun v53 => []) (lk := fun v53 => [(0, p0), (1, p1)]) E dX4_readFour_53 (by decide) (fun _ => rfl) (fun _ => rfl) (fun _ => rfl) (fun v53 => ?_)
      refine r_iload (pc := 55) E dX4_readFour_55 0 rfl ?_
      refine r_aload_n (pc := 57) E dX4_readFour_57 rfl 0 rfl ?_
      refine r_getI (pc := 58) E fd_4_3 wf_RX4_97 dX4_readFour_58 (fun v58 => ?_)
      refine r_icmp_gt (pc := 61) (tgt := 76) E dX4_readFour_61 (by decide) ?_ ?_
      · exact r_sub [] [] [] rfl rfl rfl (hL76 _)
      · refine r_aload_n (pc := 64) E dX4_readFour_64 rfl 0 rfl ?_
        refine r_aload_n (pc := 65) E dX4_readFour_65 rfl 1 rfl ?_
        refine r_iload_n (pc := 66) E dX4_readFour_66 rfl 1 rfl ?_
        refine r_iload (pc := 67) E dX4_readFour_67 0 rfl ?_
        refine r_iload_n (pc := 69) E dX4_readFour_69 rfl 2 rfl ?_
        refine r_kVi (pc := 70) (As := [rv x p1, .int p2, .int v53, .int p3]) (rest := []) E wc_X4_readStream wi_RX4 hd_X4_readStream (ci := 4) rfl wl_RX4_119 wn_X4_readStream ws_X4_readStream dX4_readFour_70 (by decide) (Nat.le_of_ble_eq_true rfl) ⟨rfl, rfl⟩ (ctX4_readStream l x _ _ _ _ _ _) rfl (fun v70 M70 => ?_)
        refine r_if_ne (pc := 73) (tgt := 78) E dX4_readFour_73 (by decide) ?_ ?_
        · refine r_iload (pc := 78) E dX4_readFour_78 0 rfl ?_
          refine r_istore_n (pc := 80) (lf := fun v80 => [(2, v80), (5, v53), (3, p3), (4, p4)]) (lg := fun v80 => []) (lk := fun v80 => [(0, p0), (1, p1)]) E dX4_readFour_80 rfl (by decide) (fun _ => rfl) (fun _ => rfl) (fun _ => rfl) (fun v80 => ?_)
          refine r_iinc (pc := 81) (w := 1) (lf := fun v81 => [(4, v81), (2, v80), (5, v53), (3, p3)]) (ll' := []) (lr' := [(0, p0), (1, p1)]) E dX4_readFour_81 3 rfl (by decide) (by decide) (fun _ => rfl) rfl rfl (fun v81 => ?_)
          refine r_goto (pc := 84) (tgt := 30) E dX4_readFour_84 (by decide) ?_
          exact r_sub [1, 3, 0] [] [0, 1] rfl rfl rfl (hk30 ((p0, p1, v80, p3, v81)) _)
        · exact r_sub [] [] [] rfl rfl rfl (hL76 _)
  show RT p l e rmX4_readFour s m args below meth c x 6 (QM below args s x (fun v : Int32 => some (.int v)) rmX4_readFour.cells rmX4_readFour.slots) 0 0 (fX4_readFour a0 a1 M) 0 [] [] [(0, a0), (1, a1)] [] M
  unfold fX4_readFour
  refine r_aload_n (pc := 0) E dX4_readFour_0 rfl 0 rfl ?_
  refine r_getI (pc := 1) E fd_4_9 wf_RX4_91 dX4_readFour_1 (fun v1 => ?_)
  refine r_bipush (pc := 4) (v := 6) E dX4_readFour_4 (by decide) ?_
  refine r_iadd (pc := 6) E dX4_readFour_6 ?_
  refine r_istore_n (pc := 7) (lf := fun v7 => [(2, v7)]) (lg := fun v7 => []) (lk := fun v7 => [(0, a0), (1, a1)]) E dX4_readFour_7 rfl (by decide) (fun _ => rfl) (fun _ => rfl) (fun _ => rfl) (fun v7 => ?_)
  refine r_aload_n (pc := 8) E dX4_readFour_8 rfl 0 rfl ?_
  refine r_getI (pc := 9) E fd_4_12 wf_RX4_94 dX4_readFour_9 (fun v9 => ?_)
  refine r_iconst (pc := 12) (v := 3) E dX4_readFour_12 (by decide) ?_
  refine r_iadd (pc := 13) E dX4_readFour_13 ?_
  refine r_iconst (pc := 14) (v := 4) E dX4_readFour_14 (by decide) ?_
  refine r_idiv (pc := 15) E dX4_readFour_15 (fun v15 => ?_)
  refine r_istore_n (pc := 16) (lf := fun v16 => [(3, v16), (2, v7)]) (lg := fun v16 => []) (lk := fun v16 => [(0, a0), (1, a1)]) E dX4_readFour_16 rfl (by decide) (fun _ => rfl) (fun _ => rfl) (fun _ => rfl) (fun v16 => ?_)
  refine r_iload_n (pc := 17) E dX4_readFour_17 rfl 1 rfl ?_
  refine r_aload_n (pc := 18) E dX4_readFour_18 rfl 0 rfl ?_
  refine r_getI (pc := 19) E fd_4_3 wf_RX4_97 dX4_readFour_19 (fun v19 => ?_)
  refine r_icmp_le (pc := 22) (tgt := 27) E dX4_readFour_22 (by decide) ?_ ?_
  · refine r_iconst (pc := 27) (v := 0) E dX4_readFour_27 (by decide) ?_
    refine r_istore (pc := 28) (lf := fun v28 => [(4, v28), (3, v16), (2, v7)]) (lg := fun v28 => []) (lk := fun v28 => [(0, a0), (1, a1)]) E dX4_readFour_28 (by decide) (fun _ => rfl) (fun _ => rfl) (fun _ => rfl) (fun v28 => ?_)
    exact r_sub [2, 1, 0] [] [0, 1] rfl rfl rfl (hL30 a0 a1 v7 v16 v28 _)
  · refine r_iconst (pc := 25) (v := 0) E dX4_readFour_25 (by decide) ?_
    exact e_bool (pc := 26) E dX4_readFour_26
def fX4_readBody_L148 (q0 : Int32) (M : Mem) : Option (Int32 × Mem) :=
  rtZ q0 M
def fX4_readBody_L143 (M : Mem) : Option (Int32 × Mem) :=
  fX4_readBody_L148 1 M
def fX4_readBody_L121 (p0 : Option Nat) (p2 : Int32) (q0 : Option Nat) (q1 : Int32) (q2 : Int32) (q3 : Int32) (M : Mem) : Option (Int32 × Mem) :=
  bo (wI M q0 q1 (q2 + q3)) fun M122 =>
  if p2 = 0 then (
    bo (gR M122 p0 4 5) fun v128 =>
    bo (gI M122 p0 4 9) fun v134 =>
    bo (chk M122 v128 7) fun _ => bd (fX7_fail v128 13 v134 M122) fun v137 M137 =>
    if v137 = 0 then (
      fX4_readBody_L148 0 M137
    ) else (
      fX4_readBody_L143 M137
    )
  ) else (
    fX4_readBody_L143 M122
  )
def fX4_readBody_L99 (p0 : Option Nat) (p2 : Int32) (M : Mem) : Option (Int32 × Mem) :=
  bo (gR M p0 4 5) fun v100 =>
  bo (gR M v100 7 2) fun v103 =>
  bo (aI M v103 15 3) fun v108 =>
  if p2 = 0 then (
    fX4_readBody_L121 p0 p2 v103 3 v108 0 M
  ) else (
    bo (gI M p0 4 12) fun v114 =>
    fX4_readBody_L121 p0 p2 v103 3 v108 v114 M
  )
def fX4_readBody_L98 (p0 : Option Nat) (q0 : Int32) (M : Mem) : Option (Int32 × Mem) :=
  bn (q0) fun v98 =>
  fX4_readBody_L99 p0 v98 M
def fX4_readBody (a0 : Option Nat) (a1 : Option Nat) (M : Mem) : Option (Int32 × Mem) :=
  bo (gR M a0 4 0) fun v1 =>
  bo (pI M v1 8 1 0) fun M5 =>
  bn (1) fun v9 =>
  bo (gI M5 a0 4 10) fun v11 =>
  if v11 = 0 then (
    bo (gR M5 a0 4 0) fun v18 =>
    bo (gI M5 a0 4 9) fun v23 =>
    bo (gI M5 a0 4 12) fun v27 =>
    bo (chk M5 v18 8) fun _ => bd (fX8_addFrom v18 a1 v23 v27 M5) fun v30 M30 =>
    fX4_readBody_L99 a0 v9 M30
  ) else (
    bo (gI M5 a0 4 10) fun v37 =>
    if v37 = 1 then (
      bo (gR M5 a0 4 0) fun v45 =>
      bo (gI M5 a0 4 9) fun v50 =>
      bo (chk M5 a1 8) fun _ => bd (fX8_get a1 v50 M5) fun v53 M53 =>
      bo (gI M53 a0 4 12) fun v57 =>
      bo (chk M53 v45 8) fun _ => bd (fX8_addSame v45 v53 v57 M53) fun v60 M60 =>
      fX4_readBody_L99 a0 v9 M60
    ) else (
      bo (gI M5 a0 4 11) fun v67 =>
      if v67 = 0 then (
        bo (gI M5 a0 4 9) fun v76 =>
        bo (gI M5 a0 4 3) fun v80 =>
        bo (gI M5 a0 4 12) fun v84 =>
        bo (chk M5 a0 4) fun _ => bd (fX4_readStream a0 a1 v76 v80 v84 M5) fun v87 M87 =>
        fX4_readBody_L98 a0 v87 M87
      ) else (
        bo (chk M5 a0 4) fun _ => bd (fX4_readFour a0 a1 M5) fun v95 M95 =>
        fX4_readBody_L98 a0 v95 M95
      )
    )
  )
def rmX4_readBody : Room := { frames := 4, cells := 0, slots := 0, locals := 100 }
set_option maxRecDepth 100000 in
set_option maxHeartbeats 4000000 in
theorem ctX4_readBody (l : Launch) (x : Cx) (a0 : Option Nat) (a1 : Option Nat) (M : Mem) (v : Int32) (N : Mem) (h : fX4_readBody a0 a1 M = some (v, N)) : CT l yX4_readBody cX4_readBody 3 (some (FieldType.boolean)) rmX4_readBody x [rv x a0, rv x a1] M (some (.int v)) N := by
  refine ct_mk (enc := fun v : Int32 => some (.int v)) (li := []) (ll := []) (lr := [(0, a0), (1, a1)]) (by decide +kernel) (by simp [lg_sl, rv_cat, cat_int, cat_long]) (by simp [flat, lv_args, rv_cat, cat_int, cat_long]) h ?_
  intro p e s m args below meth c E
  have hL148 : ∀ (q0 : Int32) (M : Mem), RT p l e rmX4_readBody s m args below meth c x 3 (QM below args s x (fun v : Int32 => some (.int v)) rmX4_readBody.cells rmX4_readBody.slots) 0 0 (fX4_readBody_L148 q0 M) 148 [] [] [] [.int q0] M := by
    intro q0 M
    unfold fX4_readBody_L148
    exact e_bool (pc := 148) E dX4_readBody_148
  have hL143 : ∀ (M : Mem), RT p l e rmX4_readBody s m args below meth c x 3 (QM below args s x (fun v : Int32 => some (.int v)) rmX4_readBody.cells rmX4_readBody.slots) 0 0 (fX4_readBody_L143 M) 143 [] [] [] [] M := by
    intro M
    unfold fX4_readBody_L143
    refine r_iconst (pc := 143) (v := 1) E dX4_readBody_143 (by decide) ?_
    refine r_goto (pc := 144) (tgt := 148) E dX4_readBody_144 (by decide) ?_
    exact r_sub [] [] [] rfl rfl rfl (hL148 1 _)
  have hL121 : ∀ (p0 : Option Nat) (p2 : Int32) (q0 : Option Nat) (q1 : Int32) (q2 : Int32) (q3 : Int32) (M : Mem), RT p l e rmX4_readBody s m args below meth c x 3 (QM below args s x (fun v : Int32 => some (.int v)) rmX4_readBody.cells rmX4_readBody.slots) 0 0 (fX4_readBody_L121 p0 p2 q0 q1 q2 q3 M) 121 [(2, p2)] [] [(0, p0)] [.int q3, .int q2, .int q1, rv x q0] M := by
    intro p0 p2 q0 q1 q2 q3 M
    unfold fX4_readBody_L121
    refine r_iadd (pc := 121) E dX4_readBody_121 ?_
    refine r_iastore (pc := 122) E dX4_readBody_122 (fun M122 => ?_)
    refine r_iload_n (pc := 123) E dX4_readBody_123 rfl 0 rfl ?_
    refine r_if_ne (pc := 124) (tgt := 143) E dX4_readBody_124 (by decide) ?_ ?_
    · exact r_sub [] [] [] rfl rfl rfl (hL143 _)
    · refine r_aload_n (pc := 127) E dX4_readBody_127 rfl 0 rfl ?_
      refine r_getR (pc := 128) E fd_4_5 wf_RX4_34 dX4_readBody_128 (fun v128 => ?_)
      refine r_bipush (pc := 131) (v := 13) E dX4_readBody_131 (by decide) ?_
      refine r_aload_n (pc := 133) E dX4_readBody_133 rfl 0 rfl ?_
      refine r_getI (pc := 134) E fd_4_9 wf_RX4_91 dX4_readBody_134 (fun v134 => ?_)
      refine r_kVi (pc := 137) (As := [.int 13, .int v134]) (rest := []) E wc_X7_fail wi_RX7 hd_X7_fail (ci := 7) rfl wl_RX4_81 wn_X7_fail ws_X7_fail dX4_readBody_137 (by decide) (Nat.le_of_ble_eq_true rfl) ⟨rfl, rfl⟩ (ctX7_fail l x _ _ _ _) rfl (fun v137 M137 => ?_)
      refine r_if_eq (pc := 140) (tgt := 147) E dX4_readBody_140 (by decide) ?_ ?_
      · refine r_iconst (pc := 147) (v := 0) E dX4_readBody_147 (by decide) ?_
        exact r_sub [] [] [] rfl rfl rfl (hL148 0 _)
      · exact r_sub [] [] [] rfl rfl rfl (hL143 _)
  have hL99 : ∀ (p0 : Option Nat) (p2 : Int32) (M : Mem), RT p l e rmX4_readBody s m args below meth c x 3 (QM below args s x (fun v : Int32 => some (.int v)) rmX4_readBody.cells rmX4_readBody.slots) 0 0 (fX4_readBody_L99 p0 p2 M) 99 [(2, p2)] [] [(0, p0)] [] M := by
    intro p0 p2 M
    unfold fX4_readBody_L99
    refine r_aload_n (pc := 99) E dX4_readBody_99 rfl 0 rfl ?_
    refine r_getR (pc := 100) E fd_4_5 wf_RX4_34 dX4_readBody_100 (fun v100 => ?_)
    refine r_getA (pc := 103) E fd_7_2 wf_RX4_127 dX4_readBody_103 (fun v103 => ?_)
    refine r_iconst (pc := 106) (v := 3) E dX4_readBody_106 (by decide) ?_
    refine r_dup2 (pc := 107) E dX4_readBody_107 rfl (rv_cat _ _) ?_
    refine r_iaload (pc := 108) E dX4_readBody_108 (fun v108 => ?_)
    refine r_iload_n (pc := 109) E dX4_readBody_109 rfl 0 rfl ?_
    refine r_if_eq (pc := 110) (tgt := 120) E dX4_readBody_110 (by decide) ?_ ?_
    · refine r_iconst (pc := 120) (v := 0) E dX4_readBody_120 (by decide) ?_
      exact r_sub [0] [] [0] rfl rfl rfl (hL121 p0 p2 v103 3 v108 0 _)
    · refine r_aload_n (pc := 113) E dX4_readBody_113 rfl 0 rfl ?_
      refine r_getI (pc := 114) E fd_4_12 wf_RX4_94 dX4_readBody_114 (fun v114 => ?_)
      refine r_goto (pc := 117) (tgt := 121) E dX4_readBody_117 (by decide) ?_
      exact r_sub [0] [] [0] rfl rfl rfl (hL121 p0 p2 v103 3 v108 v114 _)
  have hL98 : ∀ (p0 : Option Nat) (q0 : Int32) (M : Mem), RT p l e rmX4_readBody s m args below meth c x 3 (QM below args s x (fun v : Int32 => some (.int v)) rmX4_readBody.cells rmX4_readBody.slots) 0 0 (fX4_readBody_L98 p0 q0 M) 98 [] [] [(0, p0)] [.int q0] M := by
    intro p0 q0 M
    unfold fX4_readBody_L98
    refine r_istore_n (pc := 98) (lf := fun v98 => [(2, v98)]) (lg := fun v98 => []) (lk := fun v98 => [(0, p0)]) E dX4_readBody_98 rfl (by decide) (fun _ => rfl) (fun _ => rfl) (fun _ => rfl) (fun v98 => ?_)
    exact r_sub [0] [] [0] rfl rfl rfl (hL99 p0 v98 _)
  show RT p l e rmX4_readBody s m args below meth c x 3 (QM below args s x (fun v : Int32 => some (.int v)) rmX4_readBody.cells rmX4_readBody.slots) 0 0 (fX4_readBody a0 a1 M) 0 [] [] [(0, a0), (1, a1)] [] M
  unfold fX4_readBody
  refine r_aload_n (pc := 0) E dX4_readBody_0 rfl 0 rfl ?_
  refine r_getR (pc := 1) E fd_4_0 wf_RX4_14 dX4_readBody_1 (fun v1 => ?_)
  refine r_iconst (pc := 4) (v := 0) E dX4_readBody_4 (by decide) ?_
  refine r_putI (pc := 5) E fd_8_1 wf_RX4_110 dX4_readBody_5 (Or.inl rfl) (fun M5 => ?_)
  refine r_iconst (pc := 8) (v := 1) E dX4_readBody_8 (by decide) ?_
  refine r_istore_n (pc := 9) (lf := fun v9 => [(2, v9)]) (lg := fun v9 => []) (lk := fun v9 => [(0, a0), (1, a1)]) E dX4_readBody_9 rfl (by decide) (fun _ => rfl) (fun _ => rfl) (fun _ => rfl) (fun v9 => ?_)
  refine r_aload_n (pc := 10) E dX4_readBody_10 rfl 0 rfl ?_
  refine r_getI (pc := 11) E fd_4_10 wf_RX4_65 dX4_readBody_11 (fun v11 => ?_)
  refine r_if_ne (pc := 14) (tgt := 36) E dX4_readBody_14 (by decide) ?_ ?_
  · refine r_aload_n (pc := 36) E dX4_readBody_36 rfl 0 rfl ?_
    refine r_getI (pc := 37) E fd_4_10 wf_RX4_65 dX4_readBody_37 (fun v37 => ?_)
    refine r_iconst (pc := 40) (v := 1) E dX4_readBody_40 (by decide) ?_
    refine r_icmp_ne (pc := 41) (tgt := 66) E dX4_readBody_41 (by decide) ?_ ?_
    · refine r_aload_n (pc := 66) E dX4_readBody_66 rfl 0 rfl ?_
      refine r_getI (pc := 67) E fd_4_11 wf_RX4_68 dX4_readBody_67 (fun v67 => ?_)
      refine r_if_ne (pc := 70) (tgt := 93) E dX4_readBody_70 (by decide) ?_ ?_
      · refine r_aload_n (pc := 93) E dX4_readBody_93 rfl 0 rfl ?_
        refine r_aload_n (pc := 94) E dX4_readBody_94 rfl 1 rfl ?_
        refine r_kVi (pc := 95) (As := [rv x a1]) (rest := []) E wc_X4_readFour wi_RX4 hd_X4_readFour (ci := 4) rfl wl_RX4_123 wn_X4_readFour ws_X4_readFour dX4_readBody_95 (by decide) (Nat.le_of_ble_eq_true rfl) ⟨rfl, rfl⟩ (ctX4_readFour l x _ _ _) rfl (fun v95 M95 => ?_)
        exact r_sub [] [] [0] rfl rfl rfl (hL98 a0 v95 _)
      · refine r_aload_n (pc := 73) E dX4_readBody_73 rfl 0 rfl ?_
        refine r_aload_n (pc := 74) E dX4_readBody_74 rfl 1 rfl ?_
        refine r_aload_n (pc := 75) E dX4_readBody_75 rfl 0 rfl ?_
        refine r_getI (pc := 76) E fd_4_9 wf_RX4_91 dX4_readBody_76 (fun v76 => ?_)
        refine r_aload_n (pc := 79) E dX4_readBody_79 rfl 0 rfl ?_
        refine r_getI (pc := 80) E fd_4_3 wf_RX4_97 dX4_readBody_80 (fun v80 => ?_)
        refine r_aload_n (pc := 83) E dX4_readBody_83 rfl 0 rfl ?_
        refine r_getI (pc := 84) E fd_4_12 wf_RX4_94 dX4_readBody_84 (fun v84 => ?_)
        refine r_kVi (pc := 87) (As := [rv x a1, .int v76, .int v80, .int v84]) (rest := []) E wc_X4_readStream wi_RX4 hd_X4_readStream (ci := 4) rfl wl_RX4_119 wn_X4_readStream ws_X4_readStream dX4_readBody_87 (by decide) (Nat.le_of_ble_eq_true rfl) ⟨rfl, rfl⟩ (ctX4_readStream l x _ _ _ _ _ _) rfl (fun v87 M87 => ?_)
        refine r_goto (pc := 90) (tgt := 98) E dX4_readBody_90 (by decide) ?_
        exact r_sub [] [] [0] rfl rfl rfl (hL98 a0 v87 _)
    · refine r_aload_n (pc := 44) E dX4_readBody_44 rfl 0 rfl ?_
      refine r_getR (pc := 45) E fd_4_0 wf_RX4_14 dX4_readBody_45 (fun v45 => ?_)
      refine r_aload_n (pc := 48) E dX4_readBody_48 rfl 1 rfl ?_
      refine r_aload_n (pc := 49) E dX4_readBody_49 rfl 0 rfl ?_
      refine r_getI (pc := 50) E fd_4_9 wf_RX4_91 dX4_readBody_50 (fun v50 => ?_)
      refine r_kVi (pc := 53) (As := [.int v50]) (rest := [rv x v45]) E wc_X8_get wi_RX8 hd_X8_get (ci := 8) rfl wl_RX4_61 wn_X8_get ws_X8_get dX4_readBody_53 (by decide) (Nat.le_of_ble_eq_true rfl) ⟨rfl, rfl⟩ (ctX8_get l x _ _ _) rfl (fun v53 M53 => ?_)
      refine r_aload_n (pc := 56) E dX4_readBody_56 rfl 0 rfl ?_
      refine r_getI (pc := 57) E fd_4_12 wf_RX4_94 dX4_readBody_57 (fun v57 => ?_)
      refine r_kVv (pc := 60) (As := [.int v53, .int v57]) (rest := []) E wc_X8_addSame wi_RX8 hd_X8_addSame (ci := 8) rfl wl_RX4_115 wn_X8_addSame ws_X8_addSame dX4_readBody_60 (by decide) (Nat.le_of_ble_eq_true rfl) ⟨rfl, rfl⟩ (ctX8_addSame l x _ _ _ _) rfl (fun v60 M60 => ?_)
      refine r_goto (pc := 63) (tgt := 99) E dX4_readBody_63 (by decide) ?_
      exact r_sub [0] [] [0] rfl rfl rfl (hL99 a0 v9 _)
  · refine r_aload_n (pc := 17) E dX4_readBody_17 rfl 0 rfl ?_
    refine r_getR (pc := 18) E fd_4_0 wf_RX4_14 dX4_readBody_18 (fun v18 => ?_)
    refine r_aload_n (pc := 21) E dX4_readBody_21 rfl 1 rfl ?_
    refine r_aload_n (pc := 22) E dX4_readBody_22 rfl 0 rfl ?_
    refine r_getI (pc := 23) E fd_4_9 wf_RX4_91 dX4_readBody_23 (fun v23 => ?_)
    refine r_aload_n (pc := 26) E dX4_readBody_26 rfl 0 rfl ?_
    refine r_getI (pc := 27) E fd_4_12 wf_RX4_94 dX4_readBody_27 (fun v27 => ?_)
    refine r_kVv (pc := 30) (As := [rv x a1, .int v23, .int v27]) (rest := []) E wc_X8_addFrom wi_RX8 hd_X8_addFrom (ci := 8) rfl wl_RX4_111 wn_X8_addFrom ws_X8_addFrom dX4_readBody_30 (by decide) (Nat.le_of_ble_eq_true rfl) ⟨rfl, rfl⟩ (ctX8_addFrom l x _ _ _ _ _) rfl (fun v30 M30 => ?_)
    refine r_goto (pc := 33) (tgt := 99) E dX4_readBody_33 (by decide) ?_
    exact r_sub [0] [] [0] rfl rfl rfl (hL99 a0 v9 _)
def fX9_init (a0 : Option Nat) (a1 : Option Nat) (a2 : Option Nat) (a3 : Option Nat) (M : Mem) : Option (Unit × Mem) :=
  bo (chk0 a0) fun _ =>
  bd (nwA M 20 3 3) fun v6 M6 =>
  bo (pR M6 a0 9 0 v6) fun M9 =>
  bd (nwA M9 18 3 3) fun v14 M14 =>
  bo (pR M14 a0 9 1 v14) fun M16 =>
  bd (nwA M16 20 3 3) fun v21 M21 =>
  bo (pR M21 a0 9 2 v21) fun M24 =>
  bd (nwA M24 15 3 3) fun v29 M29 =>
  bo (pR M29 a0 9 4 v29) fun M31 =>
  bd (nwA M31 15 3 3) fun v36 M36 =>
  bo (pR M36 a0 9 5 v36) fun M38 =>
  bd (nw M38 0) fun v42 M42 =>
  bo (chk0 v42) fun _ => bd (fX0_init v42 M42) fun v46 M46 =>
  bo (pR M46 a0 9 8 v42) fun M49 =>
  bd (nw M49 8) fun v53 M53 =>
  bo (chk0 v53) fun _ => bd (fX8_init v53 0 M53) fun v58 M58 =>
  bo (pR M58 a0 9 9 v53) fun M61 =>
  bo (gR M61 a0 9 9) fun v66 =>
  bo (pR M61 a0 9 10 v66) fun M69 =>
  bo (gR M69 a0 9 9) fun v74 =>
  bo (pR M69 a0 9 11 v74) fun M77 =>
  bo (pR M77 a0 9 6 a1) fun M82 =>
  bo (pR M82 a0 9 7 a2) fun M87 =>
  bo (pR M87 a0 9 3 a3) fun M92 =>
  bn (0) fun v96 =>
  if 3 ≤ v96 then (
    none
  ) else (
    bo (gR M92 a0 9 2) fun v105_1 =>
    bd (nw M92 10) fun v110_1 M110_1 =>
    bo (chk0 v110_1) fun _ => bd (fX10_init v110_1 M110_1) fun v114_1 M114_1 =>
    bo (wR M114_1 v105_1 20 10 v96 v110_1) fun M117_1 =>
    bo (gR M117_1 a0 9 0) fun v119_1 =>
    bo (gR M117_1 a0 9 2) fun v125_1 =>
    bo (aR M117_1 v125_1 20 v96) fun v130_1 =>
    bo (wR M117_1 v119_1 20 10 v96 v130_1) fun M131_1 =>
    bn (v96 + 1) fun v132_1 =>
    if 3 ≤ v132_1 then (
      none
    ) else (
      bo (gR M131_1 a0 9 2) fun v105_2 =>
      bd (nw M131_1 10) fun v110_2 M110_2 =>
      bo (chk0 v110_2) fun _ => bd (fX10_init v110_2 M110_2) fun v114_2 M114_2 =>
      bo (wR M114_2 v105_2 20 10 v132_1 v110_2) fun M117_2 =>
      bo (gR M117_2 a0 9 0) fun v119_2 =>
      bo (gR M117_2 a0 9 2) fun v125_2 =>
      bo (aR M117_2 v125_2 20 v132_1) fun v130_2 =>
      bo (wR M117_2 v119_2 20 10 v132_1 v130_2) fun M131_2 =>
      bn (v132_1 + 1) fun v132_2 =>
      if 3 ≤ v132_2 then (
        none
      ) else (
        bo (gR M131_2 a0 9 2) fun v105_3 =>
        bd (nw M131_2 10) fun v110_3 M110_3 =>
        bo (chk0 v110_3) fun _ => bd (fX10_init v110_3 M110_3) fun v114_3 M114_3 =>
        bo (wR M114_3 v105_3 20 10 v132_2 v110_3) fun M117_3 =>
        bo (gR M117_3 a0 9 0) fun v119_3 =>
        bo (gR M117_3 a0 9 2) fun v125_3 =>
        bo (aR M117_3 v125_3 20 v132_2) fun v130_3 =>
        bo (wR M117_3 v119_3 20 10 v132_2 v130_3) fun M131_3 =>
        bn (v132_2 + 1) fun v132_3 =>
        if 3 ≤ v132_3 then (
          some ((), M131_3)
        ) else (
          none
        )
      )
    )
  )
def rmX9_init : Room := { frames := 2, cells := 24, slots := 12122, locals := 44 }
set_option maxRecDepth 100000 in
set_option maxHeartbeats 4000000 in
theorem ctX9_init (l : Launch) (x : Cx) (a0 : Option Nat) (a1 : Option Nat) (a2 : Option Nat) (a3 : Option Nat) (M : Mem) (v : Unit) (N : Mem) (h : fX9_init a0 a1 a2 a3 M = some (v, N)) : CT l yX9_init cX9_init 5 (none) rmX9_init x [rv x a0, rv x a1, rv x a2, rv x a3] M none N := by
  refine ct_mk (enc := fun _ : Unit => none) (li := []) (ll := []) (lr := [(0, a0), (1, a1), (2, a2), (3, a3)]) (by decide +kernel) (by simp [lg_sl, rv_cat, cat_int, cat_long]) (by simp [flat, lv_args, rv_cat, cat_int, cat_long]) h ?_
  intro p e s m args below meth c E
  show RT p l e rmX9_init s m args below meth c x 5 (QM below args s x (fun _ : Unit => none) rmX9_init.cells rmX9_init.slots) 0 0 (fX9_init a0 a1 a2 a3 M) 0 [] [] [(0, a0), (1, a1), (2, a2), (3, a3)] [] M
  unfold fX9_init
  refine r_aload_n (pc := 0) E dX9_init_0 rfl 0 rfl ?_
  refine r_obj (pc := 1) E wl_RX9_3 wo_inst wo_code dX9_init_1 (by decide) (by decide) (Nat.le_of_ble_eq_true rfl) ?_
  refine r_aload_n (pc := 4) E dX9_init_4 rfl 0 rfl ?_
  refine r_iconst (pc := 5) (v := 3) E dX9_init_5 (by decide) ?_
  refine r_anew20 (pc := 6) E wx_RX9_9 dX9_init_6 (by decide) (by decide) (by decide) (fun v6 M6 => ?_)
  refine r_widen (k := 1) (n := 3) (by decide) (by decide) ?_
  refine r_putA (pc := 9) E fd_9_0 wf_RX9_11 dX9_init_9 (Or.inr ⟨rfl, rfl⟩) (fun M9 => ?_)
  refine r_aload_n (pc := 12) E dX9_init_12 rfl 0 rfl ?_
  refine r_iconst (pc := 13) (v := 3) E dX9_init_13 (by decide) ?_
  refine r_newarrayZ (pc := 14) E wa_Z dX9_init_14 (by decide) (by decide) (by decide) (fun v14 M14 => ?_)
  refine r_widen (k := 2) (n := 6) (by decide) (by decide) ?_
  refine r_putA (pc := 16) E fd_9_1 wf_RX9_17 dX9_init_16 (Or.inr ⟨rfl, rfl⟩) (fun M16 => ?_)
  refine r_aload_n (pc := 19) E dX9_init_19 rfl 0 rfl ?_
  refine r_iconst (pc := 20) (v := 3) E dX9_init_20 (by decide) ?_
  refine r_anew20 (pc := 21) E wx_RX9_9 dX9_init_21 (by decide) (by decide) (by decide) (fun v21 M21 => ?_)
  refine r_widen (k := 3) (n := 9) (by decide) (by decide) ?_
  refine r_putA (pc := 24) E fd_9_2 wf_RX9_21 dX9_init_24 (Or.inr ⟨rfl, rfl⟩) (fun M24 => ?_)
  refine r_aload_n (pc := 27) E dX9_init_27 rfl 0 rfl ?_
  refine r_iconst (pc := 28) (v := 3) E dX9_init_28 (by decide) ?_
  refine r_newarrayI (pc := 29) E wa_I dX9_init_29 (by decide) (by decide) (by decide) (fun v29 M29 => ?_)
  refine r_widen (k := 4) (n := 12) (by decide) (by decide) ?_
  refine r_putA (pc := 31) E fd_9_4 wf_RX9_24 dX9_init_31 (Or.inr ⟨rfl, rfl⟩) (fun M31 => ?_)
  refine r_aload_n (pc := 34) E dX9_init_34 rfl 0 rfl ?_
  refine r_iconst (pc := 35) (v := 3) E dX9_init_35 (by decide) ?_
  refine r_newarrayI (pc := 36) E wa_I dX9_init_36 (by decide) (by decide) (by decide) (fun v36 M36 => ?_)
  refine r_widen (k := 5) (n := 15) (by decide) (by decide) ?_
  refine r_putA (pc := 38) E fd_9_5 wf_RX9_28 dX9_init_38 (Or.inr ⟨rfl, rfl⟩) (fun M38 => ?_)
  refine r_aload_n (pc := 41) E dX9_init_41 rfl 0 rfl ?_
  refine r_new (pc := 42) E cd_0 (by decide) wx_RX9_31 dX9_init_42 (by decide) (by decide) (fun v42 M42 => ?_)
  refine r_widen (k := 6) (n := 19) (by decide) (by decide) ?_
  refine r_dup (pc := 45) E dX9_init_45 (rv_cat _ _) ?_
  refine r_callI (pc := 46) (As := []) (rest := [rv x v42, rv x a0]) E wc_X0_init wi_RX0 hd_X0_init wl_RX9_33 rfl wn_X0_init dX9_init_46 (by decide) (Nat.le_of_ble_eq_true rfl) (ctX0_init l x _ _) rfl (fun v46 M46 => ?_)
  refine r_widen (k := 7) (n := 19) (by decide) (by decide) ?_
  refine r_putR (pc := 49) E fd_9_8 wf_RX9_34 dX9_init_49 (Or.inr ⟨rfl, rfl⟩) (fun M49 => ?_)
  refine r_aload_n (pc := 52) E dX9_init_52 rfl 0 rfl ?_
  refine r_new (pc := 53) E cd_8 (by decide) wx_RX9_38 dX9_init_53 (by decide) (by decide) (fun v53 M53 => ?_)
  refine r_widen (k := 8) (n := 23) (by decide) (by decide) ?_
  refine r_dup (pc := 56) E dX9_init_56 (rv_cat _ _) ?_
  refine r_iconst (pc := 57) (v := 0) E dX9_init_57 (by decide) ?_
  refine r_callI (pc := 58) (As := [.int 0]) (rest := [rv x v53, rv x a0]) E wc_X8_init wi_RX8 hd_X8_init wl_RX9_40 rfl wn_X8_init dX9_init_58 (by decide) (Nat.le_of_ble_eq_true rfl) (ctX8_init l x _ _ _) rfl (fun v58 M58 => ?_)
  refine r_widen (k := 9) (n := 9023) (by decide) (by decide) ?_
  refine r_putR (pc := 61) E fd_9_9 wf_RX9_43 dX9_init_61 (Or.inr ⟨rfl, rfl⟩) (fun M61 => ?_)
  refine r_aload_n (pc := 64) E dX9_init_64 rfl 0 rfl ?_
  refine r_aload_n (pc := 65) E dX9_init_65 rfl 0 rfl ?_
  refine r_getR (pc := 66) E fd_9_9 wf_RX9_43 dX9_init_66 (fun v66 => ?_)
  refine r_putR (pc := 69) E fd_9_10 wf_RX9_47 dX9_init_69 (Or.inl rfl) (fun M69 => ?_)
  refine r_aload_n (pc := 72) E dX9_init_72 rfl 0 rfl ?_
  refine r_aload_n (pc := 73) E dX9_init_73 rfl 0 rfl ?_
  refine r_getR (pc := 74) E fd_9_9 wf_RX9_43 dX9_init_74 (fun v74 => ?_)
  refine r_putR (pc := 77) E fd_9_11 wf_RX9_50 dX9_init_77 (Or.inl rfl) (fun M77 => ?_)
  refine r_aload_n (pc := 80) E dX9_init_80 rfl 0 rfl ?_
  refine r_aload_n (pc := 81) E dX9_init_81 rfl 1 rfl ?_
  refine r_putR (pc := 82) E fd_9_6 wf_RX9_53 dX9_init_82 (Or.inr ⟨rfl, rfl⟩) (fun M82 => ?_)
  refine r_aload_n (pc := 85) E dX9_init_85 rfl 0 rfl ?_
  refine r_aload_n (pc := 86) E dX9_init_86 rfl 2 rfl ?_
  refine r_putR (pc := 87) E fd_9_7 wf_RX9_57 dX9_init_87 (Or.inr ⟨rfl, rfl⟩) (fun M87 => ?_)
  refine r_aload_n (pc := 90) E dX9_init_90 rfl 0 rfl ?_
  refine r_aload_n (pc := 91) E dX9_init_91 rfl 3 rfl ?_
  refine r_putA (pc := 92) E fd_9_3 wf_RX9_61 dX9_init_92 (Or.inr ⟨rfl, rfl⟩) (fun M92 => ?_)
  refine r_iconst (pc := 95) (v := 0) E dX9_init_95 (by decide) ?_
  refine r_istore (pc := 96) (lf := fun v96 => [(4, v96)]) (lg := fun v96 => []) (lk := fun v96 => [(0, a0), (1, a1), (2, a2), (3, a3)]) E dX9_init_96 (by decide) (fun _ => rfl) (fun _ => rfl) (fun _ => rfl) (fun v96 => ?_)
  refine r_iload (pc := 98) E dX9_init_98 0 rfl ?_
  refine r_iconst (pc := 100) (v := 3) E dX9_init_100 (by decide) ?_
  refine r_icmp_ge (pc := 101) (tgt := 138) E dX9_init_101 (by decide) ?_ ?_
  · exact r_none
  · refine r_aload_n (pc := 104) E dX9_init_104 rfl 0 rfl ?_
    refine r_getA (pc := 105) E fd_9_2 wf_RX9_21 dX9_init_105 (fun v105_1 => ?_)
    refine r_iload (pc := 108) E dX9_init_108 0 rfl ?_
    refine r_new (pc := 110) E cd_10 (by decide) wx_RX9_9 dX9_init_110 (by decide) (by decide) (fun v110_1 M110_1 => ?_)
    refine r_widen (k := 10) (n := 9032) (by decide) (by decide) ?_
    refine r_dup (pc := 113) E dX9_init_113 (rv_cat _ _) ?_
    refine r_callI (pc := 114) (As := []) (rest := [rv x v110_1, .int v96, rv x v105_1]) E wc_X10_init wi_RX10 hd_X10_init wl_RX9_64 rfl wn_X10_init dX9_init_114 (by decide) (Nat.le_of_ble_eq_true rfl) (ctX10_init l x _ _) rfl (fun v114_1 M114_1 => ?_)
    refine r_widen (k := 14) (n := 10056) (by decide) (by decide) ?_
    refine r_aastore20 (pc := 117) E dX9_init_117 (fun M117_1 => ?_)
    refine r_aload_n (pc := 118) E dX9_init_118 rfl 0 rfl ?_
    refine r_getA (pc := 119) E fd_9_0 wf_RX9_11 dX9_init_119 (fun v119_1 => ?_)
    refine r_iload (pc := 122) E dX9_init_122 0 rfl ?_
    refine r_aload_n (pc := 124) E dX9_init_124 rfl 0 rfl ?_
    refine r_getA (pc := 125) E fd_9_2 wf_RX9_21 dX9_init_125 (fun v125_1 => ?_)
    refine r_iload (pc := 128) E dX9_init_128 0 rfl ?_
    refine r_aaload20 (pc := 130) E dX9_init_130 (fun v130_1 => ?_)
    refine r_aastore20 (pc := 131) E dX9_init_131 (fun M131_1 => ?_)
    refine r_iinc (pc := 132) (w := 1) (lf := fun v132_1 => [(4, v132_1)]) (ll' := []) (lr' := [(0, a0), (1, a1), (2, a2), (3, a3)]) E dX9_init_132 0 rfl (by decide) (by decide) (fun _ => rfl) rfl rfl (fun v132_1 => ?_)
    refine r_goto (pc := 135) (tgt := 98) E dX9_init_135 (by decide) ?_
    refine r_iload (pc := 98) E dX9_init_98 0 rfl ?_
    refine r_iconst (pc := 100) (v := 3) E dX9_init_100 (by decide) ?_
    refine r_icmp_ge (pc := 101) (tgt := 138) E dX9_init_101 (by decide) ?_ ?_
    · exact r_none
    · refine r_aload_n (pc := 104) E dX9_init_104 rfl 0 rfl ?_
      refine r_getA (pc := 105) E fd_9_2 wf_RX9_21 dX9_init_105 (fun v105_2 => ?_)
      refine r_iload (pc := 108) E dX9_init_108 0 rfl ?_
      refine r_new (pc := 110) E cd_10 (by decide) wx_RX9_9 dX9_init_110 (by decide) (by decide) (fun v110_2 M110_2 => ?_)
      refine r_widen (k := 15) (n := 10065) (by decide) (by decide) ?_
      refine r_dup (pc := 113) E dX9_init_113 (rv_cat _ _) ?_
      refine r_callI (pc := 114) (As := []) (rest := [rv x v110_2, .int v132_1, rv x v105_2]) E wc_X10_init wi_RX10 hd_X10_init wl_RX9_64 rfl wn_X10_init dX9_init_114 (by decide) (Nat.le_of_ble_eq_true rfl) (ctX10_init l x _ _) rfl (fun v114_2 M114_2 => ?_)
      refine r_widen (k := 19) (n := 11089) (by decide) (by decide) ?_
      refine r_aastore20 (pc := 117) E dX9_init_117 (fun M117_2 => ?_)
      refine r_aload_n (pc := 118) E dX9_init_118 rfl 0 rfl ?_
      refine r_getA (pc := 119) E fd_9_0 wf_RX9_11 dX9_init_119 (fun v119_2 => ?_)
      refine r_iload (pc := 122) E dX9_init_122 0 rfl ?_
      refine r_aload_n (pc := 124) E dX9_init_124 rfl 0 rfl ?_
      refine r_getA (pc := 125) E fd_9_2 wf_RX9_21 dX9_init_125 (fun v125_2 => ?_)
      refine r_iload (pc := 128) E dX9_init_128 0 rfl ?_
      refine r_aaload20 (pc := 130) E dX9_init_130 (fun v130_2 => ?_)
      refine r_aastore20 (pc := 131) E dX9_init_131 (fun M131_2 => ?_)
      refine r_iinc (pc := 132) (w := 1) (lf := fun v132_2 => [(4, v132_2)]) (ll' := []) (lr' := [(0, a0), (1, a1), (2, a2), (3, a3)]) E dX9_init_132 0 rfl (by decide) (by decide) (fun _ => rfl) rfl rfl (fun v132_2 => ?_)
      refine r_goto (pc := 135) (tgt := 98) E dX9_init_135 (by decide) ?_
      refine r_iload (pc := 98) E dX9_init_98 0 rfl ?_
      refine r_iconst (pc := 100) (v := 3) E dX9_init_100 (by decide) ?_
      refine r_icmp_ge (pc := 101) (tgt := 138) E dX9_init_101 (by decide) ?_ ?_
      · exact r_none
      · refine r_aload_n (pc := 104) E dX9_init_104 rfl 0 rfl ?_
        refine r_getA (pc := 105) E fd_9_2 wf_RX9_21 dX9_init_105 (fun v105_3 => ?_)
        refine r_iload (pc := 108) E dX9_init_108 0 rfl ?_
        refine r_new (pc := 110) E cd_10 (by decide) wx_RX9_9 dX9_init_110 (by decide) (by decide) (fun v110_3 M110_3 => ?_)
        refine r_widen (k := 20) (n := 11098) (by decide) (by decide) ?_
        refine r_dup (pc := 113) E dX9_init_113 (rv_cat _ _) ?_
        refine r_callI (pc := 114) (As := []) (rest := [rv x v110_3, .int v132_2, rv x v105_3]) E wc_X10_init wi_RX10 hd_X10_init wl_RX9_64 rfl wn_X10_init dX9_init_114 (by decide) (Nat.le_of_ble_eq_true rfl) (ctX10_init l x _ _) rfl (fun v114_3 M114_3 => ?_)
        refine r_widen (k := 24) (n := 12122) (by decide) (by decide) ?_
        refine r_aastore20 (pc := 117) E dX9_init_117 (fun M117_3 => ?_)
        refine r_aload_n (pc := 118) E dX9_init_118 rfl 0 rfl ?_
        refine r_getA (pc := 119) E fd_9_0 wf_RX9_11 dX9_init_119 (fun v119_3 => ?_)
        refine r_iload (pc := 122) E dX9_init_122 0 rfl ?_
        refine r_aload_n (pc := 124) E dX9_init_124 rfl 0 rfl ?_
        refine r_getA (pc := 125) E fd_9_2 wf_RX9_21 dX9_init_125 (fun v125_3 => ?_)
        refine r_iload (pc := 128) E dX9_init_128 0 rfl ?_
        refine r_aaload20 (pc := 130) E dX9_init_130 (fun v130_3 => ?_)
        refine r_aastore20 (pc := 131) E dX9_init_131 (fun M131_3 => ?_)
        refine r_iinc (pc := 132) (w := 1) (lf := fun v132_3 => [(4, v132_3)]) (ll' := []) (lr' := [(0, a0), (1, a1), (2, a2), (3, a3)]) E dX9_init_132 0 rfl (by decide) (by decide) (fun _ => rfl) rfl rfl (fun v132_3 => ?_)
        refine r_goto (pc := 135) (tgt := 98) E dX9_init_135 (by decide) ?_
        refine r_iload (pc := 98) E dX9_init_98 0 rfl ?_
        refine r_iconst (pc := 100) (v := 3) E dX9_init_100 (by decide) ?_
        refine r_icmp_ge (pc := 101) (tgt := 138) E dX9_init_101 (by decide) ?_ ?_
        · refine r_widen (k := 24) (n := 12122) (by decide) (by decide) ?_
          exact e_void (pc := 138) E dX9_init_138
        · exact r_none
