def fX13_alone (a0 : Option Nat) (a1 : Int32) (a2 : Int32) (M : Mem) : Option (Unit × Mem) :=
  bo (gR M a0 13 17) fun v1 =>
  bo (wI M v1 a1 0) fun M6 =>
  bo (gR M6 a0 13 18) fun v8 =>
  bo (wZ M6 v8 a1 1) fun M13 =>
  bo (gR M13 a0 13 14) fun v15 =>
  bo (wS M13 v15 (512 * a1) (i2s a2)) fun M25 =>
  bo (gR M25 a0 13 15) fun v27 =>
  bo (wB M25 v27 (512 * a1) 0) fun M36 =>
  bo (gR M36 a0 13 16) fun v38 =>
  bo (wI M36 v38 (512 * a1) 0) fun M47 =>
  some ((), M47)
def rmX13_alone : Room := { frames := 0, cells := 0, slots := 0, locals := 0 }
set_option maxRecDepth 100000 in
set_option maxHeartbeats 4000000 in
theorem ctX13_alone (l : Launch) (x : Cx) (a0 : Option Nat) (a1 : Int32) (a2 : Int32) (M : Mem) (v : Unit) (N : Mem) (h : fX13_alone a0 a1 a2 M = some (v, N)) : CT l yX13_alone cX13_alone 3 (none) rmX13_alone x [rv x a0, .int a1, .int a2] M none N := by
  refine ct_mk (enc := fun _ : Unit => none) (li := [(1, a1), (2, a2)]) (ll := []) (lr := [(0, a0)]) (by decide +kernel) (by simp [lg_sl, rv_cat, cat_int, cat_long]) (by simp [flat, lv_args, rv_cat, cat_int, cat_long]) h ?_
  intro p e s m args below meth c E
  show RT p l e rmX13_alone s m args below meth c x 3 (QM below args s x (fun _ : Unit => none) rmX13_alone.cells rmX13_alone.slots) 0 0 (fX13_alone a0 a1 a2 M) 0 [(1, a1), (2, a2)] [] [(0, a0)] [] M
  unfold fX13_alone
  refine r_aload_n (pc := 0) E dX13_alone_0 rfl 0 rfl ?_
  refine r_getA (pc := 1) E fd_13_17 wf_RX13_37 dX13_alone_1 (fun v1 => ?_)
  refine r_iload_n (pc := 4) E dX13_alone_4 rfl 0 rfl ?_
  refine r_iconst (pc := 5) (v := 0) E dX13_alone_5 (by decide) ?_
  refine r_iastore (pc := 6) E dX13_alone_6 (fun M6 => ?_)
  refine r_aload_n (pc := 7) E dX13_alone_7 rfl 0 rfl ?_
  refine r_getA (pc := 8) E fd_13_18 wf_RX13_40 dX13_alone_8 (fun v8 => ?_)
  refine r_iload_n (pc := 11) E dX13_alone_11 rfl 0 rfl ?_
  refine r_iconst (pc := 12) (v := 1) E dX13_alone_12 (by decide) ?_
  refine r_zastore (pc := 13) E dX13_alone_13 (fun M13 => ?_)
  refine r_aload_n (pc := 14) E dX13_alone_14 rfl 0 rfl ?_
  refine r_getA (pc := 15) E fd_13_14 wf_RX13_27 dX13_alone_15 (fun v15 => ?_)
  refine r_sipush (pc := 18) (v := 512) E dX13_alone_18 (by decide) ?_
  refine r_iload_n (pc := 21) E dX13_alone_21 rfl 0 rfl ?_
  refine r_imul (pc := 22) E dX13_alone_22 ?_
  refine r_iload_n (pc := 23) E dX13_alone_23 rfl 1 rfl ?_
  refine r_i2s (pc := 24) E dX13_alone_24 ?_
  refine r_sastore (pc := 25) E dX13_alone_25 (fun M25 => ?_)
  refine r_aload_n (pc := 26) E dX13_alone_26 rfl 0 rfl ?_
  refine r_getA (pc := 27) E fd_13_15 wf_RX13_31 dX13_alone_27 (fun v27 => ?_)
  refine r_sipush (pc := 30) (v := 512) E dX13_alone_30 (by decide) ?_
  refine r_iload_n (pc := 33) E dX13_alone_33 rfl 0 rfl ?_
  refine r_imul (pc := 34) E dX13_alone_34 ?_
  refine r_iconst (pc := 35) (v := 0) E dX13_alone_35 (by decide) ?_
  refine r_bastore (pc := 36) E dX13_alone_36 (fun M36 => ?_)
  refine r_aload_n (pc := 37) E dX13_alone_37 rfl 0 rfl ?_
  refine r_getA (pc := 38) E fd_13_16 wf_RX13_34 dX13_alone_38 (fun v38 => ?_)
  refine r_sipush (pc := 41) (v := 512) E dX13_alone_41 (by decide) ?_
  refine r_iload_n (pc := 44) E dX13_alone_44 rfl 0 rfl ?_
  refine r_imul (pc := 45) E dX13_alone_45 ?_
  refine r_iconst (pc := 46) (v := 0) E dX13_alone_46 (by decide) ?_
  refine r_iastore (pc := 47) E dX13_alone_47 (fun M47 => ?_)
  exact e_void (pc := 48) E dX13_alone_48
def fX13_copyTable_B26 (k26 : Option Nat × Int32 × Int32 × Int32 → Mem → Option (Unit × Mem)) (p0 : Option Nat) (p1 : Int32) (p2 : Int32) (p3 : Int32) (M : Mem) : Option (Unit × Mem) :=
  if 512 ≤ p3 then (
    some ((), M)
  ) else (
    bo (gR M p0 13 14) fun v34 =>
    bo (gR M p0 13 14) fun v45 =>
    bo (aI M v45 17 ((512 * p1) + p3)) fun v55 =>
    bo (wS M v34 ((512 * p2) + p3) v55) fun M56 =>
    bo (gR M56 p0 13 15) fun v58 =>
    bo (gR M56 p0 13 15) fun v69 =>
    bo (aI M56 v69 14 ((512 * p1) + p3)) fun v79 =>
    bo (wB M56 v58 ((512 * p2) + p3) v79) fun M80 =>
    bo (gR M80 p0 13 16) fun v82 =>
    bo (gR M80 p0 13 16) fun v93 =>
    bo (aI M80 v93 15 ((512 * p1) + p3)) fun v103 =>
    bo (wI M80 v82 ((512 * p2) + p3) v103) fun M104 =>
    bn (p3 + 1) fun v105 =>
    k26 ((p0, p1, p2, v105)) M104
  )
def fX13_copyTable_L26 (p0 : Option Nat) (p1 : Int32) (p2 : Int32) (p3 : Int32) (M : Mem) : Option (Unit × Mem) :=
  lp (fun k26 (a : Option Nat × Int32 × Int32 × Int32) M => fX13_copyTable_B26 k26 a.1 a.2.1 a.2.2.1 a.2.2.2 M) FU ((p0, p1, p2, p3)) M
def fX13_copyTable (a0 : Option Nat) (a1 : Int32) (a2 : Int32) (M : Mem) : Option (Unit × Mem) :=
  bo (gR M a0 13 18) fun v1 =>
  bo (gR M a0 13 18) fun v6 =>
  bo (aI M v6 18 a1) fun v10 =>
  bo (wZ M v1 a2 v10) fun M11 =>
  bo (gR M11 a0 13 17) fun v13 =>
  bo (gR M11 a0 13 17) fun v18 =>
  bo (aI M11 v18 15 a1) fun v22 =>
  bo (wI M11 v13 a2 v22) fun M23 =>
  bn (0) fun v25 =>
  fX13_copyTable_L26 a0 a1 a2 v25 M23
def rmX13_copyTable : Room := { frames := 0, cells := 0, slots := 0, locals := 0 }
set_option maxRecDepth 100000 in
set_option maxHeartbeats 4000000 in
theorem ctX13_copyTable (l : Launch) (x : Cx) (a0 : Option Nat) (a1 : Int32) (a2 : Int32) (M : Mem) (v : Unit) (N : Mem) (h : fX13_copyTable a0 a1 a2 M = some (v, N)) : CT l yX13_copyTable cX13_copyTable 4 (none) rmX13_copyTable x [rv x a0, .int a1, .int a2] M none N := by
  refine ct_mk (enc := fun _ : Unit => none) (li := [(1, a1), (2, a2)]) (ll := []) (lr := [(0, a0)]) (by decide +kernel) (by simp [lg_sl, rv_cat, cat_int, cat_long]) (by simp [flat, lv_args, rv_cat, cat_int, cat_long]) h ?_
  intro p e s m args below meth c E
  have hL26 : ∀ (p0 : Option Nat) (p1 : Int32) (p2 : Int32) (p3 : Int32) (M : Mem), RT p l e rmX13_copyTable s m args below meth c x 4 (QM below args s x (fun _ : Unit => none) rmX13_copyTable.cells rmX13_copyTable.slots) 0 0 (fX13_copyTable_L26 p0 p1 p2 p3 M) 26 [(1, p1), (2, p2), (3, p3)] [] [(0, p0)] [] M := by
    intro p0 p1 p2 p3 M
    refine r_lp (fi := fun a : Option Nat × Int32 × Int32 × Int32 => [(1, a.2.1), (2, a.2.2.1), (3, a.2.2.2)]) (fl := fun a : Option Nat × Int32 × Int32 × Int32 => []) (fr := fun a : Option Nat × Int32 × Int32 × Int32 => [(0, a.1)]) (fs := fun a : Option Nat × Int32 × Int32 × Int32 => []) ?_ FU ((p0, p1, p2, p3)) M
    intro k26 hk26 a M
    obtain ⟨p0, p1, p2, p3⟩ := a
    show RT p l e rmX13_copyTable s m args below meth c x 4 (QM below args s x (fun _ : Unit => none) rmX13_copyTable.cells rmX13_copyTable.slots) 0 0 (fX13_copyTable_B26 k26 p0 p1 p2 p3 M) 26 [(1, p1), (2, p2), (3, p3)] [] [(0, p0)] [] M
    unfold fX13_copyTable_B26
    refine r_iload_n (pc := 26) E dX13_copyTable_26 rfl 2 rfl ?_
    refine r_sipush (pc := 27) (v := 512) E dX13_copyTable_27 (by decide) ?_
    refine r_icmp_ge (pc := 30) (tgt := 111) E dX13_copyTable_30 (by decide) ?_ ?_
    · exact e_void (pc := 111) E dX13_copyTable_111
    · refine r_aload_n (pc := 33) E dX13_copyTable_33 rfl 0 rfl ?_
      refine r_getA (pc := 34) E fd_13_14 wf_RX13_27 dX13_copyTable_34 (fun v34 => ?_)
      refine r_sipush (pc := 37) (v := 512) E dX13_copyTable_37 (by decide) ?_
      refine r_iload_n (pc := 40) E dX13_copyTable_40 rfl 1 rfl ?_
      refine r_imul (pc := 41) E dX13_copyTable_41 ?_
      refine r_iload_n (pc := 42) E dX13_copyTable_42 rfl 2 rfl ?_
      refine r_iadd (pc := 43) E dX13_copyTable_43 ?_
      refine r_aload_n (pc := 44) E dX13_copyTable_44 rfl 0 rfl ?_
      refine r_getA (pc := 45) E fd_13_14 wf_RX13_27 dX13_copyTable_45 (fun v45 => ?_)
      refine r_sipush (pc := 48) (v := 512) E dX13_copyTable_48 (by decide) ?_
      refine r_iload_n (pc := 51) E dX13_copyTable_51 rfl 0 rfl ?_
      refine r_imul (pc := 52) E dX13_copyTable_52 ?_
      refine r_iload_n (pc := 53) E dX13_copyTable_53 rfl 2 rfl ?_
      refine r_iadd (pc := 54) E dX13_copyTable_54 ?_
      refine r_saload (pc := 55) E dX13_copyTable_55 (fun v55 => ?_)
      refine r_sastore (pc := 56) E dX13_copyTable_56 (fun M56 => ?_)
      refine r_aload_n (pc := 57) E dX13_copyTable_57 rfl 0 rfl ?_
      refine r_getA (pc := 58) E fd_13_15 wf_RX13_31 dX13_copyTable_58 (fun v58 => ?_)
      refine r_sipush (pc := 61) (v := 512) E dX13_copyTable_61 (by decide) ?_
      refine r_iload_n (pc := 64) E dX13_copyTable_64 rfl 1 rfl ?_
      refine r_imul (pc := 65) E dX13_copyTable_65 ?_
      refine r_iload_n (pc := 66) E dX13_copyTable_66 rfl 2 rfl ?_
      refine r_iadd (pc := 67) E dX13_copyTable_67 ?_
      refine r_aload_n (pc := 68) E dX13_copyTable_68 rfl 0 rfl ?_
      refine r_getA (pc := 69) E fd_13_15 wf_RX13_31 dX13_copyTable_69 (fun v69 => ?_)
      refine r_sipush (pc := 72) (v := 512) E dX13_copyTable_72 (by decide) ?_
      refine r_iload_n (pc := 75) E dX13_copyTable_75 rfl 0 rfl ?_
      refine r_imul (pc := 76) E dX13_copyTable_76 ?_
      refine r_iload_n (pc := 77) E dX13_copyTable_77 rfl 2 rfl ?_
      refine r_iadd (pc := 78) E dX13_copyTable_78 ?_
      refine r_baload (pc := 79) E dX13_copyTable_79 (fun v79 => ?_)
      refine r_bastore (pc := 80) E dX13_copyTable_80 (fun M80 => ?_)
      refine r_aload_n (pc := 81) E dX13_copyTable_81 rfl 0 rfl ?_
      refine r_getA (pc := 82) E fd_13_16 wf_RX13_34 dX13_copyTable_82 (fun v82 => ?_)
      refine r_sipush (pc := 85) (v := 512) E dX13_copyTable_85 (by decide) ?_
      refine r_iload_n (pc := 88) E dX13_copyTable_88 rfl 1 rfl ?_
      refine r_imul (pc := 89) E dX13_copyTable_89 ?_
      refine r_iload_n (pc := 90) E dX13_copyTable_90 rfl 2 rfl ?_
      refine r_iadd (pc := 91) E dX13_copyTable_91 ?_
      refine r_aload_n (pc := 92) E dX13_copyTable_92 rfl 0 rfl ?_
      refine r_getA (pc := 93) E fd_13_16 wf_RX13_34 dX13_copyTable_93 (fun v93 => ?_)
      refine r_sipush (pc := 96) (v := 512) E dX13_copyTable_96 (by decide) ?_
      refine r_iload_n (pc := 99) E dX13_copyTable_99 rfl 0 rfl ?_
      refine r_imul (pc := 100) E dX13_copyTable_100 ?_
      refine r_iload_n (pc := 101) E dX13_copyTable_101 rfl 2 rfl ?_
      refine r_iadd (pc := 102) E dX13_copyTable_102 ?_
      refine r_iaload (pc := 103) E dX13_copyTable_103 (fun v103 => ?_)
      refine r_iastore (pc := 104) E dX13_copyTable_104 (fun M104 => ?_)
      refine r_iinc (pc := 105) (w := 1) (lf := fun v105 => [(3, v105), (1, p1), (2, p2)]) (ll' := []) (lr' := [(0, p0)]) E dX13_copyTable_105 2 rfl (by decide) (by decide) (fun _ => rfl) rfl rfl (fun v105 => ?_)
      refine r_goto (pc := 108) (tgt := 26) E dX13_copyTable_108 (by decide) ?_
      exact r_sub [1, 2, 0] [] [0] rfl rfl rfl (hk26 ((p0, p1, p2, v105)) _)
  show RT p l e rmX13_copyTable s m args below meth c x 4 (QM below args s x (fun _ : Unit => none) rmX13_copyTable.cells rmX13_copyTable.slots) 0 0 (fX13_copyTable a0 a1 a2 M) 0 [(1, a1), (2, a2)] [] [(0, a0)] [] M
  unfold fX13_copyTable
  refine r_aload_n (pc := 0) E dX13_copyTable_0 rfl 0 rfl ?_
  refine r_getA (pc := 1) E fd_13_18 wf_RX13_40 dX13_copyTable_1 (fun v1 => ?_)
  refine r_iload_n (pc := 4) E dX13_copyTable_4 rfl 1 rfl ?_
  refine r_aload_n (pc := 5) E dX13_copyTable_5 rfl 0 rfl ?_
  refine r_getA (pc := 6) E fd_13_18 wf_RX13_40 dX13_copyTable_6 (fun v6 => ?_)
  refine r_iload_n (pc := 9) E dX13_copyTable_9 rfl 0 rfl ?_
  refine r_zaload (pc := 10) E dX13_copyTable_10 (fun v10 => ?_)
  refine r_zastore (pc := 11) E dX13_copyTable_11 (fun M11 => ?_)
  refine r_aload_n (pc := 12) E dX13_copyTable_12 rfl 0 rfl ?_
  refine r_getA (pc := 13) E fd_13_17 wf_RX13_37 dX13_copyTable_13 (fun v13 => ?_)
  refine r_iload_n (pc := 16) E dX13_copyTable_16 rfl 1 rfl ?_
  refine r_aload_n (pc := 17) E dX13_copyTable_17 rfl 0 rfl ?_
  refine r_getA (pc := 18) E fd_13_17 wf_RX13_37 dX13_copyTable_18 (fun v18 => ?_)
  refine r_iload_n (pc := 21) E dX13_copyTable_21 rfl 0 rfl ?_
  refine r_iaload (pc := 22) E dX13_copyTable_22 (fun v22 => ?_)
  refine r_iastore (pc := 23) E dX13_copyTable_23 (fun M23 => ?_)
  refine r_iconst (pc := 24) (v := 0) E dX13_copyTable_24 (by decide) ?_
  refine r_istore_n (pc := 25) (lf := fun v25 => [(3, v25), (1, a1), (2, a2)]) (lg := fun v25 => []) (lk := fun v25 => [(0, a0)]) E dX13_copyTable_25 rfl (by decide) (fun _ => rfl) (fun _ => rfl) (fun _ => rfl) (fun v25 => ?_)
  exact r_sub [1, 2, 0] [] [0] rfl rfl rfl (hL26 a0 a1 a2 v25 _)
def fX13_noCounts_B2 (k2 : Option Nat × Int32 → Mem → Option (Unit × Mem)) (p0 : Option Nat) (p1 : Int32) (M : Mem) : Option (Unit × Mem) :=
  if 256 ≤ p1 then (
    some ((), M)
  ) else (
    bo (gR M p0 13 12) fun v10 =>
    bo (wI M v10 p1 0) fun M15 =>
    bn (p1 + 1) fun v16 =>
    k2 ((p0, v16)) M15
  )
def fX13_noCounts_L2 (p0 : Option Nat) (p1 : Int32) (M : Mem) : Option (Unit × Mem) :=
  lp (fun k2 (a : Option Nat × Int32) M => fX13_noCounts_B2 k2 a.1 a.2 M) FU ((p0, p1)) M
def fX13_noCounts (a0 : Option Nat) (M : Mem) : Option (Unit × Mem) :=
  bn (0) fun v1 =>
  fX13_noCounts_L2 a0 v1 M
def rmX13_noCounts : Room := { frames := 0, cells := 0, slots := 0, locals := 0 }
set_option maxRecDepth 100000 in
set_option maxHeartbeats 4000000 in
theorem ctX13_noCounts (l : Launch) (x : Cx) (a0 : Option Nat) (M : Mem) (v : Unit) (N : Mem) (h : fX13_noCounts a0 M = some (v, N)) : CT l yX13_noCounts cX13_noCounts 2 (none) rmX13_noCounts x [rv x a0] M none N := by
  refine ct_mk (enc := fun _ : Unit => none) (li := []) (ll := []) (lr := [(0, a0)]) (by decide +kernel) (by simp [lg_sl, rv_cat, cat_int, cat_long]) (by simp [flat, lv_args, rv_cat, cat_int, cat_long]) h ?_
  intro p e s m args below meth c E
  have hL2 : ∀ (p0 : Option Nat) (p1 : Int32) (M : Mem), RT p l e rmX13_noCounts s m args below meth c x 2 (QM below args s x (fun _ : Unit => none) rmX13_noCounts.cells rmX13_noCounts.slots) 0 0 (fX13_noCounts_L2 p0 p1 M) 2 [(1, p1)] [] [(0, p0)] [] M := by
    intro p0 p1 M
    refine r_lp (fi := fun a : Option Nat × Int32 => [(1, a.2)]) (fl := fun a : Option Nat × Int32 => []) (fr := fun a : Option Nat × Int32 => [(0, a.1)]) (fs := fun a : Option Nat × Int32 => []) ?_ FU ((p0, p1)) M
    intro k2 hk2 a M
    obtain ⟨p0, p1⟩ := a
    show RT p l e rmX13_noCounts s m args below meth c x 2 (QM below args s x (fun _ : Unit => none) rmX13_noCounts.cells rmX13_noCounts.slots) 0 0 (fX13_noCounts_B2 k2 p0 p1 M) 2 [(1, p1)] [] [(0, p0)] [] M
    unfold fX13_noCounts_B2
    refine r_iload_n (pc := 2) E dX13_noCounts_2 rfl 0 rfl ?_
    refine r_sipush (pc := 3) (v := 256) E dX13_noCounts_3 (by decide) ?_
    refine r_icmp_ge (pc := 6) (tgt := 22) E dX13_noCounts_6 (by decide) ?_ ?_
    · exact e_void (pc := 22) E dX13_noCounts_22
    · refine r_aload_n (pc := 9) E dX13_noCounts_9 rfl 0 rfl ?_
      refine r_getA (pc := 10) E fd_13_12 wf_RX13_23 dX13_noCounts_10 (fun v10 => ?_)
      refine r_iload_n (pc := 13) E dX13_noCounts_13 rfl 0 rfl ?_
      refine r_iconst (pc := 14) (v := 0) E dX13_noCounts_14 (by decide) ?_
      refine r_iastore (pc := 15) E dX13_noCounts_15 (fun M15 => ?_)
      refine r_iinc (pc := 16) (w := 1) (lf := fun v16 => [(1, v16)]) (ll' := []) (lr' := [(0, p0)]) E dX13_noCounts_16 0 rfl (by decide) (by decide) (fun _ => rfl) rfl rfl (fun v16 => ?_)
      refine r_goto (pc := 19) (tgt := 2) E dX13_noCounts_19 (by decide) ?_
      exact r_sub [0] [] [0] rfl rfl rfl (hk2 ((p0, v16)) _)
  show RT p l e rmX13_noCounts s m args below meth c x 2 (QM below args s x (fun _ : Unit => none) rmX13_noCounts.cells rmX13_noCounts.slots) 0 0 (fX13_noCounts a0 M) 0 [] [] [(0, a0)] [] M
  unfold fX13_noCounts
  refine r_iconst (pc := 0) (v := 0) E dX13_noCounts_0 (by decide) ?_
  refine r_istore_n (pc := 1) (lf := fun v1 => [(1, v1)]) (lg := fun v1 => []) (lk := fun v1 => [(0, a0)]) E dX13_noCounts_1 rfl (by decide) (fun _ => rfl) (fun _ => rfl) (fun _ => rfl) (fun v1 => ?_)
  exact r_sub [0] [] [0] rfl rfl rfl (hL2 a0 v1 _)
def fX13_toldCounts_L48 (M : Mem) : Option (Int32 × Mem) :=
  some ((-1), M)
def fX13_toldCounts_L167 (M : Mem) : Option (Int32 × Mem) :=
  some ((-1), M)
def fX13_toldCounts_B209 (k65 : Option Nat × Int32 × Int32 × Int32 → Mem → Option (Int32 × Mem)) (k209 : Option Nat × Int32 × Int32 × Int32 × Int32 → Mem → Option (Int32 × Mem)) (p0 : Option Nat) (p3 : Int32) (p6 : Int32) (p7 : Int32) (p12 : Int32) (M : Mem) : Option (Int32 × Mem) :=
  if p12 = 3 then (
    bo (chk M p0 13) fun _ => bd (fX13_forward p0 2 M) fun v217 M217 =>
    bn (v217) fun v220 =>
    bo (gI M217 p0 13 9) fun v223 =>
    if v223 = 0 then (
      bn (p7 + v220) fun v236 =>
      k209 ((p0, p3, p6, v236, v220)) M217
    ) else (
      some ((-1), M217)
    )
  ) else (
    k65 ((p0, p3, p6, p7)) M
  )
def fX13_toldCounts_L209 (k65 : Option Nat × Int32 × Int32 × Int32 → Mem → Option (Int32 × Mem)) (p0 : Option Nat) (p3 : Int32) (p6 : Int32) (p7 : Int32) (p12 : Int32) (M : Mem) : Option (Int32 × Mem) :=
  lp (fun k209 (a : Option Nat × Int32 × Int32 × Int32 × Int32) M => fX13_toldCounts_B209 k65 k209 a.1 a.2.1 a.2.2.1 a.2.2.2.1 a.2.2.2.2 M) FU ((p0, p3, p6, p7, p12)) M
def fX13_toldCounts_L207 (k65 : Option Nat × Int32 × Int32 × Int32 → Mem → Option (Int32 × Mem)) (p0 : Option Nat) (p3 : Int32) (p6 : Int32) (p7 : Int32) (q0 : Int32) (M : Mem) : Option (Int32 × Mem) :=
  bn (q0) fun v207 =>
  fX13_toldCounts_L209 k65 p0 p3 p6 p7 v207 M
def fX13_toldCounts_L194 (k65 : Option Nat × Int32 × Int32 × Int32 → Mem → Option (Int32 × Mem)) (p0 : Option Nat) (p3 : Int32) (p7 : Int32) (p11 : Int32) (q0 : Int32) (q1 : Int32) (M : Mem) : Option (Int32 × Mem) :=
  bn (q0 - q1) fun v195 =>
  if p11 = 0 then (
    fX13_toldCounts_L207 k65 p0 p3 v195 p7 3 M
  ) else (
    fX13_toldCounts_L207 k65 p0 p3 v195 p7 0 M
  )
def fX13_toldCounts_L147 (k65 : Option Nat × Int32 × Int32 × Int32 → Mem → Option (Int32 × Mem)) (p0 : Option Nat) (p3 : Int32) (p6 : Int32) (p7 : Int32) (p10 : Int32) (M : Mem) : Option (Int32 × Mem) :=
  bn (p10 - 1) fun v151 =>
  bo (gI M p0 13 9) fun v154 =>
  if v154 = 0 then (
    if v151 ≤ p6 then (
      bo (gR M p0 13 12) fun v170 =>
      bo (wI M v170 p7 v151) fun M177 =>
      bn (p7 + 1) fun v178 =>
      if 0 ≤ v151 then (
        fX13_toldCounts_L194 k65 p0 p3 v178 v151 p6 v151 M177
      ) else (
        fX13_toldCounts_L194 k65 p0 p3 v178 v151 p6 1 M177
      )
    ) else (
      fX13_toldCounts_L167 M
    )
  ) else (
    fX13_toldCounts_L167 M
  )
def fX13_toldCounts_B65 (k65 : Option Nat × Int32 × Int32 × Int32 → Mem → Option (Int32 × Mem)) (p0 : Option Nat) (p3 : Int32) (p6 : Int32) (p7 : Int32) (M : Mem) : Option (Int32 × Mem) :=
  if p6 ≤ 0 then (
    bo (gI M p0 13 7) fun v245 =>
    some (shrI (v245 + 7) 3, M)
  ) else (
    if p7 ≤ p3 then (
      bd (fX13_log (p6 + 1) M) fun v82 M82 =>
      bn (v82 + 1) fun v87 =>
      bn (((shlI 1 v87) - 2) - p6) fun v98 =>
      bo (chk M82 p0 13) fun _ => bd (fX13_forward p0 (v87 - 1) M82) fun v105 M105 =>
      bn (v105) fun v108 =>
      bo (gI M105 p0 13 9) fun v111 =>
      if v111 = 0 then (
        if v108 < v98 then (
          fX13_toldCounts_L147 k65 p0 p3 p6 p7 v108 M105
        ) else (
          bo (chk M105 p0 13) fun _ => bd (fX13_forward p0 1 M105) fun v126 M126 =>
          if v126 = 1 then (
            bn (v108 + ((shlI 1 (v87 - 1)) - v98)) fun v145 =>
            fX13_toldCounts_L147 k65 p0 p3 p6 p7 v145 M126
          ) else (
            fX13_toldCounts_L147 k65 p0 p3 p6 p7 v108 M126
          )
        )
      ) else (
        fX13_toldCounts_L147 k65 p0 p3 p6 p7 v108 M105
      )
    ) else (
      some ((-1), M)
    )
  )
def fX13_toldCounts_L65 (p0 : Option Nat) (p3 : Int32) (p6 : Int32) (p7 : Int32) (M : Mem) : Option (Int32 × Mem) :=
  lp (fun k65 (a : Option Nat × Int32 × Int32 × Int32) M => fX13_toldCounts_B65 k65 a.1 a.2.1 a.2.2.1 a.2.2.2 M) FU ((p0, p3, p6, p7)) M
def fX13_toldCounts (a0 : Option Nat) (a1 : Int32) (a2 : Int32) (a3 : Int32) (a4 : Int32) (M : Mem) : Option (Int32 × Mem) :=
  bo (chk M a0 13) fun _ => bd (fX13_noCounts a0 M) fun v1 M1 =>
  bo (pI M1 a0 13 7 (8 * a1)) fun M9 =>
  bo (pI M9 a0 13 8 (8 * a2)) fun M17 =>
  bo (pZ M17 a0 13 9 0) fun M22 =>
  bo (chk M22 a0 13) fun _ => bd (fX13_forward a0 4 M22) fun v28 M28 =>
  bn (5 + v28) fun v32 =>
  bo (gI M28 a0 13 9) fun v35 =>
  if v35 = 0 then (
    if v32 ≤ a4 then (
      bo (pI M28 a0 13 13 v32) fun M53 =>
      bn (shlI 1 v32) fun v60 =>
      bn (0) fun v63 =>
      fX13_toldCounts_L65 a0 a3 v60 v63 M53
    ) else (
      fX13_toldCounts_L48 M28
    )
  ) else (
    fX13_toldCounts_L48 M28
  )
def rmX13_toldCounts : Room := { frames := 1, cells := 0, slots := 0, locals := 23 }
set_option maxRecDepth 100000 in
set_option maxHeartbeats 4000000 in
theorem ctX13_toldCounts (l : Launch) (x : Cx) (a0 : Option Nat) (a1 : Int32) (a2 : Int32) (a3 : Int32) (a4 : Int32) (M : Mem) (v : Int32) (N : Mem) (h : fX13_toldCounts a0 a1 a2 a3 a4 M = some (v, N)) : CT l yX13_toldCounts cX13_toldCounts 13 (some (FieldType.int)) rmX13_toldCounts x [rv x a0, .int a1, .int a2, .int a3, .int a4] M (some (.int v)) N := by
  refine ct_mk (enc := fun v : Int32 => some (.int v)) (li := [(1, a1), (2, a2), (3, a3), (4, a4)]) (ll := []) (lr := [(0, a0)]) (by decide +kernel) (by simp [lg_sl, rv_cat, cat_int, cat_long]) (by simp [flat, lv_args, rv_cat, cat_int, cat_long]) h ?_
  intro p e s m args below meth c E
  have hL48 : ∀ (M : Mem), RT p l e rmX13_toldCounts s m args below meth c x 13 (QM below args s x (fun v : Int32 => some (.int v)) rmX13_toldCounts.cells rmX13_toldCounts.slots) 0 0 (fX13_toldCounts_L48 M) 48 [] [] [] [] M := by
    intro M
    unfold fX13_toldCounts_L48
    refine r_iconst (pc := 48) (v := (-1)) E dX13_toldCounts_48 (by decide) ?_
    exact e_int (pc := 49) E dX13_toldCounts_49
  have hL167 : ∀ (M : Mem), RT p l e rmX13_toldCounts s m args below meth c x 13 (QM below args s x (fun v : Int32 => some (.int v)) rmX13_toldCounts.cells rmX13_toldCounts.slots) 0 0 (fX13_toldCounts_L167 M) 167 [] [] [] [] M := by
    intro M
    unfold fX13_toldCounts_L167
    refine r_iconst (pc := 167) (v := (-1)) E dX13_toldCounts_167 (by decide) ?_
    exact e_int (pc := 168) E dX13_toldCounts_168
  have hL209 : ∀ (k65 : Option Nat × Int32 × Int32 × Int32 → Mem → Option (Int32 × Mem)) (hk65 : ∀ a M, RT p l e rmX13_toldCounts s m args below meth c x 13 (QM below args s x (fun v : Int32 => some (.int v)) rmX13_toldCounts.cells rmX13_toldCounts.slots) 0 0 (k65 a M) 65 [(3, a.2.1), (6, a.2.2.1), (7, a.2.2.2)] [] [(0, a.1)] [] M) (p0 : Option Nat) (p3 : Int32) (p6 : Int32) (p7 : Int32) (p12 : Int32) (M : Mem), RT p l e rmX13_toldCounts s m args below meth c x 13 (QM below args s x (fun v : Int32 => some (.int v)) rmX13_toldCounts.cells rmX13_toldCounts.slots) 0 0 (fX13_toldCounts_L209 k65 p0 p3 p6 p7 p12 M) 209 [(3, p3), (6, p6), (7, p7), (12, p12)] [] [(0, p0)] [] M := by
    intro k65 hk65 p0 p3 p6 p7 p12 M
    refine r_lp (fi := fun a : Option Nat × Int32 × Int32 × Int32 × Int32 => [(3, a.2.1), (6, a.2.2.1), (7, a.2.2.2.1), (12, a.2.2.2.2)]) (fl := fun a : Option Nat × Int32 × Int32 × Int32 × Int32 => []) (fr := fun a : Option Nat × Int32 × Int32 × Int32 × Int32 => [(0, a.1)]) (fs := fun a : Option Nat × Int32 × Int32 × Int32 × Int32 => []) ?_ FU ((p0, p3, p6, p7, p12)) M
    intro k209 hk209 a M
    obtain ⟨p0, p3, p6, p7, p12⟩ := a
    show RT p l e rmX13_toldCounts s m args below meth c x 13 (QM below args s x (fun v : Int32 => some (.int v)) rmX13_toldCounts.cells rmX13_toldCounts.slots) 0 0 (fX13_toldCounts_B209 k65 k209 p0 p3 p6 p7 p12 M) 209 [(3, p3), (6, p6), (7, p7), (12, p12)] [] [(0, p0)] [] M
    unfold fX13_toldCounts_B209
    refine r_iload (pc := 209) E dX13_toldCounts_209 3 rfl ?_
    refine r_iconst (pc := 211) (v := 3) E dX13_toldCounts_211 (by decide) ?_
    refine r_icmp_ne (pc := 212) (tgt := 241) E dX13_toldCounts_212 (by decide) ?_ ?_
    · refine r_goto (pc := 241) (tgt := 65) E dX13_toldCounts_241 (by decide) ?_
      exact r_sub [0, 1, 2] [] [0] rfl rfl rfl (hk65 ((p0, p3, p6, p7)) _)
    · refine r_aload_n (pc := 215) E dX13_toldCounts_215 rfl 0 rfl ?_
      refine r_iconst (pc := 216) (v := 2) E dX13_toldCounts_216 (by decide) ?_
      refine r_kVi (pc := 217) (As := [.int 2]) (rest := []) E wc_X13_forward wi_RX13 hd_X13_forward (ci := 13) rfl wl_RX13_216 wn_X13_forward ws_X13_forward dX13_toldCounts_217 (by decide) (Nat.le_of_ble_eq_true rfl) ⟨rfl, rfl⟩ (ctX13_forward l x _ _ _) rfl (fun v217 M217 => ?_)
      refine r_istore (pc := 220) (lf := fun v220 => [(12, v220), (3, p3), (6, p6), (7, p7)]) (lg := fun v220 => []) (lk := fun v220 => [(0, p0)]) E dX13_toldCounts_220 (by decide) (fun _ => rfl) (fun _ => rfl) (fun _ => rfl) (fun v220 => ?_)
      refine r_aload_n (pc := 222) E dX13_toldCounts_222 rfl 0 rfl ?_
      refine r_getZ (pc := 223) E fd_13_9 wf_RX13_196 dX13_toldCounts_223 (fun v223 => ?_)
      refine r_if_eq (pc := 226) (tgt := 231) E dX13_toldCounts_226 (by decide) ?_ ?_
      · refine r_iload (pc := 231) E dX13_toldCounts_231 3 rfl ?_
        refine r_iload (pc := 233) E dX13_toldCounts_233 0 rfl ?_
        refine r_iadd (pc := 235) E dX13_toldCounts_235 ?_
        refine r_istore (pc := 236) (lf := fun v236 => [(7, v236), (12, v220), (3, p3), (6, p6)]) (lg := fun v236 => []) (lk := fun v236 => [(0, p0)]) E dX13_toldCounts_236 (by decide) (fun _ => rfl) (fun _ => rfl) (fun _ => rfl) (fun v236 => ?_)
        refine r_goto (pc := 238) (tgt := 209) E dX13_toldCounts_238 (by decide) ?_
        exact r_sub [2, 3, 0, 1] [] [0] rfl rfl rfl (hk209 ((p0, p3, p6, v236, v220)) _)
      · refine r_iconst (pc := 229) (v := (-1)) E dX13_toldCounts_229 (by decide) ?_
        exact e_int (pc := 230) E dX13_toldCounts_230
  have hL207 : ∀ (k65 : Option Nat × Int32 × Int32 × Int32 → Mem → Option (Int32 × Mem)) (hk65 : ∀ a M, RT p l e rmX13_toldCounts s m args below meth c x 13 (QM below args s x (fun v : Int32 => some (.int v)) rmX13_toldCounts.cells rmX13_toldCounts.slots) 0 0 (k65 a M) 65 [(3, a.2.1), (6, a.2.2.1), (7, a.2.2.2)] [] [(0, a.1)] [] M) (p0 : Option Nat) (p3 : Int32) (p6 : Int32) (p7 : Int32) (q0 : Int32) (M : Mem), RT p l e rmX13_toldCounts s m args below meth c x 13 (QM below args s x (fun v : Int32 => some (.int v)) rmX13_toldCounts.cells rmX13_toldCounts.slots) 0 0 (fX13_toldCounts_L207 k65 p0 p3 p6 p7 q0 M) 207 [(3, p3), (6, p6), (7, p7)] [] [(0, p0)] [.int q0] M := by
    intro k65 hk65 p0 p3 p6 p7 q0 M
    unfold fX13_toldCounts_L207
    refine r_istore (pc := 207) (lf := fun v207 => [(12, v207), (3, p3), (6, p6), (7, p7)]) (lg := fun v207 => []) (lk := fun v207 => [(0, p0)]) E dX13_toldCounts_207 (by decide) (fun _ => rfl) (fun _ => rfl) (fun _ => rfl) (fun v207 => ?_)
    exact r_sub [1, 2, 3, 0] [] [0] rfl rfl rfl (hL209 k65 hk65 p0 p3 p6 p7 v207 _)
  have hL194 : ∀ (k65 : Option Nat × Int32 × Int32 × Int32 → Mem → Option (Int32 × Mem)) (hk65 : ∀ a M, RT p l e rmX13_toldCounts s m args below meth c x 13 (QM below args s x (fun v : Int32 => some (.int v)) rmX13_toldCounts.cells rmX13_toldCounts.slots) 0 0 (k65 a M) 65 [(3, a.2.1), (6, a.2.2.1), (7, a.2.2.2)] [] [(0, a.1)] [] M) (p0 : Option Nat) (p3 : Int32) (p7 : Int32) (p11 : Int32) (q0 : Int32) (q1 : Int32) (M : Mem), RT p l e rmX13_toldCounts s m args below meth c x 13 (QM below args s x (fun v : Int32 => some (.int v)) rmX13_toldCounts.cells rmX13_toldCounts.slots) 0 0 (fX13_toldCounts_L194 k65 p0 p3 p7 p11 q0 q1 M) 194 [(3, p3), (7, p7), (11, p11)] [] [(0, p0)] [.int q1, .int q0] M := by
    intro k65 hk65 p0 p3 p7 p11 q0 q1 M
    unfold fX13_toldCounts_L194
    refine r_isub (pc := 194) E dX13_toldCounts_194 ?_
    refine r_istore (pc := 195) (lf := fun v195 => [(6, v195), (3, p3), (7, p7), (11, p11)]) (lg := fun v195 => []) (lk := fun v195 => [(0, p0)]) E dX13_toldCounts_195 (by decide) (fun _ => rfl) (fun _ => rfl) (fun _ => rfl) (fun v195 => ?_)
    refine r_iload (pc := 197) E dX13_toldCounts_197 3 rfl ?_
    refine r_if_ne (pc := 199) (tgt := 206) E dX13_toldCounts_199 (by decide) ?_ ?_
    · refine r_iconst (pc := 206) (v := 0) E dX13_toldCounts_206 (by decide) ?_
      exact r_sub [1, 0, 2] [] [0] rfl rfl rfl (hL207 k65 hk65 p0 p3 v195 p7 0 _)
    · refine r_iconst (pc := 202) (v := 3) E dX13_toldCounts_202 (by decide) ?_
      refine r_goto (pc := 203) (tgt := 207) E dX13_toldCounts_203 (by decide) ?_
      exact r_sub [1, 0, 2] [] [0] rfl rfl rfl (hL207 k65 hk65 p0 p3 v195 p7 3 _)
  have hL147 : ∀ (k65 : Option Nat × Int32 × Int32 × Int32 → Mem → Option (Int32 × Mem)) (hk65 : ∀ a M, RT p l e rmX13_toldCounts s m args below meth c x 13 (QM below args s x (fun v : Int32 => some (.int v)) rmX13_toldCounts.cells rmX13_toldCounts.slots) 0 0 (k65 a M) 65 [(3, a.2.1), (6, a.2.2.1), (7, a.2.2.2)] [] [(0, a.1)] [] M) (p0 : Option Nat) (p3 : Int32) (p6 : Int32) (p7 : Int32) (p10 : Int32) (M : Mem), RT p l e rmX13_toldCounts s m args below meth c x 13 (QM below args s x (fun v : Int32 => some (.int v)) rmX13_toldCounts.cells rmX13_toldCounts.slots) 0 0 (fX13_toldCounts_L147 k65 p0 p3 p6 p7 p10 M) 147 [(3, p3), (6, p6), (7, p7), (10, p10)] [] [(0, p0)] [] M := by
    intro k65 hk65 p0 p3 p6 p7 p10 M
    unfold fX13_toldCounts_L147
    refine r_iload (pc := 147) E dX13_toldCounts_147 3 rfl ?_
    refine r_iconst (pc := 149) (v := 1) E dX13_toldCounts_149 (by decide) ?_
    refine r_isub (pc := 150) E dX13_toldCounts_150 ?_
    refine r_istore (pc := 151) (lf := fun v151 => [(11, v151), (3, p3), (6, p6), (7, p7), (10, p10)]) (lg := fun v151 => []) (lk := fun v151 => [(0, p0)]) E dX13_toldCounts_151 (by decide) (fun _ => rfl) (fun _ => rfl) (fun _ => rfl) (fun v151 => ?_)
    refine r_aload_n (pc := 153) E dX13_toldCounts_153 rfl 0 rfl ?_
    refine r_getZ (pc := 154) E fd_13_9 wf_RX13_196 dX13_toldCounts_154 (fun v154 => ?_)
    refine r_if_ne (pc := 157) (tgt := 167) E dX13_toldCounts_157 (by decide) ?_ ?_
    · exact r_sub [] [] [] rfl rfl rfl (hL167 _)
    · refine r_iload (pc := 160) E dX13_toldCounts_160 0 rfl ?_
      refine r_iload (pc := 162) E dX13_toldCounts_162 2 rfl ?_
      refine r_icmp_le (pc := 164) (tgt := 169) E dX13_toldCounts_164 (by decide) ?_ ?_
      · refine r_aload_n (pc := 169) E dX13_toldCounts_169 rfl 0 rfl ?_
        refine r_getA (pc := 170) E fd_13_12 wf_RX13_23 dX13_toldCounts_170 (fun v170 => ?_)
        refine r_iload (pc := 173) E dX13_toldCounts_173 3 rfl ?_
        refine r_iload (pc := 175) E dX13_toldCounts_175 0 rfl ?_
        refine r_iastore (pc := 177) E dX13_toldCounts_177 (fun M177 => ?_)
        refine r_iinc (pc := 178) (w := 1) (lf := fun v178 => [(7, v178), (11, v151), (3, p3), (6, p6), (10, p10)]) (ll' := []) (lr' := [(0, p0)]) E dX13_toldCounts_178 3 rfl (by decide) (by decide) (fun _ => rfl) rfl rfl (fun v178 => ?_)
        refine r_iload (pc := 181) E dX13_toldCounts_181 3 rfl ?_
        refine r_iload (pc := 183) E dX13_toldCounts_183 1 rfl ?_
        refine r_if_ge (pc := 185) (tgt := 192) E dX13_toldCounts_185 (by decide) ?_ ?_
        · refine r_iload (pc := 192) E dX13_toldCounts_192 1 rfl ?_
          exact r_sub [2, 0, 1] [] [0] rfl rfl rfl (hL194 k65 hk65 p0 p3 v178 v151 p6 v151 _)
        · refine r_iconst (pc := 188) (v := 1) E dX13_toldCounts_188 (by decide) ?_
          refine r_goto (pc := 189) (tgt := 194) E dX13_toldCounts_189 (by decide) ?_
          exact r_sub [2, 0, 1] [] [0] rfl rfl rfl (hL194 k65 hk65 p0 p3 v178 v151 p6 1 _)
      · exact r_sub [] [] [] rfl rfl rfl (hL167 _)
  have hL65 : ∀ (p0 : Option Nat) (p3 : Int32) (p6 : Int32) (p7 : Int32) (M : Mem), RT p l e rmX13_toldCounts s m args below meth c x 13 (QM below args s x (fun v : Int32 => some (.int v)) rmX13_toldCounts.cells rmX13_toldCounts.slots) 0 0 (fX13_toldCounts_L65 p0 p3 p6 p7 M) 65 [(3, p3), (6, p6), (7, p7)] [] [(0, p0)] [] M := by
    intro p0 p3 p6 p7 M
    refine r_lp (fi := fun a : Option Nat × Int32 × Int32 × Int32 => [(3, a.2.1), (6, a.2.2.1), (7, a.2.2.2)]) (fl := fun a : Option Nat × Int32 × Int32 × Int32 => []) (fr := fun a : Option Nat × Int32 × Int32 × Int32 => [(0, a.1)]) (fs := fun a : Option Nat × Int32 × Int32 × Int32 => []) ?_ FU ((p0, p3, p6, p7)) M
    intro k65 hk65 a M
    obtain ⟨p0, p3, p6, p7⟩ := a
    show RT p l e rmX13_toldCounts s m args below meth c x 13 (QM below args s x (fun v : Int32 => some (.int v)) rmX13_toldCounts.cells rmX13_toldCounts.slots) 0 0 (fX13_toldCounts_B65 k65 p0 p3 p6 p7 M) 65 [(3, p3), (6, p6), (7, p7)] [] [(0, p0)] [] M
    unfold fX13_toldCounts_B65
    refine r_iload (pc := 65) E dX13_toldCounts_65 1 rfl ?_
    refine r_if_le (pc := 67) (tgt := 244) E dX13_toldCounts_67 (by decide) ?_ ?_
    · refine r_aload_n (pc := 244) E dX13_toldCounts_244 rfl 0 rfl ?_
      refine r_getI (pc := 245) E fd_13_7 wf_RX13_193 dX13_toldCounts_245 (fun v245 => ?_)
      refine r_bipush (pc := 248) (v := 7) E dX13_toldCounts_248 (by decide) ?_
      refine r_iadd (pc := 250) E dX13_toldCounts_250 ?_
      refine r_iconst (pc := 251) (v := 3) E dX13_toldCounts_251 (by decide) ?_
      refine r_ishr (pc := 252) E dX13_toldCounts_252 ?_
      exact e_int (pc := 253) E dX13_toldCounts_253
    · refine r_iload (pc := 70) E dX13_toldCounts_70 2 rfl ?_
      refine r_iload_n (pc := 72) E dX13_toldCounts_72 rfl 0 rfl ?_
      refine r_icmp_le (pc := 73) (tgt := 78) E dX13_toldCounts_73 (by decide) ?_ ?_
      · refine r_iload (pc := 78) E dX13_toldCounts_78 1 rfl ?_
        refine r_iconst (pc := 80) (v := 1) E dX13_toldCounts_80 (by decide) ?_
        refine r_iadd (pc := 81) E dX13_toldCounts_81 ?_
        refine r_kSi (pc := 82) (As := [.int (p6 + 1)]) (rest := []) E wc_X13_log wi_RX13 hd_X13_log wl_RX13_206 wt_X13_log dX13_toldCounts_82 (by decide) (Nat.le_of_ble_eq_true rfl) ⟨rfl, rfl⟩ (ctX13_log l x _ _) rfl (fun v82 M82 => ?_)
        refine r_iconst (pc := 85) (v := 1) E dX13_toldCounts_85 (by decide) ?_
        refine r_iadd (pc := 86) E dX13_toldCounts_86 ?_
        refine r_istore (pc := 87) (lf := fun v87 => [(8, v87), (3, p3), (6, p6), (7, p7)]) (lg := fun v87 => []) (lk := fun v87 => [(0, p0)]) E dX13_toldCounts_87 (by decide) (fun _ => rfl) (fun _ => rfl) (fun _ => rfl) (fun v87 => ?_)
        refine r_iconst (pc := 89) (v := 1) E dX13_toldCounts_89 (by decide) ?_
        refine r_iload (pc := 90) E dX13_toldCounts_90 0 rfl ?_
        refine r_ishl (pc := 92) E dX13_toldCounts_92 ?_
        refine r_iconst (pc := 93) (v := 2) E dX13_toldCounts_93 (by decide) ?_
        refine r_isub (pc := 94) E dX13_toldCounts_94 ?_
        refine r_iload (pc := 95) E dX13_toldCounts_95 2 rfl ?_
        refine r_isub (pc := 97) E dX13_toldCounts_97 ?_
        refine r_istore (pc := 98) (lf := fun v98 => [(9, v98), (8, v87), (3, p3), (6, p6), (7, p7)]) (lg := fun v98 => []) (lk := fun v98 => [(0, p0)]) E dX13_toldCounts_98 (by decide) (fun _ => rfl) (fun _ => rfl) (fun _ => rfl) (fun v98 => ?_)
        refine r_aload_n (pc := 100) E dX13_toldCounts_100 rfl 0 rfl ?_
        refine r_iload (pc := 101) E dX13_toldCounts_101 1 rfl ?_
        refine r_iconst (pc := 103) (v := 1) E dX13_toldCounts_103 (by decide) ?_
        refine r_isub (pc := 104) E dX13_toldCounts_104 ?_
        refine r_kVi (pc := 105) (As := [.int (v87 - 1)]) (rest := []) E wc_X13_forward wi_RX13 hd_X13_forward (ci := 13) rfl wl_RX13_216 wn_X13_forward ws_X13_forward dX13_toldCounts_105 (by decide) (Nat.le_of_ble_eq_true rfl) ⟨rfl, rfl⟩ (ctX13_forward l x _ _ _) rfl (fun v105 M105 => ?_)
        refine r_istore (pc := 108) (lf := fun v108 => [(10, v108), (9, v98), (8, v87), (3, p3), (6, p6), (7, p7)]) (lg := fun v108 => []) (lk := fun v108 => [(0, p0)]) E dX13_toldCounts_108 (by decide) (fun _ => rfl) (fun _ => rfl) (fun _ => rfl) (fun v108 => ?_)
        refine r_aload_n (pc := 110) E dX13_toldCounts_110 rfl 0 rfl ?_
        refine r_getZ (pc := 111) E fd_13_9 wf_RX13_196 dX13_toldCounts_111 (fun v111 => ?_)
        refine r_if_ne (pc := 114) (tgt := 147) E dX13_toldCounts_114 (by decide) ?_ ?_
        · exact r_sub [3, 4, 5, 0] [] [0] rfl rfl rfl (hL147 k65 hk65 p0 p3 p6 p7 v108 _)
        · refine r_iload (pc := 117) E dX13_toldCounts_117 0 rfl ?_
          refine r_iload (pc := 119) E dX13_toldCounts_119 1 rfl ?_
          refine r_icmp_lt (pc := 121) (tgt := 147) E dX13_toldCounts_121 (by decide) ?_ ?_
          · exact r_sub [3, 4, 5, 0] [] [0] rfl rfl rfl (hL147 k65 hk65 p0 p3 p6 p7 v108 _)
          · refine r_aload_n (pc := 124) E dX13_toldCounts_124 rfl 0 rfl ?_
            refine r_iconst (pc := 125) (v := 1) E dX13_toldCounts_125 (by decide) ?_
            refine r_kVi (pc := 126) (As := [.int 1]) (rest := []) E wc_X13_forward wi_RX13 hd_X13_forward (ci := 13) rfl wl_RX13_216 wn_X13_forward ws_X13_forward dX13_toldCounts_126 (by decide) (Nat.le_of_ble_eq_true rfl) ⟨rfl, rfl⟩ (ctX13_forward l x _ _ _) rfl (fun v126 M126 => ?_)
            refine r_iconst (pc := 129) (v := 1) E dX13_toldCounts_129 (by decide) ?_
            refine r_icmp_ne (pc := 130) (tgt := 147) E dX13_toldCounts_130 (by decide) ?_ ?_
            · exact r_sub [3, 4, 5, 0] [] [0] rfl rfl rfl (hL147 k65 hk65 p0 p3 p6 p7 v108 _)
            · refine r_iload (pc := 133) E dX13_toldCounts_133 0 rfl ?_
              refine r_iconst (pc := 135) (v := 1) E dX13_toldCounts_135 (by decide) ?_
              refine r_iload (pc := 136) E dX13_toldCounts_136 2 rfl ?_
              refine r_iconst (pc := 138) (v := 1) E dX13_toldCounts_138 (by decide) ?_
              refine r_isub (pc := 139) E dX13_toldCounts_139 ?_
              refine r_ishl (pc := 140) E dX13_toldCounts_140 ?_
              refine r_iload (pc := 141) E dX13_toldCounts_141 1 rfl ?_
              refine r_isub (pc := 143) E dX13_toldCounts_143 ?_
              refine r_iadd (pc := 144) E dX13_toldCounts_144 ?_
              refine r_istore (pc := 145) (lf := fun v145 => [(10, v145), (9, v98), (8, v87), (3, p3), (6, p6), (7, p7)]) (lg := fun v145 => []) (lk := fun v145 => [(0, p0)]) E dX13_toldCounts_145 (by decide) (fun _ => rfl) (fun _ => rfl) (fun _ => rfl) (fun v145 => ?_)
              exact r_sub [3, 4, 5, 0] [] [0] rfl rfl rfl (hL147 k65 hk65 p0 p3 p6 p7 v145 _)
      · refine r_iconst (pc := 76) (v := (-1)) E dX13_toldCounts_76 (by decide) ?_
        exact e_int (pc := 77) E dX13_toldCounts_77
  show RT p l e rmX13_toldCounts s m args below meth c x 13 (QM below args s x (fun v : Int32 => some (.int v)) rmX13_toldCounts.cells rmX13_toldCounts.slots) 0 0 (fX13_toldCounts a0 a1 a2 a3 a4 M) 0 [(1, a1), (2, a2), (3, a3), (4, a4)] [] [(0, a0)] [] M
  unfold fX13_toldCounts
  refine r_aload_n (pc := 0) E dX13_toldCounts_0 rfl 0 rfl ?_
  refine r_kVv (pc := 1) (As := []) (rest := []) E wc_X13_noCounts wi_RX13 hd_X13_noCounts (ci := 13) rfl wl_RX13_213 wn_X13_noCounts ws_X13_noCounts dX13_toldCounts_1 (by decide) (Nat.le_of_ble_eq_true rfl) ⟨rfl, rfl⟩ (ctX13_noCounts l x _ _) rfl (fun v1 M1 => ?_)
  refine r_aload_n (pc := 4) E dX13_toldCounts_4 rfl 0 rfl ?_
  refine r_bipush (pc := 5) (v := 8) E dX13_toldCounts_5 (by decide) ?_
  refine r_iload_n (pc := 7) E dX13_toldCounts_7 rfl 0 rfl ?_
  refine r_imul (pc := 8) E dX13_toldCounts_8 ?_
  refine r_putI (pc := 9) E fd_13_7 wf_RX13_193 dX13_toldCounts_9 (Or.inl rfl) (fun M9 => ?_)
  refine r_aload_n (pc := 12) E dX13_toldCounts_12 rfl 0 rfl ?_
  refine r_bipush (pc := 13) (v := 8) E dX13_toldCounts_13 (by decide) ?_
  refine r_iload_n (pc := 15) E dX13_toldCounts_15 rfl 1 rfl ?_
  refine r_imul (pc := 16) E dX13_toldCounts_16 ?_
  refine r_putI (pc := 17) E fd_13_8 wf_RX13_190 dX13_toldCounts_17 (Or.inl rfl) (fun M17 => ?_)
  refine r_aload_n (pc := 20) E dX13_toldCounts_20 rfl 0 rfl ?_
  refine r_iconst (pc := 21) (v := 0) E dX13_toldCounts_21 (by decide) ?_
  refine r_putZ (pc := 22) E fd_13_9 wf_RX13_196 dX13_toldCounts_22 (Or.inl rfl) (fun M22 => ?_)
  refine r_iconst (pc := 25) (v := 5) E dX13_toldCounts_25 (by decide) ?_
  refine r_aload_n (pc := 26) E dX13_toldCounts_26 rfl 0 rfl ?_
  refine r_iconst (pc := 27) (v := 4) E dX13_toldCounts_27 (by decide) ?_
  refine r_kVi (pc := 28) (As := [.int 4]) (rest := [.int 5]) E wc_X13_forward wi_RX13 hd_X13_forward (ci := 13) rfl wl_RX13_216 wn_X13_forward ws_X13_forward dX13_toldCounts_28 (by decide) (Nat.le_of_ble_eq_true rfl) ⟨rfl, rfl⟩ (ctX13_forward l x _ _ _) rfl (fun v28 M28 => ?_)
  refine r_iadd (pc := 31) E dX13_toldCounts_31 ?_
  refine r_istore (pc := 32) (lf := fun v32 => [(5, v32), (1, a1), (2, a2), (3, a3), (4, a4)]) (lg := fun v32 => []) (lk := fun v32 => [(0, a0)]) E dX13_toldCounts_32 (by decide) (fun _ => rfl) (fun _ => rfl) (fun _ => rfl) (fun v32 => ?_)
  refine r_aload_n (pc := 34) E dX13_toldCounts_34 rfl 0 rfl ?_
  refine r_getZ (pc := 35) E fd_13_9 wf_RX13_196 dX13_toldCounts_35 (fun v35 => ?_)
  refine r_if_ne (pc := 38) (tgt := 48) E dX13_toldCounts_38 (by decide) ?_ ?_
  · exact r_sub [] [] [] rfl rfl rfl (hL48 _)
  · refine r_iload (pc := 41) E dX13_toldCounts_41 0 rfl ?_
    refine r_iload (pc := 43) E dX13_toldCounts_43 4 rfl ?_
    refine r_icmp_le (pc := 45) (tgt := 50) E dX13_toldCounts_45 (by decide) ?_ ?_
    · refine r_aload_n (pc := 50) E dX13_toldCounts_50 rfl 0 rfl ?_
      refine r_iload (pc := 51) E dX13_toldCounts_51 0 rfl ?_
      refine r_putI (pc := 53) E fd_13_13 wf_RX13_210 dX13_toldCounts_53 (Or.inl rfl) (fun M53 => ?_)
      refine r_iconst (pc := 56) (v := 1) E dX13_toldCounts_56 (by decide) ?_
      refine r_iload (pc := 57) E dX13_toldCounts_57 0 rfl ?_
      refine r_ishl (pc := 59) E dX13_toldCounts_59 ?_
      refine r_istore (pc := 60) (lf := fun v60 => [(6, v60), (5, v32), (1, a1), (2, a2), (3, a3), (4, a4)]) (lg := fun v60 => []) (lk := fun v60 => [(0, a0)]) E dX13_toldCounts_60 (by decide) (fun _ => rfl) (fun _ => rfl) (fun _ => rfl) (fun v60 => ?_)
      refine r_iconst (pc := 62) (v := 0) E dX13_toldCounts_62 (by decide) ?_
      refine r_istore (pc := 63) (lf := fun v63 => [(7, v63), (6, v60), (5, v32), (1, a1), (2, a2), (3, a3), (4, a4)]) (lg := fun v63 => []) (lk := fun v63 => [(0, a0)]) E dX13_toldCounts_63 (by decide) (fun _ => rfl) (fun _ => rfl) (fun _ => rfl) (fun v63 => ?_)
      exact r_sub [5, 1, 0] [] [0] rfl rfl rfl (hL65 a0 a3 v60 v63 _)
    · exact r_sub [] [] [] rfl rfl rfl (hL48 _)
def fX13_mostLog_L12 (q0 : Int32) (M : Mem) : Option (Int32 × Mem) :=
  some (q0, M)
def fX13_mostLog (a0 : Int32) (M : Mem) : Option (Int32 × Mem) :=
  if a0 = 1 then (
    fX13_mostLog_L12 8 M
  ) else (
    fX13_mostLog_L12 9 M
  )
def rmX13_mostLog : Room := { frames := 0, cells := 0, slots := 0, locals := 0 }
set_option maxRecDepth 100000 in
set_option maxHeartbeats 4000000 in
theorem ctX13_mostLog (l : Launch) (x : Cx) (a0 : Int32) (M : Mem) (v : Int32) (N : Mem) (h : fX13_mostLog a0 M = some (v, N)) : CT l yX13_mostLog cX13_mostLog 1 (some (FieldType.int)) rmX13_mostLog x [.int a0] M (some (.int v)) N := by
  refine ct_mk (enc := fun v : Int32 => some (.int v)) (li := [(0, a0)]) (ll := []) (lr := []) (by decide +kernel) (by simp [lg_sl, rv_cat, cat_int, cat_long]) (by simp [flat, lv_args, rv_cat, cat_int, cat_long]) h ?_
  intro p e s m args below meth c E
  have hL12 : ∀ (q0 : Int32) (M : Mem), RT p l e rmX13_mostLog s m args below meth c x 1 (QM below args s x (fun v : Int32 => some (.int v)) rmX13_mostLog.cells rmX13_mostLog.slots) 0 0 (fX13_mostLog_L12 q0 M) 12 [] [] [] [.int q0] M := by
    intro q0 M
    unfold fX13_mostLog_L12
    exact e_int (pc := 12) E dX13_mostLog_12
  show RT p l e rmX13_mostLog s m args below meth c x 1 (QM below args s x (fun v : Int32 => some (.int v)) rmX13_mostLog.cells rmX13_mostLog.slots) 0 0 (fX13_mostLog a0 M) 0 [(0, a0)] [] [] [] M
  unfold fX13_mostLog
  refine r_iload_n (pc := 0) E dX13_mostLog_0 rfl 0 rfl ?_
  refine r_iconst (pc := 1) (v := 1) E dX13_mostLog_1 (by decide) ?_
  refine r_icmp_ne (pc := 2) (tgt := 10) E dX13_mostLog_2 (by decide) ?_ ?_
  · refine r_bipush (pc := 10) (v := 9) E dX13_mostLog_10 (by decide) ?_
    exact r_sub [] [] [] rfl rfl rfl (hL12 9 _)
  · refine r_bipush (pc := 5) (v := 8) E dX13_mostLog_5 (by decide) ?_
    refine r_goto (pc := 7) (tgt := 12) E dX13_mostLog_7 (by decide) ?_
    exact r_sub [] [] [] rfl rfl rfl (hL12 8 _)
def fX13_greatest_L21 (q0 : Int32) (M : Mem) : Option (Int32 × Mem) :=
  some (q0, M)
def fX13_greatest (a0 : Int32) (M : Mem) : Option (Int32 × Mem) :=
  if a0 = 0 then (
    fX13_greatest_L21 35 M
  ) else (
    if a0 = 1 then (
      fX13_greatest_L21 31 M
    ) else (
      fX13_greatest_L21 52 M
    )
  )
def rmX13_greatest : Room := { frames := 0, cells := 0, slots := 0, locals := 0 }
set_option maxRecDepth 100000 in
set_option maxHeartbeats 4000000 in
theorem ctX13_greatest (l : Launch) (x : Cx) (a0 : Int32) (M : Mem) (v : Int32) (N : Mem) (h : fX13_greatest a0 M = some (v, N)) : CT l yX13_greatest cX13_greatest 1 (some (FieldType.int)) rmX13_greatest x [.int a0] M (some (.int v)) N := by
  refine ct_mk (enc := fun v : Int32 => some (.int v)) (li := [(0, a0)]) (ll := []) (lr := []) (by decide +kernel) (by simp [lg_sl, rv_cat, cat_int, cat_long]) (by simp [flat, lv_args, rv_cat, cat_int, cat_long]) h ?_
  intro p e s m args below meth c E
  have hL21 : ∀ (q0 : Int32) (M : Mem), RT p l e rmX13_greatest s m args below meth c x 1 (QM below args s x (fun v : Int32 => some (.int v)) rmX13_greatest.cells rmX13_greatest.slots) 0 0 (fX13_greatest_L21 q0 M) 21 [] [] [] [.int q0] M := by
    intro q0 M
    unfold fX13_greatest_L21
    exact e_int (pc := 21) E dX13_greatest_21
  show RT p l e rmX13_greatest s m args below meth c x 1 (QM below args s x (fun v : Int32 => some (.int v)) rmX13_greatest.cells rmX13_greatest.slots) 0 0 (fX13_greatest a0 M) 0 [(0, a0)] [] [] [] M
  unfold fX13_greatest
  refine r_iload_n (pc := 0) E dX13_greatest_0 rfl 0 rfl ?_
  refine r_if_ne (pc := 1) (tgt := 9) E dX13_greatest_1 (by decide) ?_ ?_
  · refine r_iload_n (pc := 9) E dX13_greatest_9 rfl 0 rfl ?_
    refine r_iconst (pc := 10) (v := 1) E dX13_greatest_10 (by decide) ?_
    refine r_icmp_ne (pc := 11) (tgt := 19) E dX13_greatest_11 (by decide) ?_ ?_
    · refine r_bipush (pc := 19) (v := 52) E dX13_greatest_19 (by decide) ?_
      exact r_sub [] [] [] rfl rfl rfl (hL21 52 _)
    · refine r_bipush (pc := 14) (v := 31) E dX13_greatest_14 (by decide) ?_
      refine r_goto (pc := 16) (tgt := 21) E dX13_greatest_16 (by decide) ?_
      exact r_sub [] [] [] rfl rfl rfl (hL21 31 _)
  · refine r_bipush (pc := 4) (v := 35) E dX13_greatest_4 (by decide) ?_
    refine r_goto (pc := 6) (tgt := 21) E dX13_greatest_6 (by decide) ?_
    exact r_sub [] [] [] rfl rfl rfl (hL21 35 _)
def fX13_defaults_L199 (k21 : Option Nat × Int32 × Int32 × Int32 → Mem → Option (Unit × Mem)) (p0 : Option Nat) (p1 : Int32) (p2 : Int32) (p3 : Int32) (M : Mem) : Option (Unit × Mem) :=
  bn (p3 + 1) fun v199 =>
  k21 ((p0, p1, p2, v199)) M
def fX13_defaults_L198 (k21 : Option Nat × Int32 × Int32 × Int32 → Mem → Option (Unit × Mem)) (p0 : Option Nat) (p1 : Int32) (p2 : Int32) (p3 : Int32) (q0 : Option Nat) (q1 : Int32) (q2 : Int32) (M : Mem) : Option (Unit × Mem) :=
  bo (wI M q0 q1 q2) fun M198 =>
  fX13_defaults_L199 k21 p0 p1 p2 p3 M198
def fX13_defaults_L187 (k21 : Option Nat × Int32 × Int32 × Int32 → Mem → Option (Unit × Mem)) (p0 : Option Nat) (p1 : Int32) (p2 : Int32) (p3 : Int32) (q0 : Option Nat) (q1 : Int32) (M : Mem) : Option (Unit × Mem) :=
  if p3 ≤ 45 then (
    fX13_defaults_L198 k21 p0 p1 p2 p3 q0 q1 1 M
  ) else (
    fX13_defaults_L198 k21 p0 p1 p2 p3 q0 q1 ((-1)) M
  )
def fX13_defaults_L145 (k21 : Option Nat × Int32 × Int32 × Int32 → Mem → Option (Unit × Mem)) (p0 : Option Nat) (p1 : Int32) (p2 : Int32) (p3 : Int32) (q0 : Option Nat) (q1 : Int32) (q2 : Int32) (M : Mem) : Option (Unit × Mem) :=
  bo (wI M q0 q1 q2) fun M145 =>
  fX13_defaults_L199 k21 p0 p1 p2 p3 M145
def fX13_defaults_L144 (k21 : Option Nat × Int32 × Int32 × Int32 → Mem → Option (Unit × Mem)) (p0 : Option Nat) (p1 : Int32) (p2 : Int32) (p3 : Int32) (q0 : Option Nat) (q1 : Int32) (M : Mem) : Option (Unit × Mem) :=
  fX13_defaults_L145 k21 p0 p1 p2 p3 q0 q1 1 M
def fX13_defaults_L104 (k21 : Option Nat × Int32 × Int32 × Int32 → Mem → Option (Unit × Mem)) (p0 : Option Nat) (p1 : Int32) (p2 : Int32) (p3 : Int32) (q0 : Option Nat) (q1 : Int32) (q2 : Int32) (M : Mem) : Option (Unit × Mem) :=
  bo (wI M q0 q1 q2) fun M104 =>
  fX13_defaults_L199 k21 p0 p1 p2 p3 M104
def fX13_defaults_L67 (k21 : Option Nat × Int32 × Int32 × Int32 → Mem → Option (Unit × Mem)) (p0 : Option Nat) (p1 : Int32) (p2 : Int32) (p3 : Int32) (q0 : Option Nat) (q1 : Int32) (M : Mem) : Option (Unit × Mem) :=
  fX13_defaults_L104 k21 p0 p1 p2 p3 q0 q1 3 M
def fX13_defaults_L99 (k21 : Option Nat × Int32 × Int32 × Int32 → Mem → Option (Unit × Mem)) (p0 : Option Nat) (p1 : Int32) (p2 : Int32) (p3 : Int32) (q0 : Option Nat) (q1 : Int32) (M : Mem) : Option (Unit × Mem) :=
  fX13_defaults_L104 k21 p0 p1 p2 p3 q0 q1 1 M
def fX13_defaults_L93 (k21 : Option Nat × Int32 × Int32 × Int32 → Mem → Option (Unit × Mem)) (p0 : Option Nat) (p1 : Int32) (p2 : Int32) (p3 : Int32) (q0 : Option Nat) (q1 : Int32) (M : Mem) : Option (Unit × Mem) :=
  if p3 < 27 then (
    fX13_defaults_L104 k21 p0 p1 p2 p3 q0 q1 2 M
  ) else (
    fX13_defaults_L99 k21 p0 p1 p2 p3 q0 q1 M
  )
def fX13_defaults_L36 (k21 : Option Nat × Int32 × Int32 × Int32 → Mem → Option (Unit × Mem)) (p0 : Option Nat) (p1 : Int32) (p2 : Int32) (p3 : Int32) (q0 : Int32) (q1 : Int32) (M : Mem) : Option (Unit × Mem) :=
  if q1 < q0 then (
    bo (chk M p0 13) fun _ => bd (fX13_table p0 p2 M) fun v207 M207 =>
    some ((), M207)
  ) else (
    if p1 = 0 then (
      bo (gR M p0 13 12) fun v44 =>
      if p3 = 0 then (
        fX13_defaults_L104 k21 p0 p1 p2 p3 v44 p3 4 M
      ) else (
        if p3 = 1 then (
          fX13_defaults_L67 k21 p0 p1 p2 p3 v44 p3 M
        ) else (
          if p3 = 25 then (
            fX13_defaults_L67 k21 p0 p1 p2 p3 v44 p3 M
          ) else (
            if p3 ≤ 31 then (
              if p3 < 13 then (
                fX13_defaults_L93 k21 p0 p1 p2 p3 v44 p3 M
              ) else (
                if p3 ≤ 15 then (
                  fX13_defaults_L99 k21 p0 p1 p2 p3 v44 p3 M
                ) else (
                  fX13_defaults_L93 k21 p0 p1 p2 p3 v44 p3 M
                )
              )
            ) else (
              fX13_defaults_L104 k21 p0 p1 p2 p3 v44 p3 ((-1)) M
            )
          )
        )
      )
    ) else (
      if p1 = 1 then (
        bo (gR M p0 13 12) fun v114 =>
        if p3 ≤ 23 then (
          if p3 < 6 then (
            fX13_defaults_L144 k21 p0 p1 p2 p3 v114 p3 M
          ) else (
            if 8 < p3 then (
              fX13_defaults_L144 k21 p0 p1 p2 p3 v114 p3 M
            ) else (
              fX13_defaults_L145 k21 p0 p1 p2 p3 v114 p3 2 M
            )
          )
        ) else (
          fX13_defaults_L145 k21 p0 p1 p2 p3 v114 p3 ((-1)) M
        )
      ) else (
        bo (gR M p0 13 12) fun v150 =>
        if p3 = 1 then (
          fX13_defaults_L198 k21 p0 p1 p2 p3 v150 p3 4 M
        ) else (
          if p3 = 2 then (
            fX13_defaults_L198 k21 p0 p1 p2 p3 v150 p3 3 M
          ) else (
            if p3 < 3 then (
              fX13_defaults_L187 k21 p0 p1 p2 p3 v150 p3 M
            ) else (
              if 8 < p3 then (
                fX13_defaults_L187 k21 p0 p1 p2 p3 v150 p3 M
              ) else (
                fX13_defaults_L198 k21 p0 p1 p2 p3 v150 p3 2 M
              )
            )
          )
        )
      )
    )
  )
def fX13_defaults_B21 (k21 : Option Nat × Int32 × Int32 × Int32 → Mem → Option (Unit × Mem)) (p0 : Option Nat) (p1 : Int32) (p2 : Int32) (p3 : Int32) (M : Mem) : Option (Unit × Mem) :=
  if p1 = 1 then (
    fX13_defaults_L36 k21 p0 p1 p2 p3 p3 28 M
  ) else (
    bd (fX13_greatest p1 M) fun v33 M33 =>
    fX13_defaults_L36 k21 p0 p1 p2 p3 p3 v33 M33
  )
def fX13_defaults_L21 (p0 : Option Nat) (p1 : Int32) (p2 : Int32) (p3 : Int32) (M : Mem) : Option (Unit × Mem) :=
  lp (fun k21 (a : Option Nat × Int32 × Int32 × Int32) M => fX13_defaults_B21 k21 a.1 a.2.1 a.2.2.1 a.2.2.2 M) FU ((p0, p1, p2, p3)) M
def fX13_defaults_L16 (p0 : Option Nat) (p1 : Int32) (p2 : Int32) (q0 : Option Nat) (q1 : Int32) (M : Mem) : Option (Unit × Mem) :=
  bo (pI M q0 13 13 q1) fun M16 =>
  bn (0) fun v20 =>
  fX13_defaults_L21 p0 p1 p2 v20 M16
def fX13_defaults (a0 : Option Nat) (a1 : Int32) (a2 : Int32) (M : Mem) : Option (Unit × Mem) :=
  bo (chk M a0 13) fun _ => bd (fX13_noCounts a0 M) fun v1 M1 =>
  if a1 = 1 then (
    fX13_defaults_L16 a0 a1 a2 a0 5 M1
  ) else (
    fX13_defaults_L16 a0 a1 a2 a0 6 M1
  )
def rmX13_defaults : Room := { frames := 2, cells := 0, slots := 0, locals := 49 }
set_option maxRecDepth 100000 in
set_option maxHeartbeats 4000000 in
theorem ctX13_defaults (l : Launch) (x : Cx) (a0 : Option Nat) (a1 : Int32) (a2 : Int32) (M : Mem) (v : Unit) (N : Mem) (h : fX13_defaults a0 a1 a2 M = some (v, N)) : CT l yX13_defaults cX13_defaults 4 (none) rmX13_defaults x [rv x a0, .int a1, .int a2] M none N := by
  refine ct_mk (enc := fun _ : Unit => none) (li := [(1, a1), (2, a2)]) (ll := []) (lr := [(0, a0)]) (by decide +kernel) (by simp [lg_sl, rv_cat, cat_int, cat_long]) (by simp [flat, lv_args, rv_cat, cat_int, cat_long]) h ?_
  intro p e s m args below meth c E
  have hL199 : ∀ (k21 : Option Nat × Int32 × Int32 × Int32 → Mem → Option (Unit × Mem)) (hk21 : ∀ a M, RT p l e rmX13_defaults s m args below meth c x 4 (QM below args s x (fun _ : Unit => none) rmX13_defaults.cells rmX13_defaults.slots) 0 0 (k21 a M) 21 [(1, a.2.1), (2, a.2.2.1), (3, a.2.2.2)] [] [(0, a.1)] [] M) (p0 : Option Nat) (p1 : Int32) (p2 : Int32) (p3 : Int32) (M : Mem), RT p l e rmX13_defaults s m args below meth c x 4 (QM below args s x (fun _ : Unit => none) rmX13_defaults.cells rmX13_defaults.slots) 0 0 (fX13_defaults_L199 k21 p0 p1 p2 p3 M) 199 [(1, p1), (2, p2), (3, p3)] [] [(0, p0)] [] M := by
    intro k21 hk21 p0 p1 p2 p3 M
    unfold fX13_defaults_L199
    refine r_iinc (pc := 199) (w := 1) (lf := fun v199 => [(3, v199), (1, p1), (2, p2)]) (ll' := []) (lr' := [(0, p0)]) E dX13_defaults_199 2 rfl (by decide) (by decide) (fun _ => rfl) rfl rfl (fun v199 => ?_)
    refine r_goto (pc := 202) (tgt := 21) E dX13_defaults_202 (by decide) ?_
    exact r_sub [1, 2, 0] [] [0] rfl rfl rfl (hk21 ((p0, p1, p2, v199)) _)
  have hL198 : ∀ (k21 : Option Nat × Int32 × Int32 × Int32 → Mem → Option (Unit × Mem)) (hk21 : ∀ a M, RT p l e rmX13_defaults s m args below meth c x 4 (QM below args s x (fun _ : Unit => none) rmX13_defaults.cells rmX13_defaults.slots) 0 0 (k21 a M) 21 [(1, a.2.1), (2, a.2.2.1), (3, a.2.2.2)] [] [(0, a.1)] [] M) (p0 : Option Nat) (p1 : Int32) (p2 : Int32) (p3 : Int32) (q0 : Option Nat) (q1 : Int32) (q2 : Int32) (M : Mem), RT p l e rmX13_defaults s m args below meth c x 4 (QM below args s x (fun _ : Unit => none) rmX13_defaults.cells rmX13_defaults.slots) 0 0 (fX13_defaults_L198 k21 p0 p1 p2 p3 q0 q1 q2 M) 198 [(1, p1), (2, p2), (3, p3)] [] [(0, p0)] [.int q2, .int q1, rv x q0] M := by
    intro k21 hk21 p0 p1 p2 p3 q0 q1 q2 M
    unfold fX13_defaults_L198
    refine r_iastore (pc := 198) E dX13_defaults_198 (fun M198 => ?_)
    exact r_sub [0, 1, 2] [] [0] rfl rfl rfl (hL199 k21 hk21 p0 p1 p2 p3 _)
  have hL187 : ∀ (k21 : Option Nat × Int32 × Int32 × Int32 → Mem → Option (Unit × Mem)) (hk21 : ∀ a M, RT p l e rmX13_defaults s m args below meth c x 4 (QM below args s x (fun _ : Unit => none) rmX13_defaults.cells rmX13_defaults.slots) 0 0 (k21 a M) 21 [(1, a.2.1), (2, a.2.2.1), (3, a.2.2.2)] [] [(0, a.1)] [] M) (p0 : Option Nat) (p1 : Int32) (p2 : Int32) (p3 : Int32) (q0 : Option Nat) (q1 : Int32) (M : Mem), RT p l e rmX13_defaults s m args below meth c x 4 (QM below args s x (fun _ : Unit => none) rmX13_defaults.cells rmX13_defaults.slots) 0 0 (fX13_defaults_L187 k21 p0 p1 p2 p3 q0 q1 M) 187 [(1, p1), (2, p2), (3, p3)] [] [(0, p0)] [.int q1, rv x q0] M := by
    intro k21 hk21 p0 p1 p2 p3 q0 q1 M
    unfold fX13_defaults_L187
    refine r_iload_n (pc := 187) E dX13_defaults_187 rfl 2 rfl ?_
    refine r_bipush (pc := 188) (v := 45) E dX13_defaults_188 (by decide) ?_
    refine r_icmp_le (pc := 190) (tgt := 197) E dX13_defaults_190 (by decide) ?_ ?_
    · refine r_iconst (pc := 197) (v := 1) E dX13_defaults_197 (by decide) ?_
      exact r_sub [0, 1, 2] [] [0] rfl rfl rfl (hL198 k21 hk21 p0 p1 p2 p3 q0 q1 1 _)
    · refine r_iconst (pc := 193) (v := (-1)) E dX13_defaults_193 (by decide) ?_
      refine r_goto (pc := 194) (tgt := 198) E dX13_defaults_194 (by decide) ?_
      exact r_sub [0, 1, 2] [] [0] rfl rfl rfl (hL198 k21 hk21 p0 p1 p2 p3 q0 q1 ((-1)) _)
  have hL145 : ∀ (k21 : Option Nat × Int32 × Int32 × Int32 → Mem → Option (Unit × Mem)) (hk21 : ∀ a M, RT p l e rmX13_defaults s m args below meth c x 4 (QM below args s x (fun _ : Unit => none) rmX13_defaults.cells rmX13_defaults.slots) 0 0 (k21 a M) 21 [(1, a.2.1), (2, a.2.2.1), (3, a.2.2.2)] [] [(0, a.1)] [] M) (p0 : Option Nat) (p1 : Int32) (p2 : Int32) (p3 : Int32) (q0 : Option Nat) (q1 : Int32) (q2 : Int32) (M : Mem), RT p l e rmX13_defaults s m args below meth c x 4 (QM below args s x (fun _ : Unit => none) rmX13_defaults.cells rmX13_defaults.slots) 0 0 (fX13_defaults_L145 k21 p0 p1 p2 p3 q0 q1 q2 M) 145 [(1, p1), (2, p2), (3, p3)] [] [(0, p0)] [.int q2, .int q1, rv x q0] M := by
    intro k21 hk21 p0 p1 p2 p3 q0 q1 q2 M
    unfold fX13_defaults_L145
    refine r_iastore (pc := 145) E dX13_defaults_145 (fun M145 => ?_)
    refine r_goto (pc := 146) (tgt := 199) E dX13_defaults_146 (by decide) ?_
    exact r_sub [0, 1, 2] [] [0] rfl rfl rfl (hL199 k21 hk21 p0 p1 p2 p3 _)
  have hL144 : ∀ (k21 : Option Nat × Int32 × Int32 × Int32 → Mem → Option (Unit × Mem)) (hk21 : ∀ a M, RT p l e rmX13_defaults s m args below meth c x 4 (QM below args s x (fun _ : Unit => none) rmX13_defaults.cells rmX13_defaults.slots) 0 0 (k21 a M) 21 [(1, a.2.1), (2, a.2.2.1), (3, a.2.2.2)] [] [(0, a.1)] [] M) (p0 : Option Nat) (p1 : Int32) (p2 : Int32) (p3 : Int32) (q0 : Option Nat) (q1 : Int32) (M : Mem), RT p l e rmX13_defaults s m args below meth c x 4 (QM below args s x (fun _ : Unit => none) rmX13_defaults.cells rmX13_defaults.slots) 0 0 (fX13_defaults_L144 k21 p0 p1 p2 p3 q0 q1 M) 144 [(1, p1), (2, p2), (3, p3)] [] [(0, p0)] [.int q1, rv x q0] M := by
    intro k21 hk21 p0 p1 p2 p3 q0 q1 M
    unfold fX13_defaults_L144
    refine r_iconst (pc := 144) (v := 1) E dX13_defaults_144 (by decide) ?_
    exact r_sub [0, 1, 2] [] [0] rfl rfl rfl (hL145 k21 hk21 p0 p1 p2 p3 q0 q1 1 _)
  have hL104 : ∀ (k21 : Option Nat × Int32 × Int32 × Int32 → Mem → Option (Unit × Mem)) (hk21 : ∀ a M, RT p l e rmX13_defaults s m args below meth c x 4 (QM below args s x (fun _ : Unit => none) rmX13_defaults.cells rmX13_defaults.slots) 0 0 (k21 a M) 21 [(1, a.2.1), (2, a.2.2.1), (3, a.2.2.2)] [] [(0, a.1)] [] M) (p0 : Option Nat) (p1 : Int32) (p2 : Int32) (p3 : Int32) (q0 : Option Nat) (q1 : Int32) (q2 : Int32) (M : Mem), RT p l e rmX13_defaults s m args below meth c x 4 (QM below args s x (fun _ : Unit => none) rmX13_defaults.cells rmX13_defaults.slots) 0 0 (fX13_defaults_L104 k21 p0 p1 p2 p3 q0 q1 q2 M) 104 [(1, p1), (2, p2), (3, p3)] [] [(0, p0)] [.int q2, .int q1, rv x q0] M := by
    intro k21 hk21 p0 p1 p2 p3 q0 q1 q2 M
    unfold fX13_defaults_L104
    refine r_iastore (pc := 104) E dX13_defaults_104 (fun M104 => ?_)
    refine r_goto (pc := 105) (tgt := 199) E dX13_defaults_105 (by decide) ?_
    exact r_sub [0, 1, 2] [] [0] rfl rfl rfl (hL199 k21 hk21 p0 p1 p2 p3 _)
  have hL67 : ∀ (k21 : Option Nat × Int32 × Int32 × Int32 → Mem → Option (Unit × Mem)) (hk21 : ∀ a M, RT p l e rmX13_defaults s m args below meth c x 4 (QM below args s x (fun _ : Unit => none) rmX13_defaults.cells rmX13_defaults.slots) 0 0 (k21 a M) 21 [(1, a.2.1), (2, a.2.2.1), (3, a.2.2.2)] [] [(0, a.1)] [] M) (p0 : Option Nat) (p1 : Int32) (p2 : Int32) (p3 : Int32) (q0 : Option Nat) (q1 : Int32) (M : Mem), RT p l e rmX13_defaults s m args below meth c x 4 (QM below args s x (fun _ : Unit => none) rmX13_defaults.cells rmX13_defaults.slots) 0 0 (fX13_defaults_L67 k21 p0 p1 p2 p3 q0 q1 M) 67 [(1, p1), (2, p2), (3, p3)] [] [(0, p0)] [.int q1, rv x q0] M := by
    intro k21 hk21 p0 p1 p2 p3 q0 q1 M
    unfold fX13_defaults_L67
    refine r_iconst (pc := 67) (v := 3) E dX13_defaults_67 (by decide) ?_
    refine r_goto (pc := 68) (tgt := 104) E dX13_defaults_68 (by decide) ?_
    exact r_sub [0, 1, 2] [] [0] rfl rfl rfl (hL104 k21 hk21 p0 p1 p2 p3 q0 q1 3 _)
  have hL99 : ∀ (k21 : Option Nat × Int32 × Int32 × Int32 → Mem → Option (Unit × Mem)) (hk21 : ∀ a M, RT p l e rmX13_defaults s m args below meth c x 4 (QM below args s x (fun _ : Unit => none) rmX13_defaults.cells rmX13_defaults.slots) 0 0 (k21 a M) 21 [(1, a.2.1), (2, a.2.2.1), (3, a.2.2.2)] [] [(0, a.1)] [] M) (p0 : Option Nat) (p1 : Int32) (p2 : Int32) (p3 : Int32) (q0 : Option Nat) (q1 : Int32) (M : Mem), RT p l e rmX13_defaults s m args below meth c x 4 (QM below args s x (fun _ : Unit => none) rmX13_defaults.cells rmX13_defaults.slots) 0 0 (fX13_defaults_L99 k21 p0 p1 p2 p3 q0 q1 M) 99 [(1, p1), (2, p2), (3, p3)] [] [(0, p0)] [.int q1, rv x q0] M := by
    intro k21 hk21 p0 p1 p2 p3 q0 q1 M
    unfold fX13_defaults_L99
    refine r_iconst (pc := 99) (v := 1) E dX13_defaults_99 (by decide) ?_
    refine r_goto (pc := 100) (tgt := 104) E dX13_defaults_100 (by decide) ?_
    exact r_sub [0, 1, 2] [] [0] rfl rfl rfl (hL104 k21 hk21 p0 p1 p2 p3 q0 q1 1 _)
  have hL93 : ∀ (k21 : Option Nat × Int32 × Int32 × Int32 → Mem → Option (Unit × Mem)) (hk21 : ∀ a M, RT p l e rmX13_defaults s m args below meth c x 4 (QM below args s x (fun _ : Unit => none) rmX13_defaults.cells rmX13_defaults.slots) 0 0 (k21 a M) 21 [(1, a.2.1), (2, a.2.2.1), (3, a.2.2.2)] [] [(0, a.1)] [] M) (p0 : Option Nat) (p1 : Int32) (p2 : Int32) (p3 : Int32) (q0 : Option Nat) (q1 : Int32) (M : Mem), RT p l e rmX13_defaults s m args below meth c x 4 (QM below args s x (fun _ : Unit => none) rmX13_defaults.cells rmX13_defaults.slots) 0 0 (fX13_defaults_L93 k21 p0 p1 p2 p3 q0 q1 M) 93 [(1, p1), (2, p2), (3, p3)] [] [(0, p0)] [.int q1, rv x q0] M := by
    intro k21 hk21 p0 p1 p2 p3 q0 q1 M
    unfold fX13_defaults_L93
    refine r_iload_n (pc := 93) E dX13_defaults_93 rfl 2 rfl ?_
    refine r_bipush (pc := 94) (v := 27) E dX13_defaults_94 (by decide) ?_
    refine r_icmp_lt (pc := 96) (tgt := 103) E dX13_defaults_96 (by decide) ?_ ?_
    · refine r_iconst (pc := 103) (v := 2) E dX13_defaults_103 (by decide) ?_
      exact r_sub [0, 1, 2] [] [0] rfl rfl rfl (hL104 k21 hk21 p0 p1 p2 p3 q0 q1 2 _)
    · exact r_sub [0, 1, 2] [] [0] rfl rfl rfl (hL99 k21 hk21 p0 p1 p2 p3 q0 q1 _)
  have hL36 : ∀ (k21 : Option Nat × Int32 × Int32 × Int32 → Mem → Option (Unit × Mem)) (hk21 : ∀ a M, RT p l e rmX13_defaults s m args below meth c x 4 (QM below args s x (fun _ : Unit => none) rmX13_defaults.cells rmX13_defaults.slots) 0 0 (k21 a M) 21 [(1, a.2.1), (2, a.2.2.1), (3, a.2.2.2)] [] [(0, a.1)] [] M) (p0 : Option Nat) (p1 : Int32) (p2 : Int32) (p3 : Int32) (q0 : Int32) (q1 : Int32) (M : Mem), RT p l e rmX13_defaults s m args below meth c x 4 (QM below args s x (fun _ : Unit => none) rmX13_defaults.cells rmX13_defaults.slots) 0 0 (fX13_defaults_L36 k21 p0 p1 p2 p3 q0 q1 M) 36 [(1, p1), (2, p2), (3, p3)] [] [(0, p0)] [.int q1, .int q0] M := by
    intro k21 hk21 p0 p1 p2 p3 q0 q1 M
    unfold fX13_defaults_L36
    refine r_icmp_gt (pc := 36) (tgt := 205) E dX13_defaults_36 (by decide) ?_ ?_
    · refine r_aload_n (pc := 205) E dX13_defaults_205 rfl 0 rfl ?_
      refine r_iload_n (pc := 206) E dX13_defaults_206 rfl 1 rfl ?_
      refine r_kVv (pc := 207) (As := [.int p2]) (rest := []) E wc_X13_table wi_RX13 hd_X13_table (ci := 13) rfl wl_RX13_222 wn_X13_table ws_X13_table dX13_defaults_207 (by decide) (Nat.le_of_ble_eq_true rfl) ⟨rfl, rfl⟩ (ctX13_table l x _ _ _) rfl (fun v207 M207 => ?_)
      exact e_void (pc := 210) E dX13_defaults_210
    · refine r_iload_n (pc := 39) E dX13_defaults_39 rfl 0 rfl ?_
      refine r_if_ne (pc := 40) (tgt := 108) E dX13_defaults_40 (by decide) ?_ ?_
      · refine r_iload_n (pc := 108) E dX13_defaults_108 rfl 0 rfl ?_
        refine r_iconst (pc := 109) (v := 1) E dX13_defaults_109 (by decide) ?_
        refine r_icmp_ne (pc := 110) (tgt := 149) E dX13_defaults_110 (by decide) ?_ ?_
        · refine r_aload_n (pc := 149) E dX13_defaults_149 rfl 0 rfl ?_
          refine r_getA (pc := 150) E fd_13_12 wf_RX13_23 dX13_defaults_150 (fun v150 => ?_)
          refine r_iload_n (pc := 153) E dX13_defaults_153 rfl 2 rfl ?_
          refine r_iload_n (pc := 154) E dX13_defaults_154 rfl 2 rfl ?_
          refine r_iconst (pc := 155) (v := 1) E dX13_defaults_155 (by decide) ?_
          refine r_icmp_ne (pc := 156) (tgt := 163) E dX13_defaults_156 (by decide) ?_ ?_
          · refine r_iload_n (pc := 163) E dX13_defaults_163 rfl 2 rfl ?_
            refine r_iconst (pc := 164) (v := 2) E dX13_defaults_164 (by decide) ?_
            refine r_icmp_ne (pc := 165) (tgt := 172) E dX13_defaults_165 (by decide) ?_ ?_
            · refine r_iload_n (pc := 172) E dX13_defaults_172 rfl 2 rfl ?_
              refine r_iconst (pc := 173) (v := 3) E dX13_defaults_173 (by decide) ?_
              refine r_icmp_lt (pc := 174) (tgt := 187) E dX13_defaults_174 (by decide) ?_ ?_
              · exact r_sub [0, 1, 2] [] [0] rfl rfl rfl (hL187 k21 hk21 p0 p1 p2 p3 v150 p3 _)
              · refine r_iload_n (pc := 177) E dX13_defaults_177 rfl 2 rfl ?_
                refine r_bipush (pc := 178) (v := 8) E dX13_defaults_178 (by decide) ?_
                refine r_icmp_gt (pc := 180) (tgt := 187) E dX13_defaults_180 (by decide) ?_ ?_
                · exact r_sub [0, 1, 2] [] [0] rfl rfl rfl (hL187 k21 hk21 p0 p1 p2 p3 v150 p3 _)
                · refine r_iconst (pc := 183) (v := 2) E dX13_defaults_183 (by decide) ?_
                  refine r_goto (pc := 184) (tgt := 198) E dX13_defaults_184 (by decide) ?_
                  exact r_sub [0, 1, 2] [] [0] rfl rfl rfl (hL198 k21 hk21 p0 p1 p2 p3 v150 p3 2 _)
            · refine r_iconst (pc := 168) (v := 3) E dX13_defaults_168 (by decide) ?_
              refine r_goto (pc := 169) (tgt := 198) E dX13_defaults_169 (by decide) ?_
              exact r_sub [0, 1, 2] [] [0] rfl rfl rfl (hL198 k21 hk21 p0 p1 p2 p3 v150 p3 3 _)
          · refine r_iconst (pc := 159) (v := 4) E dX13_defaults_159 (by decide) ?_
            refine r_goto (pc := 160) (tgt := 198) E dX13_defaults_160 (by decide) ?_
            exact r_sub [0, 1, 2] [] [0] rfl rfl rfl (hL198 k21 hk21 p0 p1 p2 p3 v150 p3 4 _)
        · refine r_aload_n (pc := 113) E dX13_defaults_113 rfl 0 rfl ?_
          refine r_getA (pc := 114) E fd_13_12 wf_RX13_23 dX13_defaults_114 (fun v114 => ?_)
          refine r_iload_n (pc := 117) E dX13_defaults_117 rfl 2 rfl ?_
          refine r_iload_n (pc := 118) E dX13_defaults_118 rfl 2 rfl ?_
          refine r_bipush (pc := 119) (v := 23) E dX13_defaults_119 (by decide) ?_
          refine r_icmp_le (pc := 121) (tgt := 128) E dX13_defaults_121 (by decide) ?_ ?_
          · refine r_iload_n (pc := 128) E dX13_defaults_128 rfl 2 rfl ?_
            refine r_bipush (pc := 129) (v := 6) E dX13_defaults_129 (by decide) ?_
            refine r_icmp_lt (pc := 131) (tgt := 144) E dX13_defaults_131 (by decide) ?_ ?_
            · exact r_sub [0, 1, 2] [] [0] rfl rfl rfl (hL144 k21 hk21 p0 p1 p2 p3 v114 p3 _)
            · refine r_iload_n (pc := 134) E dX13_defaults_134 rfl 2 rfl ?_
              refine r_bipush (pc := 135) (v := 8) E dX13_defaults_135 (by decide) ?_
              refine r_icmp_gt (pc := 137) (tgt := 144) E dX13_defaults_137 (by decide) ?_ ?_
              · exact r_sub [0, 1, 2] [] [0] rfl rfl rfl (hL144 k21 hk21 p0 p1 p2 p3 v114 p3 _)
              · refine r_iconst (pc := 140) (v := 2) E dX13_defaults_140 (by decide) ?_
                refine r_goto (pc := 141) (tgt := 145) E dX13_defaults_141 (by decide) ?_
                exact r_sub [0, 1, 2] [] [0] rfl rfl rfl (hL145 k21 hk21 p0 p1 p2 p3 v114 p3 2 _)
          · refine r_iconst (pc := 124) (v := (-1)) E dX13_defaults_124 (by decide) ?_
            refine r_goto (pc := 125) (tgt := 145) E dX13_defaults_125 (by decide) ?_
            exact r_sub [0, 1, 2] [] [0] rfl rfl rfl (hL145 k21 hk21 p0 p1 p2 p3 v114 p3 ((-1)) _)
      · refine r_aload_n (pc := 43) E dX13_defaults_43 rfl 0 rfl ?_
        refine r_getA (pc := 44) E fd_13_12 wf_RX13_23 dX13_defaults_44 (fun v44 => ?_)
        refine r_iload_n (pc := 47) E dX13_defaults_47 rfl 2 rfl ?_
        refine r_iload_n (pc := 48) E dX13_defaults_48 rfl 2 rfl ?_
        refine r_if_ne (pc := 49) (tgt := 56) E dX13_defaults_49 (by decide) ?_ ?_
        · refine r_iload_n (pc := 56) E dX13_defaults_56 rfl 2 rfl ?_
          refine r_iconst (pc := 57) (v := 1) E dX13_defaults_57 (by decide) ?_
          refine r_icmp_eq (pc := 58) (tgt := 67) E dX13_defaults_58 (by decide) ?_ ?_
          · exact r_sub [0, 1, 2] [] [0] rfl rfl rfl (hL67 k21 hk21 p0 p1 p2 p3 v44 p3 _)
          · refine r_iload_n (pc := 61) E dX13_defaults_61 rfl 2 rfl ?_
            refine r_bipush (pc := 62) (v := 25) E dX13_defaults_62 (by decide) ?_
            refine r_icmp_ne (pc := 64) (tgt := 71) E dX13_defaults_64 (by decide) ?_ ?_
            · refine r_iload_n (pc := 71) E dX13_defaults_71 rfl 2 rfl ?_
              refine r_bipush (pc := 72) (v := 31) E dX13_defaults_72 (by decide) ?_
              refine r_icmp_le (pc := 74) (tgt := 81) E dX13_defaults_74 (by decide) ?_ ?_
              · refine r_iload_n (pc := 81) E dX13_defaults_81 rfl 2 rfl ?_
                refine r_bipush (pc := 82) (v := 13) E dX13_defaults_82 (by decide) ?_
                refine r_icmp_lt (pc := 84) (tgt := 93) E dX13_defaults_84 (by decide) ?_ ?_
                · exact r_sub [0, 1, 2] [] [0] rfl rfl rfl (hL93 k21 hk21 p0 p1 p2 p3 v44 p3 _)
                · refine r_iload_n (pc := 87) E dX13_defaults_87 rfl 2 rfl ?_
                  refine r_bipush (pc := 88) (v := 15) E dX13_defaults_88 (by decide) ?_
                  refine r_icmp_le (pc := 90) (tgt := 99) E dX13_defaults_90 (by decide) ?_ ?_
                  · exact r_sub [0, 1, 2] [] [0] rfl rfl rfl (hL99 k21 hk21 p0 p1 p2 p3 v44 p3 _)
                  · exact r_sub [0, 1, 2] [] [0] rfl rfl rfl (hL93 k21 hk21 p0 p1 p2 p3 v44 p3 _)
              · refine r_iconst (pc := 77) (v := (-1)) E dX13_defaults_77 (by decide) ?_
                refine r_goto (pc := 78) (tgt := 104) E dX13_defaults_78 (by decide) ?_
                exact r_sub [0, 1, 2] [] [0] rfl rfl rfl (hL104 k21 hk21 p0 p1 p2 p3 v44 p3 ((-1)) _)
            · exact r_sub [0, 1, 2] [] [0] rfl rfl rfl (hL67 k21 hk21 p0 p1 p2 p3 v44 p3 _)
        · refine r_iconst (pc := 52) (v := 4) E dX13_defaults_52 (by decide) ?_
          refine r_goto (pc := 53) (tgt := 104) E dX13_defaults_53 (by decide) ?_
          exact r_sub [0, 1, 2] [] [0] rfl rfl rfl (hL104 k21 hk21 p0 p1 p2 p3 v44 p3 4 _)
  have hL21 : ∀ (p0 : Option Nat) (p1 : Int32) (p2 : Int32) (p3 : Int32) (M : Mem), RT p l e rmX13_defaults s m args below meth c x 4 (QM below args s x (fun _ : Unit => none) rmX13_defaults.cells rmX13_defaults.slots) 0 0 (fX13_defaults_L21 p0 p1 p2 p3 M) 21 [(1, p1), (2, p2), (3, p3)] [] [(0, p0)] [] M := by
    intro p0 p1 p2 p3 M
    refine r_lp (fi := fun a : Option Nat × Int32 × Int32 × Int32 => [(1, a.2.1), (2, a.2.2.1), (3, a.2.2.2)]) (fl := fun a : Option Nat × Int32 × Int32 × Int32 => []) (fr := fun a : Option Nat × Int32 × Int32 × Int32 => [(0, a.1)]) (fs := fun a : Option Nat × Int32 × Int32 × Int32 => []) ?_ FU ((p0, p1, p2, p3)) M
    intro k21 hk21 a M
    obtain ⟨p0, p1, p2, p3⟩ := a
    show RT p l e rmX13_defaults s m args below meth c x 4 (QM below args s x (fun _ : Unit => none) rmX13_defaults.cells rmX13_defaults.slots) 0 0 (fX13_defaults_B21 k21 p0 p1 p2 p3 M) 21 [(1, p1), (2, p2), (3, p3)] [] [(0, p0)] [] M
    unfold fX13_defaults_B21
    refine r_iload_n (pc := 21) E dX13_defaults_21 rfl 2 rfl ?_
    refine r_iload_n (pc := 22) E dX13_defaults_22 rfl 0 rfl ?_
    refine r_iconst (pc := 23) (v := 1) E dX13_defaults_23 (by decide) ?_
    refine r_icmp_ne (pc := 24) (tgt := 32) E dX13_defaults_24 (by decide) ?_ ?_
    · refine r_iload_n (pc := 32) E dX13_defaults_32 rfl 0 rfl ?_
      refine r_kSi (pc := 33) (As := [.int p1]) (rest := [.int p3]) E wc_X13_greatest wi_RX13 hd_X13_greatest wl_RX13_219 wt_X13_greatest dX13_defaults_33 (by decide) (Nat.le_of_ble_eq_true rfl) ⟨rfl, rfl⟩ (ctX13_greatest l x _ _) rfl (fun v33 M33 => ?_)
      exact r_sub [0, 1, 2] [] [0] rfl rfl rfl (hL36 k21 hk21 p0 p1 p2 p3 p3 v33 _)
    · refine r_bipush (pc := 27) (v := 28) E dX13_defaults_27 (by decide) ?_
      refine r_goto (pc := 29) (tgt := 36) E dX13_defaults_29 (by decide) ?_
      exact r_sub [0, 1, 2] [] [0] rfl rfl rfl (hL36 k21 hk21 p0 p1 p2 p3 p3 28 _)
  have hL16 : ∀ (p0 : Option Nat) (p1 : Int32) (p2 : Int32) (q0 : Option Nat) (q1 : Int32) (M : Mem), RT p l e rmX13_defaults s m args below meth c x 4 (QM below args s x (fun _ : Unit => none) rmX13_defaults.cells rmX13_defaults.slots) 0 0 (fX13_defaults_L16 p0 p1 p2 q0 q1 M) 16 [(1, p1), (2, p2)] [] [(0, p0)] [.int q1, rv x q0] M := by
    intro p0 p1 p2 q0 q1 M
    unfold fX13_defaults_L16
    refine r_putI (pc := 16) E fd_13_13 wf_RX13_210 dX13_defaults_16 (Or.inl rfl) (fun M16 => ?_)
    refine r_iconst (pc := 19) (v := 0) E dX13_defaults_19 (by decide) ?_
    refine r_istore_n (pc := 20) (lf := fun v20 => [(3, v20), (1, p1), (2, p2)]) (lg := fun v20 => []) (lk := fun v20 => [(0, p0)]) E dX13_defaults_20 rfl (by decide) (fun _ => rfl) (fun _ => rfl) (fun _ => rfl) (fun v20 => ?_)
    exact r_sub [1, 2, 0] [] [0] rfl rfl rfl (hL21 p0 p1 p2 v20 _)
  show RT p l e rmX13_defaults s m args below meth c x 4 (QM below args s x (fun _ : Unit => none) rmX13_defaults.cells rmX13_defaults.slots) 0 0 (fX13_defaults a0 a1 a2 M) 0 [(1, a1), (2, a2)] [] [(0, a0)] [] M
  unfold fX13_defaults
  refine r_aload_n (pc := 0) E dX13_defaults_0 rfl 0 rfl ?_
  refine r_kVv (pc := 1) (As := []) (rest := []) E wc_X13_noCounts wi_RX13 hd_X13_noCounts (ci := 13) rfl wl_RX13_213 wn_X13_noCounts ws_X13_noCounts dX13_defaults_1 (by decide) (Nat.le_of_ble_eq_true rfl) ⟨rfl, rfl⟩ (ctX13_noCounts l x _ _) rfl (fun v1 M1 => ?_)
  refine r_aload_n (pc := 4) E dX13_defaults_4 rfl 0 rfl ?_
  refine r_iload_n (pc := 5) E dX13_defaults_5 rfl 0 rfl ?_
  refine r_iconst (pc := 6) (v := 1) E dX13_defaults_6 (by decide) ?_
  refine r_icmp_ne (pc := 7) (tgt := 14) E dX13_defaults_7 (by decide) ?_ ?_
  · refine r_bipush (pc := 14) (v := 6) E dX13_defaults_14 (by decide) ?_
    exact r_sub [0, 1] [] [0] rfl rfl rfl (hL16 a0 a1 a2 a0 6 _)
  · refine r_iconst (pc := 10) (v := 5) E dX13_defaults_10 (by decide) ?_
    refine r_goto (pc := 11) (tgt := 16) E dX13_defaults_11 (by decide) ?_
    exact r_sub [0, 1] [] [0] rfl rfl rfl (hL16 a0 a1 a2 a0 5 _)
def fX13_copyCode_B65 (k65 : Option Nat × Int32 × Int32 × Int32 → Mem → Option (Unit × Mem)) (p0 : Option Nat) (p1 : Int32) (p2 : Int32) (p3 : Int32) (M : Mem) : Option (Unit × Mem) :=
  if 2048 ≤ p3 then (
    some ((), M)
  ) else (
    bo (gR M p0 13 23) fun v73 =>
    bo (gR M p0 13 23) fun v84 =>
    bo (aI M v84 17 ((2048 * p1) + p3)) fun v94 =>
    bo (wS M v73 ((2048 * p2) + p3) v94) fun M95 =>
    bn (p3 + 1) fun v96 =>
    k65 ((p0, p1, p2, v96)) M95
  )
def fX13_copyCode_L65 (p0 : Option Nat) (p1 : Int32) (p2 : Int32) (p3 : Int32) (M : Mem) : Option (Unit × Mem) :=
  lp (fun k65 (a : Option Nat × Int32 × Int32 × Int32) M => fX13_copyCode_B65 k65 a.1 a.2.1 a.2.2.1 a.2.2.2 M) FU ((p0, p1, p2, p3)) M
def fX13_copyCode_B26 (k26 : Option Nat × Int32 × Int32 × Int32 → Mem → Option (Unit × Mem)) (p0 : Option Nat) (p1 : Int32) (p2 : Int32) (p3 : Int32) (M : Mem) : Option (Unit × Mem) :=
  if 256 ≤ p3 then (
    bn (0) fun v64 =>
    fX13_copyCode_L65 p0 p1 p2 v64 M
  ) else (
    bo (gR M p0 13 20) fun v34 =>
    bo (gR M p0 13 20) fun v45 =>
    bo (aI M v45 15 ((256 * p1) + p3)) fun v55 =>
    bo (wI M v34 ((256 * p2) + p3) v55) fun M56 =>
    bn (p3 + 1) fun v57 =>
    k26 ((p0, p1, p2, v57)) M56
  )
def fX13_copyCode_L26 (p0 : Option Nat) (p1 : Int32) (p2 : Int32) (p3 : Int32) (M : Mem) : Option (Unit × Mem) :=
  lp (fun k26 (a : Option Nat × Int32 × Int32 × Int32) M => fX13_copyCode_B26 k26 a.1 a.2.1 a.2.2.1 a.2.2.2 M) FU ((p0, p1, p2, p3)) M
def fX13_copyCode (a0 : Option Nat) (a1 : Int32) (a2 : Int32) (M : Mem) : Option (Unit × Mem) :=
  bo (gR M a0 13 21) fun v1 =>
  bo (gR M a0 13 21) fun v6 =>
  bo (aI M v6 18 a1) fun v10 =>
  bo (wZ M v1 a2 v10) fun M11 =>
  bo (gR M11 a0 13 22) fun v13 =>
  bo (gR M11 a0 13 22) fun v18 =>
  bo (aI M11 v18 15 a1) fun v22 =>
  bo (wI M11 v13 a2 v22) fun M23 =>
  bn (0) fun v25 =>
  fX13_copyCode_L26 a0 a1 a2 v25 M23
def rmX13_copyCode : Room := { frames := 0, cells := 0, slots := 0, locals := 0 }
set_option maxRecDepth 100000 in
set_option maxHeartbeats 4000000 in
theorem ctX13_copyCode (l : Launch) (x : Cx) (a0 : Option Nat) (a1 : Int32) (a2 : Int32) (M : Mem) (v : Unit) (N : Mem) (h : fX13_copyCode a0 a1 a2 M = some (v, N)) : CT l yX13_copyCode cX13_copyCode 4 (none) rmX13_copyCode x [rv x a0, .int a1, .int a2] M none N := by
  refine ct_mk (enc := fun _ : Unit => none) (li := [(1, a1), (2, a2)]) (ll := []) (lr := [(0, a0)]) (by decide +kernel) (by simp [lg_sl, rv_cat, cat_int, cat_long]) (by simp [flat, lv_args, rv_cat, cat_int, cat_long]) h ?_
  intro p e s m args below meth c E
  have hL65 : ∀ (p0 : Option Nat) (p1 : Int32) (p2 : Int32) (p3 : Int32) (M : Mem), RT p l e rmX13_copyCode s m args below meth c x 4 (QM below args s x (fun _ : Unit => none) rmX13_copyCode.cells rmX13_copyCode.slots) 0 0 (fX13_copyCode_L65 p0 p1 p2 p3 M) 65 [(1, p1), (2, p2), (3, p3)] [] [(0, p0)] [] M := by
    intro p0 p1 p2 p3 M
    refine r_lp (fi := fun a : Option Nat × Int32 × Int32 × Int32 => [(1, a.2.1), (2, a.2.2.1), (3, a.2.2.2)]) (fl := fun a : Option Nat × Int32 × Int32 × Int32 => []) (fr := fun a : Option Nat × Int32 × Int32 × Int32 => [(0, a.1)]) (fs := fun a : Option Nat × Int32 × Int32 × Int32 => []) ?_ FU ((p0, p1, p2, p3)) M
    intro k65 hk65 a M
    obtain ⟨p0, p1, p2, p3⟩ := a
    show RT p l e rmX13_copyCode s m args below meth c x 4 (QM below args s x (fun _ : Unit => none) rmX13_copyCode.cells rmX13_copyCode.slots) 0 0 (fX13_copyCode_B65 k65 p0 p1 p2 p3 M) 65 [(1, p1), (2, p2), (3, p3)] [] [(0, p0)] [] M
    unfold fX13_copyCode_B65
    refine r_iload_n (pc := 65) E dX13_copyCode_65 rfl 2 rfl ?_
    refine r_sipush (pc := 66) (v := 2048) E dX13_copyCode_66 (by decide) ?_
    refine r_icmp_ge (pc := 69) (tgt := 102) E dX13_copyCode_69 (by decide) ?_ ?_
    · exact e_void (pc := 102) E dX13_copyCode_102
    · refine r_aload_n (pc := 72) E dX13_copyCode_72 rfl 0 rfl ?_
      refine r_getA (pc := 73) E fd_13_23 wf_RX13_56 dX13_copyCode_73 (fun v73 => ?_)
      refine r_sipush (pc := 76) (v := 2048) E dX13_copyCode_76 (by decide) ?_
      refine r_iload_n (pc := 79) E dX13_copyCode_79 rfl 1 rfl ?_
      refine r_imul (pc := 80) E dX13_copyCode_80 ?_
      refine r_iload_n (pc := 81) E dX13_copyCode_81 rfl 2 rfl ?_
      refine r_iadd (pc := 82) E dX13_copyCode_82 ?_
      refine r_aload_n (pc := 83) E dX13_copyCode_83 rfl 0 rfl ?_
      refine r_getA (pc := 84) E fd_13_23 wf_RX13_56 dX13_copyCode_84 (fun v84 => ?_)
      refine r_sipush (pc := 87) (v := 2048) E dX13_copyCode_87 (by decide) ?_
      refine r_iload_n (pc := 90) E dX13_copyCode_90 rfl 0 rfl ?_
      refine r_imul (pc := 91) E dX13_copyCode_91 ?_
      refine r_iload_n (pc := 92) E dX13_copyCode_92 rfl 2 rfl ?_
      refine r_iadd (pc := 93) E dX13_copyCode_93 ?_
      refine r_saload (pc := 94) E dX13_copyCode_94 (fun v94 => ?_)
      refine r_sastore (pc := 95) E dX13_copyCode_95 (fun M95 => ?_)
      refine r_iinc (pc := 96) (w := 1) (lf := fun v96 => [(3, v96), (1, p1), (2, p2)]) (ll' := []) (lr' := [(0, p0)]) E dX13_copyCode_96 2 rfl (by decide) (by decide) (fun _ => rfl) rfl rfl (fun v96 => ?_)
      refine r_goto (pc := 99) (tgt := 65) E dX13_copyCode_99 (by decide) ?_
      exact r_sub [1, 2, 0] [] [0] rfl rfl rfl (hk65 ((p0, p1, p2, v96)) _)
  have hL26 : ∀ (p0 : Option Nat) (p1 : Int32) (p2 : Int32) (p3 : Int32) (M : Mem), RT p l e rmX13_copyCode s m args below meth c x 4 (QM below args s x (fun _ : Unit => none) rmX13_copyCode.cells rmX13_copyCode.slots) 0 0 (fX13_copyCode_L26 p0 p1 p2 p3 M) 26 [(1, p1), (2, p2), (3, p3)] [] [(0, p0)] [] M := by
    intro p0 p1 p2 p3 M
    refine r_lp (fi := fun a : Option Nat × Int32 × Int32 × Int32 => [(1, a.2.1), (2, a.2.2.1), (3, a.2.2.2)]) (fl := fun a : Option Nat × Int32 × Int32 × Int32 => []) (fr := fun a : Option Nat × Int32 × Int32 × Int32 => [(0, a.1)]) (fs := fun a : Option Nat × Int32 × Int32 × Int32 => []) ?_ FU ((p0, p1, p2, p3)) M
    intro k26 hk26 a M
    obtain ⟨p0, p1, p2, p3⟩ := a
    show RT p l e rmX13_copyCode s m args below meth c x 4 (QM below args s x (fun _ : Unit => none) rmX13_copyCode.cells rmX13_copyCode.slots) 0 0 (fX13_copyCode_B26 k26 p0 p1 p2 p3 M) 26 [(1, p1), (2, p2), (3, p3)] [] [(0, p0)] [] M
    unfold fX13_copyCode_B26
    refine r_iload_n (pc := 26) E dX13_copyCode_26 rfl 2 rfl ?_
    refine r_sipush (pc := 27) (v := 256) E dX13_copyCode_27 (by decide) ?_
    refine r_icmp_ge (pc := 30) (tgt := 63) E dX13_copyCode_30 (by decide) ?_ ?_
    · refine r_iconst (pc := 63) (v := 0) E dX13_copyCode_63 (by decide) ?_
      refine r_istore_n (pc := 64) (lf := fun v64 => [(3, v64), (1, p1), (2, p2)]) (lg := fun v64 => []) (lk := fun v64 => [(0, p0)]) E dX13_copyCode_64 rfl (by decide) (fun _ => rfl) (fun _ => rfl) (fun _ => rfl) (fun v64 => ?_)
      exact r_sub [1, 2, 0] [] [0] rfl rfl rfl (hL65 p0 p1 p2 v64 _)
    · refine r_aload_n (pc := 33) E dX13_copyCode_33 rfl 0 rfl ?_
      refine r_getA (pc := 34) E fd_13_20 wf_RX13_47 dX13_copyCode_34 (fun v34 => ?_)
      refine r_sipush (pc := 37) (v := 256) E dX13_copyCode_37 (by decide) ?_
      refine r_iload_n (pc := 40) E dX13_copyCode_40 rfl 1 rfl ?_
      refine r_imul (pc := 41) E dX13_copyCode_41 ?_
      refine r_iload_n (pc := 42) E dX13_copyCode_42 rfl 2 rfl ?_
      refine r_iadd (pc := 43) E dX13_copyCode_43 ?_
      refine r_aload_n (pc := 44) E dX13_copyCode_44 rfl 0 rfl ?_
      refine r_getA (pc := 45) E fd_13_20 wf_RX13_47 dX13_copyCode_45 (fun v45 => ?_)
      refine r_sipush (pc := 48) (v := 256) E dX13_copyCode_48 (by decide) ?_
      refine r_iload_n (pc := 51) E dX13_copyCode_51 rfl 0 rfl ?_
      refine r_imul (pc := 52) E dX13_copyCode_52 ?_
      refine r_iload_n (pc := 53) E dX13_copyCode_53 rfl 2 rfl ?_
      refine r_iadd (pc := 54) E dX13_copyCode_54 ?_
      refine r_iaload (pc := 55) E dX13_copyCode_55 (fun v55 => ?_)
      refine r_iastore (pc := 56) E dX13_copyCode_56 (fun M56 => ?_)
      refine r_iinc (pc := 57) (w := 1) (lf := fun v57 => [(3, v57), (1, p1), (2, p2)]) (ll' := []) (lr' := [(0, p0)]) E dX13_copyCode_57 2 rfl (by decide) (by decide) (fun _ => rfl) rfl rfl (fun v57 => ?_)
      refine r_goto (pc := 60) (tgt := 26) E dX13_copyCode_60 (by decide) ?_
      exact r_sub [1, 2, 0] [] [0] rfl rfl rfl (hk26 ((p0, p1, p2, v57)) _)
  show RT p l e rmX13_copyCode s m args below meth c x 4 (QM below args s x (fun _ : Unit => none) rmX13_copyCode.cells rmX13_copyCode.slots) 0 0 (fX13_copyCode a0 a1 a2 M) 0 [(1, a1), (2, a2)] [] [(0, a0)] [] M
  unfold fX13_copyCode
  refine r_aload_n (pc := 0) E dX13_copyCode_0 rfl 0 rfl ?_
  refine r_getA (pc := 1) E fd_13_21 wf_RX13_50 dX13_copyCode_1 (fun v1 => ?_)
  refine r_iload_n (pc := 4) E dX13_copyCode_4 rfl 1 rfl ?_
  refine r_aload_n (pc := 5) E dX13_copyCode_5 rfl 0 rfl ?_
  refine r_getA (pc := 6) E fd_13_21 wf_RX13_50 dX13_copyCode_6 (fun v6 => ?_)
  refine r_iload_n (pc := 9) E dX13_copyCode_9 rfl 0 rfl ?_
  refine r_zaload (pc := 10) E dX13_copyCode_10 (fun v10 => ?_)
  refine r_zastore (pc := 11) E dX13_copyCode_11 (fun M11 => ?_)
  refine r_aload_n (pc := 12) E dX13_copyCode_12 rfl 0 rfl ?_
  refine r_getA (pc := 13) E fd_13_22 wf_RX13_53 dX13_copyCode_13 (fun v13 => ?_)
  refine r_iload_n (pc := 16) E dX13_copyCode_16 rfl 1 rfl ?_
  refine r_aload_n (pc := 17) E dX13_copyCode_17 rfl 0 rfl ?_
  refine r_getA (pc := 18) E fd_13_22 wf_RX13_53 dX13_copyCode_18 (fun v18 => ?_)
  refine r_iload_n (pc := 21) E dX13_copyCode_21 rfl 0 rfl ?_
  refine r_iaload (pc := 22) E dX13_copyCode_22 (fun v22 => ?_)
  refine r_iastore (pc := 23) E dX13_copyCode_23 (fun M23 => ?_)
  refine r_iconst (pc := 24) (v := 0) E dX13_copyCode_24 (by decide) ?_
  refine r_istore_n (pc := 25) (lf := fun v25 => [(3, v25), (1, a1), (2, a2)]) (lg := fun v25 => []) (lk := fun v25 => [(0, a0)]) E dX13_copyCode_25 rfl (by decide) (fun _ => rfl) (fun _ => rfl) (fun _ => rfl) (fun v25 => ?_)
  exact r_sub [1, 2, 0] [] [0] rfl rfl rfl (hL26 a0 a1 a2 v25 _)
def fX13_toldWeights_B77 (k77 : Option Nat × Int32 × Int32 × Int32 × Int32 × Int32 → Mem → Option (Int32 × Mem)) (p0 : Option Nat) (p4 : Int32) (p5 : Int32) (p6 : Int32) (p7 : Int32) (p8 : Int32) (M : Mem) : Option (Int32 × Mem) :=
  if p8 = 0 then (
    some (p7, M)
  ) else (
    if p7 = 255 then (
      some ((-1), M)
    ) else (
      bo (gR M p0 13 24) fun v93 =>
      bo (gR M p0 13 14) fun v99 =>
      bo (aI M v99 17 (p4 + p5)) fun v107 =>
      bo (wI M v93 p7 v107) fun M108 =>
      bn (p7 + 1) fun v109 =>
      bo (gI M108 p0 13 11) fun v113 =>
      bo (gR M108 p0 13 15) fun v117 =>
      bo (aI M108 v117 14 (p4 + p5)) fun v125 =>
      if v125 ≤ v113 then (
        bo (gR M108 p0 13 16) fun v166 =>
        bo (aI M108 v166 15 (p4 + p5)) fun v174 =>
        bo (gR M108 p0 13 15) fun v177 =>
        bo (aI M108 v177 14 (p4 + p5)) fun v185 =>
        bo (chk M108 p0 13) fun _ => bd (fX13_back p0 v185 M108) fun v186 M186 =>
        bn (v174 + v186.toInt32) fun v191 =>
        bn (p6) fun v195 =>
        bn (v191) fun v199 =>
        k77 ((p0, p4, v195, v199, v109, p8)) M186
      ) else (
        if v109 = 255 then (
          some ((-1), M108)
        ) else (
          bo (gR M108 p0 13 24) fun v140 =>
          bo (gR M108 p0 13 14) fun v146 =>
          bo (aI M108 v146 17 (p4 + p6)) fun v154 =>
          bo (wI M108 v140 v109 v154) fun M155 =>
          bn (v109 + 1) fun v156 =>
          bn (0) fun v160 =>
          k77 ((p0, p4, p5, p6, v156, v160)) M155
        )
      )
    )
  )
def fX13_toldWeights_L77 (p0 : Option Nat) (p4 : Int32) (p5 : Int32) (p6 : Int32) (p7 : Int32) (p8 : Int32) (M : Mem) : Option (Int32 × Mem) :=
  lp (fun k77 (a : Option Nat × Int32 × Int32 × Int32 × Int32 × Int32) M => fX13_toldWeights_B77 k77 a.1 a.2.1 a.2.2.1 a.2.2.2.1 a.2.2.2.2.1 a.2.2.2.2.2 M) FU ((p0, p4, p5, p6, p7, p8)) M
def fX13_toldWeights (a0 : Option Nat) (a1 : Int32) (a2 : Int32) (M : Mem) : Option (Int32 × Mem) :=
  bo (chk M a0 13) fun _ => bd (fX13_toldCounts a0 a1 a2 255 6 M) fun v8 M8 =>
  bn (v8) fun v11 =>
  if 0 ≤ v11 then (
    bo (chk M8 a0 13) fun _ => bd (fX13_table a0 6 M8) fun v21 M21 =>
    bo (chk M21 a0 13) fun _ => bd (fX13_reversed a0 v11 a2 M21) fun v27 M27 =>
    if v27 = 0 then (
      some ((-1), M27)
    ) else (
      bn (3072) fun v38 =>
      bo (gI M27 a0 13 13) fun v42 =>
      bo (chk M27 a0 13) fun _ => bd (fX13_back a0 v42 M27) fun v45 M45 =>
      bn (v45.toInt32) fun v49 =>
      bo (gI M45 a0 13 13) fun v53 =>
      bo (chk M45 a0 13) fun _ => bd (fX13_back a0 v53 M45) fun v56 M56 =>
      bn (v56.toInt32) fun v60 =>
      bo (gI M56 a0 13 9) fun v63 =>
      if v63 = 0 then (
        bn (0) fun v72 =>
        bn (1) fun v75 =>
        fX13_toldWeights_L77 a0 v38 v49 v60 v72 v75 M56
      ) else (
        some ((-1), M56)
      )
    )
  ) else (
    some ((-1), M8)
  )
def rmX13_toldWeights : Room := { frames := 2, cells := 0, slots := 0, locals := 55 }
set_option maxRecDepth 100000 in
set_option maxHeartbeats 4000000 in
theorem ctX13_toldWeights (l : Launch) (x : Cx) (a0 : Option Nat) (a1 : Int32) (a2 : Int32) (M : Mem) (v : Int32) (N : Mem) (h : fX13_toldWeights a0 a1 a2 M = some (v, N)) : CT l yX13_toldWeights cX13_toldWeights 10 (some (FieldType.int)) rmX13_toldWeights x [rv x a0, .int a1, .int a2] M (some (.int v)) N := by
  refine ct_mk (enc := fun v : Int32 => some (.int v)) (li := [(1, a1), (2, a2)]) (ll := []) (lr := [(0, a0)]) (by decide +kernel) (by simp [lg_sl, rv_cat, cat_int, cat_long]) (by simp [flat, lv_args, rv_cat, cat_int, cat_long]) h ?_
  intro p e s m args below meth c E
  have hL77 : ∀ (p0 : Option Nat) (p4 : Int32) (p5 : Int32) (p6 : Int32) (p7 : Int32) (p8 : Int32) (M : Mem), RT p l e rmX13_toldWeights s m args below meth c x 10 (QM below args s x (fun v : Int32 => some (.int v)) rmX13_toldWeights.cells rmX13_toldWeights.slots) 0 0 (fX13_toldWeights_L77 p0 p4 p5 p6 p7 p8 M) 77 [(4, p4), (5, p5), (6, p6), (7, p7), (8, p8)] [] [(0, p0)] [] M := by
    intro p0 p4 p5 p6 p7 p8 M
    refine r_lp (fi := fun a : Option Nat × Int32 × Int32 × Int32 × Int32 × Int32 => [(4, a.2.1), (5, a.2.2.1), (6, a.2.2.2.1), (7, a.2.2.2.2.1), (8, a.2.2.2.2.2)]) (fl := fun a : Option Nat × Int32 × Int32 × Int32 × Int32 × Int32 => []) (fr := fun a : Option Nat × Int32 × Int32 × Int32 × Int32 × Int32 => [(0, a.1)]) (fs := fun a : Option Nat × Int32 × Int32 × Int32 × Int32 × Int32 => []) ?_ FU ((p0, p4, p5, p6, p7, p8)) M
    intro k77 hk77 a M
    obtain ⟨p0, p4, p5, p6, p7, p8⟩ := a
    show RT p l e rmX13_toldWeights s m args below meth c x 10 (QM below args s x (fun v : Int32 => some (.int v)) rmX13_toldWeights.cells rmX13_toldWeights.slots) 0 0 (fX13_toldWeights_B77 k77 p0 p4 p5 p6 p7 p8 M) 77 [(4, p4), (5, p5), (6, p6), (7, p7), (8, p8)] [] [(0, p0)] [] M
    unfold fX13_toldWeights_B77
    refine r_iload (pc := 77) E dX13_toldWeights_77 4 rfl ?_
    refine r_if_eq (pc := 79) (tgt := 204) E dX13_toldWeights_79 (by decide) ?_ ?_
    · refine r_iload (pc := 204) E dX13_toldWeights_204 3 rfl ?_
      exact e_int (pc := 206) E dX13_toldWeights_206
    · refine r_iload (pc := 82) E dX13_toldWeights_82 3 rfl ?_
      refine r_sipush (pc := 84) (v := 255) E dX13_toldWeights_84 (by decide) ?_
      refine r_icmp_ne (pc := 87) (tgt := 92) E dX13_toldWeights_87 (by decide) ?_ ?_
      · refine r_aload_n (pc := 92) E dX13_toldWeights_92 rfl 0 rfl ?_
        refine r_getA (pc := 93) E fd_13_24 wf_RX13_59 dX13_toldWeights_93 (fun v93 => ?_)
        refine r_iload (pc := 96) E dX13_toldWeights_96 3 rfl ?_
        refine r_aload_n (pc := 98) E dX13_toldWeights_98 rfl 0 rfl ?_
        refine r_getA (pc := 99) E fd_13_14 wf_RX13_27 dX13_toldWeights_99 (fun v99 => ?_)
        refine r_iload (pc := 102) E dX13_toldWeights_102 0 rfl ?_
        refine r_iload (pc := 104) E dX13_toldWeights_104 1 rfl ?_
        refine r_iadd (pc := 106) E dX13_toldWeights_106 ?_
        refine r_saload (pc := 107) E dX13_toldWeights_107 (fun v107 => ?_)
        refine r_iastore (pc := 108) E dX13_toldWeights_108 (fun M108 => ?_)
        refine r_iinc (pc := 109) (w := 1) (lf := fun v109 => [(7, v109), (4, p4), (5, p5), (6, p6), (8, p8)]) (ll' := []) (lr' := [(0, p0)]) E dX13_toldWeights_109 3 rfl (by decide) (by decide) (fun _ => rfl) rfl rfl (fun v109 => ?_)
        refine r_aload_n (pc := 112) E dX13_toldWeights_112 rfl 0 rfl ?_
        refine r_getI (pc := 113) E fd_13_11 wf_RX13_203 dX13_toldWeights_113 (fun v113 => ?_)
        refine r_aload_n (pc := 116) E dX13_toldWeights_116 rfl 0 rfl ?_
        refine r_getA (pc := 117) E fd_13_15 wf_RX13_31 dX13_toldWeights_117 (fun v117 => ?_)
        refine r_iload (pc := 120) E dX13_toldWeights_120 1 rfl ?_
        refine r_iload (pc := 122) E dX13_toldWeights_122 2 rfl ?_
        refine r_iadd (pc := 124) E dX13_toldWeights_124 ?_
        refine r_baload (pc := 125) E dX13_toldWeights_125 (fun v125 => ?_)
        refine r_icmp_ge (pc := 126) (tgt := 165) E dX13_toldWeights_126 (by decide) ?_ ?_
        · refine r_aload_n (pc := 165) E dX13_toldWeights_165 rfl 0 rfl ?_
          refine r_getA (pc := 166) E fd_13_16 wf_RX13_34 dX13_toldWeights_166 (fun v166 => ?_)
          refine r_iload (pc := 169) E dX13_toldWeights_169 1 rfl ?_
          refine r_iload (pc := 171) E dX13_toldWeights_171 2 rfl ?_
          refine r_iadd (pc := 173) E dX13_toldWeights_173 ?_
          refine r_iaload (pc := 174) E dX13_toldWeights_174 (fun v174 => ?_)
          refine r_aload_n (pc := 175) E dX13_toldWeights_175 rfl 0 rfl ?_
          refine r_aload_n (pc := 176) E dX13_toldWeights_176 rfl 0 rfl ?_
          refine r_getA (pc := 177) E fd_13_15 wf_RX13_31 dX13_toldWeights_177 (fun v177 => ?_)
          refine r_iload (pc := 180) E dX13_toldWeights_180 1 rfl ?_
          refine r_iload (pc := 182) E dX13_toldWeights_182 2 rfl ?_
          refine r_iadd (pc := 184) E dX13_toldWeights_184 ?_
          refine r_baload (pc := 185) E dX13_toldWeights_185 (fun v185 => ?_)
          refine r_kVl (pc := 186) (As := [.int v185]) (rest := [.int v174]) E wc_X13_back wi_RX13 hd_X13_back (ci := 13) rfl wl_RX13_234 wn_X13_back ws_X13_back dX13_toldWeights_186 (by decide) (Nat.le_of_ble_eq_true rfl) ⟨rfl, rfl⟩ (ctX13_back l x _ _ _) rfl (fun v186 M186 => ?_)
          refine r_l2i (pc := 189) E dX13_toldWeights_189 ?_
          refine r_iadd (pc := 190) E dX13_toldWeights_190 ?_
          refine r_istore (pc := 191) (lf := fun v191 => [(9, v191), (7, v109), (4, p4), (5, p5), (6, p6), (8, p8)]) (lg := fun v191 => []) (lk := fun v191 => [(0, p0)]) E dX13_toldWeights_191 (by decide) (fun _ => rfl) (fun _ => rfl) (fun _ => rfl) (fun v191 => ?_)
          refine r_iload (pc := 193) E dX13_toldWeights_193 4 rfl ?_
          refine r_istore (pc := 195) (lf := fun v195 => [(5, v195), (9, v191), (7, v109), (4, p4), (6, p6), (8, p8)]) (lg := fun v195 => []) (lk := fun v195 => [(0, p0)]) E dX13_toldWeights_195 (by decide) (fun _ => rfl) (fun _ => rfl) (fun _ => rfl) (fun v195 => ?_)
          refine r_iload (pc := 197) E dX13_toldWeights_197 1 rfl ?_
          refine r_istore (pc := 199) (lf := fun v199 => [(6, v199), (5, v195), (9, v191), (7, v109), (4, p4), (8, p8)]) (lg := fun v199 => []) (lk := fun v199 => [(0, p0)]) E dX13_toldWeights_199 (by decide) (fun _ => rfl) (fun _ => rfl) (fun _ => rfl) (fun v199 => ?_)
          refine r_goto (pc := 201) (tgt := 77) E dX13_toldWeights_201 (by decide) ?_
          exact r_sub [4, 1, 0, 3, 5] [] [0] rfl rfl rfl (hk77 ((p0, p4, v195, v199, v109, p8)) _)
        · refine r_iload (pc := 129) E dX13_toldWeights_129 0 rfl ?_
          refine r_sipush (pc := 131) (v := 255) E dX13_toldWeights_131 (by decide) ?_
          refine r_icmp_ne (pc := 134) (tgt := 139) E dX13_toldWeights_134 (by decide) ?_ ?_
          · refine r_aload_n (pc := 139) E dX13_toldWeights_139 rfl 0 rfl ?_
            refine r_getA (pc := 140) E fd_13_24 wf_RX13_59 dX13_toldWeights_140 (fun v140 => ?_)
            refine r_iload (pc := 143) E dX13_toldWeights_143 0 rfl ?_
            refine r_aload_n (pc := 145) E dX13_toldWeights_145 rfl 0 rfl ?_
            refine r_getA (pc := 146) E fd_13_14 wf_RX13_27 dX13_toldWeights_146 (fun v146 => ?_)
            refine r_iload (pc := 149) E dX13_toldWeights_149 1 rfl ?_
            refine r_iload (pc := 151) E dX13_toldWeights_151 3 rfl ?_
            refine r_iadd (pc := 153) E dX13_toldWeights_153 ?_
            refine r_saload (pc := 154) E dX13_toldWeights_154 (fun v154 => ?_)
            refine r_iastore (pc := 155) E dX13_toldWeights_155 (fun M155 => ?_)
            refine r_iinc (pc := 156) (w := 1) (lf := fun v156 => [(7, v156), (4, p4), (5, p5), (6, p6), (8, p8)]) (ll' := []) (lr' := [(0, p0)]) E dX13_toldWeights_156 0 rfl (by decide) (by decide) (fun _ => rfl) rfl rfl (fun v156 => ?_)
            refine r_iconst (pc := 159) (v := 0) E dX13_toldWeights_159 (by decide) ?_
            refine r_istore (pc := 160) (lf := fun v160 => [(8, v160), (7, v156), (4, p4), (5, p5), (6, p6)]) (lg := fun v160 => []) (lk := fun v160 => [(0, p0)]) E dX13_toldWeights_160 (by decide) (fun _ => rfl) (fun _ => rfl) (fun _ => rfl) (fun v160 => ?_)
            refine r_goto (pc := 162) (tgt := 77) E dX13_toldWeights_162 (by decide) ?_
            exact r_sub [2, 3, 4, 1, 0] [] [0] rfl rfl rfl (hk77 ((p0, p4, p5, p6, v156, v160)) _)
          · refine r_iconst (pc := 137) (v := (-1)) E dX13_toldWeights_137 (by decide) ?_
            exact e_int (pc := 138) E dX13_toldWeights_138
      · refine r_iconst (pc := 90) (v := (-1)) E dX13_toldWeights_90 (by decide) ?_
        exact e_int (pc := 91) E dX13_toldWeights_91
  show RT p l e rmX13_toldWeights s m args below meth c x 10 (QM below args s x (fun v : Int32 => some (.int v)) rmX13_toldWeights.cells rmX13_toldWeights.slots) 0 0 (fX13_toldWeights a0 a1 a2 M) 0 [(1, a1), (2, a2)] [] [(0, a0)] [] M
  unfold fX13_toldWeights
  refine r_aload_n (pc := 0) E dX13_toldWeights_0 rfl 0 rfl ?_
  refine r_iload_n (pc := 1) E dX13_toldWeights_1 rfl 0 rfl ?_
  refine r_iload_n (pc := 2) E dX13_toldWeights_2 rfl 1 rfl ?_
  refine r_sipush (pc := 3) (v := 255) E dX13_toldWeights_3 (by decide) ?_
  refine r_bipush (pc := 6) (v := 6) E dX13_toldWeights_6 (by decide) ?_
  refine r_kVi (pc := 8) (As := [.int a1, .int a2, .int 255, .int 6]) (rest := []) E wc_X13_toldCounts wi_RX13 hd_X13_toldCounts (ci := 13) rfl wl_RX13_226 wn_X13_toldCounts ws_X13_toldCounts dX13_toldWeights_8 (by decide) (Nat.le_of_ble_eq_true rfl) ⟨rfl, rfl⟩ (ctX13_toldCounts l x _ _ _ _ _ _) rfl (fun v8 M8 => ?_)
  refine r_istore_n (pc := 11) (lf := fun v11 => [(3, v11), (1, a1), (2, a2)]) (lg := fun v11 => []) (lk := fun v11 => [(0, a0)]) E dX13_toldWeights_11 rfl (by decide) (fun _ => rfl) (fun _ => rfl) (fun _ => rfl) (fun v11 => ?_)
  refine r_iload_n (pc := 12) E dX13_toldWeights_12 rfl 0 rfl ?_
  refine r_if_ge (pc := 13) (tgt := 18) E dX13_toldWeights_13 (by decide) ?_ ?_
  · refine r_aload_n (pc := 18) E dX13_toldWeights_18 rfl 0 rfl ?_
    refine r_bipush (pc := 19) (v := 6) E dX13_toldWeights_19 (by decide) ?_
    refine r_kVv (pc := 21) (As := [.int 6]) (rest := []) E wc_X13_table wi_RX13 hd_X13_table (ci := 13) rfl wl_RX13_222 wn_X13_table ws_X13_table dX13_toldWeights_21 (by decide) (Nat.le_of_ble_eq_true rfl) ⟨rfl, rfl⟩ (ctX13_table l x _ _ _) rfl (fun v21 M21 => ?_)
    refine r_aload_n (pc := 24) E dX13_toldWeights_24 rfl 0 rfl ?_
    refine r_iload_n (pc := 25) E dX13_toldWeights_25 rfl 0 rfl ?_
    refine r_iload_n (pc := 26) E dX13_toldWeights_26 rfl 2 rfl ?_
    refine r_kVi (pc := 27) (As := [.int v11, .int a2]) (rest := []) E wc_X13_reversed wi_RX13 hd_X13_reversed (ci := 13) rfl wl_RX13_230 wn_X13_reversed ws_X13_reversed dX13_toldWeights_27 (by decide) (Nat.le_of_ble_eq_true rfl) ⟨rfl, rfl⟩ (ctX13_reversed l x _ _ _ _) rfl (fun v27 M27 => ?_)
    refine r_if_ne (pc := 30) (tgt := 35) E dX13_toldWeights_30 (by decide) ?_ ?_
    · refine r_sipush (pc := 35) (v := 3072) E dX13_toldWeights_35 (by decide) ?_
      refine r_istore (pc := 38) (lf := fun v38 => [(4, v38), (3, v11), (1, a1), (2, a2)]) (lg := fun v38 => []) (lk := fun v38 => [(0, a0)]) E dX13_toldWeights_38 (by decide) (fun _ => rfl) (fun _ => rfl) (fun _ => rfl) (fun v38 => ?_)
      refine r_aload_n (pc := 40) E dX13_toldWeights_40 rfl 0 rfl ?_
      refine r_aload_n (pc := 41) E dX13_toldWeights_41 rfl 0 rfl ?_
      refine r_getI (pc := 42) E fd_13_13 wf_RX13_210 dX13_toldWeights_42 (fun v42 => ?_)
      refine r_kVl (pc := 45) (As := [.int v42]) (rest := []) E wc_X13_back wi_RX13 hd_X13_back (ci := 13) rfl wl_RX13_234 wn_X13_back ws_X13_back dX13_toldWeights_45 (by decide) (Nat.le_of_ble_eq_true rfl) ⟨rfl, rfl⟩ (ctX13_back l x _ _ _) rfl (fun v45 M45 => ?_)
      refine r_l2i (pc := 48) E dX13_toldWeights_48 ?_
      refine r_istore (pc := 49) (lf := fun v49 => [(5, v49), (4, v38), (3, v11), (1, a1), (2, a2)]) (lg := fun v49 => []) (lk := fun v49 => [(0, a0)]) E dX13_toldWeights_49 (by decide) (fun _ => rfl) (fun _ => rfl) (fun _ => rfl) (fun v49 => ?_)
      refine r_aload_n (pc := 51) E dX13_toldWeights_51 rfl 0 rfl ?_
      refine r_aload_n (pc := 52) E dX13_toldWeights_52 rfl 0 rfl ?_
      refine r_getI (pc := 53) E fd_13_13 wf_RX13_210 dX13_toldWeights_53 (fun v53 => ?_)
      refine r_kVl (pc := 56) (As := [.int v53]) (rest := []) E wc_X13_back wi_RX13 hd_X13_back (ci := 13) rfl wl_RX13_234 wn_X13_back ws_X13_back dX13_toldWeights_56 (by decide) (Nat.le_of_ble_eq_true rfl) ⟨rfl, rfl⟩ (ctX13_back l x _ _ _) rfl (fun v56 M56 => ?_)
      refine r_l2i (pc := 59) E dX13_toldWeights_59 ?_
      refine r_istore (pc := 60) (lf := fun v60 => [(6, v60), (5, v49), (4, v38), (3, v11), (1, a1), (2, a2)]) (lg := fun v60 => []) (lk := fun v60 => [(0, a0)]) E dX13_toldWeights_60 (by decide) (fun _ => rfl) (fun _ => rfl) (fun _ => rfl) (fun v60 => ?_)
      refine r_aload_n (pc := 62) E dX13_toldWeights_62 rfl 0 rfl ?_
      refine r_getZ (pc := 63) E fd_13_9 wf_RX13_196 dX13_toldWeights_63 (fun v63 => ?_)
      refine r_if_eq (pc := 66) (tgt := 71) E dX13_toldWeights_66 (by decide) ?_ ?_
      · refine r_iconst (pc := 71) (v := 0) E dX13_toldWeights_71 (by decide) ?_
        refine r_istore (pc := 72) (lf := fun v72 => [(7, v72), (6, v60), (5, v49), (4, v38), (3, v11), (1, a1), (2, a2)]) (lg := fun v72 => []) (lk := fun v72 => [(0, a0)]) E dX13_toldWeights_72 (by decide) (fun _ => rfl) (fun _ => rfl) (fun _ => rfl) (fun v72 => ?_)
        refine r_iconst (pc := 74) (v := 1) E dX13_toldWeights_74 (by decide) ?_
        refine r_istore (pc := 75) (lf := fun v75 => [(8, v75), (7, v72), (6, v60), (5, v49), (4, v38), (3, v11), (1, a1), (2, a2)]) (lg := fun v75 => []) (lk := fun v75 => [(0, a0)]) E dX13_toldWeights_75 (by decide) (fun _ => rfl) (fun _ => rfl) (fun _ => rfl) (fun v75 => ?_)
        exact r_sub [4, 3, 2, 1, 0] [] [0] rfl rfl rfl (hL77 a0 v38 v49 v60 v72 v75 _)
      · refine r_iconst (pc := 69) (v := (-1)) E dX13_toldWeights_69 (by decide) ?_
        exact e_int (pc := 70) E dX13_toldWeights_70
    · refine r_iconst (pc := 33) (v := (-1)) E dX13_toldWeights_33 (by decide) ?_
      exact e_int (pc := 34) E dX13_toldWeights_34
  · refine r_iconst (pc := 16) (v := (-1)) E dX13_toldWeights_16 (by decide) ?_
    exact e_int (pc := 17) E dX13_toldWeights_17
def fX13_codeOf_L98 (M : Mem) : Option (Int32 × Mem) :=
  rtZ 0 M
def fX13_codeOf_L263 (k196 : Option Nat × Int32 × Int32 × Int32 × Int32 × Int32 → Mem → Option (Int32 × Mem)) (k206 : Option Nat × Int32 × Int32 × Int32 × Int32 × Int32 × Int32 → Mem → Option (Int32 × Mem)) (p0 : Option Nat) (p1 : Int32) (p2 : Int32) (p4 : Int32) (p6 : Int32) (p7 : Int32) (p8 : Int32) (M : Mem) : Option (Int32 × Mem) :=
  bn (p8 + 1) fun v263 =>
  k206 ((p0, p1, p2, p4, p6, p7, v263)) M
def fX13_codeOf_B215 (k196 : Option Nat × Int32 × Int32 × Int32 × Int32 × Int32 → Mem → Option (Int32 × Mem)) (k206 : Option Nat × Int32 × Int32 × Int32 × Int32 × Int32 × Int32 → Mem → Option (Int32 × Mem)) (k215 : Option Nat × Int32 × Int32 × Int32 × Int32 × Int32 × Int32 × Int32 → Mem → Option (Int32 × Mem)) (p0 : Option Nat) (p1 : Int32) (p2 : Int32) (p4 : Int32) (p6 : Int32) (p7 : Int32) (p8 : Int32) (p9 : Int32) (M : Mem) : Option (Int32 × Mem) :=
  bo (gR M p0 13 24) fun v216 =>
  bo (aI M v216 15 p8) fun v221 =>
  if v221 = p7 then (
    if (shlI 1 (p7 - 1)) ≤ p9 then (
      fX13_codeOf_L263 k196 k206 p0 p1 p2 p4 p6 p7 p8 M
    ) else (
      bo (gR M p0 13 23) fun v239 =>
      bo (wS M v239 ((2048 * p1) + p6) (i2s p8)) fun M253 =>
      bn (p6 + 1) fun v254 =>
      bn (p9 + 1) fun v257 =>
      k215 ((p0, p1, p2, p4, v254, p7, p8, v257)) M253
    )
  ) else (
    fX13_codeOf_L263 k196 k206 p0 p1 p2 p4 p6 p7 p8 M
  )
def fX13_codeOf_L215 (k196 : Option Nat × Int32 × Int32 × Int32 × Int32 × Int32 → Mem → Option (Int32 × Mem)) (k206 : Option Nat × Int32 × Int32 × Int32 × Int32 × Int32 × Int32 → Mem → Option (Int32 × Mem)) (p0 : Option Nat) (p1 : Int32) (p2 : Int32) (p4 : Int32) (p6 : Int32) (p7 : Int32) (p8 : Int32) (p9 : Int32) (M : Mem) : Option (Int32 × Mem) :=
  lp (fun k215 (a : Option Nat × Int32 × Int32 × Int32 × Int32 × Int32 × Int32 × Int32) M => fX13_codeOf_B215 k196 k206 k215 a.1 a.2.1 a.2.2.1 a.2.2.2.1 a.2.2.2.2.1 a.2.2.2.2.2.1 a.2.2.2.2.2.2.1 a.2.2.2.2.2.2.2 M) FU ((p0, p1, p2, p4, p6, p7, p8, p9)) M
def fX13_codeOf_B206 (k196 : Option Nat × Int32 × Int32 × Int32 × Int32 × Int32 → Mem → Option (Int32 × Mem)) (k206 : Option Nat × Int32 × Int32 × Int32 × Int32 × Int32 × Int32 → Mem → Option (Int32 × Mem)) (p0 : Option Nat) (p1 : Int32) (p2 : Int32) (p4 : Int32) (p6 : Int32) (p7 : Int32) (p8 : Int32) (M : Mem) : Option (Int32 × Mem) :=
  if p2 < p8 then (
    bn (p7 + 1) fun v269 =>
    k196 ((p0, p1, p2, p4, p6, v269)) M
  ) else (
    bn (0) fun v213 =>
    fX13_codeOf_L215 k196 k206 p0 p1 p2 p4 p6 p7 p8 v213 M
  )
def fX13_codeOf_L206 (k196 : Option Nat × Int32 × Int32 × Int32 × Int32 × Int32 → Mem → Option (Int32 × Mem)) (p0 : Option Nat) (p1 : Int32) (p2 : Int32) (p4 : Int32) (p6 : Int32) (p7 : Int32) (p8 : Int32) (M : Mem) : Option (Int32 × Mem) :=
  lp (fun k206 (a : Option Nat × Int32 × Int32 × Int32 × Int32 × Int32 × Int32) M => fX13_codeOf_B206 k196 k206 a.1 a.2.1 a.2.2.1 a.2.2.2.1 a.2.2.2.2.1 a.2.2.2.2.2.1 a.2.2.2.2.2.2 M) FU ((p0, p1, p2, p4, p6, p7, p8)) M
def fX13_codeOf_B196 (k196 : Option Nat × Int32 × Int32 × Int32 × Int32 × Int32 → Mem → Option (Int32 × Mem)) (p0 : Option Nat) (p1 : Int32) (p2 : Int32) (p4 : Int32) (p6 : Int32) (p7 : Int32) (M : Mem) : Option (Int32 × Mem) :=
  if p4 < p7 then (
    rtZ 1 M
  ) else (
    bn (0) fun v204 =>
    fX13_codeOf_L206 k196 p0 p1 p2 p4 p6 p7 v204 M
  )
def fX13_codeOf_L196 (p0 : Option Nat) (p1 : Int32) (p2 : Int32) (p4 : Int32) (p6 : Int32) (p7 : Int32) (M : Mem) : Option (Int32 × Mem) :=
  lp (fun k196 (a : Option Nat × Int32 × Int32 × Int32 × Int32 × Int32) M => fX13_codeOf_B196 k196 a.1 a.2.1 a.2.2.1 a.2.2.2.1 a.2.2.2.2.1 a.2.2.2.2.2 M) FU ((p0, p1, p2, p4, p6, p7)) M
def fX13_codeOf_L183 (k131 : Option Nat × Int32 × Int32 × Int32 × Int32 → Mem → Option (Int32 × Mem)) (p0 : Option Nat) (p1 : Int32) (p2 : Int32) (p4 : Int32) (p6 : Int32) (q0 : Option Nat) (q1 : Int32) (q2 : Int32) (M : Mem) : Option (Int32 × Mem) :=
  bo (wI M q0 q1 q2) fun M183 =>
  bn (p6 + 1) fun v184 =>
  k131 ((p0, p1, p2, p4, v184)) M183
def fX13_codeOf_L182 (k131 : Option Nat × Int32 × Int32 × Int32 × Int32 → Mem → Option (Int32 × Mem)) (p0 : Option Nat) (p1 : Int32) (p2 : Int32) (p4 : Int32) (p6 : Int32) (q0 : Option Nat) (q1 : Int32) (M : Mem) : Option (Int32 × Mem) :=
  fX13_codeOf_L183 k131 p0 p1 p2 p4 p6 q0 q1 0 M
def fX13_codeOf_B131 (k131 : Option Nat × Int32 × Int32 × Int32 × Int32 → Mem → Option (Int32 × Mem)) (p0 : Option Nat) (p1 : Int32) (p2 : Int32) (p4 : Int32) (p6 : Int32) (M : Mem) : Option (Int32 × Mem) :=
  if 256 ≤ p6 then (
    bn (0) fun v191 =>
    bn (1) fun v194 =>
    fX13_codeOf_L196 p0 p1 p2 p4 v191 v194 M
  ) else (
    bo (gR M p0 13 20) fun v140 =>
    if p2 < p6 then (
      fX13_codeOf_L182 k131 p0 p1 p2 p4 p6 v140 ((256 * p1) + p6) M
    ) else (
      bo (gR M p0 13 24) fun v158 =>
      bo (aI M v158 15 p6) fun v163 =>
      if v163 ≤ 0 then (
        fX13_codeOf_L182 k131 p0 p1 p2 p4 p6 v140 ((256 * p1) + p6) M
      ) else (
        bo (gR M p0 13 24) fun v172 =>
        bo (aI M v172 15 p6) fun v177 =>
        fX13_codeOf_L183 k131 p0 p1 p2 p4 p6 v140 ((256 * p1) + p6) ((p4 + 1) - v177) M
      )
    )
  )
def fX13_codeOf_L131 (p0 : Option Nat) (p1 : Int32) (p2 : Int32) (p4 : Int32) (p6 : Int32) (M : Mem) : Option (Int32 × Mem) :=
  lp (fun k131 (a : Option Nat × Int32 × Int32 × Int32 × Int32) M => fX13_codeOf_B131 k131 a.1 a.2.1 a.2.2.1 a.2.2.2.1 a.2.2.2.2 M) FU ((p0, p1, p2, p4, p6)) M
def fX13_codeOf_L51 (k5 : Option Nat × Int32 × Int32 × Int32 × Int32 → Mem → Option (Int32 × Mem)) (p0 : Option Nat) (p1 : Int32) (p2 : Int32) (p4 : Int32) (q0 : Int32) (q1 : Int32) (M : Mem) : Option (Int32 × Mem) :=
  bn (q0 + q1) fun v52 =>
  bn (p4 + 1) fun v53 =>
  k5 ((p0, p1, p2, v52, v53)) M
def fX13_codeOf_B5 (k5 : Option Nat × Int32 × Int32 × Int32 × Int32 → Mem → Option (Int32 × Mem)) (p0 : Option Nat) (p1 : Int32) (p2 : Int32) (p3 : Int32) (p4 : Int32) (M : Mem) : Option (Int32 × Mem) :=
  if p2 ≤ p4 then (
    if p3 = 0 then (
      rtZ 0 M
    ) else (
      bd (fX13_log p3 M) fun v66 M66 =>
      bn (v66 + 1) fun v71 =>
      bn ((shlI 1 v71) - p3) fun v79 =>
      if 11 < v71 then (
        fX13_codeOf_L98 M66
      ) else (
        if (v79 &&& (v79 - 1)) = 0 then (
          bo (gR M66 p0 13 24) fun v101 =>
          bd (fX13_log v79 M66) fun v107 M107 =>
          bo (wI M107 v101 p2 (v107 + 1)) fun M112 =>
          bo (gR M112 p0 13 21) fun v114 =>
          bo (wZ M112 v114 p1 1) fun M119 =>
          bo (gR M119 p0 13 22) fun v121 =>
          bo (wI M119 v121 p1 v71) fun M127 =>
          bn (0) fun v129 =>
          fX13_codeOf_L131 p0 p1 p2 v71 v129 M127
        ) else (
          fX13_codeOf_L98 M66
        )
      )
    )
  ) else (
    bo (gR M p0 13 24) fun v12 =>
    bo (aI M v12 15 p4) fun v17 =>
    if v17 ≤ 11 then (
      bo (gR M p0 13 24) fun v27 =>
      bo (aI M v27 15 p4) fun v32 =>
      if v32 ≤ 0 then (
        fX13_codeOf_L51 k5 p0 p1 p2 p4 p3 0 M
      ) else (
        bo (gR M p0 13 24) fun v38 =>
        bo (aI M v38 15 p4) fun v43 =>
        fX13_codeOf_L51 k5 p0 p1 p2 p4 p3 (shlI 1 (v43 - 1)) M
      )
    ) else (
      rtZ 0 M
    )
  )
def fX13_codeOf_L5 (p0 : Option Nat) (p1 : Int32) (p2 : Int32) (p3 : Int32) (p4 : Int32) (M : Mem) : Option (Int32 × Mem) :=
  lp (fun k5 (a : Option Nat × Int32 × Int32 × Int32 × Int32) M => fX13_codeOf_B5 k5 a.1 a.2.1 a.2.2.1 a.2.2.2.1 a.2.2.2.2 M) FU ((p0, p1, p2, p3, p4)) M
def fX13_codeOf (a0 : Option Nat) (a1 : Int32) (a2 : Int32) (M : Mem) : Option (Int32 × Mem) :=
  bn (0) fun v1 =>
  bn (0) fun v3 =>
  fX13_codeOf_L5 a0 a1 a2 v1 v3 M
def rmX13_codeOf : Room := { frames := 1, cells := 0, slots := 0, locals := 21 }
set_option maxRecDepth 100000 in
set_option maxHeartbeats 4000000 in
theorem ctX13_codeOf (l : Launch) (x : Cx) (a0 : Option Nat) (a1 : Int32) (a2 : Int32) (M : Mem) (v : Int32) (N : Mem) (h : fX13_codeOf a0 a1 a2 M = some (v, N)) : CT l yX13_codeOf cX13_codeOf 10 (some (FieldType.boolean)) rmX13_codeOf x [rv x a0, .int a1, .int a2] M (some (.int v)) N := by
  refine ct_mk (enc := fun v : Int32 => some (.int v)) (li := [(1, a1), (2, a2)]) (ll := []) (lr := [(0, a0)]) (by decide +kernel) (by simp [lg_sl, rv_cat, cat_int, cat_long]) (by simp [flat, lv_args, rv_cat, cat_int, cat_long]) h ?_
  intro p e s m args below meth c E
  have hL98 : ∀ (M : Mem), RT p l e rmX13_codeOf s m args below meth c x 10 (QM below args s x (fun v : Int32 => some (.int v)) rmX13_codeOf.cells rmX13_codeOf.slots) 0 0 (fX13_codeOf_L98 M) 98 [] [] [] [] M := by
    intro M
    unfold fX13_codeOf_L98
    refine r_iconst (pc := 98) (v := 0) E dX13_codeOf_98 (by decide) ?_
    exact e_bool (pc := 99) E dX13_codeOf_99
  have hL263 : ∀ (k196 : Option Nat × Int32 × Int32 × Int32 × Int32 × Int32 → Mem → Option (Int32 × Mem)) (hk196 : ∀ a M, RT p l e rmX13_codeOf s m args below meth c x 10 (QM below args s x (fun v : Int32 => some (.int v)) rmX13_codeOf.cells rmX13_codeOf.slots) 0 0 (k196 a M) 196 [(1, a.2.1), (2, a.2.2.1), (4, a.2.2.2.1), (6, a.2.2.2.2.1), (7, a.2.2.2.2.2)] [] [(0, a.1)] [] M) (k206 : Option Nat × Int32 × Int32 × Int32 × Int32 × Int32 × Int32 → Mem → Option (Int32 × Mem)) (hk206 : ∀ a M, RT p l e rmX13_codeOf s m args below meth c x 10 (QM below args s x (fun v : Int32 => some (.int v)) rmX13_codeOf.cells rmX13_codeOf.slots) 0 0 (k206 a M) 206 [(1, a.2.1), (2, a.2.2.1), (4, a.2.2.2.1), (6, a.2.2.2.2.1), (7, a.2.2.2.2.2.1), (8, a.2.2.2.2.2.2)] [] [(0, a.1)] [] M) (p0 : Option Nat) (p1 : Int32) (p2 : Int32) (p4 : Int32) (p6 : Int32) (p7 : Int32) (p8 : Int32) (M : Mem), RT p l e rmX13_codeOf s m args below meth c x 10 (QM below args s x (fun v : Int32 => some (.int v)) rmX13_codeOf.cells rmX13_codeOf.slots) 0 0 (fX13_codeOf_L263 k196 k206 p0 p1 p2 p4 p6 p7 p8 M) 263 [(1, p1), (2, p2), (4, p4), (6, p6), (7, p7), (8, p8)] [] [(0, p0)] [] M := by
    intro k196 hk196 k206 hk206 p0 p1 p2 p4 p6 p7 p8 M
    unfold fX13_codeOf_L263
    refine r_iinc (pc := 263) (w := 1) (lf := fun v263 => [(8, v263), (1, p1), (2, p2), (4, p4), (6, p6), (7, p7)]) (ll' := []) (lr' := [(0, p0)]) E dX13_codeOf_263 5 rfl (by decide) (by decide) (fun _ => rfl) rfl rfl (fun v263 => ?_)
    refine r_goto (pc := 266) (tgt := 206) E dX13_codeOf_266 (by decide) ?_
    exact r_sub [1, 2, 3, 4, 5, 0] [] [0] rfl rfl rfl (hk206 ((p0, p1, p2, p4, p6, p7, v263)) _)
  have hL215 : ∀ (k196 : Option Nat × Int32 × Int32 × Int32 × Int32 × Int32 → Mem → Option (Int32 × Mem)) (hk196 : ∀ a M, RT p l e rmX13_codeOf s m args below meth c x 10 (QM below args s x (fun v : Int32 => some (.int v)) rmX13_codeOf.cells rmX13_codeOf.slots) 0 0 (k196 a M) 196 [(1, a.2.1), (2, a.2.2.1), (4, a.2.2.2.1), (6, a.2.2.2.2.1), (7, a.2.2.2.2.2)] [] [(0, a.1)] [] M) (k206 : Option Nat × Int32 × Int32 × Int32 × Int32 × Int32 × Int32 → Mem → Option (Int32 × Mem)) (hk206 : ∀ a M, RT p l e rmX13_codeOf s m args below meth c x 10 (QM below args s x (fun v : Int32 => some (.int v)) rmX13_codeOf.cells rmX13_codeOf.slots) 0 0 (k206 a M) 206 [(1, a.2.1), (2, a.2.2.1), (4, a.2.2.2.1), (6, a.2.2.2.2.1), (7, a.2.2.2.2.2.1), (8, a.2.2.2.2.2.2)] [] [(0, a.1)] [] M) (p0 : Option Nat) (p1 : Int32) (p2 : Int32) (p4 : Int32) (p6 : Int32) (p7 : Int32) (p8 : Int32) (p9 : Int32) (M : Mem), RT p l e rmX13_codeOf s m args below meth c x 10 (QM below args s x (fun v : Int32 => some (.int v)) rmX13_codeOf.cells rmX13_codeOf.slots) 0 0 (fX13_codeOf_L215 k196 k206 p0 p1 p2 p4 p6 p7 p8 p9 M) 215 [(1, p1), (2, p2), (4, p4), (6, p6), (7, p7), (8, p8), (9, p9)] [] [(0, p0)] [] M := by
    intro k196 hk196 k206 hk206 p0 p1 p2 p4 p6 p7 p8 p9 M
    refine r_lp (fi := fun a : Option Nat × Int32 × Int32 × Int32 × Int32 × Int32 × Int32 × Int32 => [(1, a.2.1), (2, a.2.2.1), (4, a.2.2.2.1), (6, a.2.2.2.2.1), (7, a.2.2.2.2.2.1), (8, a.2.2.2.2.2.2.1), (9, a.2.2.2.2.2.2.2)]) (fl := fun a : Option Nat × Int32 × Int32 × Int32 × Int32 × Int32 × Int32 × Int32 => []) (fr := fun a : Option Nat × Int32 × Int32 × Int32 × Int32 × Int32 × Int32 × Int32 => [(0, a.1)]) (fs := fun a : Option Nat × Int32 × Int32 × Int32 × Int32 × Int32 × Int32 × Int32 => []) ?_ FU ((p0, p1, p2, p4, p6, p7, p8, p9)) M
    intro k215 hk215 a M
    obtain ⟨p0, p1, p2, p4, p6, p7, p8, p9⟩ := a
    show RT p l e rmX13_codeOf s m args below meth c x 10 (QM below args s x (fun v : Int32 => some (.int v)) rmX13_codeOf.cells rmX13_codeOf.slots) 0 0 (fX13_codeOf_B215 k196 k206 k215 p0 p1 p2 p4 p6 p7 p8 p9 M) 215 [(1, p1), (2, p2), (4, p4), (6, p6), (7, p7), (8, p8), (9, p9)] [] [(0, p0)] [] M
    unfold fX13_codeOf_B215
    refine r_aload_n (pc := 215) E dX13_codeOf_215 rfl 0 rfl ?_
    refine r_getA (pc := 216) E fd_13_24 wf_RX13_59 dX13_codeOf_216 (fun v216 => ?_)
    refine r_iload (pc := 219) E dX13_codeOf_219 5 rfl ?_
    refine r_iaload (pc := 221) E dX13_codeOf_221 (fun v221 => ?_)
    refine r_iload (pc := 222) E dX13_codeOf_222 4 rfl ?_
    refine r_icmp_ne (pc := 224) (tgt := 263) E dX13_codeOf_224 (by decide) ?_ ?_
    · exact r_sub [0, 1, 2, 3, 4, 5] [] [0] rfl rfl rfl (hL263 k196 hk196 k206 hk206 p0 p1 p2 p4 p6 p7 p8 _)
    · refine r_iload (pc := 227) E dX13_codeOf_227 6 rfl ?_
      refine r_iconst (pc := 229) (v := 1) E dX13_codeOf_229 (by decide) ?_
      refine r_iload (pc := 230) E dX13_codeOf_230 4 rfl ?_
      refine r_iconst (pc := 232) (v := 1) E dX13_codeOf_232 (by decide) ?_
      refine r_isub (pc := 233) E dX13_codeOf_233 ?_
      refine r_ishl (pc := 234) E dX13_codeOf_234 ?_
      refine r_icmp_ge (pc := 235) (tgt := 263) E dX13_codeOf_235 (by decide) ?_ ?_
      · exact r_sub [0, 1, 2, 3, 4, 5] [] [0] rfl rfl rfl (hL263 k196 hk196 k206 hk206 p0 p1 p2 p4 p6 p7 p8 _)
      · refine r_aload_n (pc := 238) E dX13_codeOf_238 rfl 0 rfl ?_
        refine r_getA (pc := 239) E fd_13_23 wf_RX13_56 dX13_codeOf_239 (fun v239 => ?_)
        refine r_sipush (pc := 242) (v := 2048) E dX13_codeOf_242 (by decide) ?_
        refine r_iload_n (pc := 245) E dX13_codeOf_245 rfl 0 rfl ?_
        refine r_imul (pc := 246) E dX13_codeOf_246 ?_
        refine r_iload (pc := 247) E dX13_codeOf_247 3 rfl ?_
        refine r_iadd (pc := 249) E dX13_codeOf_249 ?_
        refine r_iload (pc := 250) E dX13_codeOf_250 5 rfl ?_
        refine r_i2s (pc := 252) E dX13_codeOf_252 ?_
        refine r_sastore (pc := 253) E dX13_codeOf_253 (fun M253 => ?_)
        refine r_iinc (pc := 254) (w := 1) (lf := fun v254 => [(6, v254), (1, p1), (2, p2), (4, p4), (7, p7), (8, p8), (9, p9)]) (ll' := []) (lr' := [(0, p0)]) E dX13_codeOf_254 3 rfl (by decide) (by decide) (fun _ => rfl) rfl rfl (fun v254 => ?_)
        refine r_iinc (pc := 257) (w := 1) (lf := fun v257 => [(9, v257), (6, v254), (1, p1), (2, p2), (4, p4), (7, p7), (8, p8)]) (ll' := []) (lr' := [(0, p0)]) E dX13_codeOf_257 6 rfl (by decide) (by decide) (fun _ => rfl) rfl rfl (fun v257 => ?_)
        refine r_goto (pc := 260) (tgt := 215) E dX13_codeOf_260 (by decide) ?_
        exact r_sub [2, 3, 4, 1, 5, 6, 0] [] [0] rfl rfl rfl (hk215 ((p0, p1, p2, p4, v254, p7, p8, v257)) _)
  have hL206 : ∀ (k196 : Option Nat × Int32 × Int32 × Int32 × Int32 × Int32 → Mem → Option (Int32 × Mem)) (hk196 : ∀ a M, RT p l e rmX13_codeOf s m args below meth c x 10 (QM below args s x (fun v : Int32 => some (.int v)) rmX13_codeOf.cells rmX13_codeOf.slots) 0 0 (k196 a M) 196 [(1, a.2.1), (2, a.2.2.1), (4, a.2.2.2.1), (6, a.2.2.2.2.1), (7, a.2.2.2.2.2)] [] [(0, a.1)] [] M) (p0 : Option Nat) (p1 : Int32) (p2 : Int32) (p4 : Int32) (p6 : Int32) (p7 : Int32) (p8 : Int32) (M : Mem), RT p l e rmX13_codeOf s m args below meth c x 10 (QM below args s x (fun v : Int32 => some (.int v)) rmX13_codeOf.cells rmX13_codeOf.slots) 0 0 (fX13_codeOf_L206 k196 p0 p1 p2 p4 p6 p7 p8 M) 206 [(1, p1), (2, p2), (4, p4), (6, p6), (7, p7), (8, p8)] [] [(0, p0)] [] M := by
    intro k196 hk196 p0 p1 p2 p4 p6 p7 p8 M
    refine r_lp (fi := fun a : Option Nat × Int32 × Int32 × Int32 × Int32 × Int32 × Int32 => [(1, a.2.1), (2, a.2.2.1), (4, a.2.2.2.1), (6, a.2.2.2.2.1), (7, a.2.2.2.2.2.1), (8, a.2.2.2.2.2.2)]) (fl := fun a : Option Nat × Int32 × Int32 × Int32 × Int32 × Int32 × Int32 => []) (fr := fun a : Option Nat × Int32 × Int32 × Int32 × Int32 × Int32 × Int32 => [(0, a.1)]) (fs := fun a : Option Nat × Int32 × Int32 × Int32 × Int32 × Int32 × Int32 => []) ?_ FU ((p0, p1, p2, p4, p6, p7, p8)) M
    intro k206 hk206 a M
    obtain ⟨p0, p1, p2, p4, p6, p7, p8⟩ := a
    show RT p l e rmX13_codeOf s m args below meth c x 10 (QM below args s x (fun v : Int32 => some (.int v)) rmX13_codeOf.cells rmX13_codeOf.slots) 0 0 (fX13_codeOf_B206 k196 k206 p0 p1 p2 p4 p6 p7 p8 M) 206 [(1, p1), (2, p2), (4, p4), (6, p6), (7, p7), (8, p8)] [] [(0, p0)] [] M
    unfold fX13_codeOf_B206
    refine r_iload (pc := 206) E dX13_codeOf_206 5 rfl ?_
    refine r_iload_n (pc := 208) E dX13_codeOf_208 rfl 1 rfl ?_
    refine r_icmp_gt (pc := 209) (tgt := 269) E dX13_codeOf_209 (by decide) ?_ ?_
    · refine r_iinc (pc := 269) (w := 1) (lf := fun v269 => [(7, v269), (1, p1), (2, p2), (4, p4), (6, p6), (8, p8)]) (ll' := []) (lr' := [(0, p0)]) E dX13_codeOf_269 4 rfl (by decide) (by decide) (fun _ => rfl) rfl rfl (fun v269 => ?_)
      refine r_goto (pc := 272) (tgt := 196) E dX13_codeOf_272 (by decide) ?_
      exact r_sub [1, 2, 3, 4, 0] [] [0] rfl rfl rfl (hk196 ((p0, p1, p2, p4, p6, v269)) _)
    · refine r_iconst (pc := 212) (v := 0) E dX13_codeOf_212 (by decide) ?_
      refine r_istore (pc := 213) (lf := fun v213 => [(9, v213), (1, p1), (2, p2), (4, p4), (6, p6), (7, p7), (8, p8)]) (lg := fun v213 => []) (lk := fun v213 => [(0, p0)]) E dX13_codeOf_213 (by decide) (fun _ => rfl) (fun _ => rfl) (fun _ => rfl) (fun v213 => ?_)
      exact r_sub [1, 2, 3, 4, 5, 6, 0] [] [0] rfl rfl rfl (hL215 k196 hk196 k206 hk206 p0 p1 p2 p4 p6 p7 p8 v213 _)
  have hL196 : ∀ (p0 : Option Nat) (p1 : Int32) (p2 : Int32) (p4 : Int32) (p6 : Int32) (p7 : Int32) (M : Mem), RT p l e rmX13_codeOf s m args below meth c x 10 (QM below args s x (fun v : Int32 => some (.int v)) rmX13_codeOf.cells rmX13_codeOf.slots) 0 0 (fX13_codeOf_L196 p0 p1 p2 p4 p6 p7 M) 196 [(1, p1), (2, p2), (4, p4), (6, p6), (7, p7)] [] [(0, p0)] [] M := by
    intro p0 p1 p2 p4 p6 p7 M
    refine r_lp (fi := fun a : Option Nat × Int32 × Int32 × Int32 × Int32 × Int32 => [(1, a.2.1), (2, a.2.2.1), (4, a.2.2.2.1), (6, a.2.2.2.2.1), (7, a.2.2.2.2.2)]) (fl := fun a : Option Nat × Int32 × Int32 × Int32 × Int32 × Int32 => []) (fr := fun a : Option Nat × Int32 × Int32 × Int32 × Int32 × Int32 => [(0, a.1)]) (fs := fun a : Option Nat × Int32 × Int32 × Int32 × Int32 × Int32 => []) ?_ FU ((p0, p1, p2, p4, p6, p7)) M
    intro k196 hk196 a M
    obtain ⟨p0, p1, p2, p4, p6, p7⟩ := a
    show RT p l e rmX13_codeOf s m args below meth c x 10 (QM below args s x (fun v : Int32 => some (.int v)) rmX13_codeOf.cells rmX13_codeOf.slots) 0 0 (fX13_codeOf_B196 k196 p0 p1 p2 p4 p6 p7 M) 196 [(1, p1), (2, p2), (4, p4), (6, p6), (7, p7)] [] [(0, p0)] [] M
    unfold fX13_codeOf_B196
    refine r_iload (pc := 196) E dX13_codeOf_196 4 rfl ?_
    refine r_iload (pc := 198) E dX13_codeOf_198 2 rfl ?_
    refine r_icmp_gt (pc := 200) (tgt := 275) E dX13_codeOf_200 (by decide) ?_ ?_
    · refine r_iconst (pc := 275) (v := 1) E dX13_codeOf_275 (by decide) ?_
      exact e_bool (pc := 276) E dX13_codeOf_276
    · refine r_iconst (pc := 203) (v := 0) E dX13_codeOf_203 (by decide) ?_
      refine r_istore (pc := 204) (lf := fun v204 => [(8, v204), (1, p1), (2, p2), (4, p4), (6, p6), (7, p7)]) (lg := fun v204 => []) (lk := fun v204 => [(0, p0)]) E dX13_codeOf_204 (by decide) (fun _ => rfl) (fun _ => rfl) (fun _ => rfl) (fun v204 => ?_)
      exact r_sub [1, 2, 3, 4, 5, 0] [] [0] rfl rfl rfl (hL206 k196 hk196 p0 p1 p2 p4 p6 p7 v204 _)
  have hL183 : ∀ (k131 : Option Nat × Int32 × Int32 × Int32 × Int32 → Mem → Option (Int32 × Mem)) (hk131 : ∀ a M, RT p l e rmX13_codeOf s m args below meth c x 10 (QM below args s x (fun v : Int32 => some (.int v)) rmX13_codeOf.cells rmX13_codeOf.slots) 0 0 (k131 a M) 131 [(1, a.2.1), (2, a.2.2.1), (4, a.2.2.2.1), (6, a.2.2.2.2)] [] [(0, a.1)] [] M) (p0 : Option Nat) (p1 : Int32) (p2 : Int32) (p4 : Int32) (p6 : Int32) (q0 : Option Nat) (q1 : Int32) (q2 : Int32) (M : Mem), RT p l e rmX13_codeOf s m args below meth c x 10 (QM below args s x (fun v : Int32 => some (.int v)) rmX13_codeOf.cells rmX13_codeOf.slots) 0 0 (fX13_codeOf_L183 k131 p0 p1 p2 p4 p6 q0 q1 q2 M) 183 [(1, p1), (2, p2), (4, p4), (6, p6)] [] [(0, p0)] [.int q2, .int q1, rv x q0] M := by
    intro k131 hk131 p0 p1 p2 p4 p6 q0 q1 q2 M
    unfold fX13_codeOf_L183
    refine r_iastore (pc := 183) E dX13_codeOf_183 (fun M183 => ?_)
    refine r_iinc (pc := 184) (w := 1) (lf := fun v184 => [(6, v184), (1, p1), (2, p2), (4, p4)]) (ll' := []) (lr' := [(0, p0)]) E dX13_codeOf_184 3 rfl (by decide) (by decide) (fun _ => rfl) rfl rfl (fun v184 => ?_)
    refine r_goto (pc := 187) (tgt := 131) E dX13_codeOf_187 (by decide) ?_
    exact r_sub [1, 2, 3, 0] [] [0] rfl rfl rfl (hk131 ((p0, p1, p2, p4, v184)) _)
  have hL182 : ∀ (k131 : Option Nat × Int32 × Int32 × Int32 × Int32 → Mem → Option (Int32 × Mem)) (hk131 : ∀ a M, RT p l e rmX13_codeOf s m args below meth c x 10 (QM below args s x (fun v : Int32 => some (.int v)) rmX13_codeOf.cells rmX13_codeOf.slots) 0 0 (k131 a M) 131 [(1, a.2.1), (2, a.2.2.1), (4, a.2.2.2.1), (6, a.2.2.2.2)] [] [(0, a.1)] [] M) (p0 : Option Nat) (p1 : Int32) (p2 : Int32) (p4 : Int32) (p6 : Int32) (q0 : Option Nat) (q1 : Int32) (M : Mem), RT p l e rmX13_codeOf s m args below meth c x 10 (QM below args s x (fun v : Int32 => some (.int v)) rmX13_codeOf.cells rmX13_codeOf.slots) 0 0 (fX13_codeOf_L182 k131 p0 p1 p2 p4 p6 q0 q1 M) 182 [(1, p1), (2, p2), (4, p4), (6, p6)] [] [(0, p0)] [.int q1, rv x q0] M := by
    intro k131 hk131 p0 p1 p2 p4 p6 q0 q1 M
    unfold fX13_codeOf_L182
    refine r_iconst (pc := 182) (v := 0) E dX13_codeOf_182 (by decide) ?_
    exact r_sub [0, 1, 2, 3] [] [0] rfl rfl rfl (hL183 k131 hk131 p0 p1 p2 p4 p6 q0 q1 0 _)
  have hL131 : ∀ (p0 : Option Nat) (p1 : Int32) (p2 : Int32) (p4 : Int32) (p6 : Int32) (M : Mem), RT p l e rmX13_codeOf s m args below meth c x 10 (QM below args s x (fun v : Int32 => some (.int v)) rmX13_codeOf.cells rmX13_codeOf.slots) 0 0 (fX13_codeOf_L131 p0 p1 p2 p4 p6 M) 131 [(1, p1), (2, p2), (4, p4), (6, p6)] [] [(0, p0)] [] M := by
    intro p0 p1 p2 p4 p6 M
    refine r_lp (fi := fun a : Option Nat × Int32 × Int32 × Int32 × Int32 => [(1, a.2.1), (2, a.2.2.1), (4, a.2.2.2.1), (6, a.2.2.2.2)]) (fl := fun a : Option Nat × Int32 × Int32 × Int32 × Int32 => []) (fr := fun a : Option Nat × Int32 × Int32 × Int32 × Int32 => [(0, a.1)]) (fs := fun a : Option Nat × Int32 × Int32 × Int32 × Int32 => []) ?_ FU ((p0, p1, p2, p4, p6)) M
    intro k131 hk131 a M
    obtain ⟨p0, p1, p2, p4, p6⟩ := a
    show RT p l e rmX13_codeOf s m args below meth c x 10 (QM below args s x (fun v : Int32 => some (.int v)) rmX13_codeOf.cells rmX13_codeOf.slots) 0 0 (fX13_codeOf_B131 k131 p0 p1 p2 p4 p6 M) 131 [(1, p1), (2, p2), (4, p4), (6, p6)] [] [(0, p0)] [] M
    unfold fX13_codeOf_B131
    refine r_iload (pc := 131) E dX13_codeOf_131 3 rfl ?_
    refine r_sipush (pc := 133) (v := 256) E dX13_codeOf_133 (by decide) ?_
    refine r_icmp_ge (pc := 136) (tgt := 190) E dX13_codeOf_136 (by decide) ?_ ?_
    · refine r_iconst (pc := 190) (v := 0) E dX13_codeOf_190 (by decide) ?_
      refine r_istore (pc := 191) (lf := fun v191 => [(6, v191), (1, p1), (2, p2), (4, p4)]) (lg := fun v191 => []) (lk := fun v191 => [(0, p0)]) E dX13_codeOf_191 (by decide) (fun _ => rfl) (fun _ => rfl) (fun _ => rfl) (fun v191 => ?_)
      refine r_iconst (pc := 193) (v := 1) E dX13_codeOf_193 (by decide) ?_
      refine r_istore (pc := 194) (lf := fun v194 => [(7, v194), (6, v191), (1, p1), (2, p2), (4, p4)]) (lg := fun v194 => []) (lk := fun v194 => [(0, p0)]) E dX13_codeOf_194 (by decide) (fun _ => rfl) (fun _ => rfl) (fun _ => rfl) (fun v194 => ?_)
      exact r_sub [2, 3, 4, 1, 0] [] [0] rfl rfl rfl (hL196 p0 p1 p2 p4 v191 v194 _)
    · refine r_aload_n (pc := 139) E dX13_codeOf_139 rfl 0 rfl ?_
      refine r_getA (pc := 140) E fd_13_20 wf_RX13_47 dX13_codeOf_140 (fun v140 => ?_)
      refine r_sipush (pc := 143) (v := 256) E dX13_codeOf_143 (by decide) ?_
      refine r_iload_n (pc := 146) E dX13_codeOf_146 rfl 0 rfl ?_
      refine r_imul (pc := 147) E dX13_codeOf_147 ?_
      refine r_iload (pc := 148) E dX13_codeOf_148 3 rfl ?_
      refine r_iadd (pc := 150) E dX13_codeOf_150 ?_
      refine r_iload (pc := 151) E dX13_codeOf_151 3 rfl ?_
      refine r_iload_n (pc := 153) E dX13_codeOf_153 rfl 1 rfl ?_
      refine r_icmp_gt (pc := 154) (tgt := 182) E dX13_codeOf_154 (by decide) ?_ ?_
      · exact r_sub [0, 1, 2, 3] [] [0] rfl rfl rfl (hL182 k131 hk131 p0 p1 p2 p4 p6 v140 ((256 * p1) + p6) _)
      · refine r_aload_n (pc := 157) E dX13_codeOf_157 rfl 0 rfl ?_
        refine r_getA (pc := 158) E fd_13_24 wf_RX13_59 dX13_codeOf_158 (fun v158 => ?_)
        refine r_iload (pc := 161) E dX13_codeOf_161 3 rfl ?_
        refine r_iaload (pc := 163) E dX13_codeOf_163 (fun v163 => ?_)
        refine r_if_le (pc := 164) (tgt := 182) E dX13_codeOf_164 (by decide) ?_ ?_
        · exact r_sub [0, 1, 2, 3] [] [0] rfl rfl rfl (hL182 k131 hk131 p0 p1 p2 p4 p6 v140 ((256 * p1) + p6) _)
        · refine r_iload (pc := 167) E dX13_codeOf_167 2 rfl ?_
          refine r_iconst (pc := 169) (v := 1) E dX13_codeOf_169 (by decide) ?_
          refine r_iadd (pc := 170) E dX13_codeOf_170 ?_
          refine r_aload_n (pc := 171) E dX13_codeOf_171 rfl 0 rfl ?_
          refine r_getA (pc := 172) E fd_13_24 wf_RX13_59 dX13_codeOf_172 (fun v172 => ?_)
          refine r_iload (pc := 175) E dX13_codeOf_175 3 rfl ?_
          refine r_iaload (pc := 177) E dX13_codeOf_177 (fun v177 => ?_)
          refine r_isub (pc := 178) E dX13_codeOf_178 ?_
          refine r_goto (pc := 179) (tgt := 183) E dX13_codeOf_179 (by decide) ?_
          exact r_sub [0, 1, 2, 3] [] [0] rfl rfl rfl (hL183 k131 hk131 p0 p1 p2 p4 p6 v140 ((256 * p1) + p6) ((p4 + 1) - v177) _)
  have hL51 : ∀ (k5 : Option Nat × Int32 × Int32 × Int32 × Int32 → Mem → Option (Int32 × Mem)) (hk5 : ∀ a M, RT p l e rmX13_codeOf s m args below meth c x 10 (QM below args s x (fun v : Int32 => some (.int v)) rmX13_codeOf.cells rmX13_codeOf.slots) 0 0 (k5 a M) 5 [(1, a.2.1), (2, a.2.2.1), (3, a.2.2.2.1), (4, a.2.2.2.2)] [] [(0, a.1)] [] M) (p0 : Option Nat) (p1 : Int32) (p2 : Int32) (p4 : Int32) (q0 : Int32) (q1 : Int32) (M : Mem), RT p l e rmX13_codeOf s m args below meth c x 10 (QM below args s x (fun v : Int32 => some (.int v)) rmX13_codeOf.cells rmX13_codeOf.slots) 0 0 (fX13_codeOf_L51 k5 p0 p1 p2 p4 q0 q1 M) 51 [(1, p1), (2, p2), (4, p4)] [] [(0, p0)] [.int q1, .int q0] M := by
    intro k5 hk5 p0 p1 p2 p4 q0 q1 M
    unfold fX13_codeOf_L51
    refine r_iadd (pc := 51) E dX13_codeOf_51 ?_
    refine r_istore_n (pc := 52) (lf := fun v52 => [(3, v52), (1, p1), (2, p2), (4, p4)]) (lg := fun v52 => []) (lk := fun v52 => [(0, p0)]) E dX13_codeOf_52 rfl (by decide) (fun _ => rfl) (fun _ => rfl) (fun _ => rfl) (fun v52 => ?_)
    refine r_iinc (pc := 53) (w := 1) (lf := fun v53 => [(4, v53), (3, v52), (1, p1), (2, p2)]) (ll' := []) (lr' := [(0, p0)]) E dX13_codeOf_53 3 rfl (by decide) (by decide) (fun _ => rfl) rfl rfl (fun v53 => ?_)
    refine r_goto (pc := 56) (tgt := 5) E dX13_codeOf_56 (by decide) ?_
    exact r_sub [2, 3, 1, 0] [] [0] rfl rfl rfl (hk5 ((p0, p1, p2, v52, v53)) _)
  have hL5 : ∀ (p0 : Option Nat) (p1 : Int32) (p2 : Int32) (p3 : Int32) (p4 : Int32) (M : Mem), RT p l e rmX13_codeOf s m args below meth c x 10 (QM below args s x (fun v : Int32 => some (.int v)) rmX13_codeOf.cells rmX13_codeOf.slots) 0 0 (fX13_codeOf_L5 p0 p1 p2 p3 p4 M) 5 [(1, p1), (2, p2), (3, p3), (4, p4)] [] [(0, p0)] [] M := by
    intro p0 p1 p2 p3 p4 M
    refine r_lp (fi := fun a : Option Nat × Int32 × Int32 × Int32 × Int32 => [(1, a.2.1), (2, a.2.2.1), (3, a.2.2.2.1), (4, a.2.2.2.2)]) (fl := fun a : Option Nat × Int32 × Int32 × Int32 × Int32 => []) (fr := fun a : Option Nat × Int32 × Int32 × Int32 × Int32 => [(0, a.1)]) (fs := fun a : Option Nat × Int32 × Int32 × Int32 × Int32 => []) ?_ FU ((p0, p1, p2, p3, p4)) M
    intro k5 hk5 a M
    obtain ⟨p0, p1, p2, p3, p4⟩ := a
    show RT p l e rmX13_codeOf s m args below meth c x 10 (QM below args s x (fun v : Int32 => some (.int v)) rmX13_codeOf.cells rmX13_codeOf.slots) 0 0 (fX13_codeOf_B5 k5 p0 p1 p2 p3 p4 M) 5 [(1, p1), (2, p2), (3, p3), (4, p4)] [] [(0, p0)] [] M
    unfold fX13_codeOf_B5
    refine r_iload (pc := 5) E dX13_codeOf_5 3 rfl ?_
    refine r_iload_n (pc := 7) E dX13_codeOf_7 rfl 1 rfl ?_
    refine r_icmp_ge (pc := 8) (tgt := 59) E dX13_codeOf_8 (by decide) ?_ ?_
    · refine r_iload_n (pc := 59) E dX13_codeOf_59 rfl 2 rfl ?_
      refine r_if_ne (pc := 60) (tgt := 65) E dX13_codeOf_60 (by decide) ?_ ?_
      · refine r_iload_n (pc := 65) E dX13_codeOf_65 rfl 2 rfl ?_
        refine r_kSi (pc := 66) (As := [.int p3]) (rest := []) E wc_X13_log wi_RX13 hd_X13_log wl_RX13_206 wt_X13_log dX13_codeOf_66 (by decide) (Nat.le_of_ble_eq_true rfl) ⟨rfl, rfl⟩ (ctX13_log l x _ _) rfl (fun v66 M66 => ?_)
        refine r_iconst (pc := 69) (v := 1) E dX13_codeOf_69 (by decide) ?_
        refine r_iadd (pc := 70) E dX13_codeOf_70 ?_
        refine r_istore (pc := 71) (lf := fun v71 => [(4, v71), (1, p1), (2, p2), (3, p3)]) (lg := fun v71 => []) (lk := fun v71 => [(0, p0)]) E dX13_codeOf_71 (by decide) (fun _ => rfl) (fun _ => rfl) (fun _ => rfl) (fun v71 => ?_)
        refine r_iconst (pc := 73) (v := 1) E dX13_codeOf_73 (by decide) ?_
        refine r_iload (pc := 74) E dX13_codeOf_74 0 rfl ?_
        refine r_ishl (pc := 76) E dX13_codeOf_76 ?_
        refine r_iload_n (pc := 77) E dX13_codeOf_77 rfl 3 rfl ?_
        refine r_isub (pc := 78) E dX13_codeOf_78 ?_
        refine r_istore (pc := 79) (lf := fun v79 => [(5, v79), (4, v71), (1, p1), (2, p2), (3, p3)]) (lg := fun v79 => []) (lk := fun v79 => [(0, p0)]) E dX13_codeOf_79 (by decide) (fun _ => rfl) (fun _ => rfl) (fun _ => rfl) (fun v79 => ?_)
        refine r_iload (pc := 81) E dX13_codeOf_81 1 rfl ?_
        refine r_bipush (pc := 83) (v := 11) E dX13_codeOf_83 (by decide) ?_
        refine r_icmp_gt (pc := 85) (tgt := 98) E dX13_codeOf_85 (by decide) ?_ ?_
        · exact r_sub [] [] [] rfl rfl rfl (hL98 _)
        · refine r_iload (pc := 88) E dX13_codeOf_88 0 rfl ?_
          refine r_iload (pc := 90) E dX13_codeOf_90 0 rfl ?_
          refine r_iconst (pc := 92) (v := 1) E dX13_codeOf_92 (by decide) ?_
          refine r_isub (pc := 93) E dX13_codeOf_93 ?_
          refine r_iand (pc := 94) E dX13_codeOf_94 ?_
          refine r_if_eq (pc := 95) (tgt := 100) E dX13_codeOf_95 (by decide) ?_ ?_
          · refine r_aload_n (pc := 100) E dX13_codeOf_100 rfl 0 rfl ?_
            refine r_getA (pc := 101) E fd_13_24 wf_RX13_59 dX13_codeOf_101 (fun v101 => ?_)
            refine r_iload_n (pc := 104) E dX13_codeOf_104 rfl 3 rfl ?_
            refine r_iload (pc := 105) E dX13_codeOf_105 0 rfl ?_
            refine r_kSi (pc := 107) (As := [.int v79]) (rest := [.int p2, rv x v101]) E wc_X13_log wi_RX13 hd_X13_log wl_RX13_206 wt_X13_log dX13_codeOf_107 (by decide) (Nat.le_of_ble_eq_true rfl) ⟨rfl, rfl⟩ (ctX13_log l x _ _) rfl (fun v107 M107 => ?_)
            refine r_iconst (pc := 110) (v := 1) E dX13_codeOf_110 (by decide) ?_
            refine r_iadd (pc := 111) E dX13_codeOf_111 ?_
            refine r_iastore (pc := 112) E dX13_codeOf_112 (fun M112 => ?_)
            refine r_aload_n (pc := 113) E dX13_codeOf_113 rfl 0 rfl ?_
            refine r_getA (pc := 114) E fd_13_21 wf_RX13_50 dX13_codeOf_114 (fun v114 => ?_)
            refine r_iload_n (pc := 117) E dX13_codeOf_117 rfl 2 rfl ?_
            refine r_iconst (pc := 118) (v := 1) E dX13_codeOf_118 (by decide) ?_
            refine r_zastore (pc := 119) E dX13_codeOf_119 (fun M119 => ?_)
            refine r_aload_n (pc := 120) E dX13_codeOf_120 rfl 0 rfl ?_
            refine r_getA (pc := 121) E fd_13_22 wf_RX13_53 dX13_codeOf_121 (fun v121 => ?_)
            refine r_iload_n (pc := 124) E dX13_codeOf_124 rfl 2 rfl ?_
            refine r_iload (pc := 125) E dX13_codeOf_125 1 rfl ?_
            refine r_iastore (pc := 127) E dX13_codeOf_127 (fun M127 => ?_)
            refine r_iconst (pc := 128) (v := 0) E dX13_codeOf_128 (by decide) ?_
            refine r_istore (pc := 129) (lf := fun v129 => [(6, v129), (5, v79), (4, v71), (1, p1), (2, p2), (3, p3)]) (lg := fun v129 => []) (lk := fun v129 => [(0, p0)]) E dX13_codeOf_129 (by decide) (fun _ => rfl) (fun _ => rfl) (fun _ => rfl) (fun v129 => ?_)
            exact r_sub [3, 4, 2, 0] [] [0] rfl rfl rfl (hL131 p0 p1 p2 v71 v129 _)
          · exact r_sub [] [] [] rfl rfl rfl (hL98 _)
      · refine r_iconst (pc := 63) (v := 0) E dX13_codeOf_63 (by decide) ?_
        exact e_bool (pc := 64) E dX13_codeOf_64
    · refine r_aload_n (pc := 11) E dX13_codeOf_11 rfl 0 rfl ?_
      refine r_getA (pc := 12) E fd_13_24 wf_RX13_59 dX13_codeOf_12 (fun v12 => ?_)
      refine r_iload (pc := 15) E dX13_codeOf_15 3 rfl ?_
      refine r_iaload (pc := 17) E dX13_codeOf_17 (fun v17 => ?_)
      refine r_bipush (pc := 18) (v := 11) E dX13_codeOf_18 (by decide) ?_
      refine r_icmp_le (pc := 20) (tgt := 25) E dX13_codeOf_20 (by decide) ?_ ?_
      · refine r_iload_n (pc := 25) E dX13_codeOf_25 rfl 2 rfl ?_
        refine r_aload_n (pc := 26) E dX13_codeOf_26 rfl 0 rfl ?_
        refine r_getA (pc := 27) E fd_13_24 wf_RX13_59 dX13_codeOf_27 (fun v27 => ?_)
        refine r_iload (pc := 30) E dX13_codeOf_30 3 rfl ?_
        refine r_iaload (pc := 32) E dX13_codeOf_32 (fun v32 => ?_)
        refine r_if_le (pc := 33) (tgt := 50) E dX13_codeOf_33 (by decide) ?_ ?_
        · refine r_iconst (pc := 50) (v := 0) E dX13_codeOf_50 (by decide) ?_
          exact r_sub [0, 1, 3] [] [0] rfl rfl rfl (hL51 k5 hk5 p0 p1 p2 p4 p3 0 _)
        · refine r_iconst (pc := 36) (v := 1) E dX13_codeOf_36 (by decide) ?_
          refine r_aload_n (pc := 37) E dX13_codeOf_37 rfl 0 rfl ?_
          refine r_getA (pc := 38) E fd_13_24 wf_RX13_59 dX13_codeOf_38 (fun v38 => ?_)
          refine r_iload (pc := 41) E dX13_codeOf_41 3 rfl ?_
          refine r_iaload (pc := 43) E dX13_codeOf_43 (fun v43 => ?_)
          refine r_iconst (pc := 44) (v := 1) E dX13_codeOf_44 (by decide) ?_
          refine r_isub (pc := 45) E dX13_codeOf_45 ?_
          refine r_ishl (pc := 46) E dX13_codeOf_46 ?_
          refine r_goto (pc := 47) (tgt := 51) E dX13_codeOf_47 (by decide) ?_
          exact r_sub [0, 1, 3] [] [0] rfl rfl rfl (hL51 k5 hk5 p0 p1 p2 p4 p3 (shlI 1 (v43 - 1)) _)
      · refine r_iconst (pc := 23) (v := 0) E dX13_codeOf_23 (by decide) ?_
        exact e_bool (pc := 24) E dX13_codeOf_24
  show RT p l e rmX13_codeOf s m args below meth c x 10 (QM below args s x (fun v : Int32 => some (.int v)) rmX13_codeOf.cells rmX13_codeOf.slots) 0 0 (fX13_codeOf a0 a1 a2 M) 0 [(1, a1), (2, a2)] [] [(0, a0)] [] M
  unfold fX13_codeOf
  refine r_iconst (pc := 0) (v := 0) E dX13_codeOf_0 (by decide) ?_
  refine r_istore_n (pc := 1) (lf := fun v1 => [(3, v1), (1, a1), (2, a2)]) (lg := fun v1 => []) (lk := fun v1 => [(0, a0)]) E dX13_codeOf_1 rfl (by decide) (fun _ => rfl) (fun _ => rfl) (fun _ => rfl) (fun v1 => ?_)
  refine r_iconst (pc := 2) (v := 0) E dX13_codeOf_2 (by decide) ?_
  refine r_istore (pc := 3) (lf := fun v3 => [(4, v3), (3, v1), (1, a1), (2, a2)]) (lg := fun v3 => []) (lk := fun v3 => [(0, a0)]) E dX13_codeOf_3 (by decide) (fun _ => rfl) (fun _ => rfl) (fun _ => rfl) (fun v3 => ?_)
  exact r_sub [2, 3, 1, 0] [] [0] rfl rfl rfl (hL5 a0 a1 a2 v1 v3 _)
def fX13_code_L161 (q0 : Int32) (M : Mem) : Option (Int32 × Mem) :=
  some (q0, M)
def fX13_code_L160 (M : Mem) : Option (Int32 × Mem) :=
  fX13_code_L161 ((-1)) M
def fX13_code_L140 (p0 : Option Nat) (p1 : Int32) (p5 : Int32) (p6 : Int32) (M : Mem) : Option (Int32 × Mem) :=
  if p5 < 0 then (
    fX13_code_L160 M
  ) else (
    bo (chk M p0 13) fun _ => bd (fX13_codeOf p0 p1 p5 M) fun v149 M149 =>
    if v149 = 0 then (
      fX13_code_L160 M149
    ) else (
      fX13_code_L161 p6 M149
    )
  )
def fX13_code_L100 (k56 : Option Nat × Int32 × Int32 × Int32 × Int32 × Int32 → Mem → Option (Int32 × Mem)) (p0 : Option Nat) (p1 : Int32) (p2 : Int32) (p5 : Int32) (p6 : Int32) (p7 : Int32) (q0 : Option Nat) (q1 : Int32) (q2 : Int32) (M : Mem) : Option (Int32 × Mem) :=
  bo (wI M q0 q1 (q2 &&& 15)) fun M103 =>
  bn (p7 + 1) fun v104 =>
  k56 ((p0, p1, p2, p5, p6, v104)) M103
def fX13_code_B56 (k56 : Option Nat × Int32 × Int32 × Int32 × Int32 × Int32 → Mem → Option (Int32 × Mem)) (p0 : Option Nat) (p1 : Int32) (p2 : Int32) (p5 : Int32) (p6 : Int32) (p7 : Int32) (M : Mem) : Option (Int32 × Mem) :=
  if p5 ≤ p7 then (
    fX13_code_L140 p0 p1 p5 p6 M
  ) else (
    bo (gR M p0 13 6) fun v64 =>
    bo (dv p7 2) fun v73 =>
    bo (aI M v64 14 ((p2 + 1) + v73)) fun v75 =>
    bn (v75) fun v76 =>
    bo (gR M p0 13 24) fun v79 =>
    bo (rm p7 2) fun v87 =>
    if v87 = 0 then (
      fX13_code_L100 k56 p0 p1 p2 p5 p6 p7 v79 p7 (shrI v76 4) M
    ) else (
      fX13_code_L100 k56 p0 p1 p2 p5 p6 p7 v79 p7 v76 M
    )
  )
def fX13_code_L56 (p0 : Option Nat) (p1 : Int32) (p2 : Int32) (p5 : Int32) (p6 : Int32) (p7 : Int32) (M : Mem) : Option (Int32 × Mem) :=
  lp (fun k56 (a : Option Nat × Int32 × Int32 × Int32 × Int32 × Int32) M => fX13_code_B56 k56 a.1 a.2.1 a.2.2.1 a.2.2.2.1 a.2.2.2.2.1 a.2.2.2.2.2 M) FU ((p0, p1, p2, p5, p6, p7)) M
def fX13_code (a0 : Option Nat) (a1 : Int32) (a2 : Int32) (a3 : Int32) (M : Mem) : Option (Int32 × Mem) :=
  if a2 < a3 then (
    bo (gR M a0 13 6) fun v8 =>
    bo (aI M v8 14 a2) fun v12 =>
    bn (v12 &&& 255) fun v17 =>
    if v17 ≤ 127 then (
      bn ((a2 + 1) + v17) fun v119 =>
      if v119 ≤ a3 then (
        bo (chk M a0 13) fun _ => bd (fX13_toldWeights a0 (a2 + 1) v119 M) fun v135 M135 =>
        bn (v135) fun v138 =>
        fX13_code_L140 a0 a1 v138 v119 M135
      ) else (
        some ((-1), M)
      )
    ) else (
      bn (v17 - 127) fun v31 =>
      bo (dv (v31 + 1) 2) fun v41 =>
      bn ((a2 + 1) + v41) fun v43 =>
      if v43 ≤ a3 then (
        bn (0) fun v54 =>
        fX13_code_L56 a0 a1 a2 v31 v43 v54 M
      ) else (
        some ((-1), M)
      )
    )
  ) else (
    some ((-1), M)
  )
def rmX13_code : Room := { frames := 3, cells := 0, slots := 0, locals := 84 }
set_option maxRecDepth 100000 in
set_option maxHeartbeats 4000000 in
theorem ctX13_code (l : Launch) (x : Cx) (a0 : Option Nat) (a1 : Int32) (a2 : Int32) (a3 : Int32) (M : Mem) (v : Int32) (N : Mem) (h : fX13_code a0 a1 a2 a3 M = some (v, N)) : CT l yX13_code cX13_code 9 (some (FieldType.int)) rmX13_code x [rv x a0, .int a1, .int a2, .int a3] M (some (.int v)) N := by
  refine ct_mk (enc := fun v : Int32 => some (.int v)) (li := [(1, a1), (2, a2), (3, a3)]) (ll := []) (lr := [(0, a0)]) (by decide +kernel) (by simp [lg_sl, rv_cat, cat_int, cat_long]) (by simp [flat, lv_args, rv_cat, cat_int, cat_long]) h ?_
  intro p e s m args below meth c E
  have hL161 : ∀ (q0 : Int32) (M : Mem), RT p l e rmX13_code s m args below meth c x 9 (QM below args s x (fun v : Int32 => some (.int v)) rmX13_code.cells rmX13_code.slots) 0 0 (fX13_code_L161 q0 M) 161 [] [] [] [.int q0] M := by
    intro q0 M
    unfold fX13_code_L161
    exact e_int (pc := 161) E dX13_code_161
  have hL160 : ∀ (M : Mem), RT p l e rmX13_code s m args below meth c x 9 (QM below args s x (fun v : Int32 => some (.int v)) rmX13_code.cells rmX13_code.slots) 0 0 (fX13_code_L160 M) 160 [] [] [] [] M := by
    intro M
    unfold fX13_code_L160
    refine r_iconst (pc := 160) (v := (-1)) E dX13_code_160 (by decide) ?_
    exact r_sub [] [] [] rfl rfl rfl (hL161 ((-1)) _)
  have hL140 : ∀ (p0 : Option Nat) (p1 : Int32) (p5 : Int32) (p6 : Int32) (M : Mem), RT p l e rmX13_code s m args below meth c x 9 (QM below args s x (fun v : Int32 => some (.int v)) rmX13_code.cells rmX13_code.slots) 0 0 (fX13_code_L140 p0 p1 p5 p6 M) 140 [(1, p1), (5, p5), (6, p6)] [] [(0, p0)] [] M := by
    intro p0 p1 p5 p6 M
    unfold fX13_code_L140
    refine r_iload (pc := 140) E dX13_code_140 1 rfl ?_
    refine r_if_lt (pc := 142) (tgt := 160) E dX13_code_142 (by decide) ?_ ?_
    · exact r_sub [] [] [] rfl rfl rfl (hL160 _)
    · refine r_aload_n (pc := 145) E dX13_code_145 rfl 0 rfl ?_
      refine r_iload_n (pc := 146) E dX13_code_146 rfl 0 rfl ?_
      refine r_iload (pc := 147) E dX13_code_147 1 rfl ?_
      refine r_kVi (pc := 149) (As := [.int p1, .int p5]) (rest := []) E wc_X13_codeOf wi_RX13 hd_X13_codeOf (ci := 13) rfl wl_RX13_242 wn_X13_codeOf ws_X13_codeOf dX13_code_149 (by decide) (Nat.le_of_ble_eq_true rfl) ⟨rfl, rfl⟩ (ctX13_codeOf l x _ _ _ _) rfl (fun v149 M149 => ?_)
      refine r_if_eq (pc := 152) (tgt := 160) E dX13_code_152 (by decide) ?_ ?_
      · exact r_sub [] [] [] rfl rfl rfl (hL160 _)
      · refine r_iload (pc := 155) E dX13_code_155 2 rfl ?_
        refine r_goto (pc := 157) (tgt := 161) E dX13_code_157 (by decide) ?_
        exact r_sub [] [] [] rfl rfl rfl (hL161 p6 _)
  have hL100 : ∀ (k56 : Option Nat × Int32 × Int32 × Int32 × Int32 × Int32 → Mem → Option (Int32 × Mem)) (hk56 : ∀ a M, RT p l e rmX13_code s m args below meth c x 9 (QM below args s x (fun v : Int32 => some (.int v)) rmX13_code.cells rmX13_code.slots) 0 0 (k56 a M) 56 [(1, a.2.1), (2, a.2.2.1), (5, a.2.2.2.1), (6, a.2.2.2.2.1), (7, a.2.2.2.2.2)] [] [(0, a.1)] [] M) (p0 : Option Nat) (p1 : Int32) (p2 : Int32) (p5 : Int32) (p6 : Int32) (p7 : Int32) (q0 : Option Nat) (q1 : Int32) (q2 : Int32) (M : Mem), RT p l e rmX13_code s m args below meth c x 9 (QM below args s x (fun v : Int32 => some (.int v)) rmX13_code.cells rmX13_code.slots) 0 0 (fX13_code_L100 k56 p0 p1 p2 p5 p6 p7 q0 q1 q2 M) 100 [(1, p1), (2, p2), (5, p5), (6, p6), (7, p7)] [] [(0, p0)] [.int q2, .int q1, rv x q0] M := by
    intro k56 hk56 p0 p1 p2 p5 p6 p7 q0 q1 q2 M
    unfold fX13_code_L100
    refine r_bipush (pc := 100) (v := 15) E dX13_code_100 (by decide) ?_
    refine r_iand (pc := 102) E dX13_code_102 ?_
    refine r_iastore (pc := 103) E dX13_code_103 (fun M103 => ?_)
    refine r_iinc (pc := 104) (w := 1) (lf := fun v104 => [(7, v104), (1, p1), (2, p2), (5, p5), (6, p6)]) (ll' := []) (lr' := [(0, p0)]) E dX13_code_104 4 rfl (by decide) (by decide) (fun _ => rfl) rfl rfl (fun v104 => ?_)
    refine r_goto (pc := 107) (tgt := 56) E dX13_code_107 (by decide) ?_
    exact r_sub [1, 2, 3, 4, 0] [] [0] rfl rfl rfl (hk56 ((p0, p1, p2, p5, p6, v104)) _)
  have hL56 : ∀ (p0 : Option Nat) (p1 : Int32) (p2 : Int32) (p5 : Int32) (p6 : Int32) (p7 : Int32) (M : Mem), RT p l e rmX13_code s m args below meth c x 9 (QM below args s x (fun v : Int32 => some (.int v)) rmX13_code.cells rmX13_code.slots) 0 0 (fX13_code_L56 p0 p1 p2 p5 p6 p7 M) 56 [(1, p1), (2, p2), (5, p5), (6, p6), (7, p7)] [] [(0, p0)] [] M := by
    intro p0 p1 p2 p5 p6 p7 M
    refine r_lp (fi := fun a : Option Nat × Int32 × Int32 × Int32 × Int32 × Int32 => [(1, a.2.1), (2, a.2.2.1), (5, a.2.2.2.1), (6, a.2.2.2.2.1), (7, a.2.2.2.2.2)]) (fl := fun a : Option Nat × Int32 × Int32 × Int32 × Int32 × Int32 => []) (fr := fun a : Option Nat × Int32 × Int32 × Int32 × Int32 × Int32 => [(0, a.1)]) (fs := fun a : Option Nat × Int32 × Int32 × Int32 × Int32 × Int32 => []) ?_ FU ((p0, p1, p2, p5, p6, p7)) M
    intro k56 hk56 a M
    obtain ⟨p0, p1, p2, p5, p6, p7⟩ := a
    show RT p l e rmX13_code s m args below meth c x 9 (QM below args s x (fun v : Int32 => some (.int v)) rmX13_code.cells rmX13_code.slots) 0 0 (fX13_code_B56 k56 p0 p1 p2 p5 p6 p7 M) 56 [(1, p1), (2, p2), (5, p5), (6, p6), (7, p7)] [] [(0, p0)] [] M
    unfold fX13_code_B56
    refine r_iload (pc := 56) E dX13_code_56 4 rfl ?_
    refine r_iload (pc := 58) E dX13_code_58 2 rfl ?_
    refine r_icmp_ge (pc := 60) (tgt := 110) E dX13_code_60 (by decide) ?_ ?_
    · refine r_goto (pc := 110) (tgt := 140) E dX13_code_110 (by decide) ?_
      exact r_sub [0, 2, 3] [] [0] rfl rfl rfl (hL140 p0 p1 p5 p6 _)
    · refine r_aload_n (pc := 63) E dX13_code_63 rfl 0 rfl ?_
      refine r_getA (pc := 64) E fd_13_6 wf_RX13_20 dX13_code_64 (fun v64 => ?_)
      refine r_iload_n (pc := 67) E dX13_code_67 rfl 1 rfl ?_
      refine r_iconst (pc := 68) (v := 1) E dX13_code_68 (by decide) ?_
      refine r_iadd (pc := 69) E dX13_code_69 ?_
      refine r_iload (pc := 70) E dX13_code_70 4 rfl ?_
      refine r_iconst (pc := 72) (v := 2) E dX13_code_72 (by decide) ?_
      refine r_idiv (pc := 73) E dX13_code_73 (fun v73 => ?_)
      refine r_iadd (pc := 74) E dX13_code_74 ?_
      refine r_baload (pc := 75) E dX13_code_75 (fun v75 => ?_)
      refine r_istore (pc := 76) (lf := fun v76 => [(8, v76), (1, p1), (2, p2), (5, p5), (6, p6), (7, p7)]) (lg := fun v76 => []) (lk := fun v76 => [(0, p0)]) E dX13_code_76 (by decide) (fun _ => rfl) (fun _ => rfl) (fun _ => rfl) (fun v76 => ?_)
      refine r_aload_n (pc := 78) E dX13_code_78 rfl 0 rfl ?_
      refine r_getA (pc := 79) E fd_13_24 wf_RX13_59 dX13_code_79 (fun v79 => ?_)
      refine r_iload (pc := 82) E dX13_code_82 5 rfl ?_
      refine r_iload (pc := 84) E dX13_code_84 5 rfl ?_
      refine r_iconst (pc := 86) (v := 2) E dX13_code_86 (by decide) ?_
      refine r_irem (pc := 87) E dX13_code_87 (fun v87 => ?_)
      refine r_if_ne (pc := 88) (tgt := 98) E dX13_code_88 (by decide) ?_ ?_
      · refine r_iload (pc := 98) E dX13_code_98 0 rfl ?_
        exact r_sub [1, 2, 3, 4, 5] [] [0] rfl rfl rfl (hL100 k56 hk56 p0 p1 p2 p5 p6 p7 v79 p7 v76 _)
      · refine r_iload (pc := 91) E dX13_code_91 0 rfl ?_
        refine r_iconst (pc := 93) (v := 4) E dX13_code_93 (by decide) ?_
        refine r_ishr (pc := 94) E dX13_code_94 ?_
        refine r_goto (pc := 95) (tgt := 100) E dX13_code_95 (by decide) ?_
        exact r_sub [1, 2, 3, 4, 5] [] [0] rfl rfl rfl (hL100 k56 hk56 p0 p1 p2 p5 p6 p7 v79 p7 (shrI v76 4) _)
  show RT p l e rmX13_code s m args below meth c x 9 (QM below args s x (fun v : Int32 => some (.int v)) rmX13_code.cells rmX13_code.slots) 0 0 (fX13_code a0 a1 a2 a3 M) 0 [(1, a1), (2, a2), (3, a3)] [] [(0, a0)] [] M
  unfold fX13_code
  refine r_iload_n (pc := 0) E dX13_code_0 rfl 1 rfl ?_
  refine r_iload_n (pc := 1) E dX13_code_1 rfl 2 rfl ?_
  refine r_icmp_lt (pc := 2) (tgt := 7) E dX13_code_2 (by decide) ?_ ?_
  · refine r_aload_n (pc := 7) E dX13_code_7 rfl 0 rfl ?_
    refine r_getA (pc := 8) E fd_13_6 wf_RX13_20 dX13_code_8 (fun v8 => ?_)
    refine r_iload_n (pc := 11) E dX13_code_11 rfl 1 rfl ?_
    refine r_baload (pc := 12) E dX13_code_12 (fun v12 => ?_)
    refine r_sipush (pc := 13) (v := 255) E dX13_code_13 (by decide) ?_
    refine r_iand (pc := 16) E dX13_code_16 ?_
    refine r_istore (pc := 17) (lf := fun v17 => [(4, v17), (1, a1), (2, a2), (3, a3)]) (lg := fun v17 => []) (lk := fun v17 => [(0, a0)]) E dX13_code_17 (by decide) (fun _ => rfl) (fun _ => rfl) (fun _ => rfl) (fun v17 => ?_)
    refine r_iload (pc := 19) E dX13_code_19 0 rfl ?_
    refine r_bipush (pc := 21) (v := 127) E dX13_code_21 (by decide) ?_
    refine r_icmp_le (pc := 23) (tgt := 113) E dX13_code_23 (by decide) ?_ ?_
    · refine r_iload_n (pc := 113) E dX13_code_113 rfl 2 rfl ?_
      refine r_iconst (pc := 114) (v := 1) E dX13_code_114 (by decide) ?_
      refine r_iadd (pc := 115) E dX13_code_115 ?_
      refine r_iload (pc := 116) E dX13_code_116 0 rfl ?_
      refine r_iadd (pc := 118) E dX13_code_118 ?_
      refine r_istore (pc := 119) (lf := fun v119 => [(6, v119), (4, v17), (1, a1), (2, a2), (3, a3)]) (lg := fun v119 => []) (lk := fun v119 => [(0, a0)]) E dX13_code_119 (by decide) (fun _ => rfl) (fun _ => rfl) (fun _ => rfl) (fun v119 => ?_)
      refine r_iload (pc := 121) E dX13_code_121 0 rfl ?_
      refine r_iload_n (pc := 123) E dX13_code_123 rfl 4 rfl ?_
      refine r_icmp_le (pc := 124) (tgt := 129) E dX13_code_124 (by decide) ?_ ?_
      · refine r_aload_n (pc := 129) E dX13_code_129 rfl 0 rfl ?_
        refine r_iload_n (pc := 130) E dX13_code_130 rfl 3 rfl ?_
        refine r_iconst (pc := 131) (v := 1) E dX13_code_131 (by decide) ?_
        refine r_iadd (pc := 132) E dX13_code_132 ?_
        refine r_iload (pc := 133) E dX13_code_133 0 rfl ?_
        refine r_kVi (pc := 135) (As := [.int (a2 + 1), .int v119]) (rest := []) E wc_X13_toldWeights wi_RX13 hd_X13_toldWeights (ci := 13) rfl wl_RX13_238 wn_X13_toldWeights ws_X13_toldWeights dX13_code_135 (by decide) (Nat.le_of_ble_eq_true rfl) ⟨rfl, rfl⟩ (ctX13_toldWeights l x _ _ _ _) rfl (fun v135 M135 => ?_)
        refine r_istore (pc := 138) (lf := fun v138 => [(5, v138), (6, v119), (4, v17), (1, a1), (2, a2), (3, a3)]) (lg := fun v138 => []) (lk := fun v138 => [(0, a0)]) E dX13_code_138 (by decide) (fun _ => rfl) (fun _ => rfl) (fun _ => rfl) (fun v138 => ?_)
        exact r_sub [3, 0, 1] [] [0] rfl rfl rfl (hL140 a0 a1 v138 v119 _)
      · refine r_iconst (pc := 127) (v := (-1)) E dX13_code_127 (by decide) ?_
        exact e_int (pc := 128) E dX13_code_128
    · refine r_iload (pc := 26) E dX13_code_26 0 rfl ?_
      refine r_bipush (pc := 28) (v := 127) E dX13_code_28 (by decide) ?_
      refine r_isub (pc := 30) E dX13_code_30 ?_
      refine r_istore (pc := 31) (lf := fun v31 => [(5, v31), (4, v17), (1, a1), (2, a2), (3, a3)]) (lg := fun v31 => []) (lk := fun v31 => [(0, a0)]) E dX13_code_31 (by decide) (fun _ => rfl) (fun _ => rfl) (fun _ => rfl) (fun v31 => ?_)
      refine r_iload_n (pc := 33) E dX13_code_33 rfl 3 rfl ?_
      refine r_iconst (pc := 34) (v := 1) E dX13_code_34 (by decide) ?_
      refine r_iadd (pc := 35) E dX13_code_35 ?_
      refine r_iload (pc := 36) E dX13_code_36 0 rfl ?_
      refine r_iconst (pc := 38) (v := 1) E dX13_code_38 (by decide) ?_
      refine r_iadd (pc := 39) E dX13_code_39 ?_
      refine r_iconst (pc := 40) (v := 2) E dX13_code_40 (by decide) ?_
      refine r_idiv (pc := 41) E dX13_code_41 (fun v41 => ?_)
      refine r_iadd (pc := 42) E dX13_code_42 ?_
      refine r_istore (pc := 43) (lf := fun v43 => [(6, v43), (5, v31), (4, v17), (1, a1), (2, a2), (3, a3)]) (lg := fun v43 => []) (lk := fun v43 => [(0, a0)]) E dX13_code_43 (by decide) (fun _ => rfl) (fun _ => rfl) (fun _ => rfl) (fun v43 => ?_)
      refine r_iload (pc := 45) E dX13_code_45 0 rfl ?_
      refine r_iload_n (pc := 47) E dX13_code_47 rfl 5 rfl ?_
      refine r_icmp_le (pc := 48) (tgt := 53) E dX13_code_48 (by decide) ?_ ?_
      · refine r_iconst (pc := 53) (v := 0) E dX13_code_53 (by decide) ?_
        refine r_istore (pc := 54) (lf := fun v54 => [(7, v54), (6, v43), (5, v31), (4, v17), (1, a1), (2, a2), (3, a3)]) (lg := fun v54 => []) (lk := fun v54 => [(0, a0)]) E dX13_code_54 (by decide) (fun _ => rfl) (fun _ => rfl) (fun _ => rfl) (fun v54 => ?_)
        exact r_sub [4, 5, 2, 1, 0] [] [0] rfl rfl rfl (hL56 a0 a1 a2 v31 v43 v54 _)
      · refine r_iconst (pc := 51) (v := (-1)) E dX13_code_51 (by decide) ?_
        exact e_int (pc := 52) E dX13_code_52
  · refine r_iconst (pc := 5) (v := (-1)) E dX13_code_5 (by decide) ?_
    exact e_int (pc := 6) E dX13_code_6
def fX13_content_B12 (k12 : Option Nat × Int32 × Int32 → Mem → Option (Unit × Mem)) (p0 : Option Nat) (p1 : Int32) (p2 : Int32) (M : Mem) : Option (Unit × Mem) :=
  bo (gI M p0 13 26) fun v14 =>
  if v14 ≤ p2 then (
    some ((), M)
  ) else (
    bo (gR M p0 13 25) fun v21 =>
    bo (gR M p0 13 0) fun v26 =>
    bo (aI M v26 14 (p1 + p2)) fun v32 =>
    bo (wB M v21 p2 v32) fun M33 =>
    bn (p2 + 1) fun v34 =>
    k12 ((p0, p1, v34)) M33
  )
def fX13_content_L12 (p0 : Option Nat) (p1 : Int32) (p2 : Int32) (M : Mem) : Option (Unit × Mem) :=
  lp (fun k12 (a : Option Nat × Int32 × Int32) M => fX13_content_B12 k12 a.1 a.2.1 a.2.2 M) FU ((p0, p1, p2)) M
def fX13_content (a0 : Option Nat) (a1 : Int32) (M : Mem) : Option (Unit × Mem) :=
  bo (gI M a0 13 1) fun v2 =>
  bo (pI M a0 13 26 (v2 - a1)) fun M7 =>
  bn (0) fun v11 =>
  fX13_content_L12 a0 a1 v11 M7
def rmX13_content : Room := { frames := 0, cells := 0, slots := 0, locals := 0 }
set_option maxRecDepth 100000 in
set_option maxHeartbeats 4000000 in
theorem ctX13_content (l : Launch) (x : Cx) (a0 : Option Nat) (a1 : Int32) (M : Mem) (v : Unit) (N : Mem) (h : fX13_content a0 a1 M = some (v, N)) : CT l yX13_content cX13_content 3 (none) rmX13_content x [rv x a0, .int a1] M none N := by
  refine ct_mk (enc := fun _ : Unit => none) (li := [(1, a1)]) (ll := []) (lr := [(0, a0)]) (by decide +kernel) (by simp [lg_sl, rv_cat, cat_int, cat_long]) (by simp [flat, lv_args, rv_cat, cat_int, cat_long]) h ?_
  intro p e s m args below meth c E
  have hL12 : ∀ (p0 : Option Nat) (p1 : Int32) (p2 : Int32) (M : Mem), RT p l e rmX13_content s m args below meth c x 3 (QM below args s x (fun _ : Unit => none) rmX13_content.cells rmX13_content.slots) 0 0 (fX13_content_L12 p0 p1 p2 M) 12 [(1, p1), (2, p2)] [] [(0, p0)] [] M := by
    intro p0 p1 p2 M
    refine r_lp (fi := fun a : Option Nat × Int32 × Int32 => [(1, a.2.1), (2, a.2.2)]) (fl := fun a : Option Nat × Int32 × Int32 => []) (fr := fun a : Option Nat × Int32 × Int32 => [(0, a.1)]) (fs := fun a : Option Nat × Int32 × Int32 => []) ?_ FU ((p0, p1, p2)) M
    intro k12 hk12 a M
    obtain ⟨p0, p1, p2⟩ := a
    show RT p l e rmX13_content s m args below meth c x 3 (QM below args s x (fun _ : Unit => none) rmX13_content.cells rmX13_content.slots) 0 0 (fX13_content_B12 k12 p0 p1 p2 M) 12 [(1, p1), (2, p2)] [] [(0, p0)] [] M
    unfold fX13_content_B12
    refine r_iload_n (pc := 12) E dX13_content_12 rfl 1 rfl ?_
    refine r_aload_n (pc := 13) E dX13_content_13 rfl 0 rfl ?_
    refine r_getI (pc := 14) E fd_13_26 wf_RX13_273 dX13_content_14 (fun v14 => ?_)
    refine r_icmp_ge (pc := 17) (tgt := 40) E dX13_content_17 (by decide) ?_ ?_
    · exact e_void (pc := 40) E dX13_content_40
    · refine r_aload_n (pc := 20) E dX13_content_20 rfl 0 rfl ?_
      refine r_getA (pc := 21) E fd_13_25 wf_RX13_62 dX13_content_21 (fun v21 => ?_)
      refine r_iload_n (pc := 24) E dX13_content_24 rfl 1 rfl ?_
      refine r_aload_n (pc := 25) E dX13_content_25 rfl 0 rfl ?_
      refine r_getA (pc := 26) E fd_13_0 wf_RX13_7 dX13_content_26 (fun v26 => ?_)
      refine r_iload_n (pc := 29) E dX13_content_29 rfl 0 rfl ?_
      refine r_iload_n (pc := 30) E dX13_content_30 rfl 1 rfl ?_
      refine r_iadd (pc := 31) E dX13_content_31 ?_
      refine r_baload (pc := 32) E dX13_content_32 (fun v32 => ?_)
      refine r_bastore (pc := 33) E dX13_content_33 (fun M33 => ?_)
      refine r_iinc (pc := 34) (w := 1) (lf := fun v34 => [(2, v34), (1, p1)]) (ll' := []) (lr' := [(0, p0)]) E dX13_content_34 1 rfl (by decide) (by decide) (fun _ => rfl) rfl rfl (fun v34 => ?_)
      refine r_goto (pc := 37) (tgt := 12) E dX13_content_37 (by decide) ?_
      exact r_sub [1, 0] [] [0] rfl rfl rfl (hk12 ((p0, p1, v34)) _)
  show RT p l e rmX13_content s m args below meth c x 3 (QM below args s x (fun _ : Unit => none) rmX13_content.cells rmX13_content.slots) 0 0 (fX13_content a0 a1 M) 0 [(1, a1)] [] [(0, a0)] [] M
  unfold fX13_content
  refine r_aload_n (pc := 0) E dX13_content_0 rfl 0 rfl ?_
  refine r_aload_n (pc := 1) E dX13_content_1 rfl 0 rfl ?_
  refine r_getI (pc := 2) E fd_13_1 wf_RX13_150 dX13_content_2 (fun v2 => ?_)
  refine r_iload_n (pc := 5) E dX13_content_5 rfl 0 rfl ?_
  refine r_isub (pc := 6) E dX13_content_6 ?_
  refine r_putI (pc := 7) E fd_13_26 wf_RX13_273 dX13_content_7 (Or.inl rfl) (fun M7 => ?_)
  refine r_iconst (pc := 10) (v := 0) E dX13_content_10 (by decide) ?_
  refine r_istore_n (pc := 11) (lf := fun v11 => [(2, v11), (1, a1)]) (lg := fun v11 => []) (lk := fun v11 => [(0, a0)]) E dX13_content_11 rfl (by decide) (fun _ => rfl) (fun _ => rfl) (fun _ => rfl) (fun v11 => ?_)
  exact r_sub [1, 0] [] [0] rfl rfl rfl (hL12 a0 a1 v11 _)
def fX13_tabled_L31 (M : Mem) : Option (Int32 × Mem) :=
  some ((-1), M)
def fX13_tabled_L126 (M : Mem) : Option (Int32 × Mem) :=
  some ((-1), M)
def fX13_tabled_L170 (M : Mem) : Option (Int32 × Mem) :=
  some ((-1), M)
def fX13_tabled_B130 (k130 : Option Nat × Int32 × Int32 → Mem → Option (Int32 × Mem)) (p0 : Option Nat) (p1 : Int32) (p2 : Int32) (M : Mem) : Option (Int32 × Mem) :=
  if 3 ≤ p2 then (
    some (p1, M)
  ) else (
    bo (gR M p0 13 0) fun v136 =>
    bd (fX13_eight v136 (p1 + (4 * p2)) 4 M) fun v145 M145 =>
    bn (v145) fun v148 =>
    if (lg_cmp v148 0) = 0 then (
      fX13_tabled_L170 M145
    ) else (
      bo (gI M145 p0 13 1) fun v157 =>
      if (lg_cmp v148 (((v157 - p1) - 12).toInt64)) ≤ 0 then (
        bn (p2 + 1) fun v172 =>
        k130 ((p0, p1, v172)) M145
      ) else (
        fX13_tabled_L170 M145
      )
    )
  )
def fX13_tabled_L130 (p0 : Option Nat) (p1 : Int32) (p2 : Int32) (M : Mem) : Option (Int32 × Mem) :=
  lp (fun k130 (a : Option Nat × Int32 × Int32) M => fX13_tabled_B130 k130 a.1 a.2.1 a.2.2 M) FU ((p0, p1, p2)) M
def fX13_tabled_L111 (p0 : Option Nat) (p1 : Int32) (M : Mem) : Option (Int32 × Mem) :=
  if p1 < 0 then (
    fX13_tabled_L126 M
  ) else (
    bo (gI M p0 13 1) fun v116 =>
    if 12 ≤ (v116 - p1) then (
      bn (0) fun v129 =>
      fX13_tabled_L130 p0 p1 v129 M
    ) else (
      fX13_tabled_L126 M
    )
  )
def fX13_tabled_L105 (k47 : Option Nat × Int32 × Int32 → Mem → Option (Int32 × Mem)) (p0 : Option Nat) (p1 : Int32) (p2 : Int32) (M : Mem) : Option (Int32 × Mem) :=
  bn (p2 + 1) fun v105 =>
  k47 ((p0, p1, v105)) M
def fX13_tabled_L74 (k47 : Option Nat × Int32 × Int32 → Mem → Option (Int32 × Mem)) (p0 : Option Nat) (p1 : Int32) (p2 : Int32) (q0 : Int32) (M : Mem) : Option (Int32 × Mem) :=
  bn (q0) fun v74 =>
  bo (gI M p0 13 1) fun v78 =>
  bd (fX13_greatest v74 M) fun v82 M82 =>
  bd (fX13_mostLog v74 M82) fun v86 M86 =>
  bo (chk M86 p0 13) fun _ => bd (fX13_toldCounts p0 p1 v78 v82 v86 M86) fun v89 M89 =>
  bn (v89) fun v92 =>
  if v92 < 0 then (
    fX13_tabled_L105 k47 p0 v92 p2 M89
  ) else (
    bo (chk M89 p0 13) fun _ => bd (fX13_table p0 (7 + v74) M89) fun v102 M102 =>
    fX13_tabled_L105 k47 p0 v92 p2 M102
  )
def fX13_tabled_B47 (k47 : Option Nat × Int32 × Int32 → Mem → Option (Int32 × Mem)) (p0 : Option Nat) (p1 : Int32) (p2 : Int32) (M : Mem) : Option (Int32 × Mem) :=
  if 3 ≤ p2 then (
    fX13_tabled_L111 p0 p1 M
  ) else (
    if p1 < 0 then (
      fX13_tabled_L111 p0 p1 M
    ) else (
      if p2 = 0 then (
        fX13_tabled_L74 k47 p0 p1 p2 1 M
      ) else (
        if p2 = 1 then (
          fX13_tabled_L74 k47 p0 p1 p2 2 M
        ) else (
          fX13_tabled_L74 k47 p0 p1 p2 0 M
        )
      )
    )
  )
def fX13_tabled_L47 (p0 : Option Nat) (p1 : Int32) (p2 : Int32) (M : Mem) : Option (Int32 × Mem) :=
  lp (fun k47 (a : Option Nat × Int32 × Int32) M => fX13_tabled_B47 k47 a.1 a.2.1 a.2.2 M) FU ((p0, p1, p2)) M
def fX13_tabled (a0 : Option Nat) (M : Mem) : Option (Int32 × Mem) :=
  bo (gR M a0 13 0) fun v2 =>
  bo (pR M a0 13 6 v2) fun M5 =>
  bo (gI M5 a0 13 1) fun v9 =>
  if v9 < 8 then (
    fX13_tabled_L31 M5
  ) else (
    bo (gR M5 a0 13 0) fun v18 =>
    bd (fX13_eight v18 4 4 M5) fun v23 M23 =>
    if (lg_cmp v23 0) = 0 then (
      fX13_tabled_L31 M23
    ) else (
      bo (gI M23 a0 13 1) fun v38 =>
      bo (chk M23 a0 13) fun _ => bd (fX13_code a0 2 8 v38 M23) fun v41 M41 =>
      bn (v41) fun v44 =>
      bn (0) fun v46 =>
      fX13_tabled_L47 a0 v44 v46 M41
    )
  )
def rmX13_tabled : Room := { frames := 4, cells := 0, slots := 0, locals := 112 }
set_option maxRecDepth 100000 in
set_option maxHeartbeats 4000000 in
theorem ctX13_tabled (l : Launch) (x : Cx) (a0 : Option Nat) (M : Mem) (v : Int32) (N : Mem) (h : fX13_tabled a0 M = some (v, N)) : CT l yX13_tabled cX13_tabled 5 (some (FieldType.int)) rmX13_tabled x [rv x a0] M (some (.int v)) N := by
  refine ct_mk (enc := fun v : Int32 => some (.int v)) (li := []) (ll := []) (lr := [(0, a0)]) (by decide +kernel) (by simp [lg_sl, rv_cat, cat_int, cat_long]) (by simp [flat, lv_args, rv_cat, cat_int, cat_long]) h ?_
  intro p e s m args below meth c E
  have hL31 : ∀ (M : Mem), RT p l e rmX13_tabled s m args below meth c x 5 (QM below args s x (fun v : Int32 => some (.int v)) rmX13_tabled.cells rmX13_tabled.slots) 0 0 (fX13_tabled_L31 M) 31 [] [] [] [] M := by
    intro M
    unfold fX13_tabled_L31
    refine r_iconst (pc := 31) (v := (-1)) E dX13_tabled_31 (by decide) ?_
    exact e_int (pc := 32) E dX13_tabled_32
  have hL126 : ∀ (M : Mem), RT p l e rmX13_tabled s m args below meth c x 5 (QM below args s x (fun v : Int32 => some (.int v)) rmX13_tabled.cells rmX13_tabled.slots) 0 0 (fX13_tabled_L126 M) 126 [] [] [] [] M := by
    intro M
    unfold fX13_tabled_L126
    refine r_iconst (pc := 126) (v := (-1)) E dX13_tabled_126 (by decide) ?_
    exact e_int (pc := 127) E dX13_tabled_127
  have hL170 : ∀ (M : Mem), RT p l e rmX13_tabled s m args below meth c x 5 (QM below args s x (fun v : Int32 => some (.int v)) rmX13_tabled.cells rmX13_tabled.slots) 0 0 (fX13_tabled_L170 M) 170 [] [] [] [] M := by
    intro M
    unfold fX13_tabled_L170
    refine r_iconst (pc := 170) (v := (-1)) E dX13_tabled_170 (by decide) ?_
    exact e_int (pc := 171) E dX13_tabled_171
  have hL130 : ∀ (p0 : Option Nat) (p1 : Int32) (p2 : Int32) (M : Mem), RT p l e rmX13_tabled s m args below meth c x 5 (QM below args s x (fun v : Int32 => some (.int v)) rmX13_tabled.cells rmX13_tabled.slots) 0 0 (fX13_tabled_L130 p0 p1 p2 M) 130 [(1, p1), (2, p2)] [] [(0, p0)] [] M := by
    intro p0 p1 p2 M
    refine r_lp (fi := fun a : Option Nat × Int32 × Int32 => [(1, a.2.1), (2, a.2.2)]) (fl := fun a : Option Nat × Int32 × Int32 => []) (fr := fun a : Option Nat × Int32 × Int32 => [(0, a.1)]) (fs := fun a : Option Nat × Int32 × Int32 => []) ?_ FU ((p0, p1, p2)) M
    intro k130 hk130 a M
    obtain ⟨p0, p1, p2⟩ := a
    show RT p l e rmX13_tabled s m args below meth c x 5 (QM below args s x (fun v : Int32 => some (.int v)) rmX13_tabled.cells rmX13_tabled.slots) 0 0 (fX13_tabled_B130 k130 p0 p1 p2 M) 130 [(1, p1), (2, p2)] [] [(0, p0)] [] M
    unfold fX13_tabled_B130
    refine r_iload_n (pc := 130) E dX13_tabled_130 rfl 1 rfl ?_
    refine r_iconst (pc := 131) (v := 3) E dX13_tabled_131 (by decide) ?_
    refine r_icmp_ge (pc := 132) (tgt := 178) E dX13_tabled_132 (by decide) ?_ ?_
    · refine r_iload_n (pc := 178) E dX13_tabled_178 rfl 0 rfl ?_
      exact e_int (pc := 179) E dX13_tabled_179
    · refine r_aload_n (pc := 135) E dX13_tabled_135 rfl 0 rfl ?_
      refine r_getA (pc := 136) E fd_13_0 wf_RX13_7 dX13_tabled_136 (fun v136 => ?_)
      refine r_iload_n (pc := 139) E dX13_tabled_139 rfl 0 rfl ?_
      refine r_iconst (pc := 140) (v := 4) E dX13_tabled_140 (by decide) ?_
      refine r_iload_n (pc := 141) E dX13_tabled_141 rfl 1 rfl ?_
      refine r_imul (pc := 142) E dX13_tabled_142 ?_
      refine r_iadd (pc := 143) E dX13_tabled_143 ?_
      refine r_iconst (pc := 144) (v := 4) E dX13_tabled_144 (by decide) ?_
      refine r_kSl (pc := 145) (As := [rv x v136, .int (p1 + (4 * p2)), .int 4]) (rest := []) E wc_X13_eight wi_RX13 hd_X13_eight wl_RX13_175 wt_X13_eight dX13_tabled_145 (by decide) (Nat.le_of_ble_eq_true rfl) ⟨rfl, rfl⟩ (ctX13_eight l x _ _ _ _) rfl (fun v145 M145 => ?_)
      refine r_lstore_n (pc := 148) (lf := fun v148 => [(1, p1), (2, p2)]) (lg := fun v148 => [(3, v148)]) (lk := fun v148 => [(0, p0)]) E dX13_tabled_148 rfl (by decide) (fun _ => rfl) (fun _ => rfl) (fun _ => rfl) (fun v148 => ?_)
      refine r_lload_n (pc := 149) E dX13_tabled_149 rfl 0 rfl ?_
      refine r_lconst (pc := 150) (v := 0) E dX13_tabled_150 (by decide) ?_
      refine r_lcmp (pc := 151) E dX13_tabled_151 ?_
      refine r_if_eq (pc := 152) (tgt := 170) E dX13_tabled_152 (by decide) ?_ ?_
      · exact r_sub [] [] [] rfl rfl rfl (hL170 _)
      · refine r_lload_n (pc := 155) E dX13_tabled_155 rfl 0 rfl ?_
        refine r_aload_n (pc := 156) E dX13_tabled_156 rfl 0 rfl ?_
        refine r_getI (pc := 157) E fd_13_1 wf_RX13_150 dX13_tabled_157 (fun v157 => ?_)
        refine r_iload_n (pc := 160) E dX13_tabled_160 rfl 0 rfl ?_
        refine r_isub (pc := 161) E dX13_tabled_161 ?_
        refine r_bipush (pc := 162) (v := 12) E dX13_tabled_162 (by decide) ?_
        refine r_isub (pc := 164) E dX13_tabled_164 ?_
        refine r_i2l (pc := 165) E dX13_tabled_165 ?_
        refine r_lcmp (pc := 166) E dX13_tabled_166 ?_
        refine r_if_le (pc := 167) (tgt := 172) E dX13_tabled_167 (by decide) ?_ ?_
        · refine r_iinc (pc := 172) (w := 1) (lf := fun v172 => [(2, v172), (1, p1)]) (ll' := [(3, v148)]) (lr' := [(0, p0)]) E dX13_tabled_172 1 rfl (by decide) (by decide) (fun _ => rfl) rfl rfl (fun v172 => ?_)
          refine r_goto (pc := 175) (tgt := 130) E dX13_tabled_175 (by decide) ?_
          exact r_sub [1, 0] [] [0] rfl rfl rfl (hk130 ((p0, p1, v172)) _)
        · exact r_sub [] [] [] rfl rfl rfl (hL170 _)
  have hL111 : ∀ (p0 : Option Nat) (p1 : Int32) (M : Mem), RT p l e rmX13_tabled s m args below meth c x 5 (QM below args s x (fun v : Int32 => some (.int v)) rmX13_tabled.cells rmX13_tabled.slots) 0 0 (fX13_tabled_L111 p0 p1 M) 111 [(1, p1)] [] [(0, p0)] [] M := by
    intro p0 p1 M
    unfold fX13_tabled_L111
    refine r_iload_n (pc := 111) E dX13_tabled_111 rfl 0 rfl ?_
    refine r_if_lt (pc := 112) (tgt := 126) E dX13_tabled_112 (by decide) ?_ ?_
    · exact r_sub [] [] [] rfl rfl rfl (hL126 _)
    · refine r_aload_n (pc := 115) E dX13_tabled_115 rfl 0 rfl ?_
      refine r_getI (pc := 116) E fd_13_1 wf_RX13_150 dX13_tabled_116 (fun v116 => ?_)
      refine r_iload_n (pc := 119) E dX13_tabled_119 rfl 0 rfl ?_
      refine r_isub (pc := 120) E dX13_tabled_120 ?_
      refine r_bipush (pc := 121) (v := 12) E dX13_tabled_121 (by decide) ?_
      refine r_icmp_ge (pc := 123) (tgt := 128) E dX13_tabled_123 (by decide) ?_ ?_
      · refine r_iconst (pc := 128) (v := 0) E dX13_tabled_128 (by decide) ?_
        refine r_istore_n (pc := 129) (lf := fun v129 => [(2, v129), (1, p1)]) (lg := fun v129 => []) (lk := fun v129 => [(0, p0)]) E dX13_tabled_129 rfl (by decide) (fun _ => rfl) (fun _ => rfl) (fun _ => rfl) (fun v129 => ?_)
        exact r_sub [1, 0] [] [0] rfl rfl rfl (hL130 p0 p1 v129 _)
      · exact r_sub [] [] [] rfl rfl rfl (hL126 _)
  have hL105 : ∀ (k47 : Option Nat × Int32 × Int32 → Mem → Option (Int32 × Mem)) (hk47 : ∀ a M, RT p l e rmX13_tabled s m args below meth c x 5 (QM below args s x (fun v : Int32 => some (.int v)) rmX13_tabled.cells rmX13_tabled.slots) 0 0 (k47 a M) 47 [(1, a.2.1), (2, a.2.2)] [] [(0, a.1)] [] M) (p0 : Option Nat) (p1 : Int32) (p2 : Int32) (M : Mem), RT p l e rmX13_tabled s m args below meth c x 5 (QM below args s x (fun v : Int32 => some (.int v)) rmX13_tabled.cells rmX13_tabled.slots) 0 0 (fX13_tabled_L105 k47 p0 p1 p2 M) 105 [(1, p1), (2, p2)] [] [(0, p0)] [] M := by
    intro k47 hk47 p0 p1 p2 M
    unfold fX13_tabled_L105
    refine r_iinc (pc := 105) (w := 1) (lf := fun v105 => [(2, v105), (1, p1)]) (ll' := []) (lr' := [(0, p0)]) E dX13_tabled_105 1 rfl (by decide) (by decide) (fun _ => rfl) rfl rfl (fun v105 => ?_)
    refine r_goto (pc := 108) (tgt := 47) E dX13_tabled_108 (by decide) ?_
    exact r_sub [1, 0] [] [0] rfl rfl rfl (hk47 ((p0, p1, v105)) _)
  have hL74 : ∀ (k47 : Option Nat × Int32 × Int32 → Mem → Option (Int32 × Mem)) (hk47 : ∀ a M, RT p l e rmX13_tabled s m args below meth c x 5 (QM below args s x (fun v : Int32 => some (.int v)) rmX13_tabled.cells rmX13_tabled.slots) 0 0 (k47 a M) 47 [(1, a.2.1), (2, a.2.2)] [] [(0, a.1)] [] M) (p0 : Option Nat) (p1 : Int32) (p2 : Int32) (q0 : Int32) (M : Mem), RT p l e rmX13_tabled s m args below meth c x 5 (QM below args s x (fun v : Int32 => some (.int v)) rmX13_tabled.cells rmX13_tabled.slots) 0 0 (fX13_tabled_L74 k47 p0 p1 p2 q0 M) 74 [(1, p1), (2, p2)] [] [(0, p0)] [.int q0] M := by
    intro k47 hk47 p0 p1 p2 q0 M
    unfold fX13_tabled_L74
    refine r_istore_n (pc := 74) (lf := fun v74 => [(3, v74), (1, p1), (2, p2)]) (lg := fun v74 => []) (lk := fun v74 => [(0, p0)]) E dX13_tabled_74 rfl (by decide) (fun _ => rfl) (fun _ => rfl) (fun _ => rfl) (fun v74 => ?_)
    refine r_aload_n (pc := 75) E dX13_tabled_75 rfl 0 rfl ?_
    refine r_iload_n (pc := 76) E dX13_tabled_76 rfl 1 rfl ?_
    refine r_aload_n (pc := 77) E dX13_tabled_77 rfl 0 rfl ?_
    refine r_getI (pc := 78) E fd_13_1 wf_RX13_150 dX13_tabled_78 (fun v78 => ?_)
    refine r_iload_n (pc := 81) E dX13_tabled_81 rfl 0 rfl ?_
    refine r_kSi (pc := 82) (As := [.int v74]) (rest := [.int v78, .int p1, rv x p0]) E wc_X13_greatest wi_RX13 hd_X13_greatest wl_RX13_219 wt_X13_greatest dX13_tabled_82 (by decide) (Nat.le_of_ble_eq_true rfl) ⟨rfl, rfl⟩ (ctX13_greatest l x _ _) rfl (fun v82 M82 => ?_)
    refine r_iload_n (pc := 85) E dX13_tabled_85 rfl 0 rfl ?_
    refine r_kSi (pc := 86) (As := [.int v74]) (rest := [.int v82, .int v78, .int p1, rv x p0]) E wc_X13_mostLog wi_RX13 hd_X13_mostLog wl_RX13_280 wt_X13_mostLog dX13_tabled_86 (by decide) (Nat.le_of_ble_eq_true rfl) ⟨rfl, rfl⟩ (ctX13_mostLog l x _ _) rfl (fun v86 M86 => ?_)
    refine r_kVi (pc := 89) (As := [.int p1, .int v78, .int v82, .int v86]) (rest := []) E wc_X13_toldCounts wi_RX13 hd_X13_toldCounts (ci := 13) rfl wl_RX13_226 wn_X13_toldCounts ws_X13_toldCounts dX13_tabled_89 (by decide) (Nat.le_of_ble_eq_true rfl) ⟨rfl, rfl⟩ (ctX13_toldCounts l x _ _ _ _ _ _) rfl (fun v89 M89 => ?_)
    refine r_istore_n (pc := 92) (lf := fun v92 => [(1, v92), (3, v74), (2, p2)]) (lg := fun v92 => []) (lk := fun v92 => [(0, p0)]) E dX13_tabled_92 rfl (by decide) (fun _ => rfl) (fun _ => rfl) (fun _ => rfl) (fun v92 => ?_)
    refine r_iload_n (pc := 93) E dX13_tabled_93 rfl 0 rfl ?_
    refine r_if_lt (pc := 94) (tgt := 105) E dX13_tabled_94 (by decide) ?_ ?_
    · exact r_sub [0, 2] [] [0] rfl rfl rfl (hL105 k47 hk47 p0 v92 p2 _)
    · refine r_aload_n (pc := 97) E dX13_tabled_97 rfl 0 rfl ?_
      refine r_bipush (pc := 98) (v := 7) E dX13_tabled_98 (by decide) ?_
      refine r_iload_n (pc := 100) E dX13_tabled_100 rfl 1 rfl ?_
      refine r_iadd (pc := 101) E dX13_tabled_101 ?_
      refine r_kVv (pc := 102) (As := [.int (7 + v74)]) (rest := []) E wc_X13_table wi_RX13 hd_X13_table (ci := 13) rfl wl_RX13_222 wn_X13_table ws_X13_table dX13_tabled_102 (by decide) (Nat.le_of_ble_eq_true rfl) ⟨rfl, rfl⟩ (ctX13_table l x _ _ _) rfl (fun v102 M102 => ?_)
      exact r_sub [0, 2] [] [0] rfl rfl rfl (hL105 k47 hk47 p0 v92 p2 _)
  have hL47 : ∀ (p0 : Option Nat) (p1 : Int32) (p2 : Int32) (M : Mem), RT p l e rmX13_tabled s m args below meth c x 5 (QM below args s x (fun v : Int32 => some (.int v)) rmX13_tabled.cells rmX13_tabled.slots) 0 0 (fX13_tabled_L47 p0 p1 p2 M) 47 [(1, p1), (2, p2)] [] [(0, p0)] [] M := by
    intro p0 p1 p2 M
    refine r_lp (fi := fun a : Option Nat × Int32 × Int32 => [(1, a.2.1), (2, a.2.2)]) (fl := fun a : Option Nat × Int32 × Int32 => []) (fr := fun a : Option Nat × Int32 × Int32 => [(0, a.1)]) (fs := fun a : Option Nat × Int32 × Int32 => []) ?_ FU ((p0, p1, p2)) M
    intro k47 hk47 a M
    obtain ⟨p0, p1, p2⟩ := a
    show RT p l e rmX13_tabled s m args below meth c x 5 (QM below args s x (fun v : Int32 => some (.int v)) rmX13_tabled.cells rmX13_tabled.slots) 0 0 (fX13_tabled_B47 k47 p0 p1 p2 M) 47 [(1, p1), (2, p2)] [] [(0, p0)] [] M
    unfold fX13_tabled_B47
    refine r_iload_n (pc := 47) E dX13_tabled_47 rfl 1 rfl ?_
    refine r_iconst (pc := 48) (v := 3) E dX13_tabled_48 (by decide) ?_
    refine r_icmp_ge (pc := 49) (tgt := 111) E dX13_tabled_49 (by decide) ?_ ?_
    · exact r_sub [0] [] [0] rfl rfl rfl (hL111 p0 p1 _)
    · refine r_iload_n (pc := 52) E dX13_tabled_52 rfl 0 rfl ?_
      refine r_if_lt (pc := 53) (tgt := 111) E dX13_tabled_53 (by decide) ?_ ?_
      · exact r_sub [0] [] [0] rfl rfl rfl (hL111 p0 p1 _)
      · refine r_iload_n (pc := 56) E dX13_tabled_56 rfl 1 rfl ?_
        refine r_if_ne (pc := 57) (tgt := 64) E dX13_tabled_57 (by decide) ?_ ?_
        · refine r_iload_n (pc := 64) E dX13_tabled_64 rfl 1 rfl ?_
          refine r_iconst (pc := 65) (v := 1) E dX13_tabled_65 (by decide) ?_
          refine r_icmp_ne (pc := 66) (tgt := 73) E dX13_tabled_66 (by decide) ?_ ?_
          · refine r_iconst (pc := 73) (v := 0) E dX13_tabled_73 (by decide) ?_
            exact r_sub [0, 1] [] [0] rfl rfl rfl (hL74 k47 hk47 p0 p1 p2 0 _)
          · refine r_iconst (pc := 69) (v := 2) E dX13_tabled_69 (by decide) ?_
            refine r_goto (pc := 70) (tgt := 74) E dX13_tabled_70 (by decide) ?_
            exact r_sub [0, 1] [] [0] rfl rfl rfl (hL74 k47 hk47 p0 p1 p2 2 _)
        · refine r_iconst (pc := 60) (v := 1) E dX13_tabled_60 (by decide) ?_
          refine r_goto (pc := 61) (tgt := 74) E dX13_tabled_61 (by decide) ?_
          exact r_sub [0, 1] [] [0] rfl rfl rfl (hL74 k47 hk47 p0 p1 p2 1 _)
  show RT p l e rmX13_tabled s m args below meth c x 5 (QM below args s x (fun v : Int32 => some (.int v)) rmX13_tabled.cells rmX13_tabled.slots) 0 0 (fX13_tabled a0 M) 0 [] [] [(0, a0)] [] M
  unfold fX13_tabled
  refine r_aload_n (pc := 0) E dX13_tabled_0 rfl 0 rfl ?_
  refine r_aload_n (pc := 1) E dX13_tabled_1 rfl 0 rfl ?_
  refine r_getA (pc := 2) E fd_13_0 wf_RX13_7 dX13_tabled_2 (fun v2 => ?_)
  refine r_putA (pc := 5) E fd_13_6 wf_RX13_20 dX13_tabled_5 (Or.inl rfl) (fun M5 => ?_)
  refine r_aload_n (pc := 8) E dX13_tabled_8 rfl 0 rfl ?_
  refine r_getI (pc := 9) E fd_13_1 wf_RX13_150 dX13_tabled_9 (fun v9 => ?_)
  refine r_bipush (pc := 12) (v := 8) E dX13_tabled_12 (by decide) ?_
  refine r_icmp_lt (pc := 14) (tgt := 31) E dX13_tabled_14 (by decide) ?_ ?_
  · exact r_sub [] [] [] rfl rfl rfl (hL31 _)
  · refine r_aload_n (pc := 17) E dX13_tabled_17 rfl 0 rfl ?_
    refine r_getA (pc := 18) E fd_13_0 wf_RX13_7 dX13_tabled_18 (fun v18 => ?_)
    refine r_iconst (pc := 21) (v := 4) E dX13_tabled_21 (by decide) ?_
    refine r_iconst (pc := 22) (v := 4) E dX13_tabled_22 (by decide) ?_
    refine r_kSl (pc := 23) (As := [rv x v18, .int 4, .int 4]) (rest := []) E wc_X13_eight wi_RX13 hd_X13_eight wl_RX13_175 wt_X13_eight dX13_tabled_23 (by decide) (Nat.le_of_ble_eq_true rfl) ⟨rfl, rfl⟩ (ctX13_eight l x _ _ _ _) rfl (fun v23 M23 => ?_)
    refine r_lconst (pc := 26) (v := 0) E dX13_tabled_26 (by decide) ?_
    refine r_lcmp (pc := 27) E dX13_tabled_27 ?_
    refine r_if_ne (pc := 28) (tgt := 33) E dX13_tabled_28 (by decide) ?_ ?_
    · refine r_aload_n (pc := 33) E dX13_tabled_33 rfl 0 rfl ?_
      refine r_iconst (pc := 34) (v := 2) E dX13_tabled_34 (by decide) ?_
      refine r_bipush (pc := 35) (v := 8) E dX13_tabled_35 (by decide) ?_
      refine r_aload_n (pc := 37) E dX13_tabled_37 rfl 0 rfl ?_
      refine r_getI (pc := 38) E fd_13_1 wf_RX13_150 dX13_tabled_38 (fun v38 => ?_)
      refine r_kVi (pc := 41) (As := [.int 2, .int 8, .int v38]) (rest := []) E wc_X13_code wi_RX13 hd_X13_code (ci := 13) rfl wl_RX13_276 wn_X13_code ws_X13_code dX13_tabled_41 (by decide) (Nat.le_of_ble_eq_true rfl) ⟨rfl, rfl⟩ (ctX13_code l x _ _ _ _ _) rfl (fun v41 M41 => ?_)
      refine r_istore_n (pc := 44) (lf := fun v44 => [(1, v44)]) (lg := fun v44 => []) (lk := fun v44 => [(0, a0)]) E dX13_tabled_44 rfl (by decide) (fun _ => rfl) (fun _ => rfl) (fun _ => rfl) (fun v44 => ?_)
      refine r_iconst (pc := 45) (v := 0) E dX13_tabled_45 (by decide) ?_
      refine r_istore_n (pc := 46) (lf := fun v46 => [(2, v46), (1, v44)]) (lg := fun v46 => []) (lk := fun v46 => [(0, a0)]) E dX13_tabled_46 rfl (by decide) (fun _ => rfl) (fun _ => rfl) (fun _ => rfl) (fun v46 => ?_)
      exact r_sub [1, 0] [] [0] rfl rfl rfl (hL47 a0 v44 v46 _)
    · exact r_sub [] [] [] rfl rfl rfl (hL31 _)
def fX13_keep_L71 (p0 : Option Nat) (M : Mem) : Option (Int32 × Mem) :=
  bo (pZ M p0 13 27 1) fun M73 =>
  bo (pZ M73 p0 13 28 0) fun M78 =>
  bo (pI M78 p0 13 29 0) fun M83 =>
  bo (chk M83 p0 13) fun _ => bd (fX13_content p0 0 M83) fun v88 M88 =>
  some (0, M88)
def fX13_keep_B145 (k145 : Option Nat × Int32 × Int32 → Mem → Option (Int32 × Mem)) (p0 : Option Nat) (p1 : Int32) (p2 : Int32) (M : Mem) : Option (Int32 × Mem) :=
  if 3 ≤ p2 then (
    bo (pZ M p0 13 27 1) fun M178 =>
    bo (pZ M178 p0 13 28 1) fun M183 =>
    bo (gR M183 p0 13 0) fun v188 =>
    bd (fX13_eight v188 4 4 M183) fun v193 M193 =>
    bo (pI M193 p0 13 29 v193.toInt32) fun M197 =>
    bo (chk M197 p0 13) fun _ => bd (fX13_content p0 (p1 + 12) M197) fun v205 M205 =>
    bo (gI M205 p0 13 29) fun v209 =>
    some (v209, M205)
  ) else (
    bo (gR M p0 13 30) fun v151 =>
    bo (gR M p0 13 0) fun v156 =>
    bd (fX13_eight v156 (p1 + (4 * p2)) 4 M) fun v165 M165 =>
    bo (wI M165 v151 p2 v165.toInt32) fun M169 =>
    bn (p2 + 1) fun v170 =>
    k145 ((p0, p1, v170)) M169
  )
def fX13_keep_L145 (p0 : Option Nat) (p1 : Int32) (p2 : Int32) (M : Mem) : Option (Int32 × Mem) :=
  lp (fun k145 (a : Option Nat × Int32 × Int32) M => fX13_keep_B145 k145 a.1 a.2.1 a.2.2 M) FU ((p0, p1, p2)) M
def fX13_keep_B115 (k115 : Option Nat × Int32 × Int32 → Mem → Option (Int32 × Mem)) (p0 : Option Nat) (p1 : Int32) (p2 : Int32) (M : Mem) : Option (Int32 × Mem) :=
  if 3 ≤ p2 then (
    bo (chk M p0 13) fun _ => bd (fX13_copyCode p0 2 1 M) fun v140 M140 =>
    bn (0) fun v144 =>
    fX13_keep_L145 p0 p1 v144 M140
  ) else (
    bo (chk M p0 13) fun _ => bd (fX13_copyTable p0 (7 + p2) (3 + p2) M) fun v128 M128 =>
    bn (p2 + 1) fun v131 =>
    k115 ((p0, p1, v131)) M128
  )
def fX13_keep_L115 (p0 : Option Nat) (p1 : Int32) (p2 : Int32) (M : Mem) : Option (Int32 × Mem) :=
  lp (fun k115 (a : Option Nat × Int32 × Int32) M => fX13_keep_B115 k115 a.1 a.2.1 a.2.2 M) FU ((p0, p1, p2)) M
def fX13_keep (a0 : Option Nat) (M : Mem) : Option (Int32 × Mem) :=
  bo (gI M a0 13 1) fun v1 =>
  if v1 ≤ 3000 then (
    bo (pI M a0 13 5 ((-1))) fun M15 =>
    bo (pI M15 a0 13 4 0) fun M20 =>
    bo (gI M20 a0 13 1) fun v24 =>
    if v24 = 0 then (
      bo (pZ M20 a0 13 27 0) fun M32 =>
      bo (pZ M32 a0 13 28 0) fun M37 =>
      bo (pI M37 a0 13 29 0) fun M42 =>
      some (0, M42)
    ) else (
      bo (gI M20 a0 13 1) fun v48 =>
      if v48 < 4 then (
        fX13_keep_L71 a0 M20
      ) else (
        bo (gR M20 a0 13 0) fun v56 =>
        bd (fX13_eight v56 0 4 M20) fun v61 M61 =>
        if (lg_cmp v61 3962610743) = 0 then (
          bo (chk M61 a0 13) fun _ => bd (fX13_tabled a0 M61) fun v94 M94 =>
          bn (v94) fun v97 =>
          if 0 ≤ v97 then (
            bn (0) fun v114 =>
            fX13_keep_L115 a0 v97 v114 M94
          ) else (
            bo (chk M94 a0 13) fun _ => bd (fX13_fails a0 21 0 M94) fun v106 M106 =>
            some ((-31), M106)
          )
        ) else (
          fX13_keep_L71 a0 M61
        )
      )
    )
  ) else (
    some ((-4), M)
  )
def rmX13_keep : Room := { frames := 5, cells := 0, slots := 0, locals := 136 }
set_option maxRecDepth 100000 in
set_option maxHeartbeats 4000000 in
theorem ctX13_keep (l : Launch) (x : Cx) (a0 : Option Nat) (M : Mem) (v : Int32) (N : Mem) (h : fX13_keep a0 M = some (v, N)) : CT l yX13_keep cX13_keep 3 (some (FieldType.int)) rmX13_keep x [rv x a0] M (some (.int v)) N := by
  refine ct_mk (enc := fun v : Int32 => some (.int v)) (li := []) (ll := []) (lr := [(0, a0)]) (by decide +kernel) (by simp [lg_sl, rv_cat, cat_int, cat_long]) (by simp [flat, lv_args, rv_cat, cat_int, cat_long]) h ?_
  intro p e s m args below meth c E
  have hL71 : ∀ (p0 : Option Nat) (M : Mem), RT p l e rmX13_keep s m args below meth c x 3 (QM below args s x (fun v : Int32 => some (.int v)) rmX13_keep.cells rmX13_keep.slots) 0 0 (fX13_keep_L71 p0 M) 71 [] [] [(0, p0)] [] M := by
    intro p0 M
    unfold fX13_keep_L71
    refine r_aload_n (pc := 71) E dX13_keep_71 rfl 0 rfl ?_
    refine r_iconst (pc := 72) (v := 1) E dX13_keep_72 (by decide) ?_
    refine r_putZ (pc := 73) E fd_13_27 wf_RX13_245 dX13_keep_73 (Or.inl rfl) (fun M73 => ?_)
    refine r_aload_n (pc := 76) E dX13_keep_76 rfl 0 rfl ?_
    refine r_iconst (pc := 77) (v := 0) E dX13_keep_77 (by decide) ?_
    refine r_putZ (pc := 78) E fd_13_28 wf_RX13_248 dX13_keep_78 (Or.inl rfl) (fun M78 => ?_)
    refine r_aload_n (pc := 81) E dX13_keep_81 rfl 0 rfl ?_
    refine r_iconst (pc := 82) (v := 0) E dX13_keep_82 (by decide) ?_
    refine r_putI (pc := 83) E fd_13_29 wf_RX13_251 dX13_keep_83 (Or.inl rfl) (fun M83 => ?_)
    refine r_aload_n (pc := 86) E dX13_keep_86 rfl 0 rfl ?_
    refine r_iconst (pc := 87) (v := 0) E dX13_keep_87 (by decide) ?_
    refine r_kVv (pc := 88) (As := [.int 0]) (rest := []) E wc_X13_content wi_RX13 hd_X13_content (ci := 13) rfl wl_RX13_256 wn_X13_content ws_X13_content dX13_keep_88 (by decide) (Nat.le_of_ble_eq_true rfl) ⟨rfl, rfl⟩ (ctX13_content l x _ _ _) rfl (fun v88 M88 => ?_)
    refine r_iconst (pc := 91) (v := 0) E dX13_keep_91 (by decide) ?_
    exact e_int (pc := 92) E dX13_keep_92
  have hL145 : ∀ (p0 : Option Nat) (p1 : Int32) (p2 : Int32) (M : Mem), RT p l e rmX13_keep s m args below meth c x 3 (QM below args s x (fun v : Int32 => some (.int v)) rmX13_keep.cells rmX13_keep.slots) 0 0 (fX13_keep_L145 p0 p1 p2 M) 145 [(1, p1), (2, p2)] [] [(0, p0)] [] M := by
    intro p0 p1 p2 M
    refine r_lp (fi := fun a : Option Nat × Int32 × Int32 => [(1, a.2.1), (2, a.2.2)]) (fl := fun a : Option Nat × Int32 × Int32 => []) (fr := fun a : Option Nat × Int32 × Int32 => [(0, a.1)]) (fs := fun a : Option Nat × Int32 × Int32 => []) ?_ FU ((p0, p1, p2)) M
    intro k145 hk145 a M
    obtain ⟨p0, p1, p2⟩ := a
    show RT p l e rmX13_keep s m args below meth c x 3 (QM below args s x (fun v : Int32 => some (.int v)) rmX13_keep.cells rmX13_keep.slots) 0 0 (fX13_keep_B145 k145 p0 p1 p2 M) 145 [(1, p1), (2, p2)] [] [(0, p0)] [] M
    unfold fX13_keep_B145
    refine r_iload_n (pc := 145) E dX13_keep_145 rfl 1 rfl ?_
    refine r_iconst (pc := 146) (v := 3) E dX13_keep_146 (by decide) ?_
    refine r_icmp_ge (pc := 147) (tgt := 176) E dX13_keep_147 (by decide) ?_ ?_
    · refine r_aload_n (pc := 176) E dX13_keep_176 rfl 0 rfl ?_
      refine r_iconst (pc := 177) (v := 1) E dX13_keep_177 (by decide) ?_
      refine r_putZ (pc := 178) E fd_13_27 wf_RX13_245 dX13_keep_178 (Or.inl rfl) (fun M178 => ?_)
      refine r_aload_n (pc := 181) E dX13_keep_181 rfl 0 rfl ?_
      refine r_iconst (pc := 182) (v := 1) E dX13_keep_182 (by decide) ?_
      refine r_putZ (pc := 183) E fd_13_28 wf_RX13_248 dX13_keep_183 (Or.inl rfl) (fun M183 => ?_)
      refine r_aload_n (pc := 186) E dX13_keep_186 rfl 0 rfl ?_
      refine r_aload_n (pc := 187) E dX13_keep_187 rfl 0 rfl ?_
      refine r_getA (pc := 188) E fd_13_0 wf_RX13_7 dX13_keep_188 (fun v188 => ?_)
      refine r_iconst (pc := 191) (v := 4) E dX13_keep_191 (by decide) ?_
      refine r_iconst (pc := 192) (v := 4) E dX13_keep_192 (by decide) ?_
      refine r_kSl (pc := 193) (As := [rv x v188, .int 4, .int 4]) (rest := [rv x p0]) E wc_X13_eight wi_RX13 hd_X13_eight wl_RX13_175 wt_X13_eight dX13_keep_193 (by decide) (Nat.le_of_ble_eq_true rfl) ⟨rfl, rfl⟩ (ctX13_eight l x _ _ _ _) rfl (fun v193 M193 => ?_)
      refine r_l2i (pc := 196) E dX13_keep_196 ?_
      refine r_putI (pc := 197) E fd_13_29 wf_RX13_251 dX13_keep_197 (Or.inl rfl) (fun M197 => ?_)
      refine r_aload_n (pc := 200) E dX13_keep_200 rfl 0 rfl ?_
      refine r_iload_n (pc := 201) E dX13_keep_201 rfl 0 rfl ?_
      refine r_bipush (pc := 202) (v := 12) E dX13_keep_202 (by decide) ?_
      refine r_iadd (pc := 204) E dX13_keep_204 ?_
      refine r_kVv (pc := 205) (As := [.int (p1 + 12)]) (rest := []) E wc_X13_content wi_RX13 hd_X13_content (ci := 13) rfl wl_RX13_256 wn_X13_content ws_X13_content dX13_keep_205 (by decide) (Nat.le_of_ble_eq_true rfl) ⟨rfl, rfl⟩ (ctX13_content l x _ _ _) rfl (fun v205 M205 => ?_)
      refine r_aload_n (pc := 208) E dX13_keep_208 rfl 0 rfl ?_
      refine r_getI (pc := 209) E fd_13_29 wf_RX13_251 dX13_keep_209 (fun v209 => ?_)
      exact e_int (pc := 212) E dX13_keep_212
    · refine r_aload_n (pc := 150) E dX13_keep_150 rfl 0 rfl ?_
      refine r_getA (pc := 151) E fd_13_30 wf_RX13_65 dX13_keep_151 (fun v151 => ?_)
      refine r_iload_n (pc := 154) E dX13_keep_154 rfl 1 rfl ?_
      refine r_aload_n (pc := 155) E dX13_keep_155 rfl 0 rfl ?_
      refine r_getA (pc := 156) E fd_13_0 wf_RX13_7 dX13_keep_156 (fun v156 => ?_)
      refine r_iload_n (pc := 159) E dX13_keep_159 rfl 0 rfl ?_
      refine r_iconst (pc := 160) (v := 4) E dX13_keep_160 (by decide) ?_
      refine r_iload_n (pc := 161) E dX13_keep_161 rfl 1 rfl ?_
      refine r_imul (pc := 162) E dX13_keep_162 ?_
      refine r_iadd (pc := 163) E dX13_keep_163 ?_
      refine r_iconst (pc := 164) (v := 4) E dX13_keep_164 (by decide) ?_
      refine r_kSl (pc := 165) (As := [rv x v156, .int (p1 + (4 * p2)), .int 4]) (rest := [.int p2, rv x v151]) E wc_X13_eight wi_RX13 hd_X13_eight wl_RX13_175 wt_X13_eight dX13_keep_165 (by decide) (Nat.le_of_ble_eq_true rfl) ⟨rfl, rfl⟩ (ctX13_eight l x _ _ _ _) rfl (fun v165 M165 => ?_)
      refine r_l2i (pc := 168) E dX13_keep_168 ?_
      refine r_iastore (pc := 169) E dX13_keep_169 (fun M169 => ?_)
      refine r_iinc (pc := 170) (w := 1) (lf := fun v170 => [(2, v170), (1, p1)]) (ll' := []) (lr' := [(0, p0)]) E dX13_keep_170 1 rfl (by decide) (by decide) (fun _ => rfl) rfl rfl (fun v170 => ?_)
      refine r_goto (pc := 173) (tgt := 145) E dX13_keep_173 (by decide) ?_
      exact r_sub [1, 0] [] [0] rfl rfl rfl (hk145 ((p0, p1, v170)) _)
  have hL115 : ∀ (p0 : Option Nat) (p1 : Int32) (p2 : Int32) (M : Mem), RT p l e rmX13_keep s m args below meth c x 3 (QM below args s x (fun v : Int32 => some (.int v)) rmX13_keep.cells rmX13_keep.slots) 0 0 (fX13_keep_L115 p0 p1 p2 M) 115 [(1, p1), (2, p2)] [] [(0, p0)] [] M := by
    intro p0 p1 p2 M
    refine r_lp (fi := fun a : Option Nat × Int32 × Int32 => [(1, a.2.1), (2, a.2.2)]) (fl := fun a : Option Nat × Int32 × Int32 => []) (fr := fun a : Option Nat × Int32 × Int32 => [(0, a.1)]) (fs := fun a : Option Nat × Int32 × Int32 => []) ?_ FU ((p0, p1, p2)) M
    intro k115 hk115 a M
    obtain ⟨p0, p1, p2⟩ := a
    show RT p l e rmX13_keep s m args below meth c x 3 (QM below args s x (fun v : Int32 => some (.int v)) rmX13_keep.cells rmX13_keep.slots) 0 0 (fX13_keep_B115 k115 p0 p1 p2 M) 115 [(1, p1), (2, p2)] [] [(0, p0)] [] M
    unfold fX13_keep_B115
    refine r_iload_n (pc := 115) E dX13_keep_115 rfl 1 rfl ?_
    refine r_iconst (pc := 116) (v := 3) E dX13_keep_116 (by decide) ?_
    refine r_icmp_ge (pc := 117) (tgt := 137) E dX13_keep_117 (by decide) ?_ ?_
    · refine r_aload_n (pc := 137) E dX13_keep_137 rfl 0 rfl ?_
      refine r_iconst (pc := 138) (v := 2) E dX13_keep_138 (by decide) ?_
      refine r_iconst (pc := 139) (v := 1) E dX13_keep_139 (by decide) ?_
      refine r_kVv (pc := 140) (As := [.int 2, .int 1]) (rest := []) E wc_X13_copyCode wi_RX13 hd_X13_copyCode (ci := 13) rfl wl_RX13_270 wn_X13_copyCode ws_X13_copyCode dX13_keep_140 (by decide) (Nat.le_of_ble_eq_true rfl) ⟨rfl, rfl⟩ (ctX13_copyCode l x _ _ _ _) rfl (fun v140 M140 => ?_)
      refine r_iconst (pc := 143) (v := 0) E dX13_keep_143 (by decide) ?_
      refine r_istore_n (pc := 144) (lf := fun v144 => [(2, v144), (1, p1)]) (lg := fun v144 => []) (lk := fun v144 => [(0, p0)]) E dX13_keep_144 rfl (by decide) (fun _ => rfl) (fun _ => rfl) (fun _ => rfl) (fun v144 => ?_)
      exact r_sub [1, 0] [] [0] rfl rfl rfl (hL145 p0 p1 v144 _)
    · refine r_aload_n (pc := 120) E dX13_keep_120 rfl 0 rfl ?_
      refine r_bipush (pc := 121) (v := 7) E dX13_keep_121 (by decide) ?_
      refine r_iload_n (pc := 123) E dX13_keep_123 rfl 1 rfl ?_
      refine r_iadd (pc := 124) E dX13_keep_124 ?_
      refine r_iconst (pc := 125) (v := 3) E dX13_keep_125 (by decide) ?_
      refine r_iload_n (pc := 126) E dX13_keep_126 rfl 1 rfl ?_
      refine r_iadd (pc := 127) E dX13_keep_127 ?_
      refine r_kVv (pc := 128) (As := [.int (7 + p2), .int (3 + p2)]) (rest := []) E wc_X13_copyTable wi_RX13 hd_X13_copyTable (ci := 13) rfl wl_RX13_266 wn_X13_copyTable ws_X13_copyTable dX13_keep_128 (by decide) (Nat.le_of_ble_eq_true rfl) ⟨rfl, rfl⟩ (ctX13_copyTable l x _ _ _ _) rfl (fun v128 M128 => ?_)
      refine r_iinc (pc := 131) (w := 1) (lf := fun v131 => [(2, v131), (1, p1)]) (ll' := []) (lr' := [(0, p0)]) E dX13_keep_131 1 rfl (by decide) (by decide) (fun _ => rfl) rfl rfl (fun v131 => ?_)
      refine r_goto (pc := 134) (tgt := 115) E dX13_keep_134 (by decide) ?_
      exact r_sub [1, 0] [] [0] rfl rfl rfl (hk115 ((p0, p1, v131)) _)
  show RT p l e rmX13_keep s m args below meth c x 3 (QM below args s x (fun v : Int32 => some (.int v)) rmX13_keep.cells rmX13_keep.slots) 0 0 (fX13_keep a0 M) 0 [] [] [(0, a0)] [] M
  unfold fX13_keep
  refine r_aload_n (pc := 0) E dX13_keep_0 rfl 0 rfl ?_
  refine r_getI (pc := 1) E fd_13_1 wf_RX13_150 dX13_keep_1 (fun v1 => ?_)
  refine r_sipush (pc := 4) (v := 3000) E dX13_keep_4 (by decide) ?_
  refine r_icmp_le (pc := 7) (tgt := 13) E dX13_keep_7 (by decide) ?_ ?_
  · refine r_aload_n (pc := 13) E dX13_keep_13 rfl 0 rfl ?_
    refine r_iconst (pc := 14) (v := (-1)) E dX13_keep_14 (by decide) ?_
    refine r_putI (pc := 15) E fd_13_5 wf_RX13_16 dX13_keep_15 (Or.inl rfl) (fun M15 => ?_)
    refine r_aload_n (pc := 18) E dX13_keep_18 rfl 0 rfl ?_
    refine r_iconst (pc := 19) (v := 0) E dX13_keep_19 (by decide) ?_
    refine r_putI (pc := 20) E fd_13_4 wf_RX13_158 dX13_keep_20 (Or.inl rfl) (fun M20 => ?_)
    refine r_aload_n (pc := 23) E dX13_keep_23 rfl 0 rfl ?_
    refine r_getI (pc := 24) E fd_13_1 wf_RX13_150 dX13_keep_24 (fun v24 => ?_)
    refine r_if_ne (pc := 27) (tgt := 47) E dX13_keep_27 (by decide) ?_ ?_
    · refine r_aload_n (pc := 47) E dX13_keep_47 rfl 0 rfl ?_
      refine r_getI (pc := 48) E fd_13_1 wf_RX13_150 dX13_keep_48 (fun v48 => ?_)
      refine r_iconst (pc := 51) (v := 4) E dX13_keep_51 (by decide) ?_
      refine r_icmp_lt (pc := 52) (tgt := 71) E dX13_keep_52 (by decide) ?_ ?_
      · exact r_sub [] [] [0] rfl rfl rfl (hL71 a0 _)
      · refine r_aload_n (pc := 55) E dX13_keep_55 rfl 0 rfl ?_
        refine r_getA (pc := 56) E fd_13_0 wf_RX13_7 dX13_keep_56 (fun v56 => ?_)
        refine r_iconst (pc := 59) (v := 0) E dX13_keep_59 (by decide) ?_
        refine r_iconst (pc := 60) (v := 4) E dX13_keep_60 (by decide) ?_
        refine r_kSl (pc := 61) (As := [rv x v56, .int 0, .int 4]) (rest := []) E wc_X13_eight wi_RX13 hd_X13_eight wl_RX13_175 wt_X13_eight dX13_keep_61 (by decide) (Nat.le_of_ble_eq_true rfl) ⟨rfl, rfl⟩ (ctX13_eight l x _ _ _ _) rfl (fun v61 M61 => ?_)
        refine r_ldc2 (pc := 64) E wk_RX13_254 dX13_keep_64 ?_
        refine r_lcmp (pc := 67) E dX13_keep_67 ?_
        refine r_if_eq (pc := 68) (tgt := 93) E dX13_keep_68 (by decide) ?_ ?_
        · refine r_aload_n (pc := 93) E dX13_keep_93 rfl 0 rfl ?_
          refine r_kVi (pc := 94) (As := []) (rest := []) E wc_X13_tabled wi_RX13 hd_X13_tabled (ci := 13) rfl wl_RX13_259 wn_X13_tabled ws_X13_tabled dX13_keep_94 (by decide) (Nat.le_of_ble_eq_true rfl) ⟨rfl, rfl⟩ (ctX13_tabled l x _ _) rfl (fun v94 M94 => ?_)
          refine r_istore_n (pc := 97) (lf := fun v97 => [(1, v97)]) (lg := fun v97 => []) (lk := fun v97 => [(0, a0)]) E dX13_keep_97 rfl (by decide) (fun _ => rfl) (fun _ => rfl) (fun _ => rfl) (fun v97 => ?_)
          refine r_iload_n (pc := 98) E dX13_keep_98 rfl 0 rfl ?_
          refine r_if_ge (pc := 99) (tgt := 113) E dX13_keep_99 (by decide) ?_ ?_
          · refine r_iconst (pc := 113) (v := 0) E dX13_keep_113 (by decide) ?_
            refine r_istore_n (pc := 114) (lf := fun v114 => [(2, v114), (1, v97)]) (lg := fun v114 => []) (lk := fun v114 => [(0, a0)]) E dX13_keep_114 rfl (by decide) (fun _ => rfl) (fun _ => rfl) (fun _ => rfl) (fun v114 => ?_)
            exact r_sub [1, 0] [] [0] rfl rfl rfl (hL115 a0 v97 v114 _)
          · refine r_aload_n (pc := 102) E dX13_keep_102 rfl 0 rfl ?_
            refine r_bipush (pc := 103) (v := 21) E dX13_keep_103 (by decide) ?_
            refine r_iconst (pc := 105) (v := 0) E dX13_keep_105 (by decide) ?_
            refine r_kVi (pc := 106) (As := [.int 21, .int 0]) (rest := []) E wc_X13_fails wi_RX13 hd_X13_fails (ci := 13) rfl wl_RX13_263 wn_X13_fails ws_X13_fails dX13_keep_106 (by decide) (Nat.le_of_ble_eq_true rfl) ⟨rfl, rfl⟩ (ctX13_fails l x _ _ _ _) rfl (fun v106 M106 => ?_)
            refine r_pop (pc := 109) E dX13_keep_109 rfl ?_
            refine r_bipush (pc := 110) (v := (-31)) E dX13_keep_110 (by decide) ?_
            exact e_int (pc := 112) E dX13_keep_112
        · exact r_sub [] [] [0] rfl rfl rfl (hL71 a0 _)
    · refine r_aload_n (pc := 30) E dX13_keep_30 rfl 0 rfl ?_
      refine r_iconst (pc := 31) (v := 0) E dX13_keep_31 (by decide) ?_
      refine r_putZ (pc := 32) E fd_13_27 wf_RX13_245 dX13_keep_32 (Or.inl rfl) (fun M32 => ?_)
      refine r_aload_n (pc := 35) E dX13_keep_35 rfl 0 rfl ?_
      refine r_iconst (pc := 36) (v := 0) E dX13_keep_36 (by decide) ?_
      refine r_putZ (pc := 37) E fd_13_28 wf_RX13_248 dX13_keep_37 (Or.inl rfl) (fun M37 => ?_)
      refine r_aload_n (pc := 40) E dX13_keep_40 rfl 0 rfl ?_
      refine r_iconst (pc := 41) (v := 0) E dX13_keep_41 (by decide) ?_
      refine r_putI (pc := 42) E fd_13_29 wf_RX13_251 dX13_keep_42 (Or.inl rfl) (fun M42 => ?_)
      refine r_iconst (pc := 45) (v := 0) E dX13_keep_45 (by decide) ?_
      exact e_int (pc := 46) E dX13_keep_46
  · refine r_bipush (pc := 10) (v := (-4)) E dX13_keep_10 (by decide) ?_
    exact e_int (pc := 12) E dX13_keep_12
def fX13_wants_L30 (q0 : Int32) (M : Mem) : Option (Int32 × Mem) :=
  rtZ q0 M
def fX13_wants_L25 (M : Mem) : Option (Int32 × Mem) :=
  fX13_wants_L30 1 M
def fX13_wants (a0 : Option Nat) (a1 : Int32) (M : Mem) : Option (Int32 × Mem) :=
  bo (gI M a0 13 1) fun v1 =>
  bo (gI M a0 13 51) fun v5 =>
  if a1 ≤ (v1 - v5) then (
    fX13_wants_L25 M
  ) else (
    bo (gI M a0 13 1) fun v16 =>
    bo (chk M a0 13) fun _ => bd (fX13_fails a0 1 v16 M) fun v19 M19 =>
    if v19 = 0 then (
      fX13_wants_L30 0 M19
    ) else (
      fX13_wants_L25 M19
    )
  )
def rmX13_wants : Room := { frames := 1, cells := 0, slots := 0, locals := 22 }
set_option maxRecDepth 100000 in
set_option maxHeartbeats 4000000 in
theorem ctX13_wants (l : Launch) (x : Cx) (a0 : Option Nat) (a1 : Int32) (M : Mem) (v : Int32) (N : Mem) (h : fX13_wants a0 a1 M = some (v, N)) : CT l yX13_wants cX13_wants 2 (some (FieldType.boolean)) rmX13_wants x [rv x a0, .int a1] M (some (.int v)) N := by
  refine ct_mk (enc := fun v : Int32 => some (.int v)) (li := [(1, a1)]) (ll := []) (lr := [(0, a0)]) (by decide +kernel) (by simp [lg_sl, rv_cat, cat_int, cat_long]) (by simp [flat, lv_args, rv_cat, cat_int, cat_long]) h ?_
  intro p e s m args below meth c E
  have hL30 : ∀ (q0 : Int32) (M : Mem), RT p l e rmX13_wants s m args below meth c x 2 (QM below args s x (fun v : Int32 => some (.int v)) rmX13_wants.cells rmX13_wants.slots) 0 0 (fX13_wants_L30 q0 M) 30 [] [] [] [.int q0] M := by
    intro q0 M
    unfold fX13_wants_L30
    exact e_bool (pc := 30) E dX13_wants_30
  have hL25 : ∀ (M : Mem), RT p l e rmX13_wants s m args below meth c x 2 (QM below args s x (fun v : Int32 => some (.int v)) rmX13_wants.cells rmX13_wants.slots) 0 0 (fX13_wants_L25 M) 25 [] [] [] [] M := by
    intro M
    unfold fX13_wants_L25
    refine r_iconst (pc := 25) (v := 1) E dX13_wants_25 (by decide) ?_
    refine r_goto (pc := 26) (tgt := 30) E dX13_wants_26 (by decide) ?_
    exact r_sub [] [] [] rfl rfl rfl (hL30 1 _)
  show RT p l e rmX13_wants s m args below meth c x 2 (QM below args s x (fun v : Int32 => some (.int v)) rmX13_wants.cells rmX13_wants.slots) 0 0 (fX13_wants a0 a1 M) 0 [(1, a1)] [] [(0, a0)] [] M
  unfold fX13_wants
  refine r_aload_n (pc := 0) E dX13_wants_0 rfl 0 rfl ?_
  refine r_getI (pc := 1) E fd_13_1 wf_RX13_150 dX13_wants_1 (fun v1 => ?_)
  refine r_aload_n (pc := 4) E dX13_wants_4 rfl 0 rfl ?_
  refine r_getI (pc := 5) E fd_13_51 wf_RX13_283 dX13_wants_5 (fun v5 => ?_)
  refine r_isub (pc := 8) E dX13_wants_8 ?_
  refine r_iload_n (pc := 9) E dX13_wants_9 rfl 0 rfl ?_
  refine r_icmp_ge (pc := 10) (tgt := 25) E dX13_wants_10 (by decide) ?_ ?_
  · exact r_sub [] [] [] rfl rfl rfl (hL25 _)
  · refine r_aload_n (pc := 13) E dX13_wants_13 rfl 0 rfl ?_
    refine r_iconst (pc := 14) (v := 1) E dX13_wants_14 (by decide) ?_
    refine r_aload_n (pc := 15) E dX13_wants_15 rfl 0 rfl ?_
    refine r_getI (pc := 16) E fd_13_1 wf_RX13_150 dX13_wants_16 (fun v16 => ?_)
    refine r_kVi (pc := 19) (As := [.int 1, .int v16]) (rest := []) E wc_X13_fails wi_RX13 hd_X13_fails (ci := 13) rfl wl_RX13_263 wn_X13_fails ws_X13_fails dX13_wants_19 (by decide) (Nat.le_of_ble_eq_true rfl) ⟨rfl, rfl⟩ (ctX13_fails l x _ _ _ _) rfl (fun v19 M19 => ?_)
    refine r_if_eq (pc := 22) (tgt := 29) E dX13_wants_22 (by decide) ?_ ?_
    · refine r_iconst (pc := 29) (v := 0) E dX13_wants_29 (by decide) ?_
      exact r_sub [] [] [] rfl rfl rfl (hL30 0 _)
    · exact r_sub [] [] [] rfl rfl rfl (hL25 _)
def fX13_begin_L139 (M : Mem) : Option (Unit × Mem) :=
  some ((), M)
def fX13_begin_L116 (k54 : Option Nat × Int32 × Int32 → Mem → Option (Unit × Mem)) (p0 : Option Nat) (p2 : Int32) (p3 : Int32) (M : Mem) : Option (Unit × Mem) :=
  bn (p3 + 1) fun v116 =>
  k54 ((p0, p2, v116)) M
def fX13_begin_L103 (k54 : Option Nat × Int32 × Int32 → Mem → Option (Unit × Mem)) (p0 : Option Nat) (p2 : Int32) (p3 : Int32) (q0 : Option Nat) (q1 : Int32) (q2 : Int64) (M : Mem) : Option (Unit × Mem) :=
  bo (wJ M q0 q1 q2) fun M103 =>
  if p2 = 0 then (
    fX13_begin_L116 k54 p0 p2 p3 M103
  ) else (
    bo (chk M103 p0 13) fun _ => bd (fX13_copyTable p0 (3 + p3) p3 M103) fun v113 M113 =>
    fX13_begin_L116 k54 p0 p2 p3 M113
  )
def fX13_begin_B54 (k54 : Option Nat × Int32 × Int32 → Mem → Option (Unit × Mem)) (p0 : Option Nat) (p2 : Int32) (p3 : Int32) (M : Mem) : Option (Unit × Mem) :=
  if 3 ≤ p3 then (
    bo (gR M p0 13 21) fun v123 =>
    bo (wZ M v123 0 0) fun M128 =>
    if p2 = 0 then (
      fX13_begin_L139 M128
    ) else (
      bo (chk M128 p0 13) fun _ => bd (fX13_copyCode p0 1 0 M128) fun v136 M136 =>
      fX13_begin_L139 M136
    )
  ) else (
    bo (gR M p0 13 18) fun v60 =>
    bo (wZ M v60 p3 0) fun M65 =>
    bo (gR M65 p0 13 44) fun v67 =>
    if p2 = 0 then (
      if p3 = 0 then (
        fX13_begin_L103 k54 p0 p2 p3 v67 p3 1 M65
      ) else (
        fX13_begin_L103 k54 p0 p2 p3 v67 p3 (4 * p3.toInt64) M65
      )
    ) else (
      bo (gR M65 p0 13 30) fun v76 =>
      bo (aI M65 v76 15 p3) fun v80 =>
      fX13_begin_L103 k54 p0 p2 p3 v67 p3 (v80.toInt64 &&& 4294967295) M65
    )
  )
def fX13_begin_L54 (p0 : Option Nat) (p2 : Int32) (p3 : Int32) (M : Mem) : Option (Unit × Mem) :=
  lp (fun k54 (a : Option Nat × Int32 × Int32) M => fX13_begin_B54 k54 a.1 a.2.1 a.2.2 M) FU ((p0, p2, p3)) M
def fX13_begin_L51 (p0 : Option Nat) (q0 : Int32) (M : Mem) : Option (Unit × Mem) :=
  bn (q0) fun v51 =>
  bn (0) fun v53 =>
  fX13_begin_L54 p0 v51 v53 M
def fX13_begin_L50 (p0 : Option Nat) (M : Mem) : Option (Unit × Mem) :=
  fX13_begin_L51 p0 0 M
def fX13_begin_L29 (p0 : Option Nat) (q0 : Option Nat) (q1 : Int32) (M : Mem) : Option (Unit × Mem) :=
  bo (pZ M q0 13 40 q1) fun M29 =>
  bo (gI M29 p0 13 40) fun v33 =>
  if v33 = 0 then (
    fX13_begin_L50 p0 M29
  ) else (
    bo (gI M29 p0 13 28) fun v40 =>
    if v40 = 0 then (
      fX13_begin_L50 p0 M29
    ) else (
      fX13_begin_L51 p0 1 M29
    )
  )
def fX13_begin_L28 (p0 : Option Nat) (q0 : Option Nat) (M : Mem) : Option (Unit × Mem) :=
  fX13_begin_L29 p0 q0 0 M
def fX13_begin (a0 : Option Nat) (a1 : Int32) (M : Mem) : Option (Unit × Mem) :=
  bo (gI M a0 13 33) fun v2 =>
  bo (pI M a0 13 39 v2) fun M5 =>
  bo (gI M5 a0 13 27) fun v10 =>
  if v10 = 0 then (
    fX13_begin_L28 a0 a0 M5
  ) else (
    bo (gI M5 a0 13 29) fun v17 =>
    if v17 = a1 then (
      fX13_begin_L29 a0 a0 1 M5
    ) else (
      fX13_begin_L28 a0 a0 M5
    )
  )
def rmX13_begin : Room := { frames := 1, cells := 0, slots := 0, locals := 23 }
set_option maxRecDepth 100000 in
set_option maxHeartbeats 4000000 in
theorem ctX13_begin (l : Launch) (x : Cx) (a0 : Option Nat) (a1 : Int32) (M : Mem) (v : Unit) (N : Mem) (h : fX13_begin a0 a1 M = some (v, N)) : CT l yX13_begin cX13_begin 4 (none) rmX13_begin x [rv x a0, .int a1] M none N := by
  refine ct_mk (enc := fun _ : Unit => none) (li := [(1, a1)]) (ll := []) (lr := [(0, a0)]) (by decide +kernel) (by simp [lg_sl, rv_cat, cat_int, cat_long]) (by simp [flat, lv_args, rv_cat, cat_int, cat_long]) h ?_
  intro p e s m args below meth c E
  have hL139 : ∀ (M : Mem), RT p l e rmX13_begin s m args below meth c x 4 (QM below args s x (fun _ : Unit => none) rmX13_begin.cells rmX13_begin.slots) 0 0 (fX13_begin_L139 M) 139 [] [] [] [] M := by
    intro M
    unfold fX13_begin_L139
    exact e_void (pc := 139) E dX13_begin_139
  have hL116 : ∀ (k54 : Option Nat × Int32 × Int32 → Mem → Option (Unit × Mem)) (hk54 : ∀ a M, RT p l e rmX13_begin s m args below meth c x 4 (QM below args s x (fun _ : Unit => none) rmX13_begin.cells rmX13_begin.slots) 0 0 (k54 a M) 54 [(2, a.2.1), (3, a.2.2)] [] [(0, a.1)] [] M) (p0 : Option Nat) (p2 : Int32) (p3 : Int32) (M : Mem), RT p l e rmX13_begin s m args below meth c x 4 (QM below args s x (fun _ : Unit => none) rmX13_begin.cells rmX13_begin.slots) 0 0 (fX13_begin_L116 k54 p0 p2 p3 M) 116 [(2, p2), (3, p3)] [] [(0, p0)] [] M := by
    intro k54 hk54 p0 p2 p3 M
    unfold fX13_begin_L116
    refine r_iinc (pc := 116) (w := 1) (lf := fun v116 => [(3, v116), (2, p2)]) (ll' := []) (lr' := [(0, p0)]) E dX13_begin_116 1 rfl (by decide) (by decide) (fun _ => rfl) rfl rfl (fun v116 => ?_)
    refine r_goto (pc := 119) (tgt := 54) E dX13_begin_119 (by decide) ?_
    exact r_sub [1, 0] [] [0] rfl rfl rfl (hk54 ((p0, p2, v116)) _)
  have hL103 : ∀ (k54 : Option Nat × Int32 × Int32 → Mem → Option (Unit × Mem)) (hk54 : ∀ a M, RT p l e rmX13_begin s m args below meth c x 4 (QM below args s x (fun _ : Unit => none) rmX13_begin.cells rmX13_begin.slots) 0 0 (k54 a M) 54 [(2, a.2.1), (3, a.2.2)] [] [(0, a.1)] [] M) (p0 : Option Nat) (p2 : Int32) (p3 : Int32) (q0 : Option Nat) (q1 : Int32) (q2 : Int64) (M : Mem), RT p l e rmX13_begin s m args below meth c x 4 (QM below args s x (fun _ : Unit => none) rmX13_begin.cells rmX13_begin.slots) 0 0 (fX13_begin_L103 k54 p0 p2 p3 q0 q1 q2 M) 103 [(2, p2), (3, p3)] [] [(0, p0)] [.long q2, .int q1, rv x q0] M := by
    intro k54 hk54 p0 p2 p3 q0 q1 q2 M
    unfold fX13_begin_L103
    refine r_lastore (pc := 103) E dX13_begin_103 (fun M103 => ?_)
    refine r_iload_n (pc := 104) E dX13_begin_104 rfl 0 rfl ?_
    refine r_if_eq (pc := 105) (tgt := 116) E dX13_begin_105 (by decide) ?_ ?_
    · exact r_sub [0, 1] [] [0] rfl rfl rfl (hL116 k54 hk54 p0 p2 p3 _)
    · refine r_aload_n (pc := 108) E dX13_begin_108 rfl 0 rfl ?_
      refine r_iconst (pc := 109) (v := 3) E dX13_begin_109 (by decide) ?_
      refine r_iload_n (pc := 110) E dX13_begin_110 rfl 1 rfl ?_
      refine r_iadd (pc := 111) E dX13_begin_111 ?_
      refine r_iload_n (pc := 112) E dX13_begin_112 rfl 1 rfl ?_
      refine r_kVv (pc := 113) (As := [.int (3 + p3), .int p3]) (rest := []) E wc_X13_copyTable wi_RX13 hd_X13_copyTable (ci := 13) rfl wl_RX13_266 wn_X13_copyTable ws_X13_copyTable dX13_begin_113 (by decide) (Nat.le_of_ble_eq_true rfl) ⟨rfl, rfl⟩ (ctX13_copyTable l x _ _ _ _) rfl (fun v113 M113 => ?_)
      exact r_sub [0, 1] [] [0] rfl rfl rfl (hL116 k54 hk54 p0 p2 p3 _)
  have hL54 : ∀ (p0 : Option Nat) (p2 : Int32) (p3 : Int32) (M : Mem), RT p l e rmX13_begin s m args below meth c x 4 (QM below args s x (fun _ : Unit => none) rmX13_begin.cells rmX13_begin.slots) 0 0 (fX13_begin_L54 p0 p2 p3 M) 54 [(2, p2), (3, p3)] [] [(0, p0)] [] M := by
    intro p0 p2 p3 M
    refine r_lp (fi := fun a : Option Nat × Int32 × Int32 => [(2, a.2.1), (3, a.2.2)]) (fl := fun a : Option Nat × Int32 × Int32 => []) (fr := fun a : Option Nat × Int32 × Int32 => [(0, a.1)]) (fs := fun a : Option Nat × Int32 × Int32 => []) ?_ FU ((p0, p2, p3)) M
    intro k54 hk54 a M
    obtain ⟨p0, p2, p3⟩ := a
    show RT p l e rmX13_begin s m args below meth c x 4 (QM below args s x (fun _ : Unit => none) rmX13_begin.cells rmX13_begin.slots) 0 0 (fX13_begin_B54 k54 p0 p2 p3 M) 54 [(2, p2), (3, p3)] [] [(0, p0)] [] M
    unfold fX13_begin_B54
    refine r_iload_n (pc := 54) E dX13_begin_54 rfl 1 rfl ?_
    refine r_iconst (pc := 55) (v := 3) E dX13_begin_55 (by decide) ?_
    refine r_icmp_ge (pc := 56) (tgt := 122) E dX13_begin_56 (by decide) ?_ ?_
    · refine r_aload_n (pc := 122) E dX13_begin_122 rfl 0 rfl ?_
      refine r_getA (pc := 123) E fd_13_21 wf_RX13_50 dX13_begin_123 (fun v123 => ?_)
      refine r_iconst (pc := 126) (v := 0) E dX13_begin_126 (by decide) ?_
      refine r_iconst (pc := 127) (v := 0) E dX13_begin_127 (by decide) ?_
      refine r_zastore (pc := 128) E dX13_begin_128 (fun M128 => ?_)
      refine r_iload_n (pc := 129) E dX13_begin_129 rfl 0 rfl ?_
      refine r_if_eq (pc := 130) (tgt := 139) E dX13_begin_130 (by decide) ?_ ?_
      · exact r_sub [] [] [] rfl rfl rfl (hL139 _)
      · refine r_aload_n (pc := 133) E dX13_begin_133 rfl 0 rfl ?_
        refine r_iconst (pc := 134) (v := 1) E dX13_begin_134 (by decide) ?_
        refine r_iconst (pc := 135) (v := 0) E dX13_begin_135 (by decide) ?_
        refine r_kVv (pc := 136) (As := [.int 1, .int 0]) (rest := []) E wc_X13_copyCode wi_RX13 hd_X13_copyCode (ci := 13) rfl wl_RX13_270 wn_X13_copyCode ws_X13_copyCode dX13_begin_136 (by decide) (Nat.le_of_ble_eq_true rfl) ⟨rfl, rfl⟩ (ctX13_copyCode l x _ _ _ _) rfl (fun v136 M136 => ?_)
        exact r_sub [] [] [] rfl rfl rfl (hL139 _)
    · refine r_aload_n (pc := 59) E dX13_begin_59 rfl 0 rfl ?_
      refine r_getA (pc := 60) E fd_13_18 wf_RX13_40 dX13_begin_60 (fun v60 => ?_)
      refine r_iload_n (pc := 63) E dX13_begin_63 rfl 1 rfl ?_
      refine r_iconst (pc := 64) (v := 0) E dX13_begin_64 (by decide) ?_
      refine r_zastore (pc := 65) E dX13_begin_65 (fun M65 => ?_)
      refine r_aload_n (pc := 66) E dX13_begin_66 rfl 0 rfl ?_
      refine r_getA (pc := 67) E fd_13_44 wf_RX13_85 dX13_begin_67 (fun v67 => ?_)
      refine r_iload_n (pc := 70) E dX13_begin_70 rfl 1 rfl ?_
      refine r_iload_n (pc := 71) E dX13_begin_71 rfl 0 rfl ?_
      refine r_if_eq (pc := 72) (tgt := 89) E dX13_begin_72 (by decide) ?_ ?_
      · refine r_iload_n (pc := 89) E dX13_begin_89 rfl 1 rfl ?_
        refine r_if_ne (pc := 90) (tgt := 97) E dX13_begin_90 (by decide) ?_ ?_
        · refine r_ldc2 (pc := 97) E wk_RX13_342 dX13_begin_97 ?_
          refine r_iload_n (pc := 100) E dX13_begin_100 rfl 1 rfl ?_
          refine r_i2l (pc := 101) E dX13_begin_101 ?_
          refine r_lmul (pc := 102) E dX13_begin_102 ?_
          exact r_sub [0, 1] [] [0] rfl rfl rfl (hL103 k54 hk54 p0 p2 p3 v67 p3 (4 * p3.toInt64) _)
        · refine r_lconst (pc := 93) (v := 1) E dX13_begin_93 (by decide) ?_
          refine r_goto (pc := 94) (tgt := 103) E dX13_begin_94 (by decide) ?_
          exact r_sub [0, 1] [] [0] rfl rfl rfl (hL103 k54 hk54 p0 p2 p3 v67 p3 1 _)
      · refine r_aload_n (pc := 75) E dX13_begin_75 rfl 0 rfl ?_
        refine r_getA (pc := 76) E fd_13_30 wf_RX13_65 dX13_begin_76 (fun v76 => ?_)
        refine r_iload_n (pc := 79) E dX13_begin_79 rfl 1 rfl ?_
        refine r_iaload (pc := 80) E dX13_begin_80 (fun v80 => ?_)
        refine r_i2l (pc := 81) E dX13_begin_81 ?_
        refine r_ldc2 (pc := 82) E wk_RX13_337 dX13_begin_82 ?_
        refine r_land (pc := 85) E dX13_begin_85 ?_
        refine r_goto (pc := 86) (tgt := 103) E dX13_begin_86 (by decide) ?_
        exact r_sub [0, 1] [] [0] rfl rfl rfl (hL103 k54 hk54 p0 p2 p3 v67 p3 (v80.toInt64 &&& 4294967295) _)
  have hL51 : ∀ (p0 : Option Nat) (q0 : Int32) (M : Mem), RT p l e rmX13_begin s m args below meth c x 4 (QM below args s x (fun _ : Unit => none) rmX13_begin.cells rmX13_begin.slots) 0 0 (fX13_begin_L51 p0 q0 M) 51 [] [] [(0, p0)] [.int q0] M := by
    intro p0 q0 M
    unfold fX13_begin_L51
    refine r_istore_n (pc := 51) (lf := fun v51 => [(2, v51)]) (lg := fun v51 => []) (lk := fun v51 => [(0, p0)]) E dX13_begin_51 rfl (by decide) (fun _ => rfl) (fun _ => rfl) (fun _ => rfl) (fun v51 => ?_)
    refine r_iconst (pc := 52) (v := 0) E dX13_begin_52 (by decide) ?_
    refine r_istore_n (pc := 53) (lf := fun v53 => [(3, v53), (2, v51)]) (lg := fun v53 => []) (lk := fun v53 => [(0, p0)]) E dX13_begin_53 rfl (by decide) (fun _ => rfl) (fun _ => rfl) (fun _ => rfl) (fun v53 => ?_)
    exact r_sub [1, 0] [] [0] rfl rfl rfl (hL54 p0 v51 v53 _)
  have hL50 : ∀ (p0 : Option Nat) (M : Mem), RT p l e rmX13_begin s m args below meth c x 4 (QM below args s x (fun _ : Unit => none) rmX13_begin.cells rmX13_begin.slots) 0 0 (fX13_begin_L50 p0 M) 50 [] [] [(0, p0)] [] M := by
    intro p0 M
    unfold fX13_begin_L50
    refine r_iconst (pc := 50) (v := 0) E dX13_begin_50 (by decide) ?_
    exact r_sub [] [] [0] rfl rfl rfl (hL51 p0 0 _)
  have hL29 : ∀ (p0 : Option Nat) (q0 : Option Nat) (q1 : Int32) (M : Mem), RT p l e rmX13_begin s m args below meth c x 4 (QM below args s x (fun _ : Unit => none) rmX13_begin.cells rmX13_begin.slots) 0 0 (fX13_begin_L29 p0 q0 q1 M) 29 [] [] [(0, p0)] [.int q1, rv x q0] M := by
    intro p0 q0 q1 M
    unfold fX13_begin_L29
    refine r_putZ (pc := 29) E fd_13_40 wf_RX13_339 dX13_begin_29 (Or.inl rfl) (fun M29 => ?_)
    refine r_aload_n (pc := 32) E dX13_begin_32 rfl 0 rfl ?_
    refine r_getZ (pc := 33) E fd_13_40 wf_RX13_339 dX13_begin_33 (fun v33 => ?_)
    refine r_if_eq (pc := 36) (tgt := 50) E dX13_begin_36 (by decide) ?_ ?_
    · exact r_sub [] [] [0] rfl rfl rfl (hL50 p0 _)
    · refine r_aload_n (pc := 39) E dX13_begin_39 rfl 0 rfl ?_
      refine r_getZ (pc := 40) E fd_13_28 wf_RX13_248 dX13_begin_40 (fun v40 => ?_)
      refine r_if_eq (pc := 43) (tgt := 50) E dX13_begin_43 (by decide) ?_ ?_
      · exact r_sub [] [] [0] rfl rfl rfl (hL50 p0 _)
      · refine r_iconst (pc := 46) (v := 1) E dX13_begin_46 (by decide) ?_
        refine r_goto (pc := 47) (tgt := 51) E dX13_begin_47 (by decide) ?_
        exact r_sub [] [] [0] rfl rfl rfl (hL51 p0 1 _)
  have hL28 : ∀ (p0 : Option Nat) (q0 : Option Nat) (M : Mem), RT p l e rmX13_begin s m args below meth c x 4 (QM below args s x (fun _ : Unit => none) rmX13_begin.cells rmX13_begin.slots) 0 0 (fX13_begin_L28 p0 q0 M) 28 [] [] [(0, p0)] [rv x q0] M := by
    intro p0 q0 M
    unfold fX13_begin_L28
    refine r_iconst (pc := 28) (v := 0) E dX13_begin_28 (by decide) ?_
    exact r_sub [] [] [0] rfl rfl rfl (hL29 p0 q0 0 _)
  show RT p l e rmX13_begin s m args below meth c x 4 (QM below args s x (fun _ : Unit => none) rmX13_begin.cells rmX13_begin.slots) 0 0 (fX13_begin a0 a1 M) 0 [(1, a1)] [] [(0, a0)] [] M
  unfold fX13_begin
  refine r_aload_n (pc := 0) E dX13_begin_0 rfl 0 rfl ?_
  refine r_aload_n (pc := 1) E dX13_begin_1 rfl 0 rfl ?_
  refine r_getI (pc := 2) E fd_13_33 wf_RX13_286 dX13_begin_2 (fun v2 => ?_)
  refine r_putI (pc := 5) E fd_13_39 wf_RX13_334 dX13_begin_5 (Or.inl rfl) (fun M5 => ?_)
  refine r_aload_n (pc := 8) E dX13_begin_8 rfl 0 rfl ?_
  refine r_aload_n (pc := 9) E dX13_begin_9 rfl 0 rfl ?_
  refine r_getZ (pc := 10) E fd_13_27 wf_RX13_245 dX13_begin_10 (fun v10 => ?_)
  refine r_if_eq (pc := 13) (tgt := 28) E dX13_begin_13 (by decide) ?_ ?_
  · exact r_sub [] [] [0] rfl rfl rfl (hL28 a0 a0 _)
  · refine r_aload_n (pc := 16) E dX13_begin_16 rfl 0 rfl ?_
    refine r_getI (pc := 17) E fd_13_29 wf_RX13_251 dX13_begin_17 (fun v17 => ?_)
    refine r_iload_n (pc := 20) E dX13_begin_20 rfl 0 rfl ?_
    refine r_icmp_ne (pc := 21) (tgt := 28) E dX13_begin_21 (by decide) ?_ ?_
    · exact r_sub [] [] [0] rfl rfl rfl (hL28 a0 a0 _)
    · refine r_iconst (pc := 24) (v := 1) E dX13_begin_24 (by decide) ?_
      refine r_goto (pc := 25) (tgt := 29) E dX13_begin_25 (by decide) ?_
      exact r_sub [] [] [0] rfl rfl rfl (hL29 a0 a0 1 _)
