def fX13_stream_L136 (q0 : Int32) (M : Mem) : Option (Int32 × Mem) :=
  rtZ q0 M
def fX13_stream_L47 (k22 : Option Nat × Int32 × Int32 × Int32 × Int32 → Mem → Option (Int32 × Mem)) (p0 : Option Nat) (p3 : Int32) (p4 : Int32) (p5 : Int32) (p6 : Int32) (q0 : Int32) (M : Mem) : Option (Int32 × Mem) :=
  bn (q0) fun v47 =>
  bo (gI M p0 13 11) fun v50 =>
  bn (v50) fun v53 =>
  bo (chk M p0 13) fun _ => bd (fX13_back p0 v47 M) fun v58 M58 =>
  bn (shlI v58.toInt32 (p5 - v47)) fun v68 =>
  bo (gR M58 p0 13 23) fun v71 =>
  bo (aI M58 v71 17 v68) fun v76 =>
  bn (v76) fun v77 =>
  bo (gR M58 p0 13 20) fun v80 =>
  bo (aI M58 v80 15 v77) fun v85 =>
  bn (v85) fun v86 =>
  if v86 ≤ v47 then (
    bo (pI M58 p0 13 11 (v53 - v86)) fun M103 =>
    bo (gR M103 p0 13 36) fun v107 =>
    bo (wB M103 v107 (p3 + p6) (i2b v77)) fun M117 =>
    bn (p6 + 1) fun v118 =>
    k22 ((p0, p3, p4, p5, v118)) M117
  ) else (
    rtZ 0 M58
  )
def fX13_stream_B22 (k22 : Option Nat × Int32 × Int32 × Int32 × Int32 → Mem → Option (Int32 × Mem)) (p0 : Option Nat) (p3 : Int32) (p4 : Int32) (p5 : Int32) (p6 : Int32) (M : Mem) : Option (Int32 × Mem) :=
  if p4 ≤ p6 then (
    bo (gI M p0 13 11) fun v125 =>
    if v125 = 0 then (
      fX13_stream_L136 1 M
    ) else (
      fX13_stream_L136 0 M
    )
  ) else (
    bo (gI M p0 13 11) fun v30 =>
    if p5 ≤ v30 then (
      fX13_stream_L47 k22 p0 p3 p4 p5 p6 p5 M
    ) else (
      bo (gI M p0 13 11) fun v39 =>
      fX13_stream_L47 k22 p0 p3 p4 p5 p6 v39 M
    )
  )
def fX13_stream_L22 (p0 : Option Nat) (p3 : Int32) (p4 : Int32) (p5 : Int32) (p6 : Int32) (M : Mem) : Option (Int32 × Mem) :=
  lp (fun k22 (a : Option Nat × Int32 × Int32 × Int32 × Int32) M => fX13_stream_B22 k22 a.1 a.2.1 a.2.2.1 a.2.2.2.1 a.2.2.2.2 M) FU ((p0, p3, p4, p5, p6)) M
def fX13_stream (a0 : Option Nat) (a1 : Int32) (a2 : Int32) (a3 : Int32) (a4 : Int32) (M : Mem) : Option (Int32 × Mem) :=
  bo (chk M a0 13) fun _ => bd (fX13_reversed a0 a1 a2 M) fun v3 M3 =>
  if v3 = 0 then (
    rtZ 0 M3
  ) else (
    bo (gR M3 a0 13 22) fun v12 =>
    bo (aI M3 v12 15 0) fun v16 =>
    bn (v16) fun v17 =>
    bn (0) fun v20 =>
    fX13_stream_L22 a0 a3 a4 v17 v20 M3
  )
def rmX13_stream : Room := { frames := 2, cells := 0, slots := 0, locals := 43 }
set_option maxRecDepth 100000 in
set_option maxHeartbeats 4000000 in
theorem ctX13_stream (l : Launch) (x : Cx) (a0 : Option Nat) (a1 : Int32) (a2 : Int32) (a3 : Int32) (a4 : Int32) (M : Mem) (v : Int32) (N : Mem) (h : fX13_stream a0 a1 a2 a3 a4 M = some (v, N)) : CT l yX13_stream cX13_stream 12 (some (FieldType.boolean)) rmX13_stream x [rv x a0, .int a1, .int a2, .int a3, .int a4] M (some (.int v)) N := by
  refine ct_mk (enc := fun v : Int32 => some (.int v)) (li := [(1, a1), (2, a2), (3, a3), (4, a4)]) (ll := []) (lr := [(0, a0)]) (by decide +kernel) (by simp [lg_sl, rv_cat, cat_int, cat_long]) (by simp [flat, lv_args, rv_cat, cat_int, cat_long]) h ?_
  intro p e s m args below meth c E
  have hL136 : ∀ (q0 : Int32) (M : Mem), RT p l e rmX13_stream s m args below meth c x 12 (QM below args s x (fun v : Int32 => some (.int v)) rmX13_stream.cells rmX13_stream.slots) 0 0 (fX13_stream_L136 q0 M) 136 [] [] [] [.int q0] M := by
    intro q0 M
    unfold fX13_stream_L136
    exact e_bool (pc := 136) E dX13_stream_136
  have hL47 : ∀ (k22 : Option Nat × Int32 × Int32 × Int32 × Int32 → Mem → Option (Int32 × Mem)) (hk22 : ∀ a M, RT p l e rmX13_stream s m args below meth c x 12 (QM below args s x (fun v : Int32 => some (.int v)) rmX13_stream.cells rmX13_stream.slots) 0 0 (k22 a M) 22 [(3, a.2.1), (4, a.2.2.1), (5, a.2.2.2.1), (6, a.2.2.2.2)] [] [(0, a.1)] [] M) (p0 : Option Nat) (p3 : Int32) (p4 : Int32) (p5 : Int32) (p6 : Int32) (q0 : Int32) (M : Mem), RT p l e rmX13_stream s m args below meth c x 12 (QM below args s x (fun v : Int32 => some (.int v)) rmX13_stream.cells rmX13_stream.slots) 0 0 (fX13_stream_L47 k22 p0 p3 p4 p5 p6 q0 M) 47 [(3, p3), (4, p4), (5, p5), (6, p6)] [] [(0, p0)] [.int q0] M := by
    intro k22 hk22 p0 p3 p4 p5 p6 q0 M
    unfold fX13_stream_L47
    refine r_istore (pc := 47) (lf := fun v47 => [(7, v47), (3, p3), (4, p4), (5, p5), (6, p6)]) (lg := fun v47 => []) (lk := fun v47 => [(0, p0)]) E dX13_stream_47 (by decide) (fun _ => rfl) (fun _ => rfl) (fun _ => rfl) (fun v47 => ?_)
    refine r_aload_n (pc := 49) E dX13_stream_49 rfl 0 rfl ?_
    refine r_getI (pc := 50) E fd_13_11 wf_RX13_203 dX13_stream_50 (fun v50 => ?_)
    refine r_istore (pc := 53) (lf := fun v53 => [(8, v53), (7, v47), (3, p3), (4, p4), (5, p5), (6, p6)]) (lg := fun v53 => []) (lk := fun v53 => [(0, p0)]) E dX13_stream_53 (by decide) (fun _ => rfl) (fun _ => rfl) (fun _ => rfl) (fun v53 => ?_)
    refine r_aload_n (pc := 55) E dX13_stream_55 rfl 0 rfl ?_
    refine r_iload (pc := 56) E dX13_stream_56 1 rfl ?_
    refine r_kVl (pc := 58) (As := [.int v47]) (rest := []) E wc_X13_back wi_RX13 hd_X13_back (ci := 13) rfl wl_RX13_234 wn_X13_back ws_X13_back dX13_stream_58 (by decide) (Nat.le_of_ble_eq_true rfl) ⟨rfl, rfl⟩ (ctX13_back l x _ _ _) rfl (fun v58 M58 => ?_)
    refine r_l2i (pc := 61) E dX13_stream_61 ?_
    refine r_iload (pc := 62) E dX13_stream_62 4 rfl ?_
    refine r_iload (pc := 64) E dX13_stream_64 1 rfl ?_
    refine r_isub (pc := 66) E dX13_stream_66 ?_
    refine r_ishl (pc := 67) E dX13_stream_67 ?_
    refine r_istore (pc := 68) (lf := fun v68 => [(9, v68), (8, v53), (7, v47), (3, p3), (4, p4), (5, p5), (6, p6)]) (lg := fun v68 => []) (lk := fun v68 => [(0, p0)]) E dX13_stream_68 (by decide) (fun _ => rfl) (fun _ => rfl) (fun _ => rfl) (fun v68 => ?_)
    refine r_aload_n (pc := 70) E dX13_stream_70 rfl 0 rfl ?_
    refine r_getA (pc := 71) E fd_13_23 wf_RX13_56 dX13_stream_71 (fun v71 => ?_)
    refine r_iload (pc := 74) E dX13_stream_74 0 rfl ?_
    refine r_saload (pc := 76) E dX13_stream_76 (fun v76 => ?_)
    refine r_istore (pc := 77) (lf := fun v77 => [(10, v77), (9, v68), (8, v53), (7, v47), (3, p3), (4, p4), (5, p5), (6, p6)]) (lg := fun v77 => []) (lk := fun v77 => [(0, p0)]) E dX13_stream_77 (by decide) (fun _ => rfl) (fun _ => rfl) (fun _ => rfl) (fun v77 => ?_)
    refine r_aload_n (pc := 79) E dX13_stream_79 rfl 0 rfl ?_
    refine r_getA (pc := 80) E fd_13_20 wf_RX13_47 dX13_stream_80 (fun v80 => ?_)
    refine r_iload (pc := 83) E dX13_stream_83 0 rfl ?_
    refine r_iaload (pc := 85) E dX13_stream_85 (fun v85 => ?_)
    refine r_istore (pc := 86) (lf := fun v86 => [(11, v86), (10, v77), (9, v68), (8, v53), (7, v47), (3, p3), (4, p4), (5, p5), (6, p6)]) (lg := fun v86 => []) (lk := fun v86 => [(0, p0)]) E dX13_stream_86 (by decide) (fun _ => rfl) (fun _ => rfl) (fun _ => rfl) (fun v86 => ?_)
    refine r_iload (pc := 88) E dX13_stream_88 0 rfl ?_
    refine r_iload (pc := 90) E dX13_stream_90 4 rfl ?_
    refine r_icmp_le (pc := 92) (tgt := 97) E dX13_stream_92 (by decide) ?_ ?_
    · refine r_aload_n (pc := 97) E dX13_stream_97 rfl 0 rfl ?_
      refine r_iload (pc := 98) E dX13_stream_98 3 rfl ?_
      refine r_iload (pc := 100) E dX13_stream_100 0 rfl ?_
      refine r_isub (pc := 102) E dX13_stream_102 ?_
      refine r_putI (pc := 103) E fd_13_11 wf_RX13_203 dX13_stream_103 (Or.inl rfl) (fun M103 => ?_)
      refine r_aload_n (pc := 106) E dX13_stream_106 rfl 0 rfl ?_
      refine r_getA (pc := 107) E fd_13_36 wf_RX13_79 dX13_stream_107 (fun v107 => ?_)
      refine r_iload_n (pc := 110) E dX13_stream_110 rfl 5 rfl ?_
      refine r_iload (pc := 111) E dX13_stream_111 8 rfl ?_
      refine r_iadd (pc := 113) E dX13_stream_113 ?_
      refine r_iload (pc := 114) E dX13_stream_114 1 rfl ?_
      refine r_i2b (pc := 116) E dX13_stream_116 ?_
      refine r_bastore (pc := 117) E dX13_stream_117 (fun M117 => ?_)
      refine r_iinc (pc := 118) (w := 1) (lf := fun v118 => [(6, v118), (11, v86), (10, v77), (9, v68), (8, v53), (7, v47), (3, p3), (4, p4), (5, p5)]) (ll' := []) (lr' := [(0, p0)]) E dX13_stream_118 8 rfl (by decide) (by decide) (fun _ => rfl) rfl rfl (fun v118 => ?_)
      refine r_goto (pc := 121) (tgt := 22) E dX13_stream_121 (by decide) ?_
      exact r_sub [6, 7, 8, 0] [] [0] rfl rfl rfl (hk22 ((p0, p3, p4, p5, v118)) _)
    · refine r_iconst (pc := 95) (v := 0) E dX13_stream_95 (by decide) ?_
      exact e_bool (pc := 96) E dX13_stream_96
  have hL22 : ∀ (p0 : Option Nat) (p3 : Int32) (p4 : Int32) (p5 : Int32) (p6 : Int32) (M : Mem), RT p l e rmX13_stream s m args below meth c x 12 (QM below args s x (fun v : Int32 => some (.int v)) rmX13_stream.cells rmX13_stream.slots) 0 0 (fX13_stream_L22 p0 p3 p4 p5 p6 M) 22 [(3, p3), (4, p4), (5, p5), (6, p6)] [] [(0, p0)] [] M := by
    intro p0 p3 p4 p5 p6 M
    refine r_lp (fi := fun a : Option Nat × Int32 × Int32 × Int32 × Int32 => [(3, a.2.1), (4, a.2.2.1), (5, a.2.2.2.1), (6, a.2.2.2.2)]) (fl := fun a : Option Nat × Int32 × Int32 × Int32 × Int32 => []) (fr := fun a : Option Nat × Int32 × Int32 × Int32 × Int32 => [(0, a.1)]) (fs := fun a : Option Nat × Int32 × Int32 × Int32 × Int32 => []) ?_ FU ((p0, p3, p4, p5, p6)) M
    intro k22 hk22 a M
    obtain ⟨p0, p3, p4, p5, p6⟩ := a
    show RT p l e rmX13_stream s m args below meth c x 12 (QM below args s x (fun v : Int32 => some (.int v)) rmX13_stream.cells rmX13_stream.slots) 0 0 (fX13_stream_B22 k22 p0 p3 p4 p5 p6 M) 22 [(3, p3), (4, p4), (5, p5), (6, p6)] [] [(0, p0)] [] M
    unfold fX13_stream_B22
    refine r_iload (pc := 22) E dX13_stream_22 3 rfl ?_
    refine r_iload (pc := 24) E dX13_stream_24 1 rfl ?_
    refine r_icmp_ge (pc := 26) (tgt := 124) E dX13_stream_26 (by decide) ?_ ?_
    · refine r_aload_n (pc := 124) E dX13_stream_124 rfl 0 rfl ?_
      refine r_getI (pc := 125) E fd_13_11 wf_RX13_203 dX13_stream_125 (fun v125 => ?_)
      refine r_if_ne (pc := 128) (tgt := 135) E dX13_stream_128 (by decide) ?_ ?_
      · refine r_iconst (pc := 135) (v := 0) E dX13_stream_135 (by decide) ?_
        exact r_sub [] [] [] rfl rfl rfl (hL136 0 _)
      · refine r_iconst (pc := 131) (v := 1) E dX13_stream_131 (by decide) ?_
        refine r_goto (pc := 132) (tgt := 136) E dX13_stream_132 (by decide) ?_
        exact r_sub [] [] [] rfl rfl rfl (hL136 1 _)
    · refine r_aload_n (pc := 29) E dX13_stream_29 rfl 0 rfl ?_
      refine r_getI (pc := 30) E fd_13_11 wf_RX13_203 dX13_stream_30 (fun v30 => ?_)
      refine r_iload (pc := 33) E dX13_stream_33 2 rfl ?_
      refine r_icmp_ge (pc := 35) (tgt := 45) E dX13_stream_35 (by decide) ?_ ?_
      · refine r_iload (pc := 45) E dX13_stream_45 2 rfl ?_
        exact r_sub [0, 1, 2, 3] [] [0] rfl rfl rfl (hL47 k22 hk22 p0 p3 p4 p5 p6 p5 _)
      · refine r_aload_n (pc := 38) E dX13_stream_38 rfl 0 rfl ?_
        refine r_getI (pc := 39) E fd_13_11 wf_RX13_203 dX13_stream_39 (fun v39 => ?_)
        refine r_goto (pc := 42) (tgt := 47) E dX13_stream_42 (by decide) ?_
        exact r_sub [0, 1, 2, 3] [] [0] rfl rfl rfl (hL47 k22 hk22 p0 p3 p4 p5 p6 v39 _)
  show RT p l e rmX13_stream s m args below meth c x 12 (QM below args s x (fun v : Int32 => some (.int v)) rmX13_stream.cells rmX13_stream.slots) 0 0 (fX13_stream a0 a1 a2 a3 a4 M) 0 [(1, a1), (2, a2), (3, a3), (4, a4)] [] [(0, a0)] [] M
  unfold fX13_stream
  refine r_aload_n (pc := 0) E dX13_stream_0 rfl 0 rfl ?_
  refine r_iload_n (pc := 1) E dX13_stream_1 rfl 0 rfl ?_
  refine r_iload_n (pc := 2) E dX13_stream_2 rfl 1 rfl ?_
  refine r_kVi (pc := 3) (As := [.int a1, .int a2]) (rest := []) E wc_X13_reversed wi_RX13 hd_X13_reversed (ci := 13) rfl wl_RX13_230 wn_X13_reversed ws_X13_reversed dX13_stream_3 (by decide) (Nat.le_of_ble_eq_true rfl) ⟨rfl, rfl⟩ (ctX13_reversed l x _ _ _ _) rfl (fun v3 M3 => ?_)
  refine r_if_ne (pc := 6) (tgt := 11) E dX13_stream_6 (by decide) ?_ ?_
  · refine r_aload_n (pc := 11) E dX13_stream_11 rfl 0 rfl ?_
    refine r_getA (pc := 12) E fd_13_22 wf_RX13_53 dX13_stream_12 (fun v12 => ?_)
    refine r_iconst (pc := 15) (v := 0) E dX13_stream_15 (by decide) ?_
    refine r_iaload (pc := 16) E dX13_stream_16 (fun v16 => ?_)
    refine r_istore (pc := 17) (lf := fun v17 => [(5, v17), (1, a1), (2, a2), (3, a3), (4, a4)]) (lg := fun v17 => []) (lk := fun v17 => [(0, a0)]) E dX13_stream_17 (by decide) (fun _ => rfl) (fun _ => rfl) (fun _ => rfl) (fun v17 => ?_)
    refine r_iconst (pc := 19) (v := 0) E dX13_stream_19 (by decide) ?_
    refine r_istore (pc := 20) (lf := fun v20 => [(6, v20), (5, v17), (1, a1), (2, a2), (3, a3), (4, a4)]) (lg := fun v20 => []) (lk := fun v20 => [(0, a0)]) E dX13_stream_20 (by decide) (fun _ => rfl) (fun _ => rfl) (fun _ => rfl) (fun v20 => ?_)
    exact r_sub [4, 5, 1, 0] [] [0] rfl rfl rfl (hL22 a0 a3 a4 v17 v20 _)
  · refine r_iconst (pc := 9) (v := 0) E dX13_stream_9 (by decide) ?_
    exact e_bool (pc := 10) E dX13_stream_10
def fX13_streams_L99 (M : Mem) : Option (Int32 × Mem) :=
  rtZ 0 M
def fX13_streams_L173 (k104 : Option Nat × Int32 × Int32 × Int32 × Int32 × Int32 → Mem → Option (Int32 × Mem)) (p0 : Option Nat) (p1 : Int32) (p2 : Int32) (p4 : Int32) (p5 : Int32) (p7 : Int32) (p8 : Int32) (q0 : Option Nat) (q1 : Int32) (q2 : Int32) (q3 : Int32) (q4 : Int32) (M : Mem) : Option (Int32 × Mem) :=
  bo (chk M q0 13) fun _ => bd (fX13_stream q0 q1 q2 q3 q4 M) fun v173 M173 =>
  if v173 = 0 then (
    rtZ 0 M173
  ) else (
    bn (p5 + p8) fun v186 =>
    bn (p7 + 1) fun v188 =>
    k104 ((p0, p1, p2, p4, v186, v188)) M173
  )
def fX13_streams_L138 (k104 : Option Nat × Int32 × Int32 × Int32 × Int32 × Int32 → Mem → Option (Int32 × Mem)) (p0 : Option Nat) (p1 : Int32) (p2 : Int32) (p4 : Int32) (p5 : Int32) (p7 : Int32) (q0 : Int32) (M : Mem) : Option (Int32 × Mem) :=
  bn (q0) fun v138 =>
  if 3 ≤ p7 then (
    bo (gI M p0 13 37) fun v165 =>
    fX13_streams_L173 k104 p0 p1 p2 p4 p5 p7 v138 p0 p5 (p5 + v138) (p7 * p4) (v165 - (3 * p4)) M
  ) else (
    fX13_streams_L173 k104 p0 p1 p2 p4 p5 p7 v138 p0 p5 (p5 + v138) (p7 * p4) p4 M
  )
def fX13_streams_B104 (k104 : Option Nat × Int32 × Int32 × Int32 × Int32 × Int32 → Mem → Option (Int32 × Mem)) (p0 : Option Nat) (p1 : Int32) (p2 : Int32) (p4 : Int32) (p5 : Int32) (p7 : Int32) (M : Mem) : Option (Int32 × Mem) :=
  if 4 ≤ p7 then (
    rtZ 1 M
  ) else (
    if 3 ≤ p7 then (
      fX13_streams_L138 k104 p0 p1 p2 p4 p5 p7 (p2 - p5) M
    ) else (
      bo (gR M p0 13 0) fun v117 =>
      bd (fX13_eight v117 (p1 + (2 * p7)) 2 M) fun v127 M127 =>
      fX13_streams_L138 k104 p0 p1 p2 p4 p5 p7 v127.toInt32 M127
    )
  )
def fX13_streams_L104 (p0 : Option Nat) (p1 : Int32) (p2 : Int32) (p4 : Int32) (p5 : Int32) (p7 : Int32) (M : Mem) : Option (Int32 × Mem) :=
  lp (fun k104 (a : Option Nat × Int32 × Int32 × Int32 × Int32 × Int32) M => fX13_streams_B104 k104 a.1 a.2.1 a.2.2.1 a.2.2.2.1 a.2.2.2.2.1 a.2.2.2.2.2 M) FU ((p0, p1, p2, p4, p5, p7)) M
def fX13_streams (a0 : Option Nat) (a1 : Int32) (a2 : Int32) (a3 : Int32) (M : Mem) : Option (Int32 × Mem) :=
  if a3 = 0 then (
    bo (gI M a0 13 37) fun v9 =>
    bo (chk M a0 13) fun _ => bd (fX13_stream a0 a1 a2 0 v9 M) fun v12 M12 =>
    rtZ v12 M12
  ) else (
    if 6 ≤ (a2 - a1) then (
      bo (gI M a0 13 37) fun v27 =>
      bo (dv (v27 + 3) 4) fun v33 =>
      bn (v33) fun v34 =>
      bn (a1 + 6) fun v40 =>
      bo (gR M a0 13 0) fun v43 =>
      bd (fX13_eight v43 a1 2 M) fun v48 M48 =>
      bo (gR M48 a0 13 0) fun v52 =>
      bd (fX13_eight v52 (a1 + 2) 2 M48) fun v59 M59 =>
      bo (gR M59 a0 13 0) fun v64 =>
      bd (fX13_eight v64 (a1 + 4) 2 M59) fun v71 M71 =>
      bn (((v48 + v59) + v71).toInt32) fun v76 =>
      if (a2 - v40) < v76 then (
        fX13_streams_L99 M71
      ) else (
        bo (gI M71 a0 13 37) fun v88 =>
        if 0 ≤ (v88 - (3 * v34)) then (
          bn (0) fun v102 =>
          fX13_streams_L104 a0 a1 a2 v34 v40 v102 M71
        ) else (
          fX13_streams_L99 M71
        )
      )
    ) else (
      rtZ 0 M
    )
  )
def rmX13_streams : Room := { frames := 3, cells := 0, slots := 0, locals := 74 }
set_option maxRecDepth 100000 in
set_option maxHeartbeats 4000000 in
theorem ctX13_streams (l : Launch) (x : Cx) (a0 : Option Nat) (a1 : Int32) (a2 : Int32) (a3 : Int32) (M : Mem) (v : Int32) (N : Mem) (h : fX13_streams a0 a1 a2 a3 M = some (v, N)) : CT l yX13_streams cX13_streams 9 (some (FieldType.boolean)) rmX13_streams x [rv x a0, .int a1, .int a2, .int a3] M (some (.int v)) N := by
  refine ct_mk (enc := fun v : Int32 => some (.int v)) (li := [(1, a1), (2, a2), (3, a3)]) (ll := []) (lr := [(0, a0)]) (by decide +kernel) (by simp [lg_sl, rv_cat, cat_int, cat_long]) (by simp [flat, lv_args, rv_cat, cat_int, cat_long]) h ?_
  intro p e s m args below meth c E
  have hL99 : ∀ (M : Mem), RT p l e rmX13_streams s m args below meth c x 9 (QM below args s x (fun v : Int32 => some (.int v)) rmX13_streams.cells rmX13_streams.slots) 0 0 (fX13_streams_L99 M) 99 [] [] [] [] M := by
    intro M
    unfold fX13_streams_L99
    refine r_iconst (pc := 99) (v := 0) E dX13_streams_99 (by decide) ?_
    exact e_bool (pc := 100) E dX13_streams_100
  have hL173 : ∀ (k104 : Option Nat × Int32 × Int32 × Int32 × Int32 × Int32 → Mem → Option (Int32 × Mem)) (hk104 : ∀ a M, RT p l e rmX13_streams s m args below meth c x 9 (QM below args s x (fun v : Int32 => some (.int v)) rmX13_streams.cells rmX13_streams.slots) 0 0 (k104 a M) 104 [(1, a.2.1), (2, a.2.2.1), (4, a.2.2.2.1), (5, a.2.2.2.2.1), (7, a.2.2.2.2.2)] [] [(0, a.1)] [] M) (p0 : Option Nat) (p1 : Int32) (p2 : Int32) (p4 : Int32) (p5 : Int32) (p7 : Int32) (p8 : Int32) (q0 : Option Nat) (q1 : Int32) (q2 : Int32) (q3 : Int32) (q4 : Int32) (M : Mem), RT p l e rmX13_streams s m args below meth c x 9 (QM below args s x (fun v : Int32 => some (.int v)) rmX13_streams.cells rmX13_streams.slots) 0 0 (fX13_streams_L173 k104 p0 p1 p2 p4 p5 p7 p8 q0 q1 q2 q3 q4 M) 173 [(1, p1), (2, p2), (4, p4), (5, p5), (7, p7), (8, p8)] [] [(0, p0)] [.int q4, .int q3, .int q2, .int q1, rv x q0] M := by
    intro k104 hk104 p0 p1 p2 p4 p5 p7 p8 q0 q1 q2 q3 q4 M
    unfold fX13_streams_L173
    refine r_kVi (pc := 173) (As := [.int q1, .int q2, .int q3, .int q4]) (rest := []) E wc_X13_stream wi_RX13 hd_X13_stream (ci := 13) rfl wl_RX13_363 wn_X13_stream ws_X13_stream dX13_streams_173 (by decide) (Nat.le_of_ble_eq_true rfl) ⟨rfl, rfl⟩ (ctX13_stream l x _ _ _ _ _ _) rfl (fun v173 M173 => ?_)
    refine r_if_ne (pc := 176) (tgt := 181) E dX13_streams_176 (by decide) ?_ ?_
    · refine r_iload (pc := 181) E dX13_streams_181 3 rfl ?_
      refine r_iload (pc := 183) E dX13_streams_183 5 rfl ?_
      refine r_iadd (pc := 185) E dX13_streams_185 ?_
      refine r_istore (pc := 186) (lf := fun v186 => [(5, v186), (1, p1), (2, p2), (4, p4), (7, p7), (8, p8)]) (lg := fun v186 => []) (lk := fun v186 => [(0, p0)]) E dX13_streams_186 (by decide) (fun _ => rfl) (fun _ => rfl) (fun _ => rfl) (fun v186 => ?_)
      refine r_iinc (pc := 188) (w := 1) (lf := fun v188 => [(7, v188), (5, v186), (1, p1), (2, p2), (4, p4), (8, p8)]) (ll' := []) (lr' := [(0, p0)]) E dX13_streams_188 4 rfl (by decide) (by decide) (fun _ => rfl) rfl rfl (fun v188 => ?_)
      refine r_goto (pc := 191) (tgt := 104) E dX13_streams_191 (by decide) ?_
      exact r_sub [2, 3, 4, 1, 0] [] [0] rfl rfl rfl (hk104 ((p0, p1, p2, p4, v186, v188)) _)
    · refine r_iconst (pc := 179) (v := 0) E dX13_streams_179 (by decide) ?_
      exact e_bool (pc := 180) E dX13_streams_180
  have hL138 : ∀ (k104 : Option Nat × Int32 × Int32 × Int32 × Int32 × Int32 → Mem → Option (Int32 × Mem)) (hk104 : ∀ a M, RT p l e rmX13_streams s m args below meth c x 9 (QM below args s x (fun v : Int32 => some (.int v)) rmX13_streams.cells rmX13_streams.slots) 0 0 (k104 a M) 104 [(1, a.2.1), (2, a.2.2.1), (4, a.2.2.2.1), (5, a.2.2.2.2.1), (7, a.2.2.2.2.2)] [] [(0, a.1)] [] M) (p0 : Option Nat) (p1 : Int32) (p2 : Int32) (p4 : Int32) (p5 : Int32) (p7 : Int32) (q0 : Int32) (M : Mem), RT p l e rmX13_streams s m args below meth c x 9 (QM below args s x (fun v : Int32 => some (.int v)) rmX13_streams.cells rmX13_streams.slots) 0 0 (fX13_streams_L138 k104 p0 p1 p2 p4 p5 p7 q0 M) 138 [(1, p1), (2, p2), (4, p4), (5, p5), (7, p7)] [] [(0, p0)] [.int q0] M := by
    intro k104 hk104 p0 p1 p2 p4 p5 p7 q0 M
    unfold fX13_streams_L138
    refine r_istore (pc := 138) (lf := fun v138 => [(8, v138), (1, p1), (2, p2), (4, p4), (5, p5), (7, p7)]) (lg := fun v138 => []) (lk := fun v138 => [(0, p0)]) E dX13_streams_138 (by decide) (fun _ => rfl) (fun _ => rfl) (fun _ => rfl) (fun v138 => ?_)
    refine r_aload_n (pc := 140) E dX13_streams_140 rfl 0 rfl ?_
    refine r_iload (pc := 141) E dX13_streams_141 4 rfl ?_
    refine r_iload (pc := 143) E dX13_streams_143 4 rfl ?_
    refine r_iload (pc := 145) E dX13_streams_145 0 rfl ?_
    refine r_iadd (pc := 147) E dX13_streams_147 ?_
    refine r_iload (pc := 148) E dX13_streams_148 5 rfl ?_
    refine r_iload (pc := 150) E dX13_streams_150 3 rfl ?_
    refine r_imul (pc := 152) E dX13_streams_152 ?_
    refine r_iload (pc := 153) E dX13_streams_153 5 rfl ?_
    refine r_iconst (pc := 155) (v := 3) E dX13_streams_155 (by decide) ?_
    refine r_icmp_ge (pc := 156) (tgt := 164) E dX13_streams_156 (by decide) ?_ ?_
    · refine r_aload_n (pc := 164) E dX13_streams_164 rfl 0 rfl ?_
      refine r_getI (pc := 165) E fd_13_37 wf_RX13_353 dX13_streams_165 (fun v165 => ?_)
      refine r_iconst (pc := 168) (v := 3) E dX13_streams_168 (by decide) ?_
      refine r_iload (pc := 169) E dX13_streams_169 3 rfl ?_
      refine r_imul (pc := 171) E dX13_streams_171 ?_
      refine r_isub (pc := 172) E dX13_streams_172 ?_
      exact r_sub [1, 2, 3, 4, 5, 0] [] [0] rfl rfl rfl (hL173 k104 hk104 p0 p1 p2 p4 p5 p7 v138 p0 p5 (p5 + v138) (p7 * p4) (v165 - (3 * p4)) _)
    · refine r_iload (pc := 159) E dX13_streams_159 3 rfl ?_
      refine r_goto (pc := 161) (tgt := 173) E dX13_streams_161 (by decide) ?_
      exact r_sub [1, 2, 3, 4, 5, 0] [] [0] rfl rfl rfl (hL173 k104 hk104 p0 p1 p2 p4 p5 p7 v138 p0 p5 (p5 + v138) (p7 * p4) p4 _)
  have hL104 : ∀ (p0 : Option Nat) (p1 : Int32) (p2 : Int32) (p4 : Int32) (p5 : Int32) (p7 : Int32) (M : Mem), RT p l e rmX13_streams s m args below meth c x 9 (QM below args s x (fun v : Int32 => some (.int v)) rmX13_streams.cells rmX13_streams.slots) 0 0 (fX13_streams_L104 p0 p1 p2 p4 p5 p7 M) 104 [(1, p1), (2, p2), (4, p4), (5, p5), (7, p7)] [] [(0, p0)] [] M := by
    intro p0 p1 p2 p4 p5 p7 M
    refine r_lp (fi := fun a : Option Nat × Int32 × Int32 × Int32 × Int32 × Int32 => [(1, a.2.1), (2, a.2.2.1), (4, a.2.2.2.1), (5, a.2.2.2.2.1), (7, a.2.2.2.2.2)]) (fl := fun a : Option Nat × Int32 × Int32 × Int32 × Int32 × Int32 => []) (fr := fun a : Option Nat × Int32 × Int32 × Int32 × Int32 × Int32 => [(0, a.1)]) (fs := fun a : Option Nat × Int32 × Int32 × Int32 × Int32 × Int32 => []) ?_ FU ((p0, p1, p2, p4, p5, p7)) M
    intro k104 hk104 a M
    obtain ⟨p0, p1, p2, p4, p5, p7⟩ := a
    show RT p l e rmX13_streams s m args below meth c x 9 (QM below args s x (fun v : Int32 => some (.int v)) rmX13_streams.cells rmX13_streams.slots) 0 0 (fX13_streams_B104 k104 p0 p1 p2 p4 p5 p7 M) 104 [(1, p1), (2, p2), (4, p4), (5, p5), (7, p7)] [] [(0, p0)] [] M
    unfold fX13_streams_B104
    refine r_iload (pc := 104) E dX13_streams_104 4 rfl ?_
    refine r_iconst (pc := 106) (v := 4) E dX13_streams_106 (by decide) ?_
    refine r_icmp_ge (pc := 107) (tgt := 194) E dX13_streams_107 (by decide) ?_ ?_
    · refine r_iconst (pc := 194) (v := 1) E dX13_streams_194 (by decide) ?_
      exact e_bool (pc := 195) E dX13_streams_195
    · refine r_iload (pc := 110) E dX13_streams_110 4 rfl ?_
      refine r_iconst (pc := 112) (v := 3) E dX13_streams_112 (by decide) ?_
      refine r_icmp_ge (pc := 113) (tgt := 134) E dX13_streams_113 (by decide) ?_ ?_
      · refine r_iload_n (pc := 134) E dX13_streams_134 rfl 1 rfl ?_
        refine r_iload (pc := 135) E dX13_streams_135 3 rfl ?_
        refine r_isub (pc := 137) E dX13_streams_137 ?_
        exact r_sub [0, 1, 2, 3, 4] [] [0] rfl rfl rfl (hL138 k104 hk104 p0 p1 p2 p4 p5 p7 (p2 - p5) _)
      · refine r_aload_n (pc := 116) E dX13_streams_116 rfl 0 rfl ?_
        refine r_getA (pc := 117) E fd_13_0 wf_RX13_7 dX13_streams_117 (fun v117 => ?_)
        refine r_iload_n (pc := 120) E dX13_streams_120 rfl 0 rfl ?_
        refine r_iconst (pc := 121) (v := 2) E dX13_streams_121 (by decide) ?_
        refine r_iload (pc := 122) E dX13_streams_122 4 rfl ?_
        refine r_imul (pc := 124) E dX13_streams_124 ?_
        refine r_iadd (pc := 125) E dX13_streams_125 ?_
        refine r_iconst (pc := 126) (v := 2) E dX13_streams_126 (by decide) ?_
        refine r_kSl (pc := 127) (As := [rv x v117, .int (p1 + (2 * p7)), .int 2]) (rest := []) E wc_X13_eight wi_RX13 hd_X13_eight wl_RX13_175 wt_X13_eight dX13_streams_127 (by decide) (Nat.le_of_ble_eq_true rfl) ⟨rfl, rfl⟩ (ctX13_eight l x _ _ _ _) rfl (fun v127 M127 => ?_)
        refine r_l2i (pc := 130) E dX13_streams_130 ?_
        refine r_goto (pc := 131) (tgt := 138) E dX13_streams_131 (by decide) ?_
        exact r_sub [0, 1, 2, 3, 4] [] [0] rfl rfl rfl (hL138 k104 hk104 p0 p1 p2 p4 p5 p7 v127.toInt32 _)
  show RT p l e rmX13_streams s m args below meth c x 9 (QM below args s x (fun v : Int32 => some (.int v)) rmX13_streams.cells rmX13_streams.slots) 0 0 (fX13_streams a0 a1 a2 a3 M) 0 [(1, a1), (2, a2), (3, a3)] [] [(0, a0)] [] M
  unfold fX13_streams
  refine r_iload_n (pc := 0) E dX13_streams_0 rfl 2 rfl ?_
  refine r_if_ne (pc := 1) (tgt := 16) E dX13_streams_1 (by decide) ?_ ?_
  · refine r_iload_n (pc := 16) E dX13_streams_16 rfl 1 rfl ?_
    refine r_iload_n (pc := 17) E dX13_streams_17 rfl 0 rfl ?_
    refine r_isub (pc := 18) E dX13_streams_18 ?_
    refine r_bipush (pc := 19) (v := 6) E dX13_streams_19 (by decide) ?_
    refine r_icmp_ge (pc := 21) (tgt := 26) E dX13_streams_21 (by decide) ?_ ?_
    · refine r_aload_n (pc := 26) E dX13_streams_26 rfl 0 rfl ?_
      refine r_getI (pc := 27) E fd_13_37 wf_RX13_353 dX13_streams_27 (fun v27 => ?_)
      refine r_iconst (pc := 30) (v := 3) E dX13_streams_30 (by decide) ?_
      refine r_iadd (pc := 31) E dX13_streams_31 ?_
      refine r_iconst (pc := 32) (v := 4) E dX13_streams_32 (by decide) ?_
      refine r_idiv (pc := 33) E dX13_streams_33 (fun v33 => ?_)
      refine r_istore (pc := 34) (lf := fun v34 => [(4, v34), (1, a1), (2, a2), (3, a3)]) (lg := fun v34 => []) (lk := fun v34 => [(0, a0)]) E dX13_streams_34 (by decide) (fun _ => rfl) (fun _ => rfl) (fun _ => rfl) (fun v34 => ?_)
      refine r_iload_n (pc := 36) E dX13_streams_36 rfl 1 rfl ?_
      refine r_bipush (pc := 37) (v := 6) E dX13_streams_37 (by decide) ?_
      refine r_iadd (pc := 39) E dX13_streams_39 ?_
      refine r_istore (pc := 40) (lf := fun v40 => [(5, v40), (4, v34), (1, a1), (2, a2), (3, a3)]) (lg := fun v40 => []) (lk := fun v40 => [(0, a0)]) E dX13_streams_40 (by decide) (fun _ => rfl) (fun _ => rfl) (fun _ => rfl) (fun v40 => ?_)
      refine r_aload_n (pc := 42) E dX13_streams_42 rfl 0 rfl ?_
      refine r_getA (pc := 43) E fd_13_0 wf_RX13_7 dX13_streams_43 (fun v43 => ?_)
      refine r_iload_n (pc := 46) E dX13_streams_46 rfl 2 rfl ?_
      refine r_iconst (pc := 47) (v := 2) E dX13_streams_47 (by decide) ?_
      refine r_kSl (pc := 48) (As := [rv x v43, .int a1, .int 2]) (rest := []) E wc_X13_eight wi_RX13 hd_X13_eight wl_RX13_175 wt_X13_eight dX13_streams_48 (by decide) (Nat.le_of_ble_eq_true rfl) ⟨rfl, rfl⟩ (ctX13_eight l x _ _ _ _) rfl (fun v48 M48 => ?_)
      refine r_aload_n (pc := 51) E dX13_streams_51 rfl 0 rfl ?_
      refine r_getA (pc := 52) E fd_13_0 wf_RX13_7 dX13_streams_52 (fun v52 => ?_)
      refine r_iload_n (pc := 55) E dX13_streams_55 rfl 2 rfl ?_
      refine r_iconst (pc := 56) (v := 2) E dX13_streams_56 (by decide) ?_
      refine r_iadd (pc := 57) E dX13_streams_57 ?_
      refine r_iconst (pc := 58) (v := 2) E dX13_streams_58 (by decide) ?_
      refine r_kSl (pc := 59) (As := [rv x v52, .int (a1 + 2), .int 2]) (rest := [.long v48]) E wc_X13_eight wi_RX13 hd_X13_eight wl_RX13_175 wt_X13_eight dX13_streams_59 (by decide) (Nat.le_of_ble_eq_true rfl) ⟨rfl, rfl⟩ (ctX13_eight l x _ _ _ _) rfl (fun v59 M59 => ?_)
      refine r_ladd (pc := 62) E dX13_streams_62 ?_
      refine r_aload_n (pc := 63) E dX13_streams_63 rfl 0 rfl ?_
      refine r_getA (pc := 64) E fd_13_0 wf_RX13_7 dX13_streams_64 (fun v64 => ?_)
      refine r_iload_n (pc := 67) E dX13_streams_67 rfl 2 rfl ?_
      refine r_iconst (pc := 68) (v := 4) E dX13_streams_68 (by decide) ?_
      refine r_iadd (pc := 69) E dX13_streams_69 ?_
      refine r_iconst (pc := 70) (v := 2) E dX13_streams_70 (by decide) ?_
      refine r_kSl (pc := 71) (As := [rv x v64, .int (a1 + 4), .int 2]) (rest := [.long (v48 + v59)]) E wc_X13_eight wi_RX13 hd_X13_eight wl_RX13_175 wt_X13_eight dX13_streams_71 (by decide) (Nat.le_of_ble_eq_true rfl) ⟨rfl, rfl⟩ (ctX13_eight l x _ _ _ _) rfl (fun v71 M71 => ?_)
      refine r_ladd (pc := 74) E dX13_streams_74 ?_
      refine r_l2i (pc := 75) E dX13_streams_75 ?_
      refine r_istore (pc := 76) (lf := fun v76 => [(6, v76), (5, v40), (4, v34), (1, a1), (2, a2), (3, a3)]) (lg := fun v76 => []) (lk := fun v76 => [(0, a0)]) E dX13_streams_76 (by decide) (fun _ => rfl) (fun _ => rfl) (fun _ => rfl) (fun v76 => ?_)
      refine r_iload (pc := 78) E dX13_streams_78 0 rfl ?_
      refine r_iload_n (pc := 80) E dX13_streams_80 rfl 4 rfl ?_
      refine r_iload (pc := 81) E dX13_streams_81 1 rfl ?_
      refine r_isub (pc := 83) E dX13_streams_83 ?_
      refine r_icmp_gt (pc := 84) (tgt := 99) E dX13_streams_84 (by decide) ?_ ?_
      · exact r_sub [] [] [] rfl rfl rfl (hL99 _)
      · refine r_aload_n (pc := 87) E dX13_streams_87 rfl 0 rfl ?_
        refine r_getI (pc := 88) E fd_13_37 wf_RX13_353 dX13_streams_88 (fun v88 => ?_)
        refine r_iconst (pc := 91) (v := 3) E dX13_streams_91 (by decide) ?_
        refine r_iload (pc := 92) E dX13_streams_92 2 rfl ?_
        refine r_imul (pc := 94) E dX13_streams_94 ?_
        refine r_isub (pc := 95) E dX13_streams_95 ?_
        refine r_if_ge (pc := 96) (tgt := 101) E dX13_streams_96 (by decide) ?_ ?_
        · refine r_iconst (pc := 101) (v := 0) E dX13_streams_101 (by decide) ?_
          refine r_istore (pc := 102) (lf := fun v102 => [(7, v102), (6, v76), (5, v40), (4, v34), (1, a1), (2, a2), (3, a3)]) (lg := fun v102 => []) (lk := fun v102 => [(0, a0)]) E dX13_streams_102 (by decide) (fun _ => rfl) (fun _ => rfl) (fun _ => rfl) (fun v102 => ?_)
          exact r_sub [4, 5, 3, 2, 0] [] [0] rfl rfl rfl (hL104 a0 a1 a2 v34 v40 v102 _)
        · exact r_sub [] [] [] rfl rfl rfl (hL99 _)
    · refine r_iconst (pc := 24) (v := 0) E dX13_streams_24 (by decide) ?_
      exact e_bool (pc := 25) E dX13_streams_25
  · refine r_aload_n (pc := 4) E dX13_streams_4 rfl 0 rfl ?_
    refine r_iload_n (pc := 5) E dX13_streams_5 rfl 0 rfl ?_
    refine r_iload_n (pc := 6) E dX13_streams_6 rfl 1 rfl ?_
    refine r_iconst (pc := 7) (v := 0) E dX13_streams_7 (by decide) ?_
    refine r_aload_n (pc := 8) E dX13_streams_8 rfl 0 rfl ?_
    refine r_getI (pc := 9) E fd_13_37 wf_RX13_353 dX13_streams_9 (fun v9 => ?_)
    refine r_kVi (pc := 12) (As := [.int a1, .int a2, .int 0, .int v9]) (rest := []) E wc_X13_stream wi_RX13 hd_X13_stream (ci := 13) rfl wl_RX13_363 wn_X13_stream ws_X13_stream dX13_streams_12 (by decide) (Nat.le_of_ble_eq_true rfl) ⟨rfl, rfl⟩ (ctX13_stream l x _ _ _ _ _ _) rfl (fun v12 M12 => ?_)
    exact e_bool (pc := 15) E dX13_streams_15
def fX13_lettersFrom_L314 (p0 : Option Nat) (p1 : Int32) (M : Mem) : Option (Int32 × Mem) :=
  bo (chk M p0 13) fun _ => bd (fX13_fails p0 10 p1 M) fun v318 M318 =>
  some (p1, M318)
def fX13_lettersFrom_L420 (p8 : Int32) (p10 : Int32) (M : Mem) : Option (Int32 × Mem) :=
  some (p8 + p10, M)
def fX13_lettersFrom_L405 (p0 : Option Nat) (p8 : Int32) (p10 : Int32) (p11 : Int32) (q0 : Option Nat) (q1 : Int32) (q2 : Int32) (q3 : Int32) (M : Mem) : Option (Int32 × Mem) :=
  bo (chk M q0 13) fun _ => bd (fX13_streams q0 q1 q2 q3 M) fun v405 M405 =>
  if v405 = 0 then (
    bo (chk M405 p0 13) fun _ => bd (fX13_fails p0 13 p11 M405) fun v416 M416 =>
    fX13_lettersFrom_L420 p8 p10 M416
  ) else (
    fX13_lettersFrom_L420 p8 p10 M405
  )
def fX13_lettersFrom_L387 (p0 : Option Nat) (p4 : Int32) (p8 : Int32) (p10 : Int32) (p11 : Int32) (M : Mem) : Option (Int32 × Mem) :=
  if p4 ≤ 0 then (
    fX13_lettersFrom_L405 p0 p8 p10 p11 p0 p11 (p8 + p10) 0 M
  ) else (
    fX13_lettersFrom_L405 p0 p8 p10 p11 p0 p11 (p8 + p10) 1 M
  )
def fX13_lettersFrom_L348 (p0 : Option Nat) (p1 : Int32) (p3 : Int32) (p4 : Int32) (p8 : Int32) (p10 : Int32) (M : Mem) : Option (Int32 × Mem) :=
  bn (p8) fun v350 =>
  if p3 = 2 then (
    bo (chk M p0 13) fun _ => bd (fX13_code p0 0 p8 (p8 + p10) M) fun v366 M366 =>
    bn (v366) fun v369 =>
    if 0 ≤ v369 then (
      fX13_lettersFrom_L387 p0 p4 p8 p10 v369 M366
    ) else (
      bo (chk M366 p0 13) fun _ => bd (fX13_fails p0 11 p8 M366) fun v381 M381 =>
      some (p1, M381)
    )
  ) else (
    fX13_lettersFrom_L387 p0 p4 p8 p10 v350 M
  )
def fX13_lettersFrom_L259 (p0 : Option Nat) (p1 : Int32) (p2 : Int32) (p3 : Int32) (p4 : Int32) (p6 : Int64) (p8 : Int32) (q0 : Int32) (M : Mem) : Option (Int32 × Mem) :=
  bn (q0) fun v259 =>
  bo (pI M p0 13 37 (((shrJ p6 4) &&& ((shlJ 1 v259) - 1)).toInt32)) fun M274 =>
  bn (((shrJ p6 (4 + v259)) &&& ((shlJ 1 v259) - 1)).toInt32) fun v292 =>
  bo (gI M274 p0 13 37) fun v295 =>
  bo (gI M274 p0 13 42) fun v299 =>
  if v299 < v295 then (
    fX13_lettersFrom_L314 p0 p1 M274
  ) else (
    if v292 ≤ (p2 - p8) then (
      if p3 = 3 then (
        bo (gR M274 p0 13 21) fun v330 =>
        bo (aI M274 v330 18 0) fun v334 =>
        if v334 = 0 then (
          bo (chk M274 p0 13) fun _ => bd (fX13_fails p0 12 p1 M274) fun v342 M342 =>
          some (p1, M342)
        ) else (
          fX13_lettersFrom_L348 p0 p1 p3 p4 p8 v292 M274
        )
      ) else (
        fX13_lettersFrom_L348 p0 p1 p3 p4 p8 v292 M274
      )
    ) else (
      fX13_lettersFrom_L314 p0 p1 M274
    )
  )
def fX13_lettersFrom_L175 (p0 : Option Nat) (p1 : Int32) (M : Mem) : Option (Int32 × Mem) :=
  bo (chk M p0 13) fun _ => bd (fX13_fails p0 10 p1 M) fun v179 M179 =>
  some (p1, M179)
def fX13_lettersFrom_L221 (k188 : Option Nat × Int32 × Int32 × Int32 × Int32 → Mem → Option (Int32 × Mem)) (p0 : Option Nat) (p3 : Int32) (p8 : Int32) (p9 : Int32) (p10 : Int32) (q0 : Option Nat) (q1 : Int32) (q2 : Option Nat) (q3 : Int32) (M : Mem) : Option (Int32 × Mem) :=
  bo (aI M q2 14 q3) fun v221 =>
  bo (wB M q0 q1 v221) fun M222 =>
  bn (p10 + 1) fun v223 =>
  k188 ((p0, p3, p8, p9, v223)) M222
def fX13_lettersFrom_B188 (k188 : Option Nat × Int32 × Int32 × Int32 × Int32 → Mem → Option (Int32 × Mem)) (p0 : Option Nat) (p3 : Int32) (p8 : Int32) (p9 : Int32) (p10 : Int32) (M : Mem) : Option (Int32 × Mem) :=
  bo (gI M p0 13 37) fun v191 =>
  if v191 ≤ p10 then (
    some (p8 + p9, M)
  ) else (
    bo (gR M p0 13 36) fun v198 =>
    bo (gR M p0 13 0) fun v204 =>
    if p3 = 0 then (
      fX13_lettersFrom_L221 k188 p0 p3 p8 p9 p10 v198 p10 v204 (p8 + p10) M
    ) else (
      fX13_lettersFrom_L221 k188 p0 p3 p8 p9 p10 v198 p10 v204 p8 M
    )
  )
def fX13_lettersFrom_L188 (p0 : Option Nat) (p3 : Int32) (p8 : Int32) (p9 : Int32) (p10 : Int32) (M : Mem) : Option (Int32 × Mem) :=
  lp (fun k188 (a : Option Nat × Int32 × Int32 × Int32 × Int32) M => fX13_lettersFrom_B188 k188 a.1 a.2.1 a.2.2.1 a.2.2.2.1 a.2.2.2.2 M) FU ((p0, p3, p8, p9, p10)) M
def fX13_lettersFrom_L153 (p0 : Option Nat) (p1 : Int32) (p2 : Int32) (p3 : Int32) (p8 : Int32) (q0 : Int32) (M : Mem) : Option (Int32 × Mem) :=
  bn (q0) fun v153 =>
  bo (gI M p0 13 37) fun v156 =>
  bo (gI M p0 13 42) fun v160 =>
  if v160 < v156 then (
    fX13_lettersFrom_L175 p0 p1 M
  ) else (
    if v153 ≤ (p2 - p8) then (
      bn (0) fun v186 =>
      fX13_lettersFrom_L188 p0 p3 p8 v153 v186 M
    ) else (
      fX13_lettersFrom_L175 p0 p1 M
    )
  )
def fX13_lettersFrom_L136 (p0 : Option Nat) (p1 : Int32) (p2 : Int32) (p3 : Int32) (p8 : Int32) (q0 : Option Nat) (q1 : Int64) (q2 : Int32) (M : Mem) : Option (Int32 × Mem) :=
  bo (pI M q0 13 37 ((shrJ q1 q2).toInt32)) fun M138 =>
  if p3 = 0 then (
    bo (gI M138 p0 13 37) fun v146 =>
    fX13_lettersFrom_L153 p0 p1 p2 p3 p8 v146 M138
  ) else (
    fX13_lettersFrom_L153 p0 p1 p2 p3 p8 1 M138
  )
def fX13_lettersFrom_L79 (p0 : Option Nat) (p1 : Int32) (p2 : Int32) (p3 : Int32) (p4 : Int32) (q0 : Int32) (M : Mem) : Option (Int32 × Mem) :=
  bn (q0) fun v79 =>
  if v79 ≤ (p2 - p1) then (
    bo (gR M p0 13 0) fun v100 =>
    bd (fX13_eight v100 p1 v79 M) fun v106 M106 =>
    bn (v106) fun v109 =>
    bn (p1 + v79) fun v115 =>
    if 2 ≤ p3 then (
      if 2 ≤ p4 then (
        if p4 = 2 then (
          fX13_lettersFrom_L259 p0 p1 p2 p3 p4 v109 v115 14 M106
        ) else (
          fX13_lettersFrom_L259 p0 p1 p2 p3 p4 v109 v115 18 M106
        )
      ) else (
        fX13_lettersFrom_L259 p0 p1 p2 p3 p4 v109 v115 10 M106
      )
    ) else (
      if v79 = 1 then (
        fX13_lettersFrom_L136 p0 p1 p2 p3 v115 p0 v109 3 M106
      ) else (
        fX13_lettersFrom_L136 p0 p1 p2 p3 v115 p0 v109 4 M106
      )
    )
  ) else (
    bo (chk M p0 13) fun _ => bd (fX13_fails p0 10 p1 M) fun v93 M93 =>
    some (p1, M93)
  )
def fX13_lettersFrom (a0 : Option Nat) (a1 : Int32) (a2 : Int32) (M : Mem) : Option (Int32 × Mem) :=
  if a1 < a2 then (
    bo (gR M a0 13 0) fun v16 =>
    bo (aI M v16 14 a1) fun v20 =>
    bn (v20 &&& 3) fun v23 =>
    bo (gR M a0 13 0) fun v25 =>
    bo (aI M v25 14 a1) fun v29 =>
    bn ((shrI v29 2) &&& 3) fun v34 =>
    if 2 ≤ v23 then (
      if 2 ≤ v34 then (
        fX13_lettersFrom_L79 a0 a1 a2 v23 v34 (v34 + 2) M
      ) else (
        fX13_lettersFrom_L79 a0 a1 a2 v23 v34 3 M
      )
    ) else (
      if v34 = 1 then (
        fX13_lettersFrom_L79 a0 a1 a2 v23 v34 2 M
      ) else (
        if v34 = 3 then (
          fX13_lettersFrom_L79 a0 a1 a2 v23 v34 3 M
        ) else (
          fX13_lettersFrom_L79 a0 a1 a2 v23 v34 1 M
        )
      )
    )
  ) else (
    bo (chk M a0 13) fun _ => bd (fX13_fails a0 10 a1 M) fun v9 M9 =>
    some (a1, M9)
  )
def rmX13_lettersFrom : Room := { frames := 4, cells := 0, slots := 0, locals := 112 }
set_option maxRecDepth 100000 in
set_option maxHeartbeats 4000000 in
theorem ctX13_lettersFrom (l : Launch) (x : Cx) (a0 : Option Nat) (a1 : Int32) (a2 : Int32) (M : Mem) (v : Int32) (N : Mem) (h : fX13_lettersFrom a0 a1 a2 M = some (v, N)) : CT l yX13_lettersFrom cX13_lettersFrom 12 (some (FieldType.int)) rmX13_lettersFrom x [rv x a0, .int a1, .int a2] M (some (.int v)) N := by
  refine ct_mk (enc := fun v : Int32 => some (.int v)) (li := [(1, a1), (2, a2)]) (ll := []) (lr := [(0, a0)]) (by decide +kernel) (by simp [lg_sl, rv_cat, cat_int, cat_long]) (by simp [flat, lv_args, rv_cat, cat_int, cat_long]) h ?_
  intro p e s m args below meth c E
  have hL314 : ∀ (p0 : Option Nat) (p1 : Int32) (M : Mem), RT p l e rmX13_lettersFrom s m args below meth c x 12 (QM below args s x (fun v : Int32 => some (.int v)) rmX13_lettersFrom.cells rmX13_lettersFrom.slots) 0 0 (fX13_lettersFrom_L314 p0 p1 M) 314 [(1, p1)] [] [(0, p0)] [] M := by
    intro p0 p1 M
    unfold fX13_lettersFrom_L314
    refine r_aload_n (pc := 314) E dX13_lettersFrom_314 rfl 0 rfl ?_
    refine r_bipush (pc := 315) (v := 10) E dX13_lettersFrom_315 (by decide) ?_
    refine r_iload_n (pc := 317) E dX13_lettersFrom_317 rfl 0 rfl ?_
    refine r_kVi (pc := 318) (As := [.int 10, .int p1]) (rest := []) E wc_X13_fails wi_RX13 hd_X13_fails (ci := 13) rfl wl_RX13_263 wn_X13_fails ws_X13_fails dX13_lettersFrom_318 (by decide) (Nat.le_of_ble_eq_true rfl) ⟨rfl, rfl⟩ (ctX13_fails l x _ _ _ _) rfl (fun v318 M318 => ?_)
    refine r_pop (pc := 321) E dX13_lettersFrom_321 rfl ?_
    refine r_iload_n (pc := 322) E dX13_lettersFrom_322 rfl 0 rfl ?_
    exact e_int (pc := 323) E dX13_lettersFrom_323
  have hL420 : ∀ (p8 : Int32) (p10 : Int32) (M : Mem), RT p l e rmX13_lettersFrom s m args below meth c x 12 (QM below args s x (fun v : Int32 => some (.int v)) rmX13_lettersFrom.cells rmX13_lettersFrom.slots) 0 0 (fX13_lettersFrom_L420 p8 p10 M) 420 [(8, p8), (10, p10)] [] [] [] M := by
    intro p8 p10 M
    unfold fX13_lettersFrom_L420
    refine r_iload (pc := 420) E dX13_lettersFrom_420 0 rfl ?_
    refine r_iload (pc := 422) E dX13_lettersFrom_422 1 rfl ?_
    refine r_iadd (pc := 424) E dX13_lettersFrom_424 ?_
    exact e_int (pc := 425) E dX13_lettersFrom_425
  have hL405 : ∀ (p0 : Option Nat) (p8 : Int32) (p10 : Int32) (p11 : Int32) (q0 : Option Nat) (q1 : Int32) (q2 : Int32) (q3 : Int32) (M : Mem), RT p l e rmX13_lettersFrom s m args below meth c x 12 (QM below args s x (fun v : Int32 => some (.int v)) rmX13_lettersFrom.cells rmX13_lettersFrom.slots) 0 0 (fX13_lettersFrom_L405 p0 p8 p10 p11 q0 q1 q2 q3 M) 405 [(8, p8), (10, p10), (11, p11)] [] [(0, p0)] [.int q3, .int q2, .int q1, rv x q0] M := by
    intro p0 p8 p10 p11 q0 q1 q2 q3 M
    unfold fX13_lettersFrom_L405
    refine r_kVi (pc := 405) (As := [.int q1, .int q2, .int q3]) (rest := []) E wc_X13_streams wi_RX13 hd_X13_streams (ci := 13) rfl wl_RX13_359 wn_X13_streams ws_X13_streams dX13_lettersFrom_405 (by decide) (Nat.le_of_ble_eq_true rfl) ⟨rfl, rfl⟩ (ctX13_streams l x _ _ _ _ _) rfl (fun v405 M405 => ?_)
    refine r_if_ne (pc := 408) (tgt := 420) E dX13_lettersFrom_408 (by decide) ?_ ?_
    · exact r_sub [0, 1] [] [] rfl rfl rfl (hL420 p8 p10 _)
    · refine r_aload_n (pc := 411) E dX13_lettersFrom_411 rfl 0 rfl ?_
      refine r_bipush (pc := 412) (v := 13) E dX13_lettersFrom_412 (by decide) ?_
      refine r_iload (pc := 414) E dX13_lettersFrom_414 2 rfl ?_
      refine r_kVi (pc := 416) (As := [.int 13, .int p11]) (rest := []) E wc_X13_fails wi_RX13 hd_X13_fails (ci := 13) rfl wl_RX13_263 wn_X13_fails ws_X13_fails dX13_lettersFrom_416 (by decide) (Nat.le_of_ble_eq_true rfl) ⟨rfl, rfl⟩ (ctX13_fails l x _ _ _ _) rfl (fun v416 M416 => ?_)
      refine r_pop (pc := 419) E dX13_lettersFrom_419 rfl ?_
      exact r_sub [0, 1] [] [] rfl rfl rfl (hL420 p8 p10 _)
  have hL387 : ∀ (p0 : Option Nat) (p4 : Int32) (p8 : Int32) (p10 : Int32) (p11 : Int32) (M : Mem), RT p l e rmX13_lettersFrom s m args below meth c x 12 (QM below args s x (fun v : Int32 => some (.int v)) rmX13_lettersFrom.cells rmX13_lettersFrom.slots) 0 0 (fX13_lettersFrom_L387 p0 p4 p8 p10 p11 M) 387 [(4, p4), (8, p8), (10, p10), (11, p11)] [] [(0, p0)] [] M := by
    intro p0 p4 p8 p10 p11 M
    unfold fX13_lettersFrom_L387
    refine r_aload_n (pc := 387) E dX13_lettersFrom_387 rfl 0 rfl ?_
    refine r_iload (pc := 388) E dX13_lettersFrom_388 3 rfl ?_
    refine r_iload (pc := 390) E dX13_lettersFrom_390 1 rfl ?_
    refine r_iload (pc := 392) E dX13_lettersFrom_392 2 rfl ?_
    refine r_iadd (pc := 394) E dX13_lettersFrom_394 ?_
    refine r_iload (pc := 395) E dX13_lettersFrom_395 0 rfl ?_
    refine r_if_le (pc := 397) (tgt := 404) E dX13_lettersFrom_397 (by decide) ?_ ?_
    · refine r_iconst (pc := 404) (v := 0) E dX13_lettersFrom_404 (by decide) ?_
      exact r_sub [1, 2, 3] [] [0] rfl rfl rfl (hL405 p0 p8 p10 p11 p0 p11 (p8 + p10) 0 _)
    · refine r_iconst (pc := 400) (v := 1) E dX13_lettersFrom_400 (by decide) ?_
      refine r_goto (pc := 401) (tgt := 405) E dX13_lettersFrom_401 (by decide) ?_
      exact r_sub [1, 2, 3] [] [0] rfl rfl rfl (hL405 p0 p8 p10 p11 p0 p11 (p8 + p10) 1 _)
  have hL348 : ∀ (p0 : Option Nat) (p1 : Int32) (p3 : Int32) (p4 : Int32) (p8 : Int32) (p10 : Int32) (M : Mem), RT p l e rmX13_lettersFrom s m args below meth c x 12 (QM below args s x (fun v : Int32 => some (.int v)) rmX13_lettersFrom.cells rmX13_lettersFrom.slots) 0 0 (fX13_lettersFrom_L348 p0 p1 p3 p4 p8 p10 M) 348 [(1, p1), (3, p3), (4, p4), (8, p8), (10, p10)] [] [(0, p0)] [] M := by
    intro p0 p1 p3 p4 p8 p10 M
    unfold fX13_lettersFrom_L348
    refine r_iload (pc := 348) E dX13_lettersFrom_348 3 rfl ?_
    refine r_istore (pc := 350) (lf := fun v350 => [(11, v350), (1, p1), (3, p3), (4, p4), (8, p8), (10, p10)]) (lg := fun v350 => []) (lk := fun v350 => [(0, p0)]) E dX13_lettersFrom_350 (by decide) (fun _ => rfl) (fun _ => rfl) (fun _ => rfl) (fun v350 => ?_)
    refine r_iload_n (pc := 352) E dX13_lettersFrom_352 rfl 2 rfl ?_
    refine r_iconst (pc := 353) (v := 2) E dX13_lettersFrom_353 (by decide) ?_
    refine r_icmp_ne (pc := 354) (tgt := 387) E dX13_lettersFrom_354 (by decide) ?_ ?_
    · exact r_sub [3, 4, 5, 0] [] [0] rfl rfl rfl (hL387 p0 p4 p8 p10 v350 _)
    · refine r_aload_n (pc := 357) E dX13_lettersFrom_357 rfl 0 rfl ?_
      refine r_iconst (pc := 358) (v := 0) E dX13_lettersFrom_358 (by decide) ?_
      refine r_iload (pc := 359) E dX13_lettersFrom_359 4 rfl ?_
      refine r_iload (pc := 361) E dX13_lettersFrom_361 4 rfl ?_
      refine r_iload (pc := 363) E dX13_lettersFrom_363 5 rfl ?_
      refine r_iadd (pc := 365) E dX13_lettersFrom_365 ?_
      refine r_kVi (pc := 366) (As := [.int 0, .int p8, .int (p8 + p10)]) (rest := []) E wc_X13_code wi_RX13 hd_X13_code (ci := 13) rfl wl_RX13_276 wn_X13_code ws_X13_code dX13_lettersFrom_366 (by decide) (Nat.le_of_ble_eq_true rfl) ⟨rfl, rfl⟩ (ctX13_code l x _ _ _ _ _) rfl (fun v366 M366 => ?_)
      refine r_istore (pc := 369) (lf := fun v369 => [(11, v369), (1, p1), (3, p3), (4, p4), (8, p8), (10, p10)]) (lg := fun v369 => []) (lk := fun v369 => [(0, p0)]) E dX13_lettersFrom_369 (by decide) (fun _ => rfl) (fun _ => rfl) (fun _ => rfl) (fun v369 => ?_)
      refine r_iload (pc := 371) E dX13_lettersFrom_371 0 rfl ?_
      refine r_if_ge (pc := 373) (tgt := 387) E dX13_lettersFrom_373 (by decide) ?_ ?_
      · exact r_sub [3, 4, 5, 0] [] [0] rfl rfl rfl (hL387 p0 p4 p8 p10 v369 _)
      · refine r_aload_n (pc := 376) E dX13_lettersFrom_376 rfl 0 rfl ?_
        refine r_bipush (pc := 377) (v := 11) E dX13_lettersFrom_377 (by decide) ?_
        refine r_iload (pc := 379) E dX13_lettersFrom_379 4 rfl ?_
        refine r_kVi (pc := 381) (As := [.int 11, .int p8]) (rest := []) E wc_X13_fails wi_RX13 hd_X13_fails (ci := 13) rfl wl_RX13_263 wn_X13_fails ws_X13_fails dX13_lettersFrom_381 (by decide) (Nat.le_of_ble_eq_true rfl) ⟨rfl, rfl⟩ (ctX13_fails l x _ _ _ _) rfl (fun v381 M381 => ?_)
        refine r_pop (pc := 384) E dX13_lettersFrom_384 rfl ?_
        refine r_iload_n (pc := 385) E dX13_lettersFrom_385 rfl 1 rfl ?_
        exact e_int (pc := 386) E dX13_lettersFrom_386
  have hL259 : ∀ (p0 : Option Nat) (p1 : Int32) (p2 : Int32) (p3 : Int32) (p4 : Int32) (p6 : Int64) (p8 : Int32) (q0 : Int32) (M : Mem), RT p l e rmX13_lettersFrom s m args below meth c x 12 (QM below args s x (fun v : Int32 => some (.int v)) rmX13_lettersFrom.cells rmX13_lettersFrom.slots) 0 0 (fX13_lettersFrom_L259 p0 p1 p2 p3 p4 p6 p8 q0 M) 259 [(1, p1), (2, p2), (3, p3), (4, p4), (8, p8)] [(6, p6)] [(0, p0)] [.int q0] M := by
    intro p0 p1 p2 p3 p4 p6 p8 q0 M
    unfold fX13_lettersFrom_L259
    refine r_istore (pc := 259) (lf := fun v259 => [(9, v259), (1, p1), (2, p2), (3, p3), (4, p4), (8, p8)]) (lg := fun v259 => [(6, p6)]) (lk := fun v259 => [(0, p0)]) E dX13_lettersFrom_259 (by decide) (fun _ => rfl) (fun _ => rfl) (fun _ => rfl) (fun v259 => ?_)
    refine r_aload_n (pc := 261) E dX13_lettersFrom_261 rfl 0 rfl ?_
    refine r_lload (pc := 262) E dX13_lettersFrom_262 0 rfl ?_
    refine r_iconst (pc := 264) (v := 4) E dX13_lettersFrom_264 (by decide) ?_
    refine r_lshr (pc := 265) E dX13_lettersFrom_265 ?_
    refine r_lconst (pc := 266) (v := 1) E dX13_lettersFrom_266 (by decide) ?_
    refine r_iload (pc := 267) E dX13_lettersFrom_267 0 rfl ?_
    refine r_lshl (pc := 269) E dX13_lettersFrom_269 ?_
    refine r_lconst (pc := 270) (v := 1) E dX13_lettersFrom_270 (by decide) ?_
    refine r_lsub (pc := 271) E dX13_lettersFrom_271 ?_
    refine r_land (pc := 272) E dX13_lettersFrom_272 ?_
    refine r_l2i (pc := 273) E dX13_lettersFrom_273 ?_
    refine r_putI (pc := 274) E fd_13_37 wf_RX13_353 dX13_lettersFrom_274 (Or.inl rfl) (fun M274 => ?_)
    refine r_lload (pc := 277) E dX13_lettersFrom_277 0 rfl ?_
    refine r_iconst (pc := 279) (v := 4) E dX13_lettersFrom_279 (by decide) ?_
    refine r_iload (pc := 280) E dX13_lettersFrom_280 0 rfl ?_
    refine r_iadd (pc := 282) E dX13_lettersFrom_282 ?_
    refine r_lshr (pc := 283) E dX13_lettersFrom_283 ?_
    refine r_lconst (pc := 284) (v := 1) E dX13_lettersFrom_284 (by decide) ?_
    refine r_iload (pc := 285) E dX13_lettersFrom_285 0 rfl ?_
    refine r_lshl (pc := 287) E dX13_lettersFrom_287 ?_
    refine r_lconst (pc := 288) (v := 1) E dX13_lettersFrom_288 (by decide) ?_
    refine r_lsub (pc := 289) E dX13_lettersFrom_289 ?_
    refine r_land (pc := 290) E dX13_lettersFrom_290 ?_
    refine r_l2i (pc := 291) E dX13_lettersFrom_291 ?_
    refine r_istore (pc := 292) (lf := fun v292 => [(10, v292), (9, v259), (1, p1), (2, p2), (3, p3), (4, p4), (8, p8)]) (lg := fun v292 => [(6, p6)]) (lk := fun v292 => [(0, p0)]) E dX13_lettersFrom_292 (by decide) (fun _ => rfl) (fun _ => rfl) (fun _ => rfl) (fun v292 => ?_)
    refine r_aload_n (pc := 294) E dX13_lettersFrom_294 rfl 0 rfl ?_
    refine r_getI (pc := 295) E fd_13_37 wf_RX13_353 dX13_lettersFrom_295 (fun v295 => ?_)
    refine r_aload_n (pc := 298) E dX13_lettersFrom_298 rfl 0 rfl ?_
    refine r_getI (pc := 299) E fd_13_42 wf_RX13_324 dX13_lettersFrom_299 (fun v299 => ?_)
    refine r_icmp_gt (pc := 302) (tgt := 314) E dX13_lettersFrom_302 (by decide) ?_ ?_
    · exact r_sub [2] [] [0] rfl rfl rfl (hL314 p0 p1 _)
    · refine r_iload_n (pc := 305) E dX13_lettersFrom_305 rfl 3 rfl ?_
      refine r_iload (pc := 306) E dX13_lettersFrom_306 6 rfl ?_
      refine r_isub (pc := 308) E dX13_lettersFrom_308 ?_
      refine r_iload (pc := 309) E dX13_lettersFrom_309 0 rfl ?_
      refine r_icmp_ge (pc := 311) (tgt := 324) E dX13_lettersFrom_311 (by decide) ?_ ?_
      · refine r_iload_n (pc := 324) E dX13_lettersFrom_324 rfl 4 rfl ?_
        refine r_iconst (pc := 325) (v := 3) E dX13_lettersFrom_325 (by decide) ?_
        refine r_icmp_ne (pc := 326) (tgt := 348) E dX13_lettersFrom_326 (by decide) ?_ ?_
        · exact r_sub [2, 4, 5, 6, 0] [] [0] rfl rfl rfl (hL348 p0 p1 p3 p4 p8 v292 _)
        · refine r_aload_n (pc := 329) E dX13_lettersFrom_329 rfl 0 rfl ?_
          refine r_getA (pc := 330) E fd_13_21 wf_RX13_50 dX13_lettersFrom_330 (fun v330 => ?_)
          refine r_iconst (pc := 333) (v := 0) E dX13_lettersFrom_333 (by decide) ?_
          refine r_zaload (pc := 334) E dX13_lettersFrom_334 (fun v334 => ?_)
          refine r_if_ne (pc := 335) (tgt := 348) E dX13_lettersFrom_335 (by decide) ?_ ?_
          · exact r_sub [2, 4, 5, 6, 0] [] [0] rfl rfl rfl (hL348 p0 p1 p3 p4 p8 v292 _)
          · refine r_aload_n (pc := 338) E dX13_lettersFrom_338 rfl 0 rfl ?_
            refine r_bipush (pc := 339) (v := 12) E dX13_lettersFrom_339 (by decide) ?_
            refine r_iload_n (pc := 341) E dX13_lettersFrom_341 rfl 2 rfl ?_
            refine r_kVi (pc := 342) (As := [.int 12, .int p1]) (rest := []) E wc_X13_fails wi_RX13 hd_X13_fails (ci := 13) rfl wl_RX13_263 wn_X13_fails ws_X13_fails dX13_lettersFrom_342 (by decide) (Nat.le_of_ble_eq_true rfl) ⟨rfl, rfl⟩ (ctX13_fails l x _ _ _ _) rfl (fun v342 M342 => ?_)
            refine r_pop (pc := 345) E dX13_lettersFrom_345 rfl ?_
            refine r_iload_n (pc := 346) E dX13_lettersFrom_346 rfl 2 rfl ?_
            exact e_int (pc := 347) E dX13_lettersFrom_347
      · exact r_sub [2] [] [0] rfl rfl rfl (hL314 p0 p1 _)
  have hL175 : ∀ (p0 : Option Nat) (p1 : Int32) (M : Mem), RT p l e rmX13_lettersFrom s m args below meth c x 12 (QM below args s x (fun v : Int32 => some (.int v)) rmX13_lettersFrom.cells rmX13_lettersFrom.slots) 0 0 (fX13_lettersFrom_L175 p0 p1 M) 175 [(1, p1)] [] [(0, p0)] [] M := by
    intro p0 p1 M
    unfold fX13_lettersFrom_L175
    refine r_aload_n (pc := 175) E dX13_lettersFrom_175 rfl 0 rfl ?_
    refine r_bipush (pc := 176) (v := 10) E dX13_lettersFrom_176 (by decide) ?_
    refine r_iload_n (pc := 178) E dX13_lettersFrom_178 rfl 0 rfl ?_
    refine r_kVi (pc := 179) (As := [.int 10, .int p1]) (rest := []) E wc_X13_fails wi_RX13 hd_X13_fails (ci := 13) rfl wl_RX13_263 wn_X13_fails ws_X13_fails dX13_lettersFrom_179 (by decide) (Nat.le_of_ble_eq_true rfl) ⟨rfl, rfl⟩ (ctX13_fails l x _ _ _ _) rfl (fun v179 M179 => ?_)
    refine r_pop (pc := 182) E dX13_lettersFrom_182 rfl ?_
    refine r_iload_n (pc := 183) E dX13_lettersFrom_183 rfl 0 rfl ?_
    exact e_int (pc := 184) E dX13_lettersFrom_184
  have hL221 : ∀ (k188 : Option Nat × Int32 × Int32 × Int32 × Int32 → Mem → Option (Int32 × Mem)) (hk188 : ∀ a M, RT p l e rmX13_lettersFrom s m args below meth c x 12 (QM below args s x (fun v : Int32 => some (.int v)) rmX13_lettersFrom.cells rmX13_lettersFrom.slots) 0 0 (k188 a M) 188 [(3, a.2.1), (8, a.2.2.1), (9, a.2.2.2.1), (10, a.2.2.2.2)] [] [(0, a.1)] [] M) (p0 : Option Nat) (p3 : Int32) (p8 : Int32) (p9 : Int32) (p10 : Int32) (q0 : Option Nat) (q1 : Int32) (q2 : Option Nat) (q3 : Int32) (M : Mem), RT p l e rmX13_lettersFrom s m args below meth c x 12 (QM below args s x (fun v : Int32 => some (.int v)) rmX13_lettersFrom.cells rmX13_lettersFrom.slots) 0 0 (fX13_lettersFrom_L221 k188 p0 p3 p8 p9 p10 q0 q1 q2 q3 M) 221 [(3, p3), (8, p8), (9, p9), (10, p10)] [] [(0, p0)] [.int q3, rv x q2, .int q1, rv x q0] M := by
    intro k188 hk188 p0 p3 p8 p9 p10 q0 q1 q2 q3 M
    unfold fX13_lettersFrom_L221
    refine r_baload (pc := 221) E dX13_lettersFrom_221 (fun v221 => ?_)
    refine r_bastore (pc := 222) E dX13_lettersFrom_222 (fun M222 => ?_)
    refine r_iinc (pc := 223) (w := 1) (lf := fun v223 => [(10, v223), (3, p3), (8, p8), (9, p9)]) (ll' := []) (lr' := [(0, p0)]) E dX13_lettersFrom_223 3 rfl (by decide) (by decide) (fun _ => rfl) rfl rfl (fun v223 => ?_)
    refine r_goto (pc := 226) (tgt := 188) E dX13_lettersFrom_226 (by decide) ?_
    exact r_sub [1, 2, 3, 0] [] [0] rfl rfl rfl (hk188 ((p0, p3, p8, p9, v223)) _)
  have hL188 : ∀ (p0 : Option Nat) (p3 : Int32) (p8 : Int32) (p9 : Int32) (p10 : Int32) (M : Mem), RT p l e rmX13_lettersFrom s m args below meth c x 12 (QM below args s x (fun v : Int32 => some (.int v)) rmX13_lettersFrom.cells rmX13_lettersFrom.slots) 0 0 (fX13_lettersFrom_L188 p0 p3 p8 p9 p10 M) 188 [(3, p3), (8, p8), (9, p9), (10, p10)] [] [(0, p0)] [] M := by
    intro p0 p3 p8 p9 p10 M
    refine r_lp (fi := fun a : Option Nat × Int32 × Int32 × Int32 × Int32 => [(3, a.2.1), (8, a.2.2.1), (9, a.2.2.2.1), (10, a.2.2.2.2)]) (fl := fun a : Option Nat × Int32 × Int32 × Int32 × Int32 => []) (fr := fun a : Option Nat × Int32 × Int32 × Int32 × Int32 => [(0, a.1)]) (fs := fun a : Option Nat × Int32 × Int32 × Int32 × Int32 => []) ?_ FU ((p0, p3, p8, p9, p10)) M
    intro k188 hk188 a M
    obtain ⟨p0, p3, p8, p9, p10⟩ := a
    show RT p l e rmX13_lettersFrom s m args below meth c x 12 (QM below args s x (fun v : Int32 => some (.int v)) rmX13_lettersFrom.cells rmX13_lettersFrom.slots) 0 0 (fX13_lettersFrom_B188 k188 p0 p3 p8 p9 p10 M) 188 [(3, p3), (8, p8), (9, p9), (10, p10)] [] [(0, p0)] [] M
    unfold fX13_lettersFrom_B188
    refine r_iload (pc := 188) E dX13_lettersFrom_188 3 rfl ?_
    refine r_aload_n (pc := 190) E dX13_lettersFrom_190 rfl 0 rfl ?_
    refine r_getI (pc := 191) E fd_13_37 wf_RX13_353 dX13_lettersFrom_191 (fun v191 => ?_)
    refine r_icmp_ge (pc := 194) (tgt := 229) E dX13_lettersFrom_194 (by decide) ?_ ?_
    · refine r_iload (pc := 229) E dX13_lettersFrom_229 1 rfl ?_
      refine r_iload (pc := 231) E dX13_lettersFrom_231 2 rfl ?_
      refine r_iadd (pc := 233) E dX13_lettersFrom_233 ?_
      exact e_int (pc := 234) E dX13_lettersFrom_234
    · refine r_aload_n (pc := 197) E dX13_lettersFrom_197 rfl 0 rfl ?_
      refine r_getA (pc := 198) E fd_13_36 wf_RX13_79 dX13_lettersFrom_198 (fun v198 => ?_)
      refine r_iload (pc := 201) E dX13_lettersFrom_201 3 rfl ?_
      refine r_aload_n (pc := 203) E dX13_lettersFrom_203 rfl 0 rfl ?_
      refine r_getA (pc := 204) E fd_13_0 wf_RX13_7 dX13_lettersFrom_204 (fun v204 => ?_)
      refine r_iload_n (pc := 207) E dX13_lettersFrom_207 rfl 0 rfl ?_
      refine r_if_ne (pc := 208) (tgt := 219) E dX13_lettersFrom_208 (by decide) ?_ ?_
      · refine r_iload (pc := 219) E dX13_lettersFrom_219 1 rfl ?_
        exact r_sub [0, 1, 2, 3] [] [0] rfl rfl rfl (hL221 k188 hk188 p0 p3 p8 p9 p10 v198 p10 v204 p8 _)
      · refine r_iload (pc := 211) E dX13_lettersFrom_211 1 rfl ?_
        refine r_iload (pc := 213) E dX13_lettersFrom_213 3 rfl ?_
        refine r_iadd (pc := 215) E dX13_lettersFrom_215 ?_
        refine r_goto (pc := 216) (tgt := 221) E dX13_lettersFrom_216 (by decide) ?_
        exact r_sub [0, 1, 2, 3] [] [0] rfl rfl rfl (hL221 k188 hk188 p0 p3 p8 p9 p10 v198 p10 v204 (p8 + p10) _)
  have hL153 : ∀ (p0 : Option Nat) (p1 : Int32) (p2 : Int32) (p3 : Int32) (p8 : Int32) (q0 : Int32) (M : Mem), RT p l e rmX13_lettersFrom s m args below meth c x 12 (QM below args s x (fun v : Int32 => some (.int v)) rmX13_lettersFrom.cells rmX13_lettersFrom.slots) 0 0 (fX13_lettersFrom_L153 p0 p1 p2 p3 p8 q0 M) 153 [(1, p1), (2, p2), (3, p3), (8, p8)] [] [(0, p0)] [.int q0] M := by
    intro p0 p1 p2 p3 p8 q0 M
    unfold fX13_lettersFrom_L153
    refine r_istore (pc := 153) (lf := fun v153 => [(9, v153), (1, p1), (2, p2), (3, p3), (8, p8)]) (lg := fun v153 => []) (lk := fun v153 => [(0, p0)]) E dX13_lettersFrom_153 (by decide) (fun _ => rfl) (fun _ => rfl) (fun _ => rfl) (fun v153 => ?_)
    refine r_aload_n (pc := 155) E dX13_lettersFrom_155 rfl 0 rfl ?_
    refine r_getI (pc := 156) E fd_13_37 wf_RX13_353 dX13_lettersFrom_156 (fun v156 => ?_)
    refine r_aload_n (pc := 159) E dX13_lettersFrom_159 rfl 0 rfl ?_
    refine r_getI (pc := 160) E fd_13_42 wf_RX13_324 dX13_lettersFrom_160 (fun v160 => ?_)
    refine r_icmp_gt (pc := 163) (tgt := 175) E dX13_lettersFrom_163 (by decide) ?_ ?_
    · exact r_sub [1] [] [0] rfl rfl rfl (hL175 p0 p1 _)
    · refine r_iload_n (pc := 166) E dX13_lettersFrom_166 rfl 2 rfl ?_
      refine r_iload (pc := 167) E dX13_lettersFrom_167 4 rfl ?_
      refine r_isub (pc := 169) E dX13_lettersFrom_169 ?_
      refine r_iload (pc := 170) E dX13_lettersFrom_170 0 rfl ?_
      refine r_icmp_ge (pc := 172) (tgt := 185) E dX13_lettersFrom_172 (by decide) ?_ ?_
      · refine r_iconst (pc := 185) (v := 0) E dX13_lettersFrom_185 (by decide) ?_
        refine r_istore (pc := 186) (lf := fun v186 => [(10, v186), (9, v153), (1, p1), (2, p2), (3, p3), (8, p8)]) (lg := fun v186 => []) (lk := fun v186 => [(0, p0)]) E dX13_lettersFrom_186 (by decide) (fun _ => rfl) (fun _ => rfl) (fun _ => rfl) (fun v186 => ?_)
        exact r_sub [4, 5, 1, 0] [] [0] rfl rfl rfl (hL188 p0 p3 p8 v153 v186 _)
      · exact r_sub [1] [] [0] rfl rfl rfl (hL175 p0 p1 _)
  have hL136 : ∀ (p0 : Option Nat) (p1 : Int32) (p2 : Int32) (p3 : Int32) (p8 : Int32) (q0 : Option Nat) (q1 : Int64) (q2 : Int32) (M : Mem), RT p l e rmX13_lettersFrom s m args below meth c x 12 (QM below args s x (fun v : Int32 => some (.int v)) rmX13_lettersFrom.cells rmX13_lettersFrom.slots) 0 0 (fX13_lettersFrom_L136 p0 p1 p2 p3 p8 q0 q1 q2 M) 136 [(1, p1), (2, p2), (3, p3), (8, p8)] [] [(0, p0)] [.int q2, .long q1, rv x q0] M := by
    intro p0 p1 p2 p3 p8 q0 q1 q2 M
    unfold fX13_lettersFrom_L136
    refine r_lshr (pc := 136) E dX13_lettersFrom_136 ?_
    refine r_l2i (pc := 137) E dX13_lettersFrom_137 ?_
    refine r_putI (pc := 138) E fd_13_37 wf_RX13_353 dX13_lettersFrom_138 (Or.inl rfl) (fun M138 => ?_)
    refine r_iload_n (pc := 141) E dX13_lettersFrom_141 rfl 2 rfl ?_
    refine r_if_ne (pc := 142) (tgt := 152) E dX13_lettersFrom_142 (by decide) ?_ ?_
    · refine r_iconst (pc := 152) (v := 1) E dX13_lettersFrom_152 (by decide) ?_
      exact r_sub [0, 1, 2, 3] [] [0] rfl rfl rfl (hL153 p0 p1 p2 p3 p8 1 _)
    · refine r_aload_n (pc := 145) E dX13_lettersFrom_145 rfl 0 rfl ?_
      refine r_getI (pc := 146) E fd_13_37 wf_RX13_353 dX13_lettersFrom_146 (fun v146 => ?_)
      refine r_goto (pc := 149) (tgt := 153) E dX13_lettersFrom_149 (by decide) ?_
      exact r_sub [0, 1, 2, 3] [] [0] rfl rfl rfl (hL153 p0 p1 p2 p3 p8 v146 _)
  have hL79 : ∀ (p0 : Option Nat) (p1 : Int32) (p2 : Int32) (p3 : Int32) (p4 : Int32) (q0 : Int32) (M : Mem), RT p l e rmX13_lettersFrom s m args below meth c x 12 (QM below args s x (fun v : Int32 => some (.int v)) rmX13_lettersFrom.cells rmX13_lettersFrom.slots) 0 0 (fX13_lettersFrom_L79 p0 p1 p2 p3 p4 q0 M) 79 [(1, p1), (2, p2), (3, p3), (4, p4)] [] [(0, p0)] [.int q0] M := by
    intro p0 p1 p2 p3 p4 q0 M
    unfold fX13_lettersFrom_L79
    refine r_istore (pc := 79) (lf := fun v79 => [(5, v79), (1, p1), (2, p2), (3, p3), (4, p4)]) (lg := fun v79 => []) (lk := fun v79 => [(0, p0)]) E dX13_lettersFrom_79 (by decide) (fun _ => rfl) (fun _ => rfl) (fun _ => rfl) (fun v79 => ?_)
    refine r_iload_n (pc := 81) E dX13_lettersFrom_81 rfl 2 rfl ?_
    refine r_iload_n (pc := 82) E dX13_lettersFrom_82 rfl 1 rfl ?_
    refine r_isub (pc := 83) E dX13_lettersFrom_83 ?_
    refine r_iload (pc := 84) E dX13_lettersFrom_84 0 rfl ?_
    refine r_icmp_ge (pc := 86) (tgt := 99) E dX13_lettersFrom_86 (by decide) ?_ ?_
    · refine r_aload_n (pc := 99) E dX13_lettersFrom_99 rfl 0 rfl ?_
      refine r_getA (pc := 100) E fd_13_0 wf_RX13_7 dX13_lettersFrom_100 (fun v100 => ?_)
      refine r_iload_n (pc := 103) E dX13_lettersFrom_103 rfl 1 rfl ?_
      refine r_iload (pc := 104) E dX13_lettersFrom_104 0 rfl ?_
      refine r_kSl (pc := 106) (As := [rv x v100, .int p1, .int v79]) (rest := []) E wc_X13_eight wi_RX13 hd_X13_eight wl_RX13_175 wt_X13_eight dX13_lettersFrom_106 (by decide) (Nat.le_of_ble_eq_true rfl) ⟨rfl, rfl⟩ (ctX13_eight l x _ _ _ _) rfl (fun v106 M106 => ?_)
      refine r_lstore (pc := 109) (lf := fun v109 => [(5, v79), (1, p1), (2, p2), (3, p3), (4, p4)]) (lg := fun v109 => [(6, v109)]) (lk := fun v109 => [(0, p0)]) E dX13_lettersFrom_109 (by decide) (fun _ => rfl) (fun _ => rfl) (fun _ => rfl) (fun v109 => ?_)
      refine r_iload_n (pc := 111) E dX13_lettersFrom_111 rfl 1 rfl ?_
      refine r_iload (pc := 112) E dX13_lettersFrom_112 0 rfl ?_
      refine r_iadd (pc := 114) E dX13_lettersFrom_114 ?_
      refine r_istore (pc := 115) (lf := fun v115 => [(8, v115), (5, v79), (1, p1), (2, p2), (3, p3), (4, p4)]) (lg := fun v115 => [(6, v109)]) (lk := fun v115 => [(0, p0)]) E dX13_lettersFrom_115 (by decide) (fun _ => rfl) (fun _ => rfl) (fun _ => rfl) (fun v115 => ?_)
      refine r_iload_n (pc := 117) E dX13_lettersFrom_117 rfl 4 rfl ?_
      refine r_iconst (pc := 118) (v := 2) E dX13_lettersFrom_118 (by decide) ?_
      refine r_icmp_ge (pc := 119) (tgt := 235) E dX13_lettersFrom_119 (by decide) ?_ ?_
      · refine r_iload (pc := 235) E dX13_lettersFrom_235 5 rfl ?_
        refine r_iconst (pc := 237) (v := 2) E dX13_lettersFrom_237 (by decide) ?_
        refine r_icmp_ge (pc := 238) (tgt := 246) E dX13_lettersFrom_238 (by decide) ?_ ?_
        · refine r_iload (pc := 246) E dX13_lettersFrom_246 5 rfl ?_
          refine r_iconst (pc := 248) (v := 2) E dX13_lettersFrom_248 (by decide) ?_
          refine r_icmp_ne (pc := 249) (tgt := 257) E dX13_lettersFrom_249 (by decide) ?_ ?_
          · refine r_bipush (pc := 257) (v := 18) E dX13_lettersFrom_257 (by decide) ?_
            exact r_sub [2, 3, 4, 5, 0] [0] [0] rfl rfl rfl (hL259 p0 p1 p2 p3 p4 v109 v115 18 _)
          · refine r_bipush (pc := 252) (v := 14) E dX13_lettersFrom_252 (by decide) ?_
            refine r_goto (pc := 254) (tgt := 259) E dX13_lettersFrom_254 (by decide) ?_
            exact r_sub [2, 3, 4, 5, 0] [0] [0] rfl rfl rfl (hL259 p0 p1 p2 p3 p4 v109 v115 14 _)
        · refine r_bipush (pc := 241) (v := 10) E dX13_lettersFrom_241 (by decide) ?_
          refine r_goto (pc := 243) (tgt := 259) E dX13_lettersFrom_243 (by decide) ?_
          exact r_sub [2, 3, 4, 5, 0] [0] [0] rfl rfl rfl (hL259 p0 p1 p2 p3 p4 v109 v115 10 _)
      · refine r_aload_n (pc := 122) E dX13_lettersFrom_122 rfl 0 rfl ?_
        refine r_lload (pc := 123) E dX13_lettersFrom_123 0 rfl ?_
        refine r_iload (pc := 125) E dX13_lettersFrom_125 1 rfl ?_
        refine r_iconst (pc := 127) (v := 1) E dX13_lettersFrom_127 (by decide) ?_
        refine r_icmp_ne (pc := 128) (tgt := 135) E dX13_lettersFrom_128 (by decide) ?_ ?_
        · refine r_iconst (pc := 135) (v := 4) E dX13_lettersFrom_135 (by decide) ?_
          exact r_sub [2, 3, 4, 0] [] [0] rfl rfl rfl (hL136 p0 p1 p2 p3 v115 p0 v109 4 _)
        · refine r_iconst (pc := 131) (v := 3) E dX13_lettersFrom_131 (by decide) ?_
          refine r_goto (pc := 132) (tgt := 136) E dX13_lettersFrom_132 (by decide) ?_
          exact r_sub [2, 3, 4, 0] [] [0] rfl rfl rfl (hL136 p0 p1 p2 p3 v115 p0 v109 3 _)
    · refine r_aload_n (pc := 89) E dX13_lettersFrom_89 rfl 0 rfl ?_
      refine r_bipush (pc := 90) (v := 10) E dX13_lettersFrom_90 (by decide) ?_
      refine r_iload_n (pc := 92) E dX13_lettersFrom_92 rfl 1 rfl ?_
      refine r_kVi (pc := 93) (As := [.int 10, .int p1]) (rest := []) E wc_X13_fails wi_RX13 hd_X13_fails (ci := 13) rfl wl_RX13_263 wn_X13_fails ws_X13_fails dX13_lettersFrom_93 (by decide) (Nat.le_of_ble_eq_true rfl) ⟨rfl, rfl⟩ (ctX13_fails l x _ _ _ _) rfl (fun v93 M93 => ?_)
      refine r_pop (pc := 96) E dX13_lettersFrom_96 rfl ?_
      refine r_iload_n (pc := 97) E dX13_lettersFrom_97 rfl 1 rfl ?_
      exact e_int (pc := 98) E dX13_lettersFrom_98
  show RT p l e rmX13_lettersFrom s m args below meth c x 12 (QM below args s x (fun v : Int32 => some (.int v)) rmX13_lettersFrom.cells rmX13_lettersFrom.slots) 0 0 (fX13_lettersFrom a0 a1 a2 M) 0 [(1, a1), (2, a2)] [] [(0, a0)] [] M
  unfold fX13_lettersFrom
  refine r_iload_n (pc := 0) E dX13_lettersFrom_0 rfl 1 rfl ?_
  refine r_iload_n (pc := 1) E dX13_lettersFrom_1 rfl 0 rfl ?_
  refine r_icmp_gt (pc := 2) (tgt := 15) E dX13_lettersFrom_2 (by decide) ?_ ?_
  · refine r_aload_n (pc := 15) E dX13_lettersFrom_15 rfl 0 rfl ?_
    refine r_getA (pc := 16) E fd_13_0 wf_RX13_7 dX13_lettersFrom_16 (fun v16 => ?_)
    refine r_iload_n (pc := 19) E dX13_lettersFrom_19 rfl 0 rfl ?_
    refine r_baload (pc := 20) E dX13_lettersFrom_20 (fun v20 => ?_)
    refine r_iconst (pc := 21) (v := 3) E dX13_lettersFrom_21 (by decide) ?_
    refine r_iand (pc := 22) E dX13_lettersFrom_22 ?_
    refine r_istore_n (pc := 23) (lf := fun v23 => [(3, v23), (1, a1), (2, a2)]) (lg := fun v23 => []) (lk := fun v23 => [(0, a0)]) E dX13_lettersFrom_23 rfl (by decide) (fun _ => rfl) (fun _ => rfl) (fun _ => rfl) (fun v23 => ?_)
    refine r_aload_n (pc := 24) E dX13_lettersFrom_24 rfl 0 rfl ?_
    refine r_getA (pc := 25) E fd_13_0 wf_RX13_7 dX13_lettersFrom_25 (fun v25 => ?_)
    refine r_iload_n (pc := 28) E dX13_lettersFrom_28 rfl 1 rfl ?_
    refine r_baload (pc := 29) E dX13_lettersFrom_29 (fun v29 => ?_)
    refine r_iconst (pc := 30) (v := 2) E dX13_lettersFrom_30 (by decide) ?_
    refine r_ishr (pc := 31) E dX13_lettersFrom_31 ?_
    refine r_iconst (pc := 32) (v := 3) E dX13_lettersFrom_32 (by decide) ?_
    refine r_iand (pc := 33) E dX13_lettersFrom_33 ?_
    refine r_istore (pc := 34) (lf := fun v34 => [(4, v34), (3, v23), (1, a1), (2, a2)]) (lg := fun v34 => []) (lk := fun v34 => [(0, a0)]) E dX13_lettersFrom_34 (by decide) (fun _ => rfl) (fun _ => rfl) (fun _ => rfl) (fun v34 => ?_)
    refine r_iload_n (pc := 36) E dX13_lettersFrom_36 rfl 1 rfl ?_
    refine r_iconst (pc := 37) (v := 2) E dX13_lettersFrom_37 (by decide) ?_
    refine r_icmp_ge (pc := 38) (tgt := 65) E dX13_lettersFrom_38 (by decide) ?_ ?_
    · refine r_iload (pc := 65) E dX13_lettersFrom_65 0 rfl ?_
      refine r_iconst (pc := 67) (v := 2) E dX13_lettersFrom_67 (by decide) ?_
      refine r_icmp_ge (pc := 68) (tgt := 75) E dX13_lettersFrom_68 (by decide) ?_ ?_
      · refine r_iload (pc := 75) E dX13_lettersFrom_75 0 rfl ?_
        refine r_iconst (pc := 77) (v := 2) E dX13_lettersFrom_77 (by decide) ?_
        refine r_iadd (pc := 78) E dX13_lettersFrom_78 ?_
        exact r_sub [2, 3, 1, 0] [] [0] rfl rfl rfl (hL79 a0 a1 a2 v23 v34 (v34 + 2) _)
      · refine r_iconst (pc := 71) (v := 3) E dX13_lettersFrom_71 (by decide) ?_
        refine r_goto (pc := 72) (tgt := 79) E dX13_lettersFrom_72 (by decide) ?_
        exact r_sub [2, 3, 1, 0] [] [0] rfl rfl rfl (hL79 a0 a1 a2 v23 v34 3 _)
    · refine r_iload (pc := 41) E dX13_lettersFrom_41 0 rfl ?_
      refine r_iconst (pc := 43) (v := 1) E dX13_lettersFrom_43 (by decide) ?_
      refine r_icmp_ne (pc := 44) (tgt := 51) E dX13_lettersFrom_44 (by decide) ?_ ?_
      · refine r_iload (pc := 51) E dX13_lettersFrom_51 0 rfl ?_
        refine r_iconst (pc := 53) (v := 3) E dX13_lettersFrom_53 (by decide) ?_
        refine r_icmp_ne (pc := 54) (tgt := 61) E dX13_lettersFrom_54 (by decide) ?_ ?_
        · refine r_iconst (pc := 61) (v := 1) E dX13_lettersFrom_61 (by decide) ?_
          refine r_goto (pc := 62) (tgt := 79) E dX13_lettersFrom_62 (by decide) ?_
          exact r_sub [2, 3, 1, 0] [] [0] rfl rfl rfl (hL79 a0 a1 a2 v23 v34 1 _)
        · refine r_iconst (pc := 57) (v := 3) E dX13_lettersFrom_57 (by decide) ?_
          refine r_goto (pc := 58) (tgt := 79) E dX13_lettersFrom_58 (by decide) ?_
          exact r_sub [2, 3, 1, 0] [] [0] rfl rfl rfl (hL79 a0 a1 a2 v23 v34 3 _)
      · refine r_iconst (pc := 47) (v := 2) E dX13_lettersFrom_47 (by decide) ?_
        refine r_goto (pc := 48) (tgt := 79) E dX13_lettersFrom_48 (by decide) ?_
        exact r_sub [2, 3, 1, 0] [] [0] rfl rfl rfl (hL79 a0 a1 a2 v23 v34 2 _)
  · refine r_aload_n (pc := 5) E dX13_lettersFrom_5 rfl 0 rfl ?_
    refine r_bipush (pc := 6) (v := 10) E dX13_lettersFrom_6 (by decide) ?_
    refine r_iload_n (pc := 8) E dX13_lettersFrom_8 rfl 0 rfl ?_
    refine r_kVi (pc := 9) (As := [.int 10, .int a1]) (rest := []) E wc_X13_fails wi_RX13 hd_X13_fails (ci := 13) rfl wl_RX13_263 wn_X13_fails ws_X13_fails dX13_lettersFrom_9 (by decide) (Nat.le_of_ble_eq_true rfl) ⟨rfl, rfl⟩ (ctX13_fails l x _ _ _ _) rfl (fun v9 M9 => ?_)
    refine r_pop (pc := 12) E dX13_lettersFrom_12 rfl ?_
    refine r_iload_n (pc := 13) E dX13_lettersFrom_13 rfl 0 rfl ?_
    exact e_int (pc := 14) E dX13_lettersFrom_14
def fX13_toldTable_L166 (M : Mem) : Option (Int32 × Mem) :=
  rtZ 1 M
def fX13_toldTable_L77 (p0 : Option Nat) (M : Mem) : Option (Int32 × Mem) :=
  bo (gI M p0 13 52) fun v81 =>
  bo (chk M p0 13) fun _ => bd (fX13_fails p0 15 v81 M) fun v84 M84 =>
  rtZ v84 M84
def fX13_toldTable_L42 (q0 : Int32) (M : Mem) : Option (Int32 × Mem) :=
  rtZ q0 M
def fX13_toldTable_L37 (M : Mem) : Option (Int32 × Mem) :=
  fX13_toldTable_L42 1 M
def fX13_toldTable (a0 : Option Nat) (a1 : Int32) (a2 : Int32) (a3 : Int32) (a4 : Int32) (M : Mem) : Option (Int32 × Mem) :=
  if a2 = 0 then (
    bo (chk M a0 13) fun _ => bd (fX13_defaults a0 a1 a1 M) fun v7 M7 =>
    fX13_toldTable_L166 M7
  ) else (
    if a2 = 3 then (
      bo (gR M a0 13 18) fun v19 =>
      bo (aI M v19 18 a1) fun v23 =>
      if v23 = 0 then (
        bo (chk M a0 13) fun _ => bd (fX13_fails a0 16 a3 M) fun v31 M31 =>
        if v31 = 0 then (
          fX13_toldTable_L42 0 M31
        ) else (
          fX13_toldTable_L37 M31
        )
      ) else (
        fX13_toldTable_L37 M
      )
    ) else (
      if a2 = 1 then (
        bo (gI M a0 13 52) fun v49 =>
        if a4 ≤ v49 then (
          fX13_toldTable_L77 a0 M
        ) else (
          bo (gR M a0 13 0) fun v58 =>
          bo (gI M a0 13 52) fun v62 =>
          bo (aI M v58 14 v62) fun v65 =>
          bd (fX13_greatest a1 M) fun v71 M71 =>
          if (v65 &&& 255) ≤ v71 then (
            bo (gR M71 a0 13 0) fun v91 =>
            bo (gI M71 a0 13 52) fun v95 =>
            bo (aI M71 v91 14 v95) fun v98 =>
            bo (chk M71 a0 13) fun _ => bd (fX13_alone a0 a1 (v98 &&& 255) M71) fun v103 M103 =>
            bo (gI M103 a0 13 52) fun v108 =>
            bo (pI M103 a0 13 52 (v108 + 1)) fun M113 =>
            fX13_toldTable_L166 M113
          ) else (
            fX13_toldTable_L77 a0 M71
          )
        )
      ) else (
        bo (gI M a0 13 52) fun v121 =>
        bd (fX13_greatest a1 M) fun v127 M127 =>
        bd (fX13_mostLog a1 M127) fun v131 M131 =>
        bo (chk M131 a0 13) fun _ => bd (fX13_toldCounts a0 v121 a4 v127 v131 M131) fun v134 M134 =>
        bn (v134) fun v137 =>
        if 0 ≤ v137 then (
          bo (chk M134 a0 13) fun _ => bd (fX13_table a0 a1 M134) fun v157 M157 =>
          bo (pI M157 a0 13 52 v137) fun M163 =>
          fX13_toldTable_L166 M163
        ) else (
          bo (gI M134 a0 13 52) fun v148 =>
          bo (chk M134 a0 13) fun _ => bd (fX13_fails a0 15 v148 M134) fun v151 M151 =>
          rtZ v151 M151
        )
      )
    )
  )
def rmX13_toldTable : Room := { frames := 3, cells := 0, slots := 0, locals := 72 }
set_option maxRecDepth 100000 in
set_option maxHeartbeats 4000000 in
theorem ctX13_toldTable (l : Launch) (x : Cx) (a0 : Option Nat) (a1 : Int32) (a2 : Int32) (a3 : Int32) (a4 : Int32) (M : Mem) (v : Int32) (N : Mem) (h : fX13_toldTable a0 a1 a2 a3 a4 M = some (v, N)) : CT l yX13_toldTable cX13_toldTable 6 (some (FieldType.boolean)) rmX13_toldTable x [rv x a0, .int a1, .int a2, .int a3, .int a4] M (some (.int v)) N := by
  refine ct_mk (enc := fun v : Int32 => some (.int v)) (li := [(1, a1), (2, a2), (3, a3), (4, a4)]) (ll := []) (lr := [(0, a0)]) (by decide +kernel) (by simp [lg_sl, rv_cat, cat_int, cat_long]) (by simp [flat, lv_args, rv_cat, cat_int, cat_long]) h ?_
  intro p e s m args below meth c E
  have hL166 : ∀ (M : Mem), RT p l e rmX13_toldTable s m args below meth c x 6 (QM below args s x (fun v : Int32 => some (.int v)) rmX13_toldTable.cells rmX13_toldTable.slots) 0 0 (fX13_toldTable_L166 M) 166 [] [] [] [] M := by
    intro M
    unfold fX13_toldTable_L166
    refine r_iconst (pc := 166) (v := 1) E dX13_toldTable_166 (by decide) ?_
    exact e_bool (pc := 167) E dX13_toldTable_167
  have hL77 : ∀ (p0 : Option Nat) (M : Mem), RT p l e rmX13_toldTable s m args below meth c x 6 (QM below args s x (fun v : Int32 => some (.int v)) rmX13_toldTable.cells rmX13_toldTable.slots) 0 0 (fX13_toldTable_L77 p0 M) 77 [] [] [(0, p0)] [] M := by
    intro p0 M
    unfold fX13_toldTable_L77
    refine r_aload_n (pc := 77) E dX13_toldTable_77 rfl 0 rfl ?_
    refine r_bipush (pc := 78) (v := 15) E dX13_toldTable_78 (by decide) ?_
    refine r_aload_n (pc := 80) E dX13_toldTable_80 rfl 0 rfl ?_
    refine r_getI (pc := 81) E fd_13_52 wf_RX13_370 dX13_toldTable_81 (fun v81 => ?_)
    refine r_kVi (pc := 84) (As := [.int 15, .int v81]) (rest := []) E wc_X13_fails wi_RX13 hd_X13_fails (ci := 13) rfl wl_RX13_263 wn_X13_fails ws_X13_fails dX13_toldTable_84 (by decide) (Nat.le_of_ble_eq_true rfl) ⟨rfl, rfl⟩ (ctX13_fails l x _ _ _ _) rfl (fun v84 M84 => ?_)
    exact e_bool (pc := 87) E dX13_toldTable_87
  have hL42 : ∀ (q0 : Int32) (M : Mem), RT p l e rmX13_toldTable s m args below meth c x 6 (QM below args s x (fun v : Int32 => some (.int v)) rmX13_toldTable.cells rmX13_toldTable.slots) 0 0 (fX13_toldTable_L42 q0 M) 42 [] [] [] [.int q0] M := by
    intro q0 M
    unfold fX13_toldTable_L42
    exact e_bool (pc := 42) E dX13_toldTable_42
  have hL37 : ∀ (M : Mem), RT p l e rmX13_toldTable s m args below meth c x 6 (QM below args s x (fun v : Int32 => some (.int v)) rmX13_toldTable.cells rmX13_toldTable.slots) 0 0 (fX13_toldTable_L37 M) 37 [] [] [] [] M := by
    intro M
    unfold fX13_toldTable_L37
    refine r_iconst (pc := 37) (v := 1) E dX13_toldTable_37 (by decide) ?_
    refine r_goto (pc := 38) (tgt := 42) E dX13_toldTable_38 (by decide) ?_
    exact r_sub [] [] [] rfl rfl rfl (hL42 1 _)
  show RT p l e rmX13_toldTable s m args below meth c x 6 (QM below args s x (fun v : Int32 => some (.int v)) rmX13_toldTable.cells rmX13_toldTable.slots) 0 0 (fX13_toldTable a0 a1 a2 a3 a4 M) 0 [(1, a1), (2, a2), (3, a3), (4, a4)] [] [(0, a0)] [] M
  unfold fX13_toldTable
  refine r_iload_n (pc := 0) E dX13_toldTable_0 rfl 1 rfl ?_
  refine r_if_ne (pc := 1) (tgt := 13) E dX13_toldTable_1 (by decide) ?_ ?_
  · refine r_iload_n (pc := 13) E dX13_toldTable_13 rfl 1 rfl ?_
    refine r_iconst (pc := 14) (v := 3) E dX13_toldTable_14 (by decide) ?_
    refine r_icmp_ne (pc := 15) (tgt := 43) E dX13_toldTable_15 (by decide) ?_ ?_
    · refine r_iload_n (pc := 43) E dX13_toldTable_43 rfl 1 rfl ?_
      refine r_iconst (pc := 44) (v := 1) E dX13_toldTable_44 (by decide) ?_
      refine r_icmp_ne (pc := 45) (tgt := 119) E dX13_toldTable_45 (by decide) ?_ ?_
      · refine r_aload_n (pc := 119) E dX13_toldTable_119 rfl 0 rfl ?_
        refine r_aload_n (pc := 120) E dX13_toldTable_120 rfl 0 rfl ?_
        refine r_getI (pc := 121) E fd_13_52 wf_RX13_370 dX13_toldTable_121 (fun v121 => ?_)
        refine r_iload (pc := 124) E dX13_toldTable_124 3 rfl ?_
        refine r_iload_n (pc := 126) E dX13_toldTable_126 rfl 0 rfl ?_
        refine r_kSi (pc := 127) (As := [.int a1]) (rest := [.int a4, .int v121, rv x a0]) E wc_X13_greatest wi_RX13 hd_X13_greatest wl_RX13_219 wt_X13_greatest dX13_toldTable_127 (by decide) (Nat.le_of_ble_eq_true rfl) ⟨rfl, rfl⟩ (ctX13_greatest l x _ _) rfl (fun v127 M127 => ?_)
        refine r_iload_n (pc := 130) E dX13_toldTable_130 rfl 0 rfl ?_
        refine r_kSi (pc := 131) (As := [.int a1]) (rest := [.int v127, .int a4, .int v121, rv x a0]) E wc_X13_mostLog wi_RX13 hd_X13_mostLog wl_RX13_280 wt_X13_mostLog dX13_toldTable_131 (by decide) (Nat.le_of_ble_eq_true rfl) ⟨rfl, rfl⟩ (ctX13_mostLog l x _ _) rfl (fun v131 M131 => ?_)
        refine r_kVi (pc := 134) (As := [.int v121, .int a4, .int v127, .int v131]) (rest := []) E wc_X13_toldCounts wi_RX13 hd_X13_toldCounts (ci := 13) rfl wl_RX13_226 wn_X13_toldCounts ws_X13_toldCounts dX13_toldTable_134 (by decide) (Nat.le_of_ble_eq_true rfl) ⟨rfl, rfl⟩ (ctX13_toldCounts l x _ _ _ _ _ _) rfl (fun v134 M134 => ?_)
        refine r_istore (pc := 137) (lf := fun v137 => [(5, v137), (1, a1), (2, a2), (3, a3), (4, a4)]) (lg := fun v137 => []) (lk := fun v137 => [(0, a0)]) E dX13_toldTable_137 (by decide) (fun _ => rfl) (fun _ => rfl) (fun _ => rfl) (fun v137 => ?_)
        refine r_iload (pc := 139) E dX13_toldTable_139 0 rfl ?_
        refine r_if_ge (pc := 141) (tgt := 155) E dX13_toldTable_141 (by decide) ?_ ?_
        · refine r_aload_n (pc := 155) E dX13_toldTable_155 rfl 0 rfl ?_
          refine r_iload_n (pc := 156) E dX13_toldTable_156 rfl 1 rfl ?_
          refine r_kVv (pc := 157) (As := [.int a1]) (rest := []) E wc_X13_table wi_RX13 hd_X13_table (ci := 13) rfl wl_RX13_222 wn_X13_table ws_X13_table dX13_toldTable_157 (by decide) (Nat.le_of_ble_eq_true rfl) ⟨rfl, rfl⟩ (ctX13_table l x _ _ _) rfl (fun v157 M157 => ?_)
          refine r_aload_n (pc := 160) E dX13_toldTable_160 rfl 0 rfl ?_
          refine r_iload (pc := 161) E dX13_toldTable_161 0 rfl ?_
          refine r_putI (pc := 163) E fd_13_52 wf_RX13_370 dX13_toldTable_163 (Or.inl rfl) (fun M163 => ?_)
          exact r_sub [] [] [] rfl rfl rfl (hL166 _)
        · refine r_aload_n (pc := 144) E dX13_toldTable_144 rfl 0 rfl ?_
          refine r_bipush (pc := 145) (v := 15) E dX13_toldTable_145 (by decide) ?_
          refine r_aload_n (pc := 147) E dX13_toldTable_147 rfl 0 rfl ?_
          refine r_getI (pc := 148) E fd_13_52 wf_RX13_370 dX13_toldTable_148 (fun v148 => ?_)
          refine r_kVi (pc := 151) (As := [.int 15, .int v148]) (rest := []) E wc_X13_fails wi_RX13 hd_X13_fails (ci := 13) rfl wl_RX13_263 wn_X13_fails ws_X13_fails dX13_toldTable_151 (by decide) (Nat.le_of_ble_eq_true rfl) ⟨rfl, rfl⟩ (ctX13_fails l x _ _ _ _) rfl (fun v151 M151 => ?_)
          exact e_bool (pc := 154) E dX13_toldTable_154
      · refine r_aload_n (pc := 48) E dX13_toldTable_48 rfl 0 rfl ?_
        refine r_getI (pc := 49) E fd_13_52 wf_RX13_370 dX13_toldTable_49 (fun v49 => ?_)
        refine r_iload (pc := 52) E dX13_toldTable_52 3 rfl ?_
        refine r_icmp_ge (pc := 54) (tgt := 77) E dX13_toldTable_54 (by decide) ?_ ?_
        · exact r_sub [] [] [0] rfl rfl rfl (hL77 a0 _)
        · refine r_aload_n (pc := 57) E dX13_toldTable_57 rfl 0 rfl ?_
          refine r_getA (pc := 58) E fd_13_0 wf_RX13_7 dX13_toldTable_58 (fun v58 => ?_)
          refine r_aload_n (pc := 61) E dX13_toldTable_61 rfl 0 rfl ?_
          refine r_getI (pc := 62) E fd_13_52 wf_RX13_370 dX13_toldTable_62 (fun v62 => ?_)
          refine r_baload (pc := 65) E dX13_toldTable_65 (fun v65 => ?_)
          refine r_sipush (pc := 66) (v := 255) E dX13_toldTable_66 (by decide) ?_
          refine r_iand (pc := 69) E dX13_toldTable_69 ?_
          refine r_iload_n (pc := 70) E dX13_toldTable_70 rfl 0 rfl ?_
          refine r_kSi (pc := 71) (As := [.int a1]) (rest := [.int (v65 &&& 255)]) E wc_X13_greatest wi_RX13 hd_X13_greatest wl_RX13_219 wt_X13_greatest dX13_toldTable_71 (by decide) (Nat.le_of_ble_eq_true rfl) ⟨rfl, rfl⟩ (ctX13_greatest l x _ _) rfl (fun v71 M71 => ?_)
          refine r_icmp_le (pc := 74) (tgt := 88) E dX13_toldTable_74 (by decide) ?_ ?_
          · refine r_aload_n (pc := 88) E dX13_toldTable_88 rfl 0 rfl ?_
            refine r_iload_n (pc := 89) E dX13_toldTable_89 rfl 0 rfl ?_
            refine r_aload_n (pc := 90) E dX13_toldTable_90 rfl 0 rfl ?_
            refine r_getA (pc := 91) E fd_13_0 wf_RX13_7 dX13_toldTable_91 (fun v91 => ?_)
            refine r_aload_n (pc := 94) E dX13_toldTable_94 rfl 0 rfl ?_
            refine r_getI (pc := 95) E fd_13_52 wf_RX13_370 dX13_toldTable_95 (fun v95 => ?_)
            refine r_baload (pc := 98) E dX13_toldTable_98 (fun v98 => ?_)
            refine r_sipush (pc := 99) (v := 255) E dX13_toldTable_99 (by decide) ?_
            refine r_iand (pc := 102) E dX13_toldTable_102 ?_
            refine r_kVv (pc := 103) (As := [.int a1, .int (v98 &&& 255)]) (rest := []) E wc_X13_alone wi_RX13 hd_X13_alone (ci := 13) rfl wl_RX13_373 wn_X13_alone ws_X13_alone dX13_toldTable_103 (by decide) (Nat.le_of_ble_eq_true rfl) ⟨rfl, rfl⟩ (ctX13_alone l x _ _ _ _) rfl (fun v103 M103 => ?_)
            refine r_aload_n (pc := 106) E dX13_toldTable_106 rfl 0 rfl ?_
            refine r_dup (pc := 107) E dX13_toldTable_107 (rv_cat _ _) ?_
            refine r_getI (pc := 108) E fd_13_52 wf_RX13_370 dX13_toldTable_108 (fun v108 => ?_)
            refine r_iconst (pc := 111) (v := 1) E dX13_toldTable_111 (by decide) ?_
            refine r_iadd (pc := 112) E dX13_toldTable_112 ?_
            refine r_putI (pc := 113) E fd_13_52 wf_RX13_370 dX13_toldTable_113 (Or.inl rfl) (fun M113 => ?_)
            refine r_goto (pc := 116) (tgt := 166) E dX13_toldTable_116 (by decide) ?_
            exact r_sub [] [] [] rfl rfl rfl (hL166 _)
          · exact r_sub [] [] [0] rfl rfl rfl (hL77 a0 _)
    · refine r_aload_n (pc := 18) E dX13_toldTable_18 rfl 0 rfl ?_
      refine r_getA (pc := 19) E fd_13_18 wf_RX13_40 dX13_toldTable_19 (fun v19 => ?_)
      refine r_iload_n (pc := 22) E dX13_toldTable_22 rfl 0 rfl ?_
      refine r_zaload (pc := 23) E dX13_toldTable_23 (fun v23 => ?_)
      refine r_if_ne (pc := 24) (tgt := 37) E dX13_toldTable_24 (by decide) ?_ ?_
      · exact r_sub [] [] [] rfl rfl rfl (hL37 _)
      · refine r_aload_n (pc := 27) E dX13_toldTable_27 rfl 0 rfl ?_
        refine r_bipush (pc := 28) (v := 16) E dX13_toldTable_28 (by decide) ?_
        refine r_iload_n (pc := 30) E dX13_toldTable_30 rfl 2 rfl ?_
        refine r_kVi (pc := 31) (As := [.int 16, .int a3]) (rest := []) E wc_X13_fails wi_RX13 hd_X13_fails (ci := 13) rfl wl_RX13_263 wn_X13_fails ws_X13_fails dX13_toldTable_31 (by decide) (Nat.le_of_ble_eq_true rfl) ⟨rfl, rfl⟩ (ctX13_fails l x _ _ _ _) rfl (fun v31 M31 => ?_)
        refine r_if_eq (pc := 34) (tgt := 41) E dX13_toldTable_34 (by decide) ?_ ?_
        · refine r_iconst (pc := 41) (v := 0) E dX13_toldTable_41 (by decide) ?_
          exact r_sub [] [] [] rfl rfl rfl (hL42 0 _)
        · exact r_sub [] [] [] rfl rfl rfl (hL37 _)
  · refine r_aload_n (pc := 4) E dX13_toldTable_4 rfl 0 rfl ?_
    refine r_iload_n (pc := 5) E dX13_toldTable_5 rfl 0 rfl ?_
    refine r_iload_n (pc := 6) E dX13_toldTable_6 rfl 0 rfl ?_
    refine r_kVv (pc := 7) (As := [.int a1, .int a1]) (rest := []) E wc_X13_defaults wi_RX13 hd_X13_defaults (ci := 13) rfl wl_RX13_367 wn_X13_defaults ws_X13_defaults dX13_toldTable_7 (by decide) (Nat.le_of_ble_eq_true rfl) ⟨rfl, rfl⟩ (ctX13_defaults l x _ _ _ _) rfl (fun v7 M7 => ?_)
    refine r_goto (pc := 10) (tgt := 166) E dX13_toldTable_10 (by decide) ?_
    exact r_sub [] [] [] rfl rfl rfl (hL166 _)
def fX13_copyBase_L112 (q0 : Int32) (M : Mem) : Option (Int32 × Mem) :=
  some (q0, M)
def fX13_copyBase (a0 : Int32) (M : Mem) : Option (Int32 × Mem) :=
  if 32 ≤ a0 then (
    if 36 ≤ a0 then (
      if 44 ≤ a0 then (
        some ((shlI 256 (a0 - 44)) + 3, M)
      ) else (
        if a0 = 36 then (
          fX13_copyBase_L112 43 M
        ) else (
          if a0 = 37 then (
            fX13_copyBase_L112 47 M
          ) else (
            if a0 = 38 then (
              fX13_copyBase_L112 51 M
            ) else (
              if a0 = 39 then (
                fX13_copyBase_L112 59 M
              ) else (
                if a0 = 40 then (
                  fX13_copyBase_L112 67 M
                ) else (
                  if a0 = 41 then (
                    fX13_copyBase_L112 83 M
                  ) else (
                    if a0 = 42 then (
                      fX13_copyBase_L112 99 M
                    ) else (
                      fX13_copyBase_L112 131 M
                    )
                  )
                )
              )
            )
          )
        )
      )
    ) else (
      some (35 + (2 * (a0 - 32)), M)
    )
  ) else (
    some (3 + a0, M)
  )
def rmX13_copyBase : Room := { frames := 0, cells := 0, slots := 0, locals := 0 }
set_option maxRecDepth 100000 in
set_option maxHeartbeats 4000000 in
theorem ctX13_copyBase (l : Launch) (x : Cx) (a0 : Int32) (M : Mem) (v : Int32) (N : Mem) (h : fX13_copyBase a0 M = some (v, N)) : CT l yX13_copyBase cX13_copyBase 1 (some (FieldType.int)) rmX13_copyBase x [.int a0] M (some (.int v)) N := by
  refine ct_mk (enc := fun v : Int32 => some (.int v)) (li := [(0, a0)]) (ll := []) (lr := []) (by decide +kernel) (by simp [lg_sl, rv_cat, cat_int, cat_long]) (by simp [flat, lv_args, rv_cat, cat_int, cat_long]) h ?_
  intro p e s m args below meth c E
  have hL112 : ∀ (q0 : Int32) (M : Mem), RT p l e rmX13_copyBase s m args below meth c x 1 (QM below args s x (fun v : Int32 => some (.int v)) rmX13_copyBase.cells rmX13_copyBase.slots) 0 0 (fX13_copyBase_L112 q0 M) 112 [] [] [] [.int q0] M := by
    intro q0 M
    unfold fX13_copyBase_L112
    exact e_int (pc := 112) E dX13_copyBase_112
  show RT p l e rmX13_copyBase s m args below meth c x 1 (QM below args s x (fun v : Int32 => some (.int v)) rmX13_copyBase.cells rmX13_copyBase.slots) 0 0 (fX13_copyBase a0 M) 0 [(0, a0)] [] [] [] M
  unfold fX13_copyBase
  refine r_iload_n (pc := 0) E dX13_copyBase_0 rfl 0 rfl ?_
  refine r_bipush (pc := 1) (v := 32) E dX13_copyBase_1 (by decide) ?_
  refine r_icmp_ge (pc := 3) (tgt := 10) E dX13_copyBase_3 (by decide) ?_ ?_
  · refine r_iload_n (pc := 10) E dX13_copyBase_10 rfl 0 rfl ?_
    refine r_bipush (pc := 11) (v := 36) E dX13_copyBase_11 (by decide) ?_
    refine r_icmp_ge (pc := 13) (tgt := 26) E dX13_copyBase_13 (by decide) ?_ ?_
    · refine r_iload_n (pc := 26) E dX13_copyBase_26 rfl 0 rfl ?_
      refine r_bipush (pc := 27) (v := 44) E dX13_copyBase_27 (by decide) ?_
      refine r_icmp_ge (pc := 29) (tgt := 113) E dX13_copyBase_29 (by decide) ?_ ?_
      · refine r_sipush (pc := 113) (v := 256) E dX13_copyBase_113 (by decide) ?_
        refine r_iload_n (pc := 116) E dX13_copyBase_116 rfl 0 rfl ?_
        refine r_bipush (pc := 117) (v := 44) E dX13_copyBase_117 (by decide) ?_
        refine r_isub (pc := 119) E dX13_copyBase_119 ?_
        refine r_ishl (pc := 120) E dX13_copyBase_120 ?_
        refine r_iconst (pc := 121) (v := 3) E dX13_copyBase_121 (by decide) ?_
        refine r_iadd (pc := 122) E dX13_copyBase_122 ?_
        exact e_int (pc := 123) E dX13_copyBase_123
      · refine r_iload_n (pc := 32) E dX13_copyBase_32 rfl 0 rfl ?_
        refine r_bipush (pc := 33) (v := 36) E dX13_copyBase_33 (by decide) ?_
        refine r_icmp_ne (pc := 35) (tgt := 43) E dX13_copyBase_35 (by decide) ?_ ?_
        · refine r_iload_n (pc := 43) E dX13_copyBase_43 rfl 0 rfl ?_
          refine r_bipush (pc := 44) (v := 37) E dX13_copyBase_44 (by decide) ?_
          refine r_icmp_ne (pc := 46) (tgt := 54) E dX13_copyBase_46 (by decide) ?_ ?_
          · refine r_iload_n (pc := 54) E dX13_copyBase_54 rfl 0 rfl ?_
            refine r_bipush (pc := 55) (v := 38) E dX13_copyBase_55 (by decide) ?_
            refine r_icmp_ne (pc := 57) (tgt := 65) E dX13_copyBase_57 (by decide) ?_ ?_
            · refine r_iload_n (pc := 65) E dX13_copyBase_65 rfl 0 rfl ?_
              refine r_bipush (pc := 66) (v := 39) E dX13_copyBase_66 (by decide) ?_
              refine r_icmp_ne (pc := 68) (tgt := 76) E dX13_copyBase_68 (by decide) ?_ ?_
              · refine r_iload_n (pc := 76) E dX13_copyBase_76 rfl 0 rfl ?_
                refine r_bipush (pc := 77) (v := 40) E dX13_copyBase_77 (by decide) ?_
                refine r_icmp_ne (pc := 79) (tgt := 87) E dX13_copyBase_79 (by decide) ?_ ?_
                · refine r_iload_n (pc := 87) E dX13_copyBase_87 rfl 0 rfl ?_
                  refine r_bipush (pc := 88) (v := 41) E dX13_copyBase_88 (by decide) ?_
                  refine r_icmp_ne (pc := 90) (tgt := 98) E dX13_copyBase_90 (by decide) ?_ ?_
                  · refine r_iload_n (pc := 98) E dX13_copyBase_98 rfl 0 rfl ?_
                    refine r_bipush (pc := 99) (v := 42) E dX13_copyBase_99 (by decide) ?_
                    refine r_icmp_ne (pc := 101) (tgt := 109) E dX13_copyBase_101 (by decide) ?_ ?_
                    · refine r_sipush (pc := 109) (v := 131) E dX13_copyBase_109 (by decide) ?_
                      exact r_sub [] [] [] rfl rfl rfl (hL112 131 _)
                    · refine r_bipush (pc := 104) (v := 99) E dX13_copyBase_104 (by decide) ?_
                      refine r_goto (pc := 106) (tgt := 112) E dX13_copyBase_106 (by decide) ?_
                      exact r_sub [] [] [] rfl rfl rfl (hL112 99 _)
                  · refine r_bipush (pc := 93) (v := 83) E dX13_copyBase_93 (by decide) ?_
                    refine r_goto (pc := 95) (tgt := 112) E dX13_copyBase_95 (by decide) ?_
                    exact r_sub [] [] [] rfl rfl rfl (hL112 83 _)
                · refine r_bipush (pc := 82) (v := 67) E dX13_copyBase_82 (by decide) ?_
                  refine r_goto (pc := 84) (tgt := 112) E dX13_copyBase_84 (by decide) ?_
                  exact r_sub [] [] [] rfl rfl rfl (hL112 67 _)
              · refine r_bipush (pc := 71) (v := 59) E dX13_copyBase_71 (by decide) ?_
                refine r_goto (pc := 73) (tgt := 112) E dX13_copyBase_73 (by decide) ?_
                exact r_sub [] [] [] rfl rfl rfl (hL112 59 _)
            · refine r_bipush (pc := 60) (v := 51) E dX13_copyBase_60 (by decide) ?_
              refine r_goto (pc := 62) (tgt := 112) E dX13_copyBase_62 (by decide) ?_
              exact r_sub [] [] [] rfl rfl rfl (hL112 51 _)
          · refine r_bipush (pc := 49) (v := 47) E dX13_copyBase_49 (by decide) ?_
            refine r_goto (pc := 51) (tgt := 112) E dX13_copyBase_51 (by decide) ?_
            exact r_sub [] [] [] rfl rfl rfl (hL112 47 _)
        · refine r_bipush (pc := 38) (v := 43) E dX13_copyBase_38 (by decide) ?_
          refine r_goto (pc := 40) (tgt := 112) E dX13_copyBase_40 (by decide) ?_
          exact r_sub [] [] [] rfl rfl rfl (hL112 43 _)
    · refine r_bipush (pc := 16) (v := 35) E dX13_copyBase_16 (by decide) ?_
      refine r_iconst (pc := 18) (v := 2) E dX13_copyBase_18 (by decide) ?_
      refine r_iload_n (pc := 19) E dX13_copyBase_19 rfl 0 rfl ?_
      refine r_bipush (pc := 20) (v := 32) E dX13_copyBase_20 (by decide) ?_
      refine r_isub (pc := 22) E dX13_copyBase_22 ?_
      refine r_imul (pc := 23) E dX13_copyBase_23 ?_
      refine r_iadd (pc := 24) E dX13_copyBase_24 ?_
      exact e_int (pc := 25) E dX13_copyBase_25
  · refine r_iconst (pc := 6) (v := 3) E dX13_copyBase_6 (by decide) ?_
    refine r_iload_n (pc := 7) E dX13_copyBase_7 rfl 0 rfl ?_
    refine r_iadd (pc := 8) E dX13_copyBase_8 ?_
    exact e_int (pc := 9) E dX13_copyBase_9
def fX13_copyBits_L64 (q0 : Int32) (M : Mem) : Option (Int32 × Mem) :=
  some (q0, M)
def fX13_copyBits (a0 : Int32) (M : Mem) : Option (Int32 × Mem) :=
  if 32 ≤ a0 then (
    if 36 ≤ a0 then (
      if 38 ≤ a0 then (
        if 40 ≤ a0 then (
          if 42 ≤ a0 then (
            if a0 = 42 then (
              fX13_copyBits_L64 5 M
            ) else (
              fX13_copyBits_L64 (a0 - 36) M
            )
          ) else (
            fX13_copyBits_L64 4 M
          )
        ) else (
          fX13_copyBits_L64 3 M
        )
      ) else (
        fX13_copyBits_L64 2 M
      )
    ) else (
      fX13_copyBits_L64 1 M
    )
  ) else (
    fX13_copyBits_L64 0 M
  )
def rmX13_copyBits : Room := { frames := 0, cells := 0, slots := 0, locals := 0 }
set_option maxRecDepth 100000 in
set_option maxHeartbeats 4000000 in
theorem ctX13_copyBits (l : Launch) (x : Cx) (a0 : Int32) (M : Mem) (v : Int32) (N : Mem) (h : fX13_copyBits a0 M = some (v, N)) : CT l yX13_copyBits cX13_copyBits 1 (some (FieldType.int)) rmX13_copyBits x [.int a0] M (some (.int v)) N := by
  refine ct_mk (enc := fun v : Int32 => some (.int v)) (li := [(0, a0)]) (ll := []) (lr := []) (by decide +kernel) (by simp [lg_sl, rv_cat, cat_int, cat_long]) (by simp [flat, lv_args, rv_cat, cat_int, cat_long]) h ?_
  intro p e s m args below meth c E
  have hL64 : ∀ (q0 : Int32) (M : Mem), RT p l e rmX13_copyBits s m args below meth c x 1 (QM below args s x (fun v : Int32 => some (.int v)) rmX13_copyBits.cells rmX13_copyBits.slots) 0 0 (fX13_copyBits_L64 q0 M) 64 [] [] [] [.int q0] M := by
    intro q0 M
    unfold fX13_copyBits_L64
    exact e_int (pc := 64) E dX13_copyBits_64
  show RT p l e rmX13_copyBits s m args below meth c x 1 (QM below args s x (fun v : Int32 => some (.int v)) rmX13_copyBits.cells rmX13_copyBits.slots) 0 0 (fX13_copyBits a0 M) 0 [(0, a0)] [] [] [] M
  unfold fX13_copyBits
  refine r_iload_n (pc := 0) E dX13_copyBits_0 rfl 0 rfl ?_
  refine r_bipush (pc := 1) (v := 32) E dX13_copyBits_1 (by decide) ?_
  refine r_icmp_ge (pc := 3) (tgt := 10) E dX13_copyBits_3 (by decide) ?_ ?_
  · refine r_iload_n (pc := 10) E dX13_copyBits_10 rfl 0 rfl ?_
    refine r_bipush (pc := 11) (v := 36) E dX13_copyBits_11 (by decide) ?_
    refine r_icmp_ge (pc := 13) (tgt := 20) E dX13_copyBits_13 (by decide) ?_ ?_
    · refine r_iload_n (pc := 20) E dX13_copyBits_20 rfl 0 rfl ?_
      refine r_bipush (pc := 21) (v := 38) E dX13_copyBits_21 (by decide) ?_
      refine r_icmp_ge (pc := 23) (tgt := 30) E dX13_copyBits_23 (by decide) ?_ ?_
      · refine r_iload_n (pc := 30) E dX13_copyBits_30 rfl 0 rfl ?_
        refine r_bipush (pc := 31) (v := 40) E dX13_copyBits_31 (by decide) ?_
        refine r_icmp_ge (pc := 33) (tgt := 40) E dX13_copyBits_33 (by decide) ?_ ?_
        · refine r_iload_n (pc := 40) E dX13_copyBits_40 rfl 0 rfl ?_
          refine r_bipush (pc := 41) (v := 42) E dX13_copyBits_41 (by decide) ?_
          refine r_icmp_ge (pc := 43) (tgt := 50) E dX13_copyBits_43 (by decide) ?_ ?_
          · refine r_iload_n (pc := 50) E dX13_copyBits_50 rfl 0 rfl ?_
            refine r_bipush (pc := 51) (v := 42) E dX13_copyBits_51 (by decide) ?_
            refine r_icmp_ne (pc := 53) (tgt := 60) E dX13_copyBits_53 (by decide) ?_ ?_
            · refine r_iload_n (pc := 60) E dX13_copyBits_60 rfl 0 rfl ?_
              refine r_bipush (pc := 61) (v := 36) E dX13_copyBits_61 (by decide) ?_
              refine r_isub (pc := 63) E dX13_copyBits_63 ?_
              exact r_sub [] [] [] rfl rfl rfl (hL64 (a0 - 36) _)
            · refine r_iconst (pc := 56) (v := 5) E dX13_copyBits_56 (by decide) ?_
              refine r_goto (pc := 57) (tgt := 64) E dX13_copyBits_57 (by decide) ?_
              exact r_sub [] [] [] rfl rfl rfl (hL64 5 _)
          · refine r_iconst (pc := 46) (v := 4) E dX13_copyBits_46 (by decide) ?_
            refine r_goto (pc := 47) (tgt := 64) E dX13_copyBits_47 (by decide) ?_
            exact r_sub [] [] [] rfl rfl rfl (hL64 4 _)
        · refine r_iconst (pc := 36) (v := 3) E dX13_copyBits_36 (by decide) ?_
          refine r_goto (pc := 37) (tgt := 64) E dX13_copyBits_37 (by decide) ?_
          exact r_sub [] [] [] rfl rfl rfl (hL64 3 _)
      · refine r_iconst (pc := 26) (v := 2) E dX13_copyBits_26 (by decide) ?_
        refine r_goto (pc := 27) (tgt := 64) E dX13_copyBits_27 (by decide) ?_
        exact r_sub [] [] [] rfl rfl rfl (hL64 2 _)
    · refine r_iconst (pc := 16) (v := 1) E dX13_copyBits_16 (by decide) ?_
      refine r_goto (pc := 17) (tgt := 64) E dX13_copyBits_17 (by decide) ?_
      exact r_sub [] [] [] rfl rfl rfl (hL64 1 _)
  · refine r_iconst (pc := 6) (v := 0) E dX13_copyBits_6 (by decide) ?_
    refine r_goto (pc := 7) (tgt := 64) E dX13_copyBits_7 (by decide) ?_
    exact r_sub [] [] [] rfl rfl rfl (hL64 0 _)
def fX13_letterBase_L86 (q0 : Int32) (M : Mem) : Option (Int32 × Mem) :=
  some (q0, M)
def fX13_letterBase (a0 : Int32) (M : Mem) : Option (Int32 × Mem) :=
  if 16 ≤ a0 then (
    if 20 ≤ a0 then (
      if a0 = 20 then (
        fX13_letterBase_L86 24 M
      ) else (
        if a0 = 21 then (
          fX13_letterBase_L86 28 M
        ) else (
          if a0 = 22 then (
            fX13_letterBase_L86 32 M
          ) else (
            if a0 = 23 then (
              fX13_letterBase_L86 40 M
            ) else (
              if a0 = 24 then (
                fX13_letterBase_L86 48 M
              ) else (
                fX13_letterBase_L86 (shlI 64 (a0 - 25)) M
              )
            )
          )
        )
      )
    ) else (
      some (16 + (2 * (a0 - 16)), M)
    )
  ) else (
    some (a0, M)
  )
def rmX13_letterBase : Room := { frames := 0, cells := 0, slots := 0, locals := 0 }
set_option maxRecDepth 100000 in
set_option maxHeartbeats 4000000 in
theorem ctX13_letterBase (l : Launch) (x : Cx) (a0 : Int32) (M : Mem) (v : Int32) (N : Mem) (h : fX13_letterBase a0 M = some (v, N)) : CT l yX13_letterBase cX13_letterBase 1 (some (FieldType.int)) rmX13_letterBase x [.int a0] M (some (.int v)) N := by
  refine ct_mk (enc := fun v : Int32 => some (.int v)) (li := [(0, a0)]) (ll := []) (lr := []) (by decide +kernel) (by simp [lg_sl, rv_cat, cat_int, cat_long]) (by simp [flat, lv_args, rv_cat, cat_int, cat_long]) h ?_
  intro p e s m args below meth c E
  have hL86 : ∀ (q0 : Int32) (M : Mem), RT p l e rmX13_letterBase s m args below meth c x 1 (QM below args s x (fun v : Int32 => some (.int v)) rmX13_letterBase.cells rmX13_letterBase.slots) 0 0 (fX13_letterBase_L86 q0 M) 86 [] [] [] [.int q0] M := by
    intro q0 M
    unfold fX13_letterBase_L86
    exact e_int (pc := 86) E dX13_letterBase_86
  show RT p l e rmX13_letterBase s m args below meth c x 1 (QM below args s x (fun v : Int32 => some (.int v)) rmX13_letterBase.cells rmX13_letterBase.slots) 0 0 (fX13_letterBase a0 M) 0 [(0, a0)] [] [] [] M
  unfold fX13_letterBase
  refine r_iload_n (pc := 0) E dX13_letterBase_0 rfl 0 rfl ?_
  refine r_bipush (pc := 1) (v := 16) E dX13_letterBase_1 (by decide) ?_
  refine r_icmp_ge (pc := 3) (tgt := 8) E dX13_letterBase_3 (by decide) ?_ ?_
  · refine r_iload_n (pc := 8) E dX13_letterBase_8 rfl 0 rfl ?_
    refine r_bipush (pc := 9) (v := 20) E dX13_letterBase_9 (by decide) ?_
    refine r_icmp_ge (pc := 11) (tgt := 24) E dX13_letterBase_11 (by decide) ?_ ?_
    · refine r_iload_n (pc := 24) E dX13_letterBase_24 rfl 0 rfl ?_
      refine r_bipush (pc := 25) (v := 20) E dX13_letterBase_25 (by decide) ?_
      refine r_icmp_ne (pc := 27) (tgt := 35) E dX13_letterBase_27 (by decide) ?_ ?_
      · refine r_iload_n (pc := 35) E dX13_letterBase_35 rfl 0 rfl ?_
        refine r_bipush (pc := 36) (v := 21) E dX13_letterBase_36 (by decide) ?_
        refine r_icmp_ne (pc := 38) (tgt := 46) E dX13_letterBase_38 (by decide) ?_ ?_
        · refine r_iload_n (pc := 46) E dX13_letterBase_46 rfl 0 rfl ?_
          refine r_bipush (pc := 47) (v := 22) E dX13_letterBase_47 (by decide) ?_
          refine r_icmp_ne (pc := 49) (tgt := 57) E dX13_letterBase_49 (by decide) ?_ ?_
          · refine r_iload_n (pc := 57) E dX13_letterBase_57 rfl 0 rfl ?_
            refine r_bipush (pc := 58) (v := 23) E dX13_letterBase_58 (by decide) ?_
            refine r_icmp_ne (pc := 60) (tgt := 68) E dX13_letterBase_60 (by decide) ?_ ?_
            · refine r_iload_n (pc := 68) E dX13_letterBase_68 rfl 0 rfl ?_
              refine r_bipush (pc := 69) (v := 24) E dX13_letterBase_69 (by decide) ?_
              refine r_icmp_ne (pc := 71) (tgt := 79) E dX13_letterBase_71 (by decide) ?_ ?_
              · refine r_bipush (pc := 79) (v := 64) E dX13_letterBase_79 (by decide) ?_
                refine r_iload_n (pc := 81) E dX13_letterBase_81 rfl 0 rfl ?_
                refine r_bipush (pc := 82) (v := 25) E dX13_letterBase_82 (by decide) ?_
                refine r_isub (pc := 84) E dX13_letterBase_84 ?_
                refine r_ishl (pc := 85) E dX13_letterBase_85 ?_
                exact r_sub [] [] [] rfl rfl rfl (hL86 (shlI 64 (a0 - 25)) _)
              · refine r_bipush (pc := 74) (v := 48) E dX13_letterBase_74 (by decide) ?_
                refine r_goto (pc := 76) (tgt := 86) E dX13_letterBase_76 (by decide) ?_
                exact r_sub [] [] [] rfl rfl rfl (hL86 48 _)
            · refine r_bipush (pc := 63) (v := 40) E dX13_letterBase_63 (by decide) ?_
              refine r_goto (pc := 65) (tgt := 86) E dX13_letterBase_65 (by decide) ?_
              exact r_sub [] [] [] rfl rfl rfl (hL86 40 _)
          · refine r_bipush (pc := 52) (v := 32) E dX13_letterBase_52 (by decide) ?_
            refine r_goto (pc := 54) (tgt := 86) E dX13_letterBase_54 (by decide) ?_
            exact r_sub [] [] [] rfl rfl rfl (hL86 32 _)
        · refine r_bipush (pc := 41) (v := 28) E dX13_letterBase_41 (by decide) ?_
          refine r_goto (pc := 43) (tgt := 86) E dX13_letterBase_43 (by decide) ?_
          exact r_sub [] [] [] rfl rfl rfl (hL86 28 _)
      · refine r_bipush (pc := 30) (v := 24) E dX13_letterBase_30 (by decide) ?_
        refine r_goto (pc := 32) (tgt := 86) E dX13_letterBase_32 (by decide) ?_
        exact r_sub [] [] [] rfl rfl rfl (hL86 24 _)
    · refine r_bipush (pc := 14) (v := 16) E dX13_letterBase_14 (by decide) ?_
      refine r_iconst (pc := 16) (v := 2) E dX13_letterBase_16 (by decide) ?_
      refine r_iload_n (pc := 17) E dX13_letterBase_17 rfl 0 rfl ?_
      refine r_bipush (pc := 18) (v := 16) E dX13_letterBase_18 (by decide) ?_
      refine r_isub (pc := 20) E dX13_letterBase_20 ?_
      refine r_imul (pc := 21) E dX13_letterBase_21 ?_
      refine r_iadd (pc := 22) E dX13_letterBase_22 ?_
      exact e_int (pc := 23) E dX13_letterBase_23
  · refine r_iload_n (pc := 6) E dX13_letterBase_6 rfl 0 rfl ?_
    exact e_int (pc := 7) E dX13_letterBase_7
def fX13_letterBits_L54 (q0 : Int32) (M : Mem) : Option (Int32 × Mem) :=
  some (q0, M)
def fX13_letterBits (a0 : Int32) (M : Mem) : Option (Int32 × Mem) :=
  if 16 ≤ a0 then (
    if 20 ≤ a0 then (
      if 22 ≤ a0 then (
        if 24 ≤ a0 then (
          if a0 = 24 then (
            fX13_letterBits_L54 4 M
          ) else (
            fX13_letterBits_L54 (a0 - 19) M
          )
        ) else (
          fX13_letterBits_L54 3 M
        )
      ) else (
        fX13_letterBits_L54 2 M
      )
    ) else (
      fX13_letterBits_L54 1 M
    )
  ) else (
    fX13_letterBits_L54 0 M
  )
def rmX13_letterBits : Room := { frames := 0, cells := 0, slots := 0, locals := 0 }
set_option maxRecDepth 100000 in
set_option maxHeartbeats 4000000 in
theorem ctX13_letterBits (l : Launch) (x : Cx) (a0 : Int32) (M : Mem) (v : Int32) (N : Mem) (h : fX13_letterBits a0 M = some (v, N)) : CT l yX13_letterBits cX13_letterBits 1 (some (FieldType.int)) rmX13_letterBits x [.int a0] M (some (.int v)) N := by
  refine ct_mk (enc := fun v : Int32 => some (.int v)) (li := [(0, a0)]) (ll := []) (lr := []) (by decide +kernel) (by simp [lg_sl, rv_cat, cat_int, cat_long]) (by simp [flat, lv_args, rv_cat, cat_int, cat_long]) h ?_
  intro p e s m args below meth c E
  have hL54 : ∀ (q0 : Int32) (M : Mem), RT p l e rmX13_letterBits s m args below meth c x 1 (QM below args s x (fun v : Int32 => some (.int v)) rmX13_letterBits.cells rmX13_letterBits.slots) 0 0 (fX13_letterBits_L54 q0 M) 54 [] [] [] [.int q0] M := by
    intro q0 M
    unfold fX13_letterBits_L54
    exact e_int (pc := 54) E dX13_letterBits_54
  show RT p l e rmX13_letterBits s m args below meth c x 1 (QM below args s x (fun v : Int32 => some (.int v)) rmX13_letterBits.cells rmX13_letterBits.slots) 0 0 (fX13_letterBits a0 M) 0 [(0, a0)] [] [] [] M
  unfold fX13_letterBits
  refine r_iload_n (pc := 0) E dX13_letterBits_0 rfl 0 rfl ?_
  refine r_bipush (pc := 1) (v := 16) E dX13_letterBits_1 (by decide) ?_
  refine r_icmp_ge (pc := 3) (tgt := 10) E dX13_letterBits_3 (by decide) ?_ ?_
  · refine r_iload_n (pc := 10) E dX13_letterBits_10 rfl 0 rfl ?_
    refine r_bipush (pc := 11) (v := 20) E dX13_letterBits_11 (by decide) ?_
    refine r_icmp_ge (pc := 13) (tgt := 20) E dX13_letterBits_13 (by decide) ?_ ?_
    · refine r_iload_n (pc := 20) E dX13_letterBits_20 rfl 0 rfl ?_
      refine r_bipush (pc := 21) (v := 22) E dX13_letterBits_21 (by decide) ?_
      refine r_icmp_ge (pc := 23) (tgt := 30) E dX13_letterBits_23 (by decide) ?_ ?_
      · refine r_iload_n (pc := 30) E dX13_letterBits_30 rfl 0 rfl ?_
        refine r_bipush (pc := 31) (v := 24) E dX13_letterBits_31 (by decide) ?_
        refine r_icmp_ge (pc := 33) (tgt := 40) E dX13_letterBits_33 (by decide) ?_ ?_
        · refine r_iload_n (pc := 40) E dX13_letterBits_40 rfl 0 rfl ?_
          refine r_bipush (pc := 41) (v := 24) E dX13_letterBits_41 (by decide) ?_
          refine r_icmp_ne (pc := 43) (tgt := 50) E dX13_letterBits_43 (by decide) ?_ ?_
          · refine r_iload_n (pc := 50) E dX13_letterBits_50 rfl 0 rfl ?_
            refine r_bipush (pc := 51) (v := 19) E dX13_letterBits_51 (by decide) ?_
            refine r_isub (pc := 53) E dX13_letterBits_53 ?_
            exact r_sub [] [] [] rfl rfl rfl (hL54 (a0 - 19) _)
          · refine r_iconst (pc := 46) (v := 4) E dX13_letterBits_46 (by decide) ?_
            refine r_goto (pc := 47) (tgt := 54) E dX13_letterBits_47 (by decide) ?_
            exact r_sub [] [] [] rfl rfl rfl (hL54 4 _)
        · refine r_iconst (pc := 36) (v := 3) E dX13_letterBits_36 (by decide) ?_
          refine r_goto (pc := 37) (tgt := 54) E dX13_letterBits_37 (by decide) ?_
          exact r_sub [] [] [] rfl rfl rfl (hL54 3 _)
      · refine r_iconst (pc := 26) (v := 2) E dX13_letterBits_26 (by decide) ?_
        refine r_goto (pc := 27) (tgt := 54) E dX13_letterBits_27 (by decide) ?_
        exact r_sub [] [] [] rfl rfl rfl (hL54 2 _)
    · refine r_iconst (pc := 16) (v := 1) E dX13_letterBits_16 (by decide) ?_
      refine r_goto (pc := 17) (tgt := 54) E dX13_letterBits_17 (by decide) ?_
      exact r_sub [] [] [] rfl rfl rfl (hL54 1 _)
  · refine r_iconst (pc := 6) (v := 0) E dX13_letterBits_6 (by decide) ?_
    refine r_goto (pc := 7) (tgt := 54) E dX13_letterBits_7 (by decide) ?_
    exact r_sub [] [] [] rfl rfl rfl (hL54 0 _)
def fX13_meant_L24 (q0 : Int32) (M : Mem) : Option (Int32 × Mem) :=
  some (q0, M)
def fX13_meant_L23 (q0 : Int32) (q1 : Int32) (M : Mem) : Option (Int32 × Mem) :=
  fX13_meant_L24 (q0 - q1) M
def fX13_meant (a0 : Int64) (a2 : Int32) (M : Mem) : Option (Int32 × Mem) :=
  if (lg_cmp a0 3) ≤ 0 then (
    if a2 ≤ 0 then (
      fX13_meant_L23 a0.toInt32 0 M
    ) else (
      fX13_meant_L23 a0.toInt32 1 M
    )
  ) else (
    fX13_meant_L24 4 M
  )
def rmX13_meant : Room := { frames := 0, cells := 0, slots := 0, locals := 0 }
set_option maxRecDepth 100000 in
set_option maxHeartbeats 4000000 in
theorem ctX13_meant (l : Launch) (x : Cx) (a0 : Int64) (a2 : Int32) (M : Mem) (v : Int32) (N : Mem) (h : fX13_meant a0 a2 M = some (v, N)) : CT l yX13_meant cX13_meant 3 (some (FieldType.int)) rmX13_meant x [.long a0, .int a2] M (some (.int v)) N := by
  refine ct_mk (enc := fun v : Int32 => some (.int v)) (li := [(2, a2)]) (ll := [(0, a0)]) (lr := []) (by decide +kernel) (by simp [lg_sl, rv_cat, cat_int, cat_long]) (by simp [flat, lv_args, rv_cat, cat_int, cat_long]) h ?_
  intro p e s m args below meth c E
  have hL24 : ∀ (q0 : Int32) (M : Mem), RT p l e rmX13_meant s m args below meth c x 3 (QM below args s x (fun v : Int32 => some (.int v)) rmX13_meant.cells rmX13_meant.slots) 0 0 (fX13_meant_L24 q0 M) 24 [] [] [] [.int q0] M := by
    intro q0 M
    unfold fX13_meant_L24
    exact e_int (pc := 24) E dX13_meant_24
  have hL23 : ∀ (q0 : Int32) (q1 : Int32) (M : Mem), RT p l e rmX13_meant s m args below meth c x 3 (QM below args s x (fun v : Int32 => some (.int v)) rmX13_meant.cells rmX13_meant.slots) 0 0 (fX13_meant_L23 q0 q1 M) 23 [] [] [] [.int q1, .int q0] M := by
    intro q0 q1 M
    unfold fX13_meant_L23
    refine r_isub (pc := 23) E dX13_meant_23 ?_
    exact r_sub [] [] [] rfl rfl rfl (hL24 (q0 - q1) _)
  show RT p l e rmX13_meant s m args below meth c x 3 (QM below args s x (fun v : Int32 => some (.int v)) rmX13_meant.cells rmX13_meant.slots) 0 0 (fX13_meant a0 a2 M) 0 [(2, a2)] [(0, a0)] [] [] M
  unfold fX13_meant
  refine r_lload_n (pc := 0) E dX13_meant_0 rfl 0 rfl ?_
  refine r_ldc2 (pc := 1) E wk_RX13_402 dX13_meant_1 ?_
  refine r_lcmp (pc := 4) E dX13_meant_4 ?_
  refine r_if_le (pc := 5) (tgt := 12) E dX13_meant_5 (by decide) ?_ ?_
  · refine r_lload_n (pc := 12) E dX13_meant_12 rfl 0 rfl ?_
    refine r_l2i (pc := 13) E dX13_meant_13 ?_
    refine r_iload_n (pc := 14) E dX13_meant_14 rfl 0 rfl ?_
    refine r_if_le (pc := 15) (tgt := 22) E dX13_meant_15 (by decide) ?_ ?_
    · refine r_iconst (pc := 22) (v := 0) E dX13_meant_22 (by decide) ?_
      exact r_sub [] [] [] rfl rfl rfl (hL23 a0.toInt32 0 _)
    · refine r_iconst (pc := 18) (v := 1) E dX13_meant_18 (by decide) ?_
      refine r_goto (pc := 19) (tgt := 23) E dX13_meant_19 (by decide) ?_
      exact r_sub [] [] [] rfl rfl rfl (hL23 a0.toInt32 1 _)
  · refine r_iconst (pc := 8) (v := 4) E dX13_meant_8 (by decide) ?_
    refine r_goto (pc := 9) (tgt := 24) E dX13_meant_9 (by decide) ?_
    exact r_sub [] [] [] rfl rfl rfl (hL24 4 _)
def fX13_offsetOf_L65 (p1 : Option Nat) (p6 : Int64) (M : Mem) : Option (Int64 × Mem) :=
  bo (wJ M p1 0 p6) fun M69 =>
  some (p6, M69)
def fX13_offsetOf_L54 (p1 : Option Nat) (p5 : Int32) (p6 : Int64) (M : Mem) : Option (Int64 × Mem) :=
  if p5 ≤ 0 then (
    fX13_offsetOf_L65 p1 p6 M
  ) else (
    bo (aJ M p1 0) fun v63 =>
    bo (wJ M p1 1 v63) fun M64 =>
    fX13_offsetOf_L65 p1 p6 M64
  )
def fX13_offsetOf_L40 (p1 : Option Nat) (p5 : Int32) (q0 : Int64) (M : Mem) : Option (Int64 × Mem) :=
  bn (q0) fun v40 =>
  if p5 ≤ 1 then (
    fX13_offsetOf_L54 p1 p5 v40 M
  ) else (
    bo (aJ M p1 1) fun v52 =>
    bo (wJ M p1 2 v52) fun M53 =>
    fX13_offsetOf_L54 p1 p5 v40 M53
  )
def fX13_offsetOf (a0 : Option Nat) (a1 : Option Nat) (a2 : Int64) (a4 : Int32) (M : Mem) : Option (Int64 × Mem) :=
  bd (fX13_meant a2 a4 M) fun v3 M3 =>
  bn (v3) fun v6 =>
  if v6 = 4 then (
    fX13_offsetOf_L40 a1 v6 (a2 - 3) M3
  ) else (
    if v6 = 3 then (
      bo (aJ M3 a1 0) fun v30 =>
      fX13_offsetOf_L40 a1 v6 (v30 - 1) M3
    ) else (
      bo (aJ M3 a1 v6) fun v39 =>
      fX13_offsetOf_L40 a1 v6 v39 M3
    )
  )
def rmX13_offsetOf : Room := { frames := 1, cells := 0, slots := 0, locals := 22 }
set_option maxRecDepth 100000 in
set_option maxHeartbeats 4000000 in
theorem ctX13_offsetOf (l : Launch) (x : Cx) (a0 : Option Nat) (a1 : Option Nat) (a2 : Int64) (a4 : Int32) (M : Mem) (v : Int64) (N : Mem) (h : fX13_offsetOf a0 a1 a2 a4 M = some (v, N)) : CT l yX13_offsetOf cX13_offsetOf 8 (some (FieldType.long)) rmX13_offsetOf x [rv x a0, rv x a1, .long a2, .int a4] M (some (.long v)) N := by
  refine ct_mk (enc := fun v : Int64 => some (.long v)) (li := [(4, a4)]) (ll := [(2, a2)]) (lr := [(0, a0), (1, a1)]) (by decide +kernel) (by simp [lg_sl, rv_cat, cat_int, cat_long]) (by simp [flat, lv_args, rv_cat, cat_int, cat_long]) h ?_
  intro p e s m args below meth c E
  have hL65 : ∀ (p1 : Option Nat) (p6 : Int64) (M : Mem), RT p l e rmX13_offsetOf s m args below meth c x 8 (QM below args s x (fun v : Int64 => some (.long v)) rmX13_offsetOf.cells rmX13_offsetOf.slots) 0 0 (fX13_offsetOf_L65 p1 p6 M) 65 [] [(6, p6)] [(1, p1)] [] M := by
    intro p1 p6 M
    unfold fX13_offsetOf_L65
    refine r_aload_n (pc := 65) E dX13_offsetOf_65 rfl 0 rfl ?_
    refine r_iconst (pc := 66) (v := 0) E dX13_offsetOf_66 (by decide) ?_
    refine r_lload (pc := 67) E dX13_offsetOf_67 0 rfl ?_
    refine r_lastore (pc := 69) E dX13_offsetOf_69 (fun M69 => ?_)
    refine r_lload (pc := 70) E dX13_offsetOf_70 0 rfl ?_
    exact e_long (pc := 72) E dX13_offsetOf_72
  have hL54 : ∀ (p1 : Option Nat) (p5 : Int32) (p6 : Int64) (M : Mem), RT p l e rmX13_offsetOf s m args below meth c x 8 (QM below args s x (fun v : Int64 => some (.long v)) rmX13_offsetOf.cells rmX13_offsetOf.slots) 0 0 (fX13_offsetOf_L54 p1 p5 p6 M) 54 [(5, p5)] [(6, p6)] [(1, p1)] [] M := by
    intro p1 p5 p6 M
    unfold fX13_offsetOf_L54
    refine r_iload (pc := 54) E dX13_offsetOf_54 0 rfl ?_
    refine r_if_le (pc := 56) (tgt := 65) E dX13_offsetOf_56 (by decide) ?_ ?_
    · exact r_sub [] [0] [0] rfl rfl rfl (hL65 p1 p6 _)
    · refine r_aload_n (pc := 59) E dX13_offsetOf_59 rfl 0 rfl ?_
      refine r_iconst (pc := 60) (v := 1) E dX13_offsetOf_60 (by decide) ?_
      refine r_aload_n (pc := 61) E dX13_offsetOf_61 rfl 0 rfl ?_
      refine r_iconst (pc := 62) (v := 0) E dX13_offsetOf_62 (by decide) ?_
      refine r_laload (pc := 63) E dX13_offsetOf_63 (fun v63 => ?_)
      refine r_lastore (pc := 64) E dX13_offsetOf_64 (fun M64 => ?_)
      exact r_sub [] [0] [0] rfl rfl rfl (hL65 p1 p6 _)
  have hL40 : ∀ (p1 : Option Nat) (p5 : Int32) (q0 : Int64) (M : Mem), RT p l e rmX13_offsetOf s m args below meth c x 8 (QM below args s x (fun v : Int64 => some (.long v)) rmX13_offsetOf.cells rmX13_offsetOf.slots) 0 0 (fX13_offsetOf_L40 p1 p5 q0 M) 40 [(5, p5)] [] [(1, p1)] [.long q0] M := by
    intro p1 p5 q0 M
    unfold fX13_offsetOf_L40
    refine r_lstore (pc := 40) (lf := fun v40 => [(5, p5)]) (lg := fun v40 => [(6, v40)]) (lk := fun v40 => [(1, p1)]) E dX13_offsetOf_40 (by decide) (fun _ => rfl) (fun _ => rfl) (fun _ => rfl) (fun v40 => ?_)
    refine r_iload (pc := 42) E dX13_offsetOf_42 0 rfl ?_
    refine r_iconst (pc := 44) (v := 1) E dX13_offsetOf_44 (by decide) ?_
    refine r_icmp_le (pc := 45) (tgt := 54) E dX13_offsetOf_45 (by decide) ?_ ?_
    · exact r_sub [0] [0] [0] rfl rfl rfl (hL54 p1 p5 v40 _)
    · refine r_aload_n (pc := 48) E dX13_offsetOf_48 rfl 0 rfl ?_
      refine r_iconst (pc := 49) (v := 2) E dX13_offsetOf_49 (by decide) ?_
      refine r_aload_n (pc := 50) E dX13_offsetOf_50 rfl 0 rfl ?_
      refine r_iconst (pc := 51) (v := 1) E dX13_offsetOf_51 (by decide) ?_
      refine r_laload (pc := 52) E dX13_offsetOf_52 (fun v52 => ?_)
      refine r_lastore (pc := 53) E dX13_offsetOf_53 (fun M53 => ?_)
      exact r_sub [0] [0] [0] rfl rfl rfl (hL54 p1 p5 v40 _)
  show RT p l e rmX13_offsetOf s m args below meth c x 8 (QM below args s x (fun v : Int64 => some (.long v)) rmX13_offsetOf.cells rmX13_offsetOf.slots) 0 0 (fX13_offsetOf a0 a1 a2 a4 M) 0 [(4, a4)] [(2, a2)] [(0, a0), (1, a1)] [] M
  unfold fX13_offsetOf
  refine r_lload_n (pc := 0) E dX13_offsetOf_0 rfl 0 rfl ?_
  refine r_iload (pc := 1) E dX13_offsetOf_1 0 rfl ?_
  refine r_kSi (pc := 3) (As := [.long a2, .int a4]) (rest := []) E wc_X13_meant wi_RX13 hd_X13_meant wl_RX13_404 wt_X13_meant dX13_offsetOf_3 (by decide) (Nat.le_of_ble_eq_true rfl) ⟨rfl, rfl⟩ (ctX13_meant l x _ _ _) rfl (fun v3 M3 => ?_)
  refine r_istore (pc := 6) (lf := fun v6 => [(5, v6), (4, a4)]) (lg := fun v6 => [(2, a2)]) (lk := fun v6 => [(0, a0), (1, a1)]) E dX13_offsetOf_6 (by decide) (fun _ => rfl) (fun _ => rfl) (fun _ => rfl) (fun v6 => ?_)
  refine r_iload (pc := 8) E dX13_offsetOf_8 0 rfl ?_
  refine r_iconst (pc := 10) (v := 4) E dX13_offsetOf_10 (by decide) ?_
  refine r_icmp_ne (pc := 11) (tgt := 22) E dX13_offsetOf_11 (by decide) ?_ ?_
  · refine r_iload (pc := 22) E dX13_offsetOf_22 0 rfl ?_
    refine r_iconst (pc := 24) (v := 3) E dX13_offsetOf_24 (by decide) ?_
    refine r_icmp_ne (pc := 25) (tgt := 36) E dX13_offsetOf_25 (by decide) ?_ ?_
    · refine r_aload_n (pc := 36) E dX13_offsetOf_36 rfl 1 rfl ?_
      refine r_iload (pc := 37) E dX13_offsetOf_37 0 rfl ?_
      refine r_laload (pc := 39) E dX13_offsetOf_39 (fun v39 => ?_)
      exact r_sub [0] [] [1] rfl rfl rfl (hL40 a1 v6 v39 _)
    · refine r_aload_n (pc := 28) E dX13_offsetOf_28 rfl 1 rfl ?_
      refine r_iconst (pc := 29) (v := 0) E dX13_offsetOf_29 (by decide) ?_
      refine r_laload (pc := 30) E dX13_offsetOf_30 (fun v30 => ?_)
      refine r_lconst (pc := 31) (v := 1) E dX13_offsetOf_31 (by decide) ?_
      refine r_lsub (pc := 32) E dX13_offsetOf_32 ?_
      refine r_goto (pc := 33) (tgt := 40) E dX13_offsetOf_33 (by decide) ?_
      exact r_sub [0] [] [1] rfl rfl rfl (hL40 a1 v6 (v30 - 1) _)
  · refine r_lload_n (pc := 14) E dX13_offsetOf_14 rfl 0 rfl ?_
    refine r_ldc2 (pc := 15) E wk_RX13_402 dX13_offsetOf_15 ?_
    refine r_lsub (pc := 18) E dX13_offsetOf_18 ?_
    refine r_goto (pc := 19) (tgt := 40) E dX13_offsetOf_19 (by decide) ?_
    exact r_sub [0] [] [1] rfl rfl rfl (hL40 a1 v6 (a2 - 3) _)
def fX13_sequence_L170 (p0 : Option Nat) (p5 : Int32) (M : Mem) : Option (Unit × Mem) :=
  bo (chk M p0 13) fun _ => bd (fX13_fails p0 18 p5 M) fun v175 M175 =>
  some ((), M175)
def fX13_sequence_L465 (p0 : Option Nat) (M : Mem) : Option (Unit × Mem) :=
  bo (gR M p0 13 45) fun v466 =>
  bo (aI M v466 15 4) fun v471 =>
  bo (wI M v466 4 (v471 + 1)) fun M474 =>
  some ((), M474)
def fX13_sequence_L385 (k278 : Option Nat × Int32 × Int32 × Int64 × Int64 × Int32 → Mem → Option (Unit × Mem)) (p0 : Option Nat) (p1 : Int32) (p2 : Int32) (p3 : Int64) (p7 : Int64) (p14 : Int32) (q0 : Option Nat) (q1 : Int32) (q2 : Int32) (M : Mem) : Option (Unit × Mem) :=
  bo (wB M q0 q1 q2) fun M385 =>
  bo (gI M385 p0 13 35) fun v388 =>
  bo (pI M385 p0 13 35 (v388 + 1)) fun M393 =>
  bn (p14 + 1) fun v396 =>
  k278 ((p0, p1, p2, p3, p7, v396)) M393
def fX13_sequence_B278 (k278 : Option Nat × Int32 × Int32 × Int64 × Int64 × Int32 → Mem → Option (Unit × Mem)) (p0 : Option Nat) (p1 : Int32) (p2 : Int32) (p3 : Int64) (p7 : Int64) (p14 : Int32) (M : Mem) : Option (Unit × Mem) :=
  if p2 ≤ p14 then (
    bo (gI M p0 13 46) fun v403 =>
    if 2000 ≤ v403 then (
      fX13_sequence_L465 p0 M
    ) else (
      bo (gR M p0 13 47) fun v413 =>
      bo (gI M p0 13 46) fun v417 =>
      bo (wI M v413 v417 p1) fun M421 =>
      bo (gR M421 p0 13 48) fun v423 =>
      bo (gI M421 p0 13 46) fun v427 =>
      bo (wI M421 v423 v427 p2) fun M431 =>
      bo (gR M431 p0 13 49) fun v433 =>
      bo (gI M431 p0 13 46) fun v437 =>
      bo (wI M431 v433 v437 p3.toInt32) fun M442 =>
      bo (gR M442 p0 13 50) fun v444 =>
      bo (gI M442 p0 13 46) fun v448 =>
      bo (wI M442 v444 v448 p7.toInt32) fun M454 =>
      bo (gI M454 p0 13 46) fun v457 =>
      bo (pI M454 p0 13 46 (v457 + 1)) fun M462 =>
      fX13_sequence_L465 p0 M462
    )
  ) else (
    bo (gI M p0 13 33) fun v285 =>
    bo (gI M p0 13 39) fun v289 =>
    bo (gI M p0 13 35) fun v294 =>
    bn ((((v285 - v289) + v294).toInt64) - p7) fun v302 =>
    bn (v302.toInt32) fun v307 =>
    bo (gR M p0 13 34) fun v310 =>
    bo (gI M p0 13 35) fun v314 =>
    if 0 ≤ (lg_cmp v302 0) then (
      bo (gI M p0 13 33) fun v342 =>
      bo (gI M p0 13 39) fun v346 =>
      if (v342 - v346) ≤ v307 then (
        bo (gR M p0 13 34) fun v369 =>
        bo (gI M p0 13 33) fun v375 =>
        bo (gI M p0 13 39) fun v379 =>
        bo (aI M v369 14 (v307 - (v375 - v379))) fun v384 =>
        fX13_sequence_L385 k278 p0 p1 p2 p3 p7 p14 v310 v314 v384 M
      ) else (
        bo (gR M p0 13 32) fun v354 =>
        bo (gI M p0 13 39) fun v358 =>
        bo (aI M v354 14 (v358 + v307)) fun v364 =>
        fX13_sequence_L385 k278 p0 p1 p2 p3 p7 p14 v310 v314 v364 M
      )
    ) else (
      bo (gR M p0 13 25) fun v325 =>
      bo (gI M p0 13 26) fun v329 =>
      bo (aI M v325 14 (v329 + v307)) fun v335 =>
      fX13_sequence_L385 k278 p0 p1 p2 p3 p7 p14 v310 v314 v335 M
    )
  )
def fX13_sequence_L278 (p0 : Option Nat) (p1 : Int32) (p2 : Int32) (p3 : Int64) (p7 : Int64) (p14 : Int32) (M : Mem) : Option (Unit × Mem) :=
  lp (fun k278 (a : Option Nat × Int32 × Int32 × Int64 × Int64 × Int32) M => fX13_sequence_B278 k278 a.1 a.2.1 a.2.2.1 a.2.2.2.1 a.2.2.2.2.1 a.2.2.2.2.2 M) FU ((p0, p1, p2, p3, p7, p14)) M
def fX13_sequence_B225 (k225 : Option Nat × Int32 × Int32 × Int64 × Int64 × Int32 → Mem → Option (Unit × Mem)) (p0 : Option Nat) (p1 : Int32) (p2 : Int32) (p3 : Int64) (p7 : Int64) (p14 : Int32) (M : Mem) : Option (Unit × Mem) :=
  if p1 ≤ p14 then (
    bn (0) fun v276 =>
    fX13_sequence_L278 p0 p1 p2 p3 p7 v276 M
  ) else (
    bo (gR M p0 13 34) fun v232 =>
    bo (gI M p0 13 35) fun v236 =>
    bo (gR M p0 13 36) fun v240 =>
    bo (gI M p0 13 38) fun v244 =>
    bo (aI M v240 14 v244) fun v247 =>
    bo (wB M v232 v236 v247) fun M248 =>
    bo (gI M248 p0 13 35) fun v251 =>
    bo (pI M248 p0 13 35 (v251 + 1)) fun M256 =>
    bo (gI M256 p0 13 38) fun v261 =>
    bo (pI M256 p0 13 38 (v261 + 1)) fun M266 =>
    bn (p14 + 1) fun v269 =>
    k225 ((p0, p1, p2, p3, p7, v269)) M266
  )
def fX13_sequence_L225 (p0 : Option Nat) (p1 : Int32) (p2 : Int32) (p3 : Int64) (p7 : Int64) (p14 : Int32) (M : Mem) : Option (Unit × Mem) :=
  lp (fun k225 (a : Option Nat × Int32 × Int32 × Int64 × Int64 × Int32) M => fX13_sequence_B225 k225 a.1 a.2.1 a.2.2.1 a.2.2.2.1 a.2.2.2.2.1 a.2.2.2.2.2 M) FU ((p0, p1, p2, p3, p7, p14)) M
def fX13_sequence_L180 (p0 : Option Nat) (p1 : Int32) (p2 : Int32) (p3 : Int64) (p5 : Int32) (M : Mem) : Option (Unit × Mem) :=
  bo (gI M p0 13 35) fun v181 =>
  bo (gI M p0 13 42) fun v192 =>
  if (lg_cmp ((v181.toInt64 + p1.toInt64) + p2.toInt64) v192.toInt64) ≤ 0 then (
    bo (gR M p0 13 44) fun v212 =>
    bo (chk M p0 13) fun _ => bd (fX13_offsetOf p0 v212 p3 p1 M) fun v217 M217 =>
    bn (v217) fun v220 =>
    bn (0) fun v223 =>
    fX13_sequence_L225 p0 p1 p2 p3 v220 v223 M217
  ) else (
    bo (chk M p0 13) fun _ => bd (fX13_fails p0 20 p5 M) fun v205 M205 =>
    some ((), M205)
  )
def fX13_sequence_L155 (p0 : Option Nat) (p1 : Int32) (p2 : Int32) (p3 : Int64) (p5 : Int32) (p9 : Int64) (p13 : Int32) (M : Mem) : Option (Unit × Mem) :=
  if p13 = 0 then (
    fX13_sequence_L180 p0 p1 p2 p3 p5 M
  ) else (
    bo (gJ M p0 13 41) fun v163 =>
    if (lg_cmp p9 v163) ≤ 0 then (
      fX13_sequence_L180 p0 p1 p2 p3 p5 M
    ) else (
      fX13_sequence_L170 p0 p5 M
    )
  )
def fX13_sequence_L120 (p0 : Option Nat) (p1 : Int32) (p2 : Int32) (p3 : Int64) (p5 : Int32) (p7 : Int64) (p9 : Int64) (p11 : Int64) (q0 : Int32) (M : Mem) : Option (Unit × Mem) :=
  bn (q0) fun v120 =>
  if (lg_cmp p7 0) = 0 then (
    fX13_sequence_L170 p0 p5 M
  ) else (
    if 0 < (lg_cmp p7 (p9 + p11)) then (
      fX13_sequence_L170 p0 p5 M
    ) else (
      if v120 = 0 then (
        bo (gJ M p0 13 41) fun v148 =>
        if 0 < (lg_cmp p7 v148) then (
          fX13_sequence_L170 p0 p5 M
        ) else (
          fX13_sequence_L155 p0 p1 p2 p3 p5 p9 v120 M
        )
      ) else (
        fX13_sequence_L155 p0 p1 p2 p3 p5 p9 v120 M
      )
    )
  )
def fX13_sequence_L105 (p0 : Option Nat) (p1 : Int32) (p2 : Int32) (p3 : Int64) (p5 : Int32) (p7 : Int64) (p9 : Int64) (q0 : Int64) (M : Mem) : Option (Unit × Mem) :=
  bn (q0) fun v105 =>
  if (lg_cmp p7 p9) ≤ 0 then (
    fX13_sequence_L120 p0 p1 p2 p3 p5 p7 p9 v105 0 M
  ) else (
    fX13_sequence_L120 p0 p1 p2 p3 p5 p7 p9 v105 1 M
  )
def fX13_sequence_L68 (p0 : Option Nat) (p1 : Int32) (p2 : Int32) (p3 : Int64) (p5 : Int32) (q0 : Int64) (M : Mem) : Option (Unit × Mem) :=
  bn (q0) fun v68 =>
  bo (gI M p0 13 33) fun v71 =>
  bo (gI M p0 13 39) fun v75 =>
  bo (gI M p0 13 35) fun v80 =>
  bn ((((v71 - v75) + v80) + p1).toInt64) fun v87 =>
  bo (gI M p0 13 40) fun v90 =>
  if v90 = 0 then (
    fX13_sequence_L105 p0 p1 p2 p3 p5 v68 v87 0 M
  ) else (
    bo (gI M p0 13 26) fun v97 =>
    fX13_sequence_L105 p0 p1 p2 p3 p5 v68 v87 v97.toInt64 M
  )
def fX13_sequence (a0 : Option Nat) (a1 : Int32) (a2 : Int32) (a3 : Int64) (a5 : Int32) (M : Mem) : Option (Unit × Mem) :=
  bo (gI M a0 13 37) fun v2 =>
  bo (gI M a0 13 38) fun v6 =>
  if a1 ≤ (v2 - v6) then (
    bd (fX13_meant a3 a1 M) fun v25 M25 =>
    bn (v25) fun v28 =>
    if v28 = 4 then (
      fX13_sequence_L68 a0 a1 a2 a3 a5 (a3 - 3) M25
    ) else (
      if v28 = 3 then (
        bo (gR M25 a0 13 44) fun v51 =>
        bo (aJ M25 v51 0) fun v55 =>
        fX13_sequence_L68 a0 a1 a2 a3 a5 (v55 - 1) M25
      ) else (
        bo (gR M25 a0 13 44) fun v62 =>
        bo (aJ M25 v62 v28) fun v67 =>
        fX13_sequence_L68 a0 a1 a2 a3 a5 v67 M25
      )
    )
  ) else (
    bo (chk M a0 13) fun _ => bd (fX13_fails a0 19 a5 M) fun v18 M18 =>
    some ((), M18)
  )
def rmX13_sequence : Room := { frames := 2, cells := 0, slots := 0, locals := 49 }
set_option maxRecDepth 100000 in
set_option maxHeartbeats 4000000 in
theorem ctX13_sequence (l : Launch) (x : Cx) (a0 : Option Nat) (a1 : Int32) (a2 : Int32) (a3 : Int64) (a5 : Int32) (M : Mem) (v : Unit) (N : Mem) (h : fX13_sequence a0 a1 a2 a3 a5 M = some (v, N)) : CT l yX13_sequence cX13_sequence 18 (none) rmX13_sequence x [rv x a0, .int a1, .int a2, .long a3, .int a5] M none N := by
  refine ct_mk (enc := fun _ : Unit => none) (li := [(1, a1), (2, a2), (5, a5)]) (ll := [(3, a3)]) (lr := [(0, a0)]) (by decide +kernel) (by simp [lg_sl, rv_cat, cat_int, cat_long]) (by simp [flat, lv_args, rv_cat, cat_int, cat_long]) h ?_
  intro p e s m args below meth c E
  have hL170 : ∀ (p0 : Option Nat) (p5 : Int32) (M : Mem), RT p l e rmX13_sequence s m args below meth c x 18 (QM below args s x (fun _ : Unit => none) rmX13_sequence.cells rmX13_sequence.slots) 0 0 (fX13_sequence_L170 p0 p5 M) 170 [(5, p5)] [] [(0, p0)] [] M := by
    intro p0 p5 M
    unfold fX13_sequence_L170
    refine r_aload_n (pc := 170) E dX13_sequence_170 rfl 0 rfl ?_
    refine r_bipush (pc := 171) (v := 18) E dX13_sequence_171 (by decide) ?_
    refine r_iload (pc := 173) E dX13_sequence_173 0 rfl ?_
    refine r_kVi (pc := 175) (As := [.int 18, .int p5]) (rest := []) E wc_X13_fails wi_RX13 hd_X13_fails (ci := 13) rfl wl_RX13_263 wn_X13_fails ws_X13_fails dX13_sequence_175 (by decide) (Nat.le_of_ble_eq_true rfl) ⟨rfl, rfl⟩ (ctX13_fails l x _ _ _ _) rfl (fun v175 M175 => ?_)
    refine r_pop (pc := 178) E dX13_sequence_178 rfl ?_
    exact e_void (pc := 179) E dX13_sequence_179
  have hL465 : ∀ (p0 : Option Nat) (M : Mem), RT p l e rmX13_sequence s m args below meth c x 18 (QM below args s x (fun _ : Unit => none) rmX13_sequence.cells rmX13_sequence.slots) 0 0 (fX13_sequence_L465 p0 M) 465 [] [] [(0, p0)] [] M := by
    intro p0 M
    unfold fX13_sequence_L465
    refine r_aload_n (pc := 465) E dX13_sequence_465 rfl 0 rfl ?_
    refine r_getA (pc := 466) E fd_13_45 wf_RX13_89 dX13_sequence_466 (fun v466 => ?_)
    refine r_iconst (pc := 469) (v := 4) E dX13_sequence_469 (by decide) ?_
    refine r_dup2 (pc := 470) E dX13_sequence_470 rfl (rv_cat _ _) ?_
    refine r_iaload (pc := 471) E dX13_sequence_471 (fun v471 => ?_)
    refine r_iconst (pc := 472) (v := 1) E dX13_sequence_472 (by decide) ?_
    refine r_iadd (pc := 473) E dX13_sequence_473 ?_
    refine r_iastore (pc := 474) E dX13_sequence_474 (fun M474 => ?_)
    exact e_void (pc := 475) E dX13_sequence_475
  have hL385 : ∀ (k278 : Option Nat × Int32 × Int32 × Int64 × Int64 × Int32 → Mem → Option (Unit × Mem)) (hk278 : ∀ a M, RT p l e rmX13_sequence s m args below meth c x 18 (QM below args s x (fun _ : Unit => none) rmX13_sequence.cells rmX13_sequence.slots) 0 0 (k278 a M) 278 [(1, a.2.1), (2, a.2.2.1), (14, a.2.2.2.2.2)] [(3, a.2.2.2.1), (7, a.2.2.2.2.1)] [(0, a.1)] [] M) (p0 : Option Nat) (p1 : Int32) (p2 : Int32) (p3 : Int64) (p7 : Int64) (p14 : Int32) (q0 : Option Nat) (q1 : Int32) (q2 : Int32) (M : Mem), RT p l e rmX13_sequence s m args below meth c x 18 (QM below args s x (fun _ : Unit => none) rmX13_sequence.cells rmX13_sequence.slots) 0 0 (fX13_sequence_L385 k278 p0 p1 p2 p3 p7 p14 q0 q1 q2 M) 385 [(1, p1), (2, p2), (14, p14)] [(3, p3), (7, p7)] [(0, p0)] [.int q2, .int q1, rv x q0] M := by
    intro k278 hk278 p0 p1 p2 p3 p7 p14 q0 q1 q2 M
    unfold fX13_sequence_L385
    refine r_bastore (pc := 385) E dX13_sequence_385 (fun M385 => ?_)
    refine r_aload_n (pc := 386) E dX13_sequence_386 rfl 0 rfl ?_
    refine r_dup (pc := 387) E dX13_sequence_387 (rv_cat _ _) ?_
    refine r_getI (pc := 388) E fd_13_35 wf_RX13_344 dX13_sequence_388 (fun v388 => ?_)
    refine r_iconst (pc := 391) (v := 1) E dX13_sequence_391 (by decide) ?_
    refine r_iadd (pc := 392) E dX13_sequence_392 ?_
    refine r_putI (pc := 393) E fd_13_35 wf_RX13_344 dX13_sequence_393 (Or.inl rfl) (fun M393 => ?_)
    refine r_iinc (pc := 396) (w := 1) (lf := fun v396 => [(14, v396), (1, p1), (2, p2)]) (ll' := [(3, p3), (7, p7)]) (lr' := [(0, p0)]) E dX13_sequence_396 2 rfl (by decide) (by decide) (fun _ => rfl) rfl rfl (fun v396 => ?_)
    refine r_goto (pc := 399) (tgt := 278) E dX13_sequence_399 (by decide) ?_
    exact r_sub [1, 2, 0] [0, 1] [0] rfl rfl rfl (hk278 ((p0, p1, p2, p3, p7, v396)) _)
  have hL278 : ∀ (p0 : Option Nat) (p1 : Int32) (p2 : Int32) (p3 : Int64) (p7 : Int64) (p14 : Int32) (M : Mem), RT p l e rmX13_sequence s m args below meth c x 18 (QM below args s x (fun _ : Unit => none) rmX13_sequence.cells rmX13_sequence.slots) 0 0 (fX13_sequence_L278 p0 p1 p2 p3 p7 p14 M) 278 [(1, p1), (2, p2), (14, p14)] [(3, p3), (7, p7)] [(0, p0)] [] M := by
    intro p0 p1 p2 p3 p7 p14 M
    refine r_lp (fi := fun a : Option Nat × Int32 × Int32 × Int64 × Int64 × Int32 => [(1, a.2.1), (2, a.2.2.1), (14, a.2.2.2.2.2)]) (fl := fun a : Option Nat × Int32 × Int32 × Int64 × Int64 × Int32 => [(3, a.2.2.2.1), (7, a.2.2.2.2.1)]) (fr := fun a : Option Nat × Int32 × Int32 × Int64 × Int64 × Int32 => [(0, a.1)]) (fs := fun a : Option Nat × Int32 × Int32 × Int64 × Int64 × Int32 => []) ?_ FU ((p0, p1, p2, p3, p7, p14)) M
    intro k278 hk278 a M
    obtain ⟨p0, p1, p2, p3, p7, p14⟩ := a
    show RT p l e rmX13_sequence s m args below meth c x 18 (QM below args s x (fun _ : Unit => none) rmX13_sequence.cells rmX13_sequence.slots) 0 0 (fX13_sequence_B278 k278 p0 p1 p2 p3 p7 p14 M) 278 [(1, p1), (2, p2), (14, p14)] [(3, p3), (7, p7)] [(0, p0)] [] M
    unfold fX13_sequence_B278
    refine r_iload (pc := 278) E dX13_sequence_278 2 rfl ?_
    refine r_iload_n (pc := 280) E dX13_sequence_280 rfl 1 rfl ?_
    refine r_icmp_ge (pc := 281) (tgt := 402) E dX13_sequence_281 (by decide) ?_ ?_
    · refine r_aload_n (pc := 402) E dX13_sequence_402 rfl 0 rfl ?_
      refine r_getI (pc := 403) E fd_13_46 wf_RX13_289 dX13_sequence_403 (fun v403 => ?_)
      refine r_sipush (pc := 406) (v := 2000) E dX13_sequence_406 (by decide) ?_
      refine r_icmp_ge (pc := 409) (tgt := 465) E dX13_sequence_409 (by decide) ?_ ?_
      · exact r_sub [] [] [0] rfl rfl rfl (hL465 p0 _)
      · refine r_aload_n (pc := 412) E dX13_sequence_412 rfl 0 rfl ?_
        refine r_getA (pc := 413) E fd_13_47 wf_RX13_92 dX13_sequence_413 (fun v413 => ?_)
        refine r_aload_n (pc := 416) E dX13_sequence_416 rfl 0 rfl ?_
        refine r_getI (pc := 417) E fd_13_46 wf_RX13_289 dX13_sequence_417 (fun v417 => ?_)
        refine r_iload_n (pc := 420) E dX13_sequence_420 rfl 0 rfl ?_
        refine r_iastore (pc := 421) E dX13_sequence_421 (fun M421 => ?_)
        refine r_aload_n (pc := 422) E dX13_sequence_422 rfl 0 rfl ?_
        refine r_getA (pc := 423) E fd_13_48 wf_RX13_95 dX13_sequence_423 (fun v423 => ?_)
        refine r_aload_n (pc := 426) E dX13_sequence_426 rfl 0 rfl ?_
        refine r_getI (pc := 427) E fd_13_46 wf_RX13_289 dX13_sequence_427 (fun v427 => ?_)
        refine r_iload_n (pc := 430) E dX13_sequence_430 rfl 1 rfl ?_
        refine r_iastore (pc := 431) E dX13_sequence_431 (fun M431 => ?_)
        refine r_aload_n (pc := 432) E dX13_sequence_432 rfl 0 rfl ?_
        refine r_getA (pc := 433) E fd_13_49 wf_RX13_98 dX13_sequence_433 (fun v433 => ?_)
        refine r_aload_n (pc := 436) E dX13_sequence_436 rfl 0 rfl ?_
        refine r_getI (pc := 437) E fd_13_46 wf_RX13_289 dX13_sequence_437 (fun v437 => ?_)
        refine r_lload_n (pc := 440) E dX13_sequence_440 rfl 0 rfl ?_
        refine r_l2i (pc := 441) E dX13_sequence_441 ?_
        refine r_iastore (pc := 442) E dX13_sequence_442 (fun M442 => ?_)
        refine r_aload_n (pc := 443) E dX13_sequence_443 rfl 0 rfl ?_
        refine r_getA (pc := 444) E fd_13_50 wf_RX13_101 dX13_sequence_444 (fun v444 => ?_)
        refine r_aload_n (pc := 447) E dX13_sequence_447 rfl 0 rfl ?_
        refine r_getI (pc := 448) E fd_13_46 wf_RX13_289 dX13_sequence_448 (fun v448 => ?_)
        refine r_lload (pc := 451) E dX13_sequence_451 1 rfl ?_
        refine r_l2i (pc := 453) E dX13_sequence_453 ?_
        refine r_iastore (pc := 454) E dX13_sequence_454 (fun M454 => ?_)
        refine r_aload_n (pc := 455) E dX13_sequence_455 rfl 0 rfl ?_
        refine r_dup (pc := 456) E dX13_sequence_456 (rv_cat _ _) ?_
        refine r_getI (pc := 457) E fd_13_46 wf_RX13_289 dX13_sequence_457 (fun v457 => ?_)
        refine r_iconst (pc := 460) (v := 1) E dX13_sequence_460 (by decide) ?_
        refine r_iadd (pc := 461) E dX13_sequence_461 ?_
        refine r_putI (pc := 462) E fd_13_46 wf_RX13_289 dX13_sequence_462 (Or.inl rfl) (fun M462 => ?_)
        exact r_sub [] [] [0] rfl rfl rfl (hL465 p0 _)
    · refine r_aload_n (pc := 284) E dX13_sequence_284 rfl 0 rfl ?_
      refine r_getI (pc := 285) E fd_13_33 wf_RX13_286 dX13_sequence_285 (fun v285 => ?_)
      refine r_aload_n (pc := 288) E dX13_sequence_288 rfl 0 rfl ?_
      refine r_getI (pc := 289) E fd_13_39 wf_RX13_334 dX13_sequence_289 (fun v289 => ?_)
      refine r_isub (pc := 292) E dX13_sequence_292 ?_
      refine r_aload_n (pc := 293) E dX13_sequence_293 rfl 0 rfl ?_
      refine r_getI (pc := 294) E fd_13_35 wf_RX13_344 dX13_sequence_294 (fun v294 => ?_)
      refine r_iadd (pc := 297) E dX13_sequence_297 ?_
      refine r_i2l (pc := 298) E dX13_sequence_298 ?_
      refine r_lload (pc := 299) E dX13_sequence_299 1 rfl ?_
      refine r_lsub (pc := 301) E dX13_sequence_301 ?_
      refine r_lstore (pc := 302) (lf := fun v302 => [(1, p1), (2, p2), (14, p14)]) (lg := fun v302 => [(15, v302), (3, p3), (7, p7)]) (lk := fun v302 => [(0, p0)]) E dX13_sequence_302 (by decide) (fun _ => rfl) (fun _ => rfl) (fun _ => rfl) (fun v302 => ?_)
      refine r_lload (pc := 304) E dX13_sequence_304 0 rfl ?_
      refine r_l2i (pc := 306) E dX13_sequence_306 ?_
      refine r_istore (pc := 307) (lf := fun v307 => [(17, v307), (1, p1), (2, p2), (14, p14)]) (lg := fun v307 => [(15, v302), (3, p3), (7, p7)]) (lk := fun v307 => [(0, p0)]) E dX13_sequence_307 (by decide) (fun _ => rfl) (fun _ => rfl) (fun _ => rfl) (fun v307 => ?_)
      refine r_aload_n (pc := 309) E dX13_sequence_309 rfl 0 rfl ?_
      refine r_getA (pc := 310) E fd_13_34 wf_RX13_75 dX13_sequence_310 (fun v310 => ?_)
      refine r_aload_n (pc := 313) E dX13_sequence_313 rfl 0 rfl ?_
      refine r_getI (pc := 314) E fd_13_35 wf_RX13_344 dX13_sequence_314 (fun v314 => ?_)
      refine r_lload (pc := 317) E dX13_sequence_317 0 rfl ?_
      refine r_lconst (pc := 319) (v := 0) E dX13_sequence_319 (by decide) ?_
      refine r_lcmp (pc := 320) E dX13_sequence_320 ?_
      refine r_if_ge (pc := 321) (tgt := 339) E dX13_sequence_321 (by decide) ?_ ?_
      · refine r_iload (pc := 339) E dX13_sequence_339 0 rfl ?_
        refine r_aload_n (pc := 341) E dX13_sequence_341 rfl 0 rfl ?_
        refine r_getI (pc := 342) E fd_13_33 wf_RX13_286 dX13_sequence_342 (fun v342 => ?_)
        refine r_aload_n (pc := 345) E dX13_sequence_345 rfl 0 rfl ?_
        refine r_getI (pc := 346) E fd_13_39 wf_RX13_334 dX13_sequence_346 (fun v346 => ?_)
        refine r_isub (pc := 349) E dX13_sequence_349 ?_
        refine r_icmp_ge (pc := 350) (tgt := 368) E dX13_sequence_350 (by decide) ?_ ?_
        · refine r_aload_n (pc := 368) E dX13_sequence_368 rfl 0 rfl ?_
          refine r_getA (pc := 369) E fd_13_34 wf_RX13_75 dX13_sequence_369 (fun v369 => ?_)
          refine r_iload (pc := 372) E dX13_sequence_372 0 rfl ?_
          refine r_aload_n (pc := 374) E dX13_sequence_374 rfl 0 rfl ?_
          refine r_getI (pc := 375) E fd_13_33 wf_RX13_286 dX13_sequence_375 (fun v375 => ?_)
          refine r_aload_n (pc := 378) E dX13_sequence_378 rfl 0 rfl ?_
          refine r_getI (pc := 379) E fd_13_39 wf_RX13_334 dX13_sequence_379 (fun v379 => ?_)
          refine r_isub (pc := 382) E dX13_sequence_382 ?_
          refine r_isub (pc := 383) E dX13_sequence_383 ?_
          refine r_baload (pc := 384) E dX13_sequence_384 (fun v384 => ?_)
          exact r_sub [1, 2, 3] [1, 2] [0] rfl rfl rfl (hL385 k278 hk278 p0 p1 p2 p3 p7 p14 v310 v314 v384 _)
        · refine r_aload_n (pc := 353) E dX13_sequence_353 rfl 0 rfl ?_
          refine r_getA (pc := 354) E fd_13_32 wf_RX13_71 dX13_sequence_354 (fun v354 => ?_)
          refine r_aload_n (pc := 357) E dX13_sequence_357 rfl 0 rfl ?_
          refine r_getI (pc := 358) E fd_13_39 wf_RX13_334 dX13_sequence_358 (fun v358 => ?_)
          refine r_iload (pc := 361) E dX13_sequence_361 0 rfl ?_
          refine r_iadd (pc := 363) E dX13_sequence_363 ?_
          refine r_baload (pc := 364) E dX13_sequence_364 (fun v364 => ?_)
          refine r_goto (pc := 365) (tgt := 385) E dX13_sequence_365 (by decide) ?_
          exact r_sub [1, 2, 3] [1, 2] [0] rfl rfl rfl (hL385 k278 hk278 p0 p1 p2 p3 p7 p14 v310 v314 v364 _)
      · refine r_aload_n (pc := 324) E dX13_sequence_324 rfl 0 rfl ?_
        refine r_getA (pc := 325) E fd_13_25 wf_RX13_62 dX13_sequence_325 (fun v325 => ?_)
        refine r_aload_n (pc := 328) E dX13_sequence_328 rfl 0 rfl ?_
        refine r_getI (pc := 329) E fd_13_26 wf_RX13_273 dX13_sequence_329 (fun v329 => ?_)
        refine r_iload (pc := 332) E dX13_sequence_332 0 rfl ?_
        refine r_iadd (pc := 334) E dX13_sequence_334 ?_
        refine r_baload (pc := 335) E dX13_sequence_335 (fun v335 => ?_)
        refine r_goto (pc := 336) (tgt := 385) E dX13_sequence_336 (by decide) ?_
        exact r_sub [1, 2, 3] [1, 2] [0] rfl rfl rfl (hL385 k278 hk278 p0 p1 p2 p3 p7 p14 v310 v314 v335 _)
  have hL225 : ∀ (p0 : Option Nat) (p1 : Int32) (p2 : Int32) (p3 : Int64) (p7 : Int64) (p14 : Int32) (M : Mem), RT p l e rmX13_sequence s m args below meth c x 18 (QM below args s x (fun _ : Unit => none) rmX13_sequence.cells rmX13_sequence.slots) 0 0 (fX13_sequence_L225 p0 p1 p2 p3 p7 p14 M) 225 [(1, p1), (2, p2), (14, p14)] [(3, p3), (7, p7)] [(0, p0)] [] M := by
    intro p0 p1 p2 p3 p7 p14 M
    refine r_lp (fi := fun a : Option Nat × Int32 × Int32 × Int64 × Int64 × Int32 => [(1, a.2.1), (2, a.2.2.1), (14, a.2.2.2.2.2)]) (fl := fun a : Option Nat × Int32 × Int32 × Int64 × Int64 × Int32 => [(3, a.2.2.2.1), (7, a.2.2.2.2.1)]) (fr := fun a : Option Nat × Int32 × Int32 × Int64 × Int64 × Int32 => [(0, a.1)]) (fs := fun a : Option Nat × Int32 × Int32 × Int64 × Int64 × Int32 => []) ?_ FU ((p0, p1, p2, p3, p7, p14)) M
    intro k225 hk225 a M
    obtain ⟨p0, p1, p2, p3, p7, p14⟩ := a
    show RT p l e rmX13_sequence s m args below meth c x 18 (QM below args s x (fun _ : Unit => none) rmX13_sequence.cells rmX13_sequence.slots) 0 0 (fX13_sequence_B225 k225 p0 p1 p2 p3 p7 p14 M) 225 [(1, p1), (2, p2), (14, p14)] [(3, p3), (7, p7)] [(0, p0)] [] M
    unfold fX13_sequence_B225
    refine r_iload (pc := 225) E dX13_sequence_225 2 rfl ?_
    refine r_iload_n (pc := 227) E dX13_sequence_227 rfl 0 rfl ?_
    refine r_icmp_ge (pc := 228) (tgt := 275) E dX13_sequence_228 (by decide) ?_ ?_
    · refine r_iconst (pc := 275) (v := 0) E dX13_sequence_275 (by decide) ?_
      refine r_istore (pc := 276) (lf := fun v276 => [(14, v276), (1, p1), (2, p2)]) (lg := fun v276 => [(3, p3), (7, p7)]) (lk := fun v276 => [(0, p0)]) E dX13_sequence_276 (by decide) (fun _ => rfl) (fun _ => rfl) (fun _ => rfl) (fun v276 => ?_)
      exact r_sub [1, 2, 0] [0, 1] [0] rfl rfl rfl (hL278 p0 p1 p2 p3 p7 v276 _)
    · refine r_aload_n (pc := 231) E dX13_sequence_231 rfl 0 rfl ?_
      refine r_getA (pc := 232) E fd_13_34 wf_RX13_75 dX13_sequence_232 (fun v232 => ?_)
      refine r_aload_n (pc := 235) E dX13_sequence_235 rfl 0 rfl ?_
      refine r_getI (pc := 236) E fd_13_35 wf_RX13_344 dX13_sequence_236 (fun v236 => ?_)
      refine r_aload_n (pc := 239) E dX13_sequence_239 rfl 0 rfl ?_
      refine r_getA (pc := 240) E fd_13_36 wf_RX13_79 dX13_sequence_240 (fun v240 => ?_)
      refine r_aload_n (pc := 243) E dX13_sequence_243 rfl 0 rfl ?_
      refine r_getI (pc := 244) E fd_13_38 wf_RX13_376 dX13_sequence_244 (fun v244 => ?_)
      refine r_baload (pc := 247) E dX13_sequence_247 (fun v247 => ?_)
      refine r_bastore (pc := 248) E dX13_sequence_248 (fun M248 => ?_)
      refine r_aload_n (pc := 249) E dX13_sequence_249 rfl 0 rfl ?_
      refine r_dup (pc := 250) E dX13_sequence_250 (rv_cat _ _) ?_
      refine r_getI (pc := 251) E fd_13_35 wf_RX13_344 dX13_sequence_251 (fun v251 => ?_)
      refine r_iconst (pc := 254) (v := 1) E dX13_sequence_254 (by decide) ?_
      refine r_iadd (pc := 255) E dX13_sequence_255 ?_
      refine r_putI (pc := 256) E fd_13_35 wf_RX13_344 dX13_sequence_256 (Or.inl rfl) (fun M256 => ?_)
      refine r_aload_n (pc := 259) E dX13_sequence_259 rfl 0 rfl ?_
      refine r_dup (pc := 260) E dX13_sequence_260 (rv_cat _ _) ?_
      refine r_getI (pc := 261) E fd_13_38 wf_RX13_376 dX13_sequence_261 (fun v261 => ?_)
      refine r_iconst (pc := 264) (v := 1) E dX13_sequence_264 (by decide) ?_
      refine r_iadd (pc := 265) E dX13_sequence_265 ?_
      refine r_putI (pc := 266) E fd_13_38 wf_RX13_376 dX13_sequence_266 (Or.inl rfl) (fun M266 => ?_)
      refine r_iinc (pc := 269) (w := 1) (lf := fun v269 => [(14, v269), (1, p1), (2, p2)]) (ll' := [(3, p3), (7, p7)]) (lr' := [(0, p0)]) E dX13_sequence_269 2 rfl (by decide) (by decide) (fun _ => rfl) rfl rfl (fun v269 => ?_)
      refine r_goto (pc := 272) (tgt := 225) E dX13_sequence_272 (by decide) ?_
      exact r_sub [1, 2, 0] [0, 1] [0] rfl rfl rfl (hk225 ((p0, p1, p2, p3, p7, v269)) _)
  have hL180 : ∀ (p0 : Option Nat) (p1 : Int32) (p2 : Int32) (p3 : Int64) (p5 : Int32) (M : Mem), RT p l e rmX13_sequence s m args below meth c x 18 (QM below args s x (fun _ : Unit => none) rmX13_sequence.cells rmX13_sequence.slots) 0 0 (fX13_sequence_L180 p0 p1 p2 p3 p5 M) 180 [(1, p1), (2, p2), (5, p5)] [(3, p3)] [(0, p0)] [] M := by
    intro p0 p1 p2 p3 p5 M
    unfold fX13_sequence_L180
    refine r_aload_n (pc := 180) E dX13_sequence_180 rfl 0 rfl ?_
    refine r_getI (pc := 181) E fd_13_35 wf_RX13_344 dX13_sequence_181 (fun v181 => ?_)
    refine r_i2l (pc := 184) E dX13_sequence_184 ?_
    refine r_iload_n (pc := 185) E dX13_sequence_185 rfl 0 rfl ?_
    refine r_i2l (pc := 186) E dX13_sequence_186 ?_
    refine r_ladd (pc := 187) E dX13_sequence_187 ?_
    refine r_iload_n (pc := 188) E dX13_sequence_188 rfl 1 rfl ?_
    refine r_i2l (pc := 189) E dX13_sequence_189 ?_
    refine r_ladd (pc := 190) E dX13_sequence_190 ?_
    refine r_aload_n (pc := 191) E dX13_sequence_191 rfl 0 rfl ?_
    refine r_getI (pc := 192) E fd_13_42 wf_RX13_324 dX13_sequence_192 (fun v192 => ?_)
    refine r_i2l (pc := 195) E dX13_sequence_195 ?_
    refine r_lcmp (pc := 196) E dX13_sequence_196 ?_
    refine r_if_le (pc := 197) (tgt := 210) E dX13_sequence_197 (by decide) ?_ ?_
    · refine r_aload_n (pc := 210) E dX13_sequence_210 rfl 0 rfl ?_
      refine r_aload_n (pc := 211) E dX13_sequence_211 rfl 0 rfl ?_
      refine r_getA (pc := 212) E fd_13_44 wf_RX13_85 dX13_sequence_212 (fun v212 => ?_)
      refine r_lload_n (pc := 215) E dX13_sequence_215 rfl 0 rfl ?_
      refine r_iload_n (pc := 216) E dX13_sequence_216 rfl 0 rfl ?_
      refine r_kVl (pc := 217) (As := [rv x v212, .long p3, .int p1]) (rest := []) E wc_X13_offsetOf wi_RX13 hd_X13_offsetOf (ci := 13) rfl wl_RX13_408 wn_X13_offsetOf ws_X13_offsetOf dX13_sequence_217 (by decide) (Nat.le_of_ble_eq_true rfl) ⟨rfl, rfl⟩ (ctX13_offsetOf l x _ _ _ _ _) rfl (fun v217 M217 => ?_)
      refine r_lstore (pc := 220) (lf := fun v220 => [(1, p1), (2, p2), (5, p5)]) (lg := fun v220 => [(7, v220), (3, p3)]) (lk := fun v220 => [(0, p0)]) E dX13_sequence_220 (by decide) (fun _ => rfl) (fun _ => rfl) (fun _ => rfl) (fun v220 => ?_)
      refine r_iconst (pc := 222) (v := 0) E dX13_sequence_222 (by decide) ?_
      refine r_istore (pc := 223) (lf := fun v223 => [(14, v223), (1, p1), (2, p2), (5, p5)]) (lg := fun v223 => [(7, v220), (3, p3)]) (lk := fun v223 => [(0, p0)]) E dX13_sequence_223 (by decide) (fun _ => rfl) (fun _ => rfl) (fun _ => rfl) (fun v223 => ?_)
      exact r_sub [1, 2, 0] [1, 0] [0] rfl rfl rfl (hL225 p0 p1 p2 p3 v220 v223 _)
    · refine r_aload_n (pc := 200) E dX13_sequence_200 rfl 0 rfl ?_
      refine r_bipush (pc := 201) (v := 20) E dX13_sequence_201 (by decide) ?_
      refine r_iload (pc := 203) E dX13_sequence_203 2 rfl ?_
      refine r_kVi (pc := 205) (As := [.int 20, .int p5]) (rest := []) E wc_X13_fails wi_RX13 hd_X13_fails (ci := 13) rfl wl_RX13_263 wn_X13_fails ws_X13_fails dX13_sequence_205 (by decide) (Nat.le_of_ble_eq_true rfl) ⟨rfl, rfl⟩ (ctX13_fails l x _ _ _ _) rfl (fun v205 M205 => ?_)
      refine r_pop (pc := 208) E dX13_sequence_208 rfl ?_
      exact e_void (pc := 209) E dX13_sequence_209
  have hL155 : ∀ (p0 : Option Nat) (p1 : Int32) (p2 : Int32) (p3 : Int64) (p5 : Int32) (p9 : Int64) (p13 : Int32) (M : Mem), RT p l e rmX13_sequence s m args below meth c x 18 (QM below args s x (fun _ : Unit => none) rmX13_sequence.cells rmX13_sequence.slots) 0 0 (fX13_sequence_L155 p0 p1 p2 p3 p5 p9 p13 M) 155 [(1, p1), (2, p2), (5, p5), (13, p13)] [(3, p3), (9, p9)] [(0, p0)] [] M := by
    intro p0 p1 p2 p3 p5 p9 p13 M
    unfold fX13_sequence_L155
    refine r_iload (pc := 155) E dX13_sequence_155 3 rfl ?_
    refine r_if_eq (pc := 157) (tgt := 180) E dX13_sequence_157 (by decide) ?_ ?_
    · exact r_sub [0, 1, 2] [0] [0] rfl rfl rfl (hL180 p0 p1 p2 p3 p5 _)
    · refine r_lload (pc := 160) E dX13_sequence_160 1 rfl ?_
      refine r_aload_n (pc := 162) E dX13_sequence_162 rfl 0 rfl ?_
      refine r_getJ (pc := 163) E fd_13_41 wf_RX13_311 dX13_sequence_163 (fun v163 => ?_)
      refine r_lcmp (pc := 166) E dX13_sequence_166 ?_
      refine r_if_le (pc := 167) (tgt := 180) E dX13_sequence_167 (by decide) ?_ ?_
      · exact r_sub [0, 1, 2] [0] [0] rfl rfl rfl (hL180 p0 p1 p2 p3 p5 _)
      · exact r_sub [2] [] [0] rfl rfl rfl (hL170 p0 p5 _)
  have hL120 : ∀ (p0 : Option Nat) (p1 : Int32) (p2 : Int32) (p3 : Int64) (p5 : Int32) (p7 : Int64) (p9 : Int64) (p11 : Int64) (q0 : Int32) (M : Mem), RT p l e rmX13_sequence s m args below meth c x 18 (QM below args s x (fun _ : Unit => none) rmX13_sequence.cells rmX13_sequence.slots) 0 0 (fX13_sequence_L120 p0 p1 p2 p3 p5 p7 p9 p11 q0 M) 120 [(1, p1), (2, p2), (5, p5)] [(3, p3), (7, p7), (9, p9), (11, p11)] [(0, p0)] [.int q0] M := by
    intro p0 p1 p2 p3 p5 p7 p9 p11 q0 M
    unfold fX13_sequence_L120
    refine r_istore (pc := 120) (lf := fun v120 => [(13, v120), (1, p1), (2, p2), (5, p5)]) (lg := fun v120 => [(3, p3), (7, p7), (9, p9), (11, p11)]) (lk := fun v120 => [(0, p0)]) E dX13_sequence_120 (by decide) (fun _ => rfl) (fun _ => rfl) (fun _ => rfl) (fun v120 => ?_)
    refine r_lload (pc := 122) E dX13_sequence_122 1 rfl ?_
    refine r_lconst (pc := 124) (v := 0) E dX13_sequence_124 (by decide) ?_
    refine r_lcmp (pc := 125) E dX13_sequence_125 ?_
    refine r_if_eq (pc := 126) (tgt := 170) E dX13_sequence_126 (by decide) ?_ ?_
    · exact r_sub [3] [] [0] rfl rfl rfl (hL170 p0 p5 _)
    · refine r_lload (pc := 129) E dX13_sequence_129 1 rfl ?_
      refine r_lload (pc := 131) E dX13_sequence_131 2 rfl ?_
      refine r_lload (pc := 133) E dX13_sequence_133 3 rfl ?_
      refine r_ladd (pc := 135) E dX13_sequence_135 ?_
      refine r_lcmp (pc := 136) E dX13_sequence_136 ?_
      refine r_if_gt (pc := 137) (tgt := 170) E dX13_sequence_137 (by decide) ?_ ?_
      · exact r_sub [3] [] [0] rfl rfl rfl (hL170 p0 p5 _)
      · refine r_iload (pc := 140) E dX13_sequence_140 0 rfl ?_
        refine r_if_ne (pc := 142) (tgt := 155) E dX13_sequence_142 (by decide) ?_ ?_
        · exact r_sub [1, 2, 3, 0] [0, 2] [0] rfl rfl rfl (hL155 p0 p1 p2 p3 p5 p9 v120 _)
        · refine r_lload (pc := 145) E dX13_sequence_145 1 rfl ?_
          refine r_aload_n (pc := 147) E dX13_sequence_147 rfl 0 rfl ?_
          refine r_getJ (pc := 148) E fd_13_41 wf_RX13_311 dX13_sequence_148 (fun v148 => ?_)
          refine r_lcmp (pc := 151) E dX13_sequence_151 ?_
          refine r_if_gt (pc := 152) (tgt := 170) E dX13_sequence_152 (by decide) ?_ ?_
          · exact r_sub [3] [] [0] rfl rfl rfl (hL170 p0 p5 _)
          · exact r_sub [1, 2, 3, 0] [0, 2] [0] rfl rfl rfl (hL155 p0 p1 p2 p3 p5 p9 v120 _)
  have hL105 : ∀ (p0 : Option Nat) (p1 : Int32) (p2 : Int32) (p3 : Int64) (p5 : Int32) (p7 : Int64) (p9 : Int64) (q0 : Int64) (M : Mem), RT p l e rmX13_sequence s m args below meth c x 18 (QM below args s x (fun _ : Unit => none) rmX13_sequence.cells rmX13_sequence.slots) 0 0 (fX13_sequence_L105 p0 p1 p2 p3 p5 p7 p9 q0 M) 105 [(1, p1), (2, p2), (5, p5)] [(3, p3), (7, p7), (9, p9)] [(0, p0)] [.long q0] M := by
    intro p0 p1 p2 p3 p5 p7 p9 q0 M
    unfold fX13_sequence_L105
    refine r_lstore (pc := 105) (lf := fun v105 => [(1, p1), (2, p2), (5, p5)]) (lg := fun v105 => [(11, v105), (3, p3), (7, p7), (9, p9)]) (lk := fun v105 => [(0, p0)]) E dX13_sequence_105 (by decide) (fun _ => rfl) (fun _ => rfl) (fun _ => rfl) (fun v105 => ?_)
    refine r_lload (pc := 107) E dX13_sequence_107 2 rfl ?_
    refine r_lload (pc := 109) E dX13_sequence_109 3 rfl ?_
    refine r_lcmp (pc := 111) E dX13_sequence_111 ?_
    refine r_if_le (pc := 112) (tgt := 119) E dX13_sequence_112 (by decide) ?_ ?_
    · refine r_iconst (pc := 119) (v := 0) E dX13_sequence_119 (by decide) ?_
      exact r_sub [0, 1, 2] [1, 2, 3, 0] [0] rfl rfl rfl (hL120 p0 p1 p2 p3 p5 p7 p9 v105 0 _)
    · refine r_iconst (pc := 115) (v := 1) E dX13_sequence_115 (by decide) ?_
      refine r_goto (pc := 116) (tgt := 120) E dX13_sequence_116 (by decide) ?_
      exact r_sub [0, 1, 2] [1, 2, 3, 0] [0] rfl rfl rfl (hL120 p0 p1 p2 p3 p5 p7 p9 v105 1 _)
  have hL68 : ∀ (p0 : Option Nat) (p1 : Int32) (p2 : Int32) (p3 : Int64) (p5 : Int32) (q0 : Int64) (M : Mem), RT p l e rmX13_sequence s m args below meth c x 18 (QM below args s x (fun _ : Unit => none) rmX13_sequence.cells rmX13_sequence.slots) 0 0 (fX13_sequence_L68 p0 p1 p2 p3 p5 q0 M) 68 [(1, p1), (2, p2), (5, p5)] [(3, p3)] [(0, p0)] [.long q0] M := by
    intro p0 p1 p2 p3 p5 q0 M
    unfold fX13_sequence_L68
    refine r_lstore (pc := 68) (lf := fun v68 => [(1, p1), (2, p2), (5, p5)]) (lg := fun v68 => [(7, v68), (3, p3)]) (lk := fun v68 => [(0, p0)]) E dX13_sequence_68 (by decide) (fun _ => rfl) (fun _ => rfl) (fun _ => rfl) (fun v68 => ?_)
    refine r_aload_n (pc := 70) E dX13_sequence_70 rfl 0 rfl ?_
    refine r_getI (pc := 71) E fd_13_33 wf_RX13_286 dX13_sequence_71 (fun v71 => ?_)
    refine r_aload_n (pc := 74) E dX13_sequence_74 rfl 0 rfl ?_
    refine r_getI (pc := 75) E fd_13_39 wf_RX13_334 dX13_sequence_75 (fun v75 => ?_)
    refine r_isub (pc := 78) E dX13_sequence_78 ?_
    refine r_aload_n (pc := 79) E dX13_sequence_79 rfl 0 rfl ?_
    refine r_getI (pc := 80) E fd_13_35 wf_RX13_344 dX13_sequence_80 (fun v80 => ?_)
    refine r_iadd (pc := 83) E dX13_sequence_83 ?_
    refine r_iload_n (pc := 84) E dX13_sequence_84 rfl 0 rfl ?_
    refine r_iadd (pc := 85) E dX13_sequence_85 ?_
    refine r_i2l (pc := 86) E dX13_sequence_86 ?_
    refine r_lstore (pc := 87) (lf := fun v87 => [(1, p1), (2, p2), (5, p5)]) (lg := fun v87 => [(9, v87), (7, v68), (3, p3)]) (lk := fun v87 => [(0, p0)]) E dX13_sequence_87 (by decide) (fun _ => rfl) (fun _ => rfl) (fun _ => rfl) (fun v87 => ?_)
    refine r_aload_n (pc := 89) E dX13_sequence_89 rfl 0 rfl ?_
    refine r_getZ (pc := 90) E fd_13_40 wf_RX13_339 dX13_sequence_90 (fun v90 => ?_)
    refine r_if_eq (pc := 93) (tgt := 104) E dX13_sequence_93 (by decide) ?_ ?_
    · refine r_lconst (pc := 104) (v := 0) E dX13_sequence_104 (by decide) ?_
      exact r_sub [0, 1, 2] [2, 1, 0] [0] rfl rfl rfl (hL105 p0 p1 p2 p3 p5 v68 v87 0 _)
    · refine r_aload_n (pc := 96) E dX13_sequence_96 rfl 0 rfl ?_
      refine r_getI (pc := 97) E fd_13_26 wf_RX13_273 dX13_sequence_97 (fun v97 => ?_)
      refine r_i2l (pc := 100) E dX13_sequence_100 ?_
      refine r_goto (pc := 101) (tgt := 105) E dX13_sequence_101 (by decide) ?_
      exact r_sub [0, 1, 2] [2, 1, 0] [0] rfl rfl rfl (hL105 p0 p1 p2 p3 p5 v68 v87 v97.toInt64 _)
  show RT p l e rmX13_sequence s m args below meth c x 18 (QM below args s x (fun _ : Unit => none) rmX13_sequence.cells rmX13_sequence.slots) 0 0 (fX13_sequence a0 a1 a2 a3 a5 M) 0 [(1, a1), (2, a2), (5, a5)] [(3, a3)] [(0, a0)] [] M
  unfold fX13_sequence
  refine r_iload_n (pc := 0) E dX13_sequence_0 rfl 0 rfl ?_
  refine r_aload_n (pc := 1) E dX13_sequence_1 rfl 0 rfl ?_
  refine r_getI (pc := 2) E fd_13_37 wf_RX13_353 dX13_sequence_2 (fun v2 => ?_)
  refine r_aload_n (pc := 5) E dX13_sequence_5 rfl 0 rfl ?_
  refine r_getI (pc := 6) E fd_13_38 wf_RX13_376 dX13_sequence_6 (fun v6 => ?_)
  refine r_isub (pc := 9) E dX13_sequence_9 ?_
  refine r_icmp_le (pc := 10) (tgt := 23) E dX13_sequence_10 (by decide) ?_ ?_
  · refine r_lload_n (pc := 23) E dX13_sequence_23 rfl 0 rfl ?_
    refine r_iload_n (pc := 24) E dX13_sequence_24 rfl 0 rfl ?_
    refine r_kSi (pc := 25) (As := [.long a3, .int a1]) (rest := []) E wc_X13_meant wi_RX13 hd_X13_meant wl_RX13_404 wt_X13_meant dX13_sequence_25 (by decide) (Nat.le_of_ble_eq_true rfl) ⟨rfl, rfl⟩ (ctX13_meant l x _ _ _) rfl (fun v25 M25 => ?_)
    refine r_istore (pc := 28) (lf := fun v28 => [(6, v28), (1, a1), (2, a2), (5, a5)]) (lg := fun v28 => [(3, a3)]) (lk := fun v28 => [(0, a0)]) E dX13_sequence_28 (by decide) (fun _ => rfl) (fun _ => rfl) (fun _ => rfl) (fun v28 => ?_)
    refine r_iload (pc := 30) E dX13_sequence_30 0 rfl ?_
    refine r_iconst (pc := 32) (v := 4) E dX13_sequence_32 (by decide) ?_
    refine r_icmp_ne (pc := 33) (tgt := 44) E dX13_sequence_33 (by decide) ?_ ?_
    · refine r_iload (pc := 44) E dX13_sequence_44 0 rfl ?_
      refine r_iconst (pc := 46) (v := 3) E dX13_sequence_46 (by decide) ?_
      refine r_icmp_ne (pc := 47) (tgt := 61) E dX13_sequence_47 (by decide) ?_ ?_
      · refine r_aload_n (pc := 61) E dX13_sequence_61 rfl 0 rfl ?_
        refine r_getA (pc := 62) E fd_13_44 wf_RX13_85 dX13_sequence_62 (fun v62 => ?_)
        refine r_iload (pc := 65) E dX13_sequence_65 0 rfl ?_
        refine r_laload (pc := 67) E dX13_sequence_67 (fun v67 => ?_)
        exact r_sub [1, 2, 3] [0] [0] rfl rfl rfl (hL68 a0 a1 a2 a3 a5 v67 _)
      · refine r_aload_n (pc := 50) E dX13_sequence_50 rfl 0 rfl ?_
        refine r_getA (pc := 51) E fd_13_44 wf_RX13_85 dX13_sequence_51 (fun v51 => ?_)
        refine r_iconst (pc := 54) (v := 0) E dX13_sequence_54 (by decide) ?_
        refine r_laload (pc := 55) E dX13_sequence_55 (fun v55 => ?_)
        refine r_lconst (pc := 56) (v := 1) E dX13_sequence_56 (by decide) ?_
        refine r_lsub (pc := 57) E dX13_sequence_57 ?_
        refine r_goto (pc := 58) (tgt := 68) E dX13_sequence_58 (by decide) ?_
        exact r_sub [1, 2, 3] [0] [0] rfl rfl rfl (hL68 a0 a1 a2 a3 a5 (v55 - 1) _)
    · refine r_lload_n (pc := 36) E dX13_sequence_36 rfl 0 rfl ?_
      refine r_ldc2 (pc := 37) E wk_RX13_402 dX13_sequence_37 ?_
      refine r_lsub (pc := 40) E dX13_sequence_40 ?_
      refine r_goto (pc := 41) (tgt := 68) E dX13_sequence_41 (by decide) ?_
      exact r_sub [1, 2, 3] [0] [0] rfl rfl rfl (hL68 a0 a1 a2 a3 a5 (a3 - 3) _)
  · refine r_aload_n (pc := 13) E dX13_sequence_13 rfl 0 rfl ?_
    refine r_bipush (pc := 14) (v := 19) E dX13_sequence_14 (by decide) ?_
    refine r_iload (pc := 16) E dX13_sequence_16 2 rfl ?_
    refine r_kVi (pc := 18) (As := [.int 19, .int a5]) (rest := []) E wc_X13_fails wi_RX13 hd_X13_fails (ci := 13) rfl wl_RX13_263 wn_X13_fails ws_X13_fails dX13_sequence_18 (by decide) (Nat.le_of_ble_eq_true rfl) ⟨rfl, rfl⟩ (ctX13_fails l x _ _ _ _) rfl (fun v18 M18 => ?_)
    refine r_pop (pc := 21) E dX13_sequence_21 rfl ?_
    exact e_void (pc := 22) E dX13_sequence_22
def fX13_all_L327 (M : Mem) : Option (Unit × Mem) :=
  some ((), M)
def fX13_all_L305 (p0 : Option Nat) (p2 : Int32) (M : Mem) : Option (Unit × Mem) :=
  bo (gI M p0 13 4) fun v306 =>
  if v306 = 0 then (
    bo (gI M p0 13 11) fun v313 =>
    if v313 ≤ 0 then (
      fX13_all_L327 M
    ) else (
      bo (chk M p0 13) fun _ => bd (fX13_fails p0 17 p2 M) fun v323 M323 =>
      fX13_all_L327 M323
    )
  ) else (
    fX13_all_L327 M
  )
def fX13_all_L299 (k76 : Option Nat × Int32 × Int32 × Int32 × Int32 × Int32 × Int32 → Mem → Option (Unit × Mem)) (p0 : Option Nat) (p1 : Int32) (p2 : Int32) (p4 : Int32) (p5 : Int32) (p6 : Int32) (p7 : Int32) (M : Mem) : Option (Unit × Mem) :=
  bn (p7 + 1) fun v299 =>
  k76 ((p0, p1, p2, p4, p5, p6, v299)) M
def fX13_all_L270 (k76 : Option Nat × Int32 × Int32 × Int32 × Int32 × Int32 × Int32 → Mem → Option (Unit × Mem)) (p0 : Option Nat) (p1 : Int32) (p2 : Int32) (p4 : Int32) (p5 : Int32) (p6 : Int32) (p7 : Int32) (p11 : Int64) (p13 : Int32) (p14 : Int32) (M : Mem) : Option (Unit × Mem) :=
  bo (gI M p0 13 9) fun v271 =>
  if v271 = 0 then (
    bo (chk M p0 13) fun _ => bd (fX13_sequence p0 p14 p13 p11 p2 M) fun v296 M296 =>
    fX13_all_L299 k76 p0 p1 p2 p4 p5 p6 p7 M296
  ) else (
    bo (chk M p0 13) fun _ => bd (fX13_fails p0 17 p2 M) fun v281 M281 =>
    fX13_all_L299 k76 p0 p1 p2 p4 p5 p6 p7 M281
  )
def fX13_all_B76 (k76 : Option Nat × Int32 × Int32 × Int32 × Int32 × Int32 × Int32 → Mem → Option (Unit × Mem)) (p0 : Option Nat) (p1 : Int32) (p2 : Int32) (p4 : Int32) (p5 : Int32) (p6 : Int32) (p7 : Int32) (M : Mem) : Option (Unit × Mem) :=
  if p1 ≤ p7 then (
    fX13_all_L305 p0 p2 M
  ) else (
    bo (gI M p0 13 4) fun v83 =>
    if v83 = 0 then (
      bo (gR M p0 13 14) fun v90 =>
      bo (aI M v90 17 (512 + p5)) fun v99 =>
      bn (v99) fun v100 =>
      bo (gR M p0 13 14) fun v103 =>
      bo (aI M v103 17 (1024 + p6)) fun v112 =>
      bn (v112) fun v113 =>
      bo (gR M p0 13 14) fun v116 =>
      bo (aI M v116 17 p4) fun v121 =>
      bn (v121) fun v122 =>
      bo (chk M p0 13) fun _ => bd (fX13_back p0 v100 M) fun v131 M131 =>
      bn ((shlJ 1 v100) + v131) fun v135 =>
      bd (fX13_copyBase v113 M131) fun v139 M139 =>
      bd (fX13_copyBits v113 M139) fun v145 M145 =>
      bo (chk M145 p0 13) fun _ => bd (fX13_back p0 v145 M145) fun v148 M148 =>
      bn (v139 + v148.toInt32) fun v153 =>
      bd (fX13_letterBase v122 M148) fun v157 M157 =>
      bd (fX13_letterBits v122 M157) fun v163 M163 =>
      bo (chk M163 p0 13) fun _ => bd (fX13_back p0 v163 M163) fun v166 M166 =>
      bn (v157 + v166.toInt32) fun v171 =>
      bo (gI M166 p0 13 9) fun v174 =>
      if v174 = 0 then (
        if (p1 - 1) ≤ p7 then (
          fX13_all_L270 k76 p0 p1 p2 p4 p5 p6 p7 v135 v153 v171 M166
        ) else (
          bo (gR M166 p0 13 16) fun v189 =>
          bo (aI M166 v189 15 p4) fun v194 =>
          bo (gR M166 p0 13 15) fun v197 =>
          bo (aI M166 v197 14 p4) fun v202 =>
          bo (chk M166 p0 13) fun _ => bd (fX13_back p0 v202 M166) fun v203 M203 =>
          bn (v194 + v203.toInt32) fun v208 =>
          bo (gR M203 p0 13 16) fun v211 =>
          bo (aI M203 v211 15 (1024 + p6)) fun v220 =>
          bo (gR M203 p0 13 15) fun v223 =>
          bo (aI M203 v223 14 (1024 + p6)) fun v232 =>
          bo (chk M203 p0 13) fun _ => bd (fX13_back p0 v232 M203) fun v233 M233 =>
          bn (v220 + v233.toInt32) fun v238 =>
          bo (gR M233 p0 13 16) fun v241 =>
          bo (aI M233 v241 15 (512 + p5)) fun v250 =>
          bo (gR M233 p0 13 15) fun v253 =>
          bo (aI M233 v253 14 (512 + p5)) fun v262 =>
          bo (chk M233 p0 13) fun _ => bd (fX13_back p0 v262 M233) fun v263 M263 =>
          bn (v250 + v263.toInt32) fun v268 =>
          fX13_all_L270 k76 p0 p1 p2 v208 v268 v238 p7 v135 v153 v171 M263
        )
      ) else (
        fX13_all_L270 k76 p0 p1 p2 p4 p5 p6 p7 v135 v153 v171 M166
      )
    ) else (
      fX13_all_L305 p0 p2 M
    )
  )
def fX13_all_L76 (p0 : Option Nat) (p1 : Int32) (p2 : Int32) (p4 : Int32) (p5 : Int32) (p6 : Int32) (p7 : Int32) (M : Mem) : Option (Unit × Mem) :=
  lp (fun k76 (a : Option Nat × Int32 × Int32 × Int32 × Int32 × Int32 × Int32) M => fX13_all_B76 k76 a.1 a.2.1 a.2.2.1 a.2.2.2.1 a.2.2.2.2.1 a.2.2.2.2.2.1 a.2.2.2.2.2.2 M) FU ((p0, p1, p2, p4, p5, p6, p7)) M
def fX13_all (a0 : Option Nat) (a1 : Int32) (a2 : Int32) (a3 : Int32) (M : Mem) : Option (Unit × Mem) :=
  bo (chk M a0 13) fun _ => bd (fX13_reversed a0 a2 a3 M) fun v3 M3 =>
  if v3 = 0 then (
    bo (chk M3 a0 13) fun _ => bd (fX13_fails a0 17 a2 M3) fun v13 M13 =>
    some ((), M13)
  ) else (
    bo (gR M3 a0 13 17) fun v20 =>
    bo (aI M3 v20 15 0) fun v24 =>
    bo (chk M3 a0 13) fun _ => bd (fX13_back a0 v24 M3) fun v25 M25 =>
    bn (v25.toInt32) fun v29 =>
    bo (gR M25 a0 13 17) fun v33 =>
    bo (aI M25 v33 15 1) fun v37 =>
    bo (chk M25 a0 13) fun _ => bd (fX13_back a0 v37 M25) fun v38 M38 =>
    bn (v38.toInt32) fun v42 =>
    bo (gR M38 a0 13 17) fun v46 =>
    bo (aI M38 v46 15 2) fun v50 =>
    bo (chk M38 a0 13) fun _ => bd (fX13_back a0 v50 M38) fun v51 M51 =>
    bn (v51.toInt32) fun v55 =>
    bo (gI M51 a0 13 9) fun v58 =>
    if v58 = 0 then (
      bn (0) fun v74 =>
      fX13_all_L76 a0 a1 a2 v29 v42 v55 v74 M51
    ) else (
      bo (chk M51 a0 13) fun _ => bd (fX13_fails a0 17 a2 M51) fun v68 M68 =>
      some ((), M68)
    )
  )
def rmX13_all : Room := { frames := 3, cells := 0, slots := 0, locals := 86 }
set_option maxRecDepth 100000 in
set_option maxHeartbeats 4000000 in
theorem ctX13_all (l : Launch) (x : Cx) (a0 : Option Nat) (a1 : Int32) (a2 : Int32) (a3 : Int32) (M : Mem) (v : Unit) (N : Mem) (h : fX13_all a0 a1 a2 a3 M = some (v, N)) : CT l yX13_all cX13_all 15 (none) rmX13_all x [rv x a0, .int a1, .int a2, .int a3] M none N := by
  refine ct_mk (enc := fun _ : Unit => none) (li := [(1, a1), (2, a2), (3, a3)]) (ll := []) (lr := [(0, a0)]) (by decide +kernel) (by simp [lg_sl, rv_cat, cat_int, cat_long]) (by simp [flat, lv_args, rv_cat, cat_int, cat_long]) h ?_
  intro p e s m args below meth c E
  have hL327 : ∀ (M : Mem), RT p l e rmX13_all s m args below meth c x 15 (QM below args s x (fun _ : Unit => none) rmX13_all.cells rmX13_all.slots) 0 0 (fX13_all_L327 M) 327 [] [] [] [] M := by
    intro M
    unfold fX13_all_L327
    exact e_void (pc := 327) E dX13_all_327
  have hL305 : ∀ (p0 : Option Nat) (p2 : Int32) (M : Mem), RT p l e rmX13_all s m args below meth c x 15 (QM below args s x (fun _ : Unit => none) rmX13_all.cells rmX13_all.slots) 0 0 (fX13_all_L305 p0 p2 M) 305 [(2, p2)] [] [(0, p0)] [] M := by
    intro p0 p2 M
    unfold fX13_all_L305
    refine r_aload_n (pc := 305) E dX13_all_305 rfl 0 rfl ?_
    refine r_getI (pc := 306) E fd_13_4 wf_RX13_158 dX13_all_306 (fun v306 => ?_)
    refine r_if_ne (pc := 309) (tgt := 327) E dX13_all_309 (by decide) ?_ ?_
    · exact r_sub [] [] [] rfl rfl rfl (hL327 _)
    · refine r_aload_n (pc := 312) E dX13_all_312 rfl 0 rfl ?_
      refine r_getI (pc := 313) E fd_13_11 wf_RX13_203 dX13_all_313 (fun v313 => ?_)
      refine r_if_le (pc := 316) (tgt := 327) E dX13_all_316 (by decide) ?_ ?_
      · exact r_sub [] [] [] rfl rfl rfl (hL327 _)
      · refine r_aload_n (pc := 319) E dX13_all_319 rfl 0 rfl ?_
        refine r_bipush (pc := 320) (v := 17) E dX13_all_320 (by decide) ?_
        refine r_iload_n (pc := 322) E dX13_all_322 rfl 0 rfl ?_
        refine r_kVi (pc := 323) (As := [.int 17, .int p2]) (rest := []) E wc_X13_fails wi_RX13 hd_X13_fails (ci := 13) rfl wl_RX13_263 wn_X13_fails ws_X13_fails dX13_all_323 (by decide) (Nat.le_of_ble_eq_true rfl) ⟨rfl, rfl⟩ (ctX13_fails l x _ _ _ _) rfl (fun v323 M323 => ?_)
        refine r_pop (pc := 326) E dX13_all_326 rfl ?_
        exact r_sub [] [] [] rfl rfl rfl (hL327 _)
  have hL299 : ∀ (k76 : Option Nat × Int32 × Int32 × Int32 × Int32 × Int32 × Int32 → Mem → Option (Unit × Mem)) (hk76 : ∀ a M, RT p l e rmX13_all s m args below meth c x 15 (QM below args s x (fun _ : Unit => none) rmX13_all.cells rmX13_all.slots) 0 0 (k76 a M) 76 [(1, a.2.1), (2, a.2.2.1), (4, a.2.2.2.1), (5, a.2.2.2.2.1), (6, a.2.2.2.2.2.1), (7, a.2.2.2.2.2.2)] [] [(0, a.1)] [] M) (p0 : Option Nat) (p1 : Int32) (p2 : Int32) (p4 : Int32) (p5 : Int32) (p6 : Int32) (p7 : Int32) (M : Mem), RT p l e rmX13_all s m args below meth c x 15 (QM below args s x (fun _ : Unit => none) rmX13_all.cells rmX13_all.slots) 0 0 (fX13_all_L299 k76 p0 p1 p2 p4 p5 p6 p7 M) 299 [(1, p1), (2, p2), (4, p4), (5, p5), (6, p6), (7, p7)] [] [(0, p0)] [] M := by
    intro k76 hk76 p0 p1 p2 p4 p5 p6 p7 M
    unfold fX13_all_L299
    refine r_iinc (pc := 299) (w := 1) (lf := fun v299 => [(7, v299), (1, p1), (2, p2), (4, p4), (5, p5), (6, p6)]) (ll' := []) (lr' := [(0, p0)]) E dX13_all_299 5 rfl (by decide) (by decide) (fun _ => rfl) rfl rfl (fun v299 => ?_)
    refine r_goto (pc := 302) (tgt := 76) E dX13_all_302 (by decide) ?_
    exact r_sub [1, 2, 3, 4, 5, 0] [] [0] rfl rfl rfl (hk76 ((p0, p1, p2, p4, p5, p6, v299)) _)
  have hL270 : ∀ (k76 : Option Nat × Int32 × Int32 × Int32 × Int32 × Int32 × Int32 → Mem → Option (Unit × Mem)) (hk76 : ∀ a M, RT p l e rmX13_all s m args below meth c x 15 (QM below args s x (fun _ : Unit => none) rmX13_all.cells rmX13_all.slots) 0 0 (k76 a M) 76 [(1, a.2.1), (2, a.2.2.1), (4, a.2.2.2.1), (5, a.2.2.2.2.1), (6, a.2.2.2.2.2.1), (7, a.2.2.2.2.2.2)] [] [(0, a.1)] [] M) (p0 : Option Nat) (p1 : Int32) (p2 : Int32) (p4 : Int32) (p5 : Int32) (p6 : Int32) (p7 : Int32) (p11 : Int64) (p13 : Int32) (p14 : Int32) (M : Mem), RT p l e rmX13_all s m args below meth c x 15 (QM below args s x (fun _ : Unit => none) rmX13_all.cells rmX13_all.slots) 0 0 (fX13_all_L270 k76 p0 p1 p2 p4 p5 p6 p7 p11 p13 p14 M) 270 [(1, p1), (2, p2), (4, p4), (5, p5), (6, p6), (7, p7), (13, p13), (14, p14)] [(11, p11)] [(0, p0)] [] M := by
    intro k76 hk76 p0 p1 p2 p4 p5 p6 p7 p11 p13 p14 M
    unfold fX13_all_L270
    refine r_aload_n (pc := 270) E dX13_all_270 rfl 0 rfl ?_
    refine r_getZ (pc := 271) E fd_13_9 wf_RX13_196 dX13_all_271 (fun v271 => ?_)
    refine r_if_eq (pc := 274) (tgt := 288) E dX13_all_274 (by decide) ?_ ?_
    · refine r_aload_n (pc := 288) E dX13_all_288 rfl 0 rfl ?_
      refine r_iload (pc := 289) E dX13_all_289 7 rfl ?_
      refine r_iload (pc := 291) E dX13_all_291 6 rfl ?_
      refine r_lload (pc := 293) E dX13_all_293 0 rfl ?_
      refine r_iload_n (pc := 295) E dX13_all_295 rfl 1 rfl ?_
      refine r_kVv (pc := 296) (As := [.int p14, .int p13, .long p11, .int p2]) (rest := []) E wc_X13_sequence wi_RX13 hd_X13_sequence (ci := 13) rfl wl_RX13_398 wn_X13_sequence ws_X13_sequence dX13_all_296 (by decide) (Nat.le_of_ble_eq_true rfl) ⟨rfl, rfl⟩ (ctX13_sequence l x _ _ _ _ _ _) rfl (fun v296 M296 => ?_)
      exact r_sub [0, 1, 2, 3, 4, 5] [] [0] rfl rfl rfl (hL299 k76 hk76 p0 p1 p2 p4 p5 p6 p7 _)
    · refine r_aload_n (pc := 277) E dX13_all_277 rfl 0 rfl ?_
      refine r_bipush (pc := 278) (v := 17) E dX13_all_278 (by decide) ?_
      refine r_iload_n (pc := 280) E dX13_all_280 rfl 1 rfl ?_
      refine r_kVi (pc := 281) (As := [.int 17, .int p2]) (rest := []) E wc_X13_fails wi_RX13 hd_X13_fails (ci := 13) rfl wl_RX13_263 wn_X13_fails ws_X13_fails dX13_all_281 (by decide) (Nat.le_of_ble_eq_true rfl) ⟨rfl, rfl⟩ (ctX13_fails l x _ _ _ _) rfl (fun v281 M281 => ?_)
      refine r_pop (pc := 284) E dX13_all_284 rfl ?_
      refine r_goto (pc := 285) (tgt := 299) E dX13_all_285 (by decide) ?_
      exact r_sub [0, 1, 2, 3, 4, 5] [] [0] rfl rfl rfl (hL299 k76 hk76 p0 p1 p2 p4 p5 p6 p7 _)
  have hL76 : ∀ (p0 : Option Nat) (p1 : Int32) (p2 : Int32) (p4 : Int32) (p5 : Int32) (p6 : Int32) (p7 : Int32) (M : Mem), RT p l e rmX13_all s m args below meth c x 15 (QM below args s x (fun _ : Unit => none) rmX13_all.cells rmX13_all.slots) 0 0 (fX13_all_L76 p0 p1 p2 p4 p5 p6 p7 M) 76 [(1, p1), (2, p2), (4, p4), (5, p5), (6, p6), (7, p7)] [] [(0, p0)] [] M := by
    intro p0 p1 p2 p4 p5 p6 p7 M
    refine r_lp (fi := fun a : Option Nat × Int32 × Int32 × Int32 × Int32 × Int32 × Int32 => [(1, a.2.1), (2, a.2.2.1), (4, a.2.2.2.1), (5, a.2.2.2.2.1), (6, a.2.2.2.2.2.1), (7, a.2.2.2.2.2.2)]) (fl := fun a : Option Nat × Int32 × Int32 × Int32 × Int32 × Int32 × Int32 => []) (fr := fun a : Option Nat × Int32 × Int32 × Int32 × Int32 × Int32 × Int32 => [(0, a.1)]) (fs := fun a : Option Nat × Int32 × Int32 × Int32 × Int32 × Int32 × Int32 => []) ?_ FU ((p0, p1, p2, p4, p5, p6, p7)) M
    intro k76 hk76 a M
    obtain ⟨p0, p1, p2, p4, p5, p6, p7⟩ := a
    show RT p l e rmX13_all s m args below meth c x 15 (QM below args s x (fun _ : Unit => none) rmX13_all.cells rmX13_all.slots) 0 0 (fX13_all_B76 k76 p0 p1 p2 p4 p5 p6 p7 M) 76 [(1, p1), (2, p2), (4, p4), (5, p5), (6, p6), (7, p7)] [] [(0, p0)] [] M
    unfold fX13_all_B76
    refine r_iload (pc := 76) E dX13_all_76 5 rfl ?_
    refine r_iload_n (pc := 78) E dX13_all_78 rfl 0 rfl ?_
    refine r_icmp_ge (pc := 79) (tgt := 305) E dX13_all_79 (by decide) ?_ ?_
    · exact r_sub [1] [] [0] rfl rfl rfl (hL305 p0 p2 _)
    · refine r_aload_n (pc := 82) E dX13_all_82 rfl 0 rfl ?_
      refine r_getI (pc := 83) E fd_13_4 wf_RX13_158 dX13_all_83 (fun v83 => ?_)
      refine r_if_ne (pc := 86) (tgt := 305) E dX13_all_86 (by decide) ?_ ?_
      · exact r_sub [1] [] [0] rfl rfl rfl (hL305 p0 p2 _)
      · refine r_aload_n (pc := 89) E dX13_all_89 rfl 0 rfl ?_
        refine r_getA (pc := 90) E fd_13_14 wf_RX13_27 dX13_all_90 (fun v90 => ?_)
        refine r_sipush (pc := 93) (v := 512) E dX13_all_93 (by decide) ?_
        refine r_iload (pc := 96) E dX13_all_96 3 rfl ?_
        refine r_iadd (pc := 98) E dX13_all_98 ?_
        refine r_saload (pc := 99) E dX13_all_99 (fun v99 => ?_)
        refine r_istore (pc := 100) (lf := fun v100 => [(8, v100), (1, p1), (2, p2), (4, p4), (5, p5), (6, p6), (7, p7)]) (lg := fun v100 => []) (lk := fun v100 => [(0, p0)]) E dX13_all_100 (by decide) (fun _ => rfl) (fun _ => rfl) (fun _ => rfl) (fun v100 => ?_)
        refine r_aload_n (pc := 102) E dX13_all_102 rfl 0 rfl ?_
        refine r_getA (pc := 103) E fd_13_14 wf_RX13_27 dX13_all_103 (fun v103 => ?_)
        refine r_sipush (pc := 106) (v := 1024) E dX13_all_106 (by decide) ?_
        refine r_iload (pc := 109) E dX13_all_109 5 rfl ?_
        refine r_iadd (pc := 111) E dX13_all_111 ?_
        refine r_saload (pc := 112) E dX13_all_112 (fun v112 => ?_)
        refine r_istore (pc := 113) (lf := fun v113 => [(9, v113), (8, v100), (1, p1), (2, p2), (4, p4), (5, p5), (6, p6), (7, p7)]) (lg := fun v113 => []) (lk := fun v113 => [(0, p0)]) E dX13_all_113 (by decide) (fun _ => rfl) (fun _ => rfl) (fun _ => rfl) (fun v113 => ?_)
        refine r_aload_n (pc := 115) E dX13_all_115 rfl 0 rfl ?_
        refine r_getA (pc := 116) E fd_13_14 wf_RX13_27 dX13_all_116 (fun v116 => ?_)
        refine r_iload (pc := 119) E dX13_all_119 4 rfl ?_
        refine r_saload (pc := 121) E dX13_all_121 (fun v121 => ?_)
        refine r_istore (pc := 122) (lf := fun v122 => [(10, v122), (9, v113), (8, v100), (1, p1), (2, p2), (4, p4), (5, p5), (6, p6), (7, p7)]) (lg := fun v122 => []) (lk := fun v122 => [(0, p0)]) E dX13_all_122 (by decide) (fun _ => rfl) (fun _ => rfl) (fun _ => rfl) (fun v122 => ?_)
        refine r_lconst (pc := 124) (v := 1) E dX13_all_124 (by decide) ?_
        refine r_iload (pc := 125) E dX13_all_125 2 rfl ?_
        refine r_lshl (pc := 127) E dX13_all_127 ?_
        refine r_aload_n (pc := 128) E dX13_all_128 rfl 0 rfl ?_
        refine r_iload (pc := 129) E dX13_all_129 2 rfl ?_
        refine r_kVl (pc := 131) (As := [.int v100]) (rest := [.long (shlJ 1 v100)]) E wc_X13_back wi_RX13 hd_X13_back (ci := 13) rfl wl_RX13_234 wn_X13_back ws_X13_back dX13_all_131 (by decide) (Nat.le_of_ble_eq_true rfl) ⟨rfl, rfl⟩ (ctX13_back l x _ _ _) rfl (fun v131 M131 => ?_)
        refine r_ladd (pc := 134) E dX13_all_134 ?_
        refine r_lstore (pc := 135) (lf := fun v135 => [(10, v122), (9, v113), (8, v100), (1, p1), (2, p2), (4, p4), (5, p5), (6, p6), (7, p7)]) (lg := fun v135 => [(11, v135)]) (lk := fun v135 => [(0, p0)]) E dX13_all_135 (by decide) (fun _ => rfl) (fun _ => rfl) (fun _ => rfl) (fun v135 => ?_)
        refine r_iload (pc := 137) E dX13_all_137 1 rfl ?_
        refine r_kSi (pc := 139) (As := [.int v113]) (rest := []) E wc_X13_copyBase wi_RX13 hd_X13_copyBase wl_RX13_386 wt_X13_copyBase dX13_all_139 (by decide) (Nat.le_of_ble_eq_true rfl) ⟨rfl, rfl⟩ (ctX13_copyBase l x _ _) rfl (fun v139 M139 => ?_)
        refine r_aload_n (pc := 142) E dX13_all_142 rfl 0 rfl ?_
        refine r_iload (pc := 143) E dX13_all_143 1 rfl ?_
        refine r_kSi (pc := 145) (As := [.int v113]) (rest := [rv x p0, .int v139]) E wc_X13_copyBits wi_RX13 hd_X13_copyBits wl_RX13_389 wt_X13_copyBits dX13_all_145 (by decide) (Nat.le_of_ble_eq_true rfl) ⟨rfl, rfl⟩ (ctX13_copyBits l x _ _) rfl (fun v145 M145 => ?_)
        refine r_kVl (pc := 148) (As := [.int v145]) (rest := [.int v139]) E wc_X13_back wi_RX13 hd_X13_back (ci := 13) rfl wl_RX13_234 wn_X13_back ws_X13_back dX13_all_148 (by decide) (Nat.le_of_ble_eq_true rfl) ⟨rfl, rfl⟩ (ctX13_back l x _ _ _) rfl (fun v148 M148 => ?_)
        refine r_l2i (pc := 151) E dX13_all_151 ?_
        refine r_iadd (pc := 152) E dX13_all_152 ?_
        refine r_istore (pc := 153) (lf := fun v153 => [(13, v153), (10, v122), (9, v113), (8, v100), (1, p1), (2, p2), (4, p4), (5, p5), (6, p6), (7, p7)]) (lg := fun v153 => [(11, v135)]) (lk := fun v153 => [(0, p0)]) E dX13_all_153 (by decide) (fun _ => rfl) (fun _ => rfl) (fun _ => rfl) (fun v153 => ?_)
        refine r_iload (pc := 155) E dX13_all_155 1 rfl ?_
        refine r_kSi (pc := 157) (As := [.int v122]) (rest := []) E wc_X13_letterBase wi_RX13 hd_X13_letterBase wl_RX13_392 wt_X13_letterBase dX13_all_157 (by decide) (Nat.le_of_ble_eq_true rfl) ⟨rfl, rfl⟩ (ctX13_letterBase l x _ _) rfl (fun v157 M157 => ?_)
        refine r_aload_n (pc := 160) E dX13_all_160 rfl 0 rfl ?_
        refine r_iload (pc := 161) E dX13_all_161 1 rfl ?_
        refine r_kSi (pc := 163) (As := [.int v122]) (rest := [rv x p0, .int v157]) E wc_X13_letterBits wi_RX13 hd_X13_letterBits wl_RX13_395 wt_X13_letterBits dX13_all_163 (by decide) (Nat.le_of_ble_eq_true rfl) ⟨rfl, rfl⟩ (ctX13_letterBits l x _ _) rfl (fun v163 M163 => ?_)
        refine r_kVl (pc := 166) (As := [.int v163]) (rest := [.int v157]) E wc_X13_back wi_RX13 hd_X13_back (ci := 13) rfl wl_RX13_234 wn_X13_back ws_X13_back dX13_all_166 (by decide) (Nat.le_of_ble_eq_true rfl) ⟨rfl, rfl⟩ (ctX13_back l x _ _ _) rfl (fun v166 M166 => ?_)
        refine r_l2i (pc := 169) E dX13_all_169 ?_
        refine r_iadd (pc := 170) E dX13_all_170 ?_
        refine r_istore (pc := 171) (lf := fun v171 => [(14, v171), (13, v153), (10, v122), (9, v113), (8, v100), (1, p1), (2, p2), (4, p4), (5, p5), (6, p6), (7, p7)]) (lg := fun v171 => [(11, v135)]) (lk := fun v171 => [(0, p0)]) E dX13_all_171 (by decide) (fun _ => rfl) (fun _ => rfl) (fun _ => rfl) (fun v171 => ?_)
        refine r_aload_n (pc := 173) E dX13_all_173 rfl 0 rfl ?_
        refine r_getZ (pc := 174) E fd_13_9 wf_RX13_196 dX13_all_174 (fun v174 => ?_)
        refine r_if_ne (pc := 177) (tgt := 270) E dX13_all_177 (by decide) ?_ ?_
        · exact r_sub [5, 6, 7, 8, 9, 10, 1, 0] [0] [0] rfl rfl rfl (hL270 k76 hk76 p0 p1 p2 p4 p5 p6 p7 v135 v153 v171 _)
        · refine r_iload (pc := 180) E dX13_all_180 10 rfl ?_
          refine r_iload_n (pc := 182) E dX13_all_182 rfl 5 rfl ?_
          refine r_iconst (pc := 183) (v := 1) E dX13_all_183 (by decide) ?_
          refine r_isub (pc := 184) E dX13_all_184 ?_
          refine r_icmp_ge (pc := 185) (tgt := 270) E dX13_all_185 (by decide) ?_ ?_
          · exact r_sub [5, 6, 7, 8, 9, 10, 1, 0] [0] [0] rfl rfl rfl (hL270 k76 hk76 p0 p1 p2 p4 p5 p6 p7 v135 v153 v171 _)
          · refine r_aload_n (pc := 188) E dX13_all_188 rfl 0 rfl ?_
            refine r_getA (pc := 189) E fd_13_16 wf_RX13_34 dX13_all_189 (fun v189 => ?_)
            refine r_iload (pc := 192) E dX13_all_192 7 rfl ?_
            refine r_iaload (pc := 194) E dX13_all_194 (fun v194 => ?_)
            refine r_aload_n (pc := 195) E dX13_all_195 rfl 0 rfl ?_
            refine r_aload_n (pc := 196) E dX13_all_196 rfl 0 rfl ?_
            refine r_getA (pc := 197) E fd_13_15 wf_RX13_31 dX13_all_197 (fun v197 => ?_)
            refine r_iload (pc := 200) E dX13_all_200 7 rfl ?_
            refine r_baload (pc := 202) E dX13_all_202 (fun v202 => ?_)
            refine r_kVl (pc := 203) (As := [.int v202]) (rest := [.int v194]) E wc_X13_back wi_RX13 hd_X13_back (ci := 13) rfl wl_RX13_234 wn_X13_back ws_X13_back dX13_all_203 (by decide) (Nat.le_of_ble_eq_true rfl) ⟨rfl, rfl⟩ (ctX13_back l x _ _ _) rfl (fun v203 M203 => ?_)
            refine r_l2i (pc := 206) E dX13_all_206 ?_
            refine r_iadd (pc := 207) E dX13_all_207 ?_
            refine r_istore (pc := 208) (lf := fun v208 => [(4, v208), (14, v171), (13, v153), (10, v122), (9, v113), (8, v100), (1, p1), (2, p2), (5, p5), (6, p6), (7, p7)]) (lg := fun v208 => [(11, v135)]) (lk := fun v208 => [(0, p0)]) E dX13_all_208 (by decide) (fun _ => rfl) (fun _ => rfl) (fun _ => rfl) (fun v208 => ?_)
            refine r_aload_n (pc := 210) E dX13_all_210 rfl 0 rfl ?_
            refine r_getA (pc := 211) E fd_13_16 wf_RX13_34 dX13_all_211 (fun v211 => ?_)
            refine r_sipush (pc := 214) (v := 1024) E dX13_all_214 (by decide) ?_
            refine r_iload (pc := 217) E dX13_all_217 9 rfl ?_
            refine r_iadd (pc := 219) E dX13_all_219 ?_
            refine r_iaload (pc := 220) E dX13_all_220 (fun v220 => ?_)
            refine r_aload_n (pc := 221) E dX13_all_221 rfl 0 rfl ?_
            refine r_aload_n (pc := 222) E dX13_all_222 rfl 0 rfl ?_
            refine r_getA (pc := 223) E fd_13_15 wf_RX13_31 dX13_all_223 (fun v223 => ?_)
            refine r_sipush (pc := 226) (v := 1024) E dX13_all_226 (by decide) ?_
            refine r_iload (pc := 229) E dX13_all_229 9 rfl ?_
            refine r_iadd (pc := 231) E dX13_all_231 ?_
            refine r_baload (pc := 232) E dX13_all_232 (fun v232 => ?_)
            refine r_kVl (pc := 233) (As := [.int v232]) (rest := [.int v220]) E wc_X13_back wi_RX13 hd_X13_back (ci := 13) rfl wl_RX13_234 wn_X13_back ws_X13_back dX13_all_233 (by decide) (Nat.le_of_ble_eq_true rfl) ⟨rfl, rfl⟩ (ctX13_back l x _ _ _) rfl (fun v233 M233 => ?_)
            refine r_l2i (pc := 236) E dX13_all_236 ?_
            refine r_iadd (pc := 237) E dX13_all_237 ?_
            refine r_istore (pc := 238) (lf := fun v238 => [(6, v238), (4, v208), (14, v171), (13, v153), (10, v122), (9, v113), (8, v100), (1, p1), (2, p2), (5, p5), (7, p7)]) (lg := fun v238 => [(11, v135)]) (lk := fun v238 => [(0, p0)]) E dX13_all_238 (by decide) (fun _ => rfl) (fun _ => rfl) (fun _ => rfl) (fun v238 => ?_)
            refine r_aload_n (pc := 240) E dX13_all_240 rfl 0 rfl ?_
            refine r_getA (pc := 241) E fd_13_16 wf_RX13_34 dX13_all_241 (fun v241 => ?_)
            refine r_sipush (pc := 244) (v := 512) E dX13_all_244 (by decide) ?_
            refine r_iload (pc := 247) E dX13_all_247 9 rfl ?_
            refine r_iadd (pc := 249) E dX13_all_249 ?_
            refine r_iaload (pc := 250) E dX13_all_250 (fun v250 => ?_)
            refine r_aload_n (pc := 251) E dX13_all_251 rfl 0 rfl ?_
            refine r_aload_n (pc := 252) E dX13_all_252 rfl 0 rfl ?_
            refine r_getA (pc := 253) E fd_13_15 wf_RX13_31 dX13_all_253 (fun v253 => ?_)
            refine r_sipush (pc := 256) (v := 512) E dX13_all_256 (by decide) ?_
            refine r_iload (pc := 259) E dX13_all_259 9 rfl ?_
            refine r_iadd (pc := 261) E dX13_all_261 ?_
            refine r_baload (pc := 262) E dX13_all_262 (fun v262 => ?_)
            refine r_kVl (pc := 263) (As := [.int v262]) (rest := [.int v250]) E wc_X13_back wi_RX13 hd_X13_back (ci := 13) rfl wl_RX13_234 wn_X13_back ws_X13_back dX13_all_263 (by decide) (Nat.le_of_ble_eq_true rfl) ⟨rfl, rfl⟩ (ctX13_back l x _ _ _) rfl (fun v263 M263 => ?_)
            refine r_l2i (pc := 266) E dX13_all_266 ?_
            refine r_iadd (pc := 267) E dX13_all_267 ?_
            refine r_istore (pc := 268) (lf := fun v268 => [(5, v268), (6, v238), (4, v208), (14, v171), (13, v153), (10, v122), (9, v113), (8, v100), (1, p1), (2, p2), (7, p7)]) (lg := fun v268 => [(11, v135)]) (lk := fun v268 => [(0, p0)]) E dX13_all_268 (by decide) (fun _ => rfl) (fun _ => rfl) (fun _ => rfl) (fun v268 => ?_)
            exact r_sub [8, 9, 2, 0, 1, 10, 4, 3] [0] [0] rfl rfl rfl (hL270 k76 hk76 p0 p1 p2 v208 v268 v238 p7 v135 v153 v171 _)
  show RT p l e rmX13_all s m args below meth c x 15 (QM below args s x (fun _ : Unit => none) rmX13_all.cells rmX13_all.slots) 0 0 (fX13_all a0 a1 a2 a3 M) 0 [(1, a1), (2, a2), (3, a3)] [] [(0, a0)] [] M
  unfold fX13_all
  refine r_aload_n (pc := 0) E dX13_all_0 rfl 0 rfl ?_
  refine r_iload_n (pc := 1) E dX13_all_1 rfl 1 rfl ?_
  refine r_iload_n (pc := 2) E dX13_all_2 rfl 2 rfl ?_
  refine r_kVi (pc := 3) (As := [.int a2, .int a3]) (rest := []) E wc_X13_reversed wi_RX13 hd_X13_reversed (ci := 13) rfl wl_RX13_230 wn_X13_reversed ws_X13_reversed dX13_all_3 (by decide) (Nat.le_of_ble_eq_true rfl) ⟨rfl, rfl⟩ (ctX13_reversed l x _ _ _ _) rfl (fun v3 M3 => ?_)
  refine r_if_ne (pc := 6) (tgt := 18) E dX13_all_6 (by decide) ?_ ?_
  · refine r_aload_n (pc := 18) E dX13_all_18 rfl 0 rfl ?_
    refine r_aload_n (pc := 19) E dX13_all_19 rfl 0 rfl ?_
    refine r_getA (pc := 20) E fd_13_17 wf_RX13_37 dX13_all_20 (fun v20 => ?_)
    refine r_iconst (pc := 23) (v := 0) E dX13_all_23 (by decide) ?_
    refine r_iaload (pc := 24) E dX13_all_24 (fun v24 => ?_)
    refine r_kVl (pc := 25) (As := [.int v24]) (rest := []) E wc_X13_back wi_RX13 hd_X13_back (ci := 13) rfl wl_RX13_234 wn_X13_back ws_X13_back dX13_all_25 (by decide) (Nat.le_of_ble_eq_true rfl) ⟨rfl, rfl⟩ (ctX13_back l x _ _ _) rfl (fun v25 M25 => ?_)
    refine r_l2i (pc := 28) E dX13_all_28 ?_
    refine r_istore (pc := 29) (lf := fun v29 => [(4, v29), (1, a1), (2, a2), (3, a3)]) (lg := fun v29 => []) (lk := fun v29 => [(0, a0)]) E dX13_all_29 (by decide) (fun _ => rfl) (fun _ => rfl) (fun _ => rfl) (fun v29 => ?_)
    refine r_aload_n (pc := 31) E dX13_all_31 rfl 0 rfl ?_
    refine r_aload_n (pc := 32) E dX13_all_32 rfl 0 rfl ?_
    refine r_getA (pc := 33) E fd_13_17 wf_RX13_37 dX13_all_33 (fun v33 => ?_)
    refine r_iconst (pc := 36) (v := 1) E dX13_all_36 (by decide) ?_
    refine r_iaload (pc := 37) E dX13_all_37 (fun v37 => ?_)
    refine r_kVl (pc := 38) (As := [.int v37]) (rest := []) E wc_X13_back wi_RX13 hd_X13_back (ci := 13) rfl wl_RX13_234 wn_X13_back ws_X13_back dX13_all_38 (by decide) (Nat.le_of_ble_eq_true rfl) ⟨rfl, rfl⟩ (ctX13_back l x _ _ _) rfl (fun v38 M38 => ?_)
    refine r_l2i (pc := 41) E dX13_all_41 ?_
    refine r_istore (pc := 42) (lf := fun v42 => [(5, v42), (4, v29), (1, a1), (2, a2), (3, a3)]) (lg := fun v42 => []) (lk := fun v42 => [(0, a0)]) E dX13_all_42 (by decide) (fun _ => rfl) (fun _ => rfl) (fun _ => rfl) (fun v42 => ?_)
    refine r_aload_n (pc := 44) E dX13_all_44 rfl 0 rfl ?_
    refine r_aload_n (pc := 45) E dX13_all_45 rfl 0 rfl ?_
    refine r_getA (pc := 46) E fd_13_17 wf_RX13_37 dX13_all_46 (fun v46 => ?_)
    refine r_iconst (pc := 49) (v := 2) E dX13_all_49 (by decide) ?_
    refine r_iaload (pc := 50) E dX13_all_50 (fun v50 => ?_)
    refine r_kVl (pc := 51) (As := [.int v50]) (rest := []) E wc_X13_back wi_RX13 hd_X13_back (ci := 13) rfl wl_RX13_234 wn_X13_back ws_X13_back dX13_all_51 (by decide) (Nat.le_of_ble_eq_true rfl) ⟨rfl, rfl⟩ (ctX13_back l x _ _ _) rfl (fun v51 M51 => ?_)
    refine r_l2i (pc := 54) E dX13_all_54 ?_
    refine r_istore (pc := 55) (lf := fun v55 => [(6, v55), (5, v42), (4, v29), (1, a1), (2, a2), (3, a3)]) (lg := fun v55 => []) (lk := fun v55 => [(0, a0)]) E dX13_all_55 (by decide) (fun _ => rfl) (fun _ => rfl) (fun _ => rfl) (fun v55 => ?_)
    refine r_aload_n (pc := 57) E dX13_all_57 rfl 0 rfl ?_
    refine r_getZ (pc := 58) E fd_13_9 wf_RX13_196 dX13_all_58 (fun v58 => ?_)
    refine r_if_eq (pc := 61) (tgt := 73) E dX13_all_61 (by decide) ?_ ?_
    · refine r_iconst (pc := 73) (v := 0) E dX13_all_73 (by decide) ?_
      refine r_istore (pc := 74) (lf := fun v74 => [(7, v74), (6, v55), (5, v42), (4, v29), (1, a1), (2, a2), (3, a3)]) (lg := fun v74 => []) (lk := fun v74 => [(0, a0)]) E dX13_all_74 (by decide) (fun _ => rfl) (fun _ => rfl) (fun _ => rfl) (fun v74 => ?_)
      exact r_sub [4, 5, 3, 2, 1, 0] [] [0] rfl rfl rfl (hL76 a0 a1 a2 v29 v42 v55 v74 _)
    · refine r_aload_n (pc := 64) E dX13_all_64 rfl 0 rfl ?_
      refine r_bipush (pc := 65) (v := 17) E dX13_all_65 (by decide) ?_
      refine r_iload_n (pc := 67) E dX13_all_67 rfl 4 rfl ?_
      refine r_kVi (pc := 68) (As := [.int 17, .int a2]) (rest := []) E wc_X13_fails wi_RX13 hd_X13_fails (ci := 13) rfl wl_RX13_263 wn_X13_fails ws_X13_fails dX13_all_68 (by decide) (Nat.le_of_ble_eq_true rfl) ⟨rfl, rfl⟩ (ctX13_fails l x _ _ _ _) rfl (fun v68 M68 => ?_)
      refine r_pop (pc := 71) E dX13_all_71 rfl ?_
      exact e_void (pc := 72) E dX13_all_72
  · refine r_aload_n (pc := 9) E dX13_all_9 rfl 0 rfl ?_
    refine r_bipush (pc := 10) (v := 17) E dX13_all_10 (by decide) ?_
    refine r_iload_n (pc := 12) E dX13_all_12 rfl 1 rfl ?_
    refine r_kVi (pc := 13) (As := [.int 17, .int a2]) (rest := []) E wc_X13_fails wi_RX13 hd_X13_fails (ci := 13) rfl wl_RX13_263 wn_X13_fails ws_X13_fails dX13_all_13 (by decide) (Nat.le_of_ble_eq_true rfl) ⟨rfl, rfl⟩ (ctX13_fails l x _ _ _ _) rfl (fun v13 M13 => ?_)
    refine r_pop (pc := 16) E dX13_all_16 rfl ?_
    exact e_void (pc := 17) E dX13_all_17
