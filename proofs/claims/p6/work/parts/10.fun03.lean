def fX9_tooMany_L24 (q0 : Int32) (M : Mem) : Option (Int32 × Mem) :=
  rtZ q0 M
def fX9_tooMany (a0 : Option Nat) (M : Mem) : Option (Int32 × Mem) :=
  bo (gR M a0 9 10) fun v1 =>
  bo (gI M v1 8 1) fun v4 =>
  bo (gI M a0 9 17) fun v8 =>
  bo (gI M a0 9 13) fun v13 =>
  if (v4 - v8) ≤ v13 then (
    fX9_tooMany_L24 0 M
  ) else (
    fX9_tooMany_L24 1 M
  )
def rmX9_tooMany : Room := { frames := 0, cells := 0, slots := 0, locals := 0 }
set_option maxRecDepth 100000 in
set_option maxHeartbeats 4000000 in
theorem ctX9_tooMany (l : Launch) (x : Cx) (a0 : Option Nat) (M : Mem) (v : Int32) (N : Mem) (h : fX9_tooMany a0 M = some (v, N)) : CT l yX9_tooMany cX9_tooMany 1 (some (FieldType.boolean)) rmX9_tooMany x [rv x a0] M (some (.int v)) N := by
  refine ct_mk (enc := fun v : Int32 => some (.int v)) (li := []) (ll := []) (lr := [(0, a0)]) (by decide +kernel) (by simp [lg_sl, rv_cat, cat_int, cat_long]) (by simp [flat, lv_args, rv_cat, cat_int, cat_long]) h ?_
  intro p e s m args below meth c E
  have hL24 : ∀ (q0 : Int32) (M : Mem), RT p l e rmX9_tooMany s m args below meth c x 1 (QM below args s x (fun v : Int32 => some (.int v)) rmX9_tooMany.cells rmX9_tooMany.slots) 0 0 (fX9_tooMany_L24 q0 M) 24 [] [] [] [.int q0] M := by
    intro q0 M
    unfold fX9_tooMany_L24
    exact e_bool (pc := 24) E dX9_tooMany_24
  show RT p l e rmX9_tooMany s m args below meth c x 1 (QM below args s x (fun v : Int32 => some (.int v)) rmX9_tooMany.cells rmX9_tooMany.slots) 0 0 (fX9_tooMany a0 M) 0 [] [] [(0, a0)] [] M
  unfold fX9_tooMany
  refine r_aload_n (pc := 0) E dX9_tooMany_0 rfl 0 rfl ?_
  refine r_getR (pc := 1) E fd_9_10 wf_RX9_47 dX9_tooMany_1 (fun v1 => ?_)
  refine r_getI (pc := 4) E fd_8_1 wf_RX9_65 dX9_tooMany_4 (fun v4 => ?_)
  refine r_aload_n (pc := 7) E dX9_tooMany_7 rfl 0 rfl ?_
  refine r_getI (pc := 8) E fd_9_17 wf_RX9_145 dX9_tooMany_8 (fun v8 => ?_)
  refine r_isub (pc := 11) E dX9_tooMany_11 ?_
  refine r_aload_n (pc := 12) E dX9_tooMany_12 rfl 0 rfl ?_
  refine r_getI (pc := 13) E fd_9_13 wf_RX9_84 dX9_tooMany_13 (fun v13 => ?_)
  refine r_icmp_le (pc := 16) (tgt := 23) E dX9_tooMany_16 (by decide) ?_ ?_
  · refine r_iconst (pc := 23) (v := 0) E dX9_tooMany_23 (by decide) ?_
    exact r_sub [] [] [] rfl rfl rfl (hL24 0 _)
  · refine r_iconst (pc := 19) (v := 1) E dX9_tooMany_19 (by decide) ?_
    refine r_goto (pc := 20) (tgt := 24) E dX9_tooMany_20 (by decide) ?_
    exact r_sub [] [] [] rfl rfl rfl (hL24 1 _)
def fX12_remember_L17 (p0 : Option Nat) (p2 : Int32) (M : Mem) : Option (Unit × Mem) :=
  bo (aI M p0 15 0) fun v21 =>
  bo (wI M p0 1 v21) fun M22 =>
  bo (wI M22 p0 0 p2) fun M26 =>
  some ((), M26)
def fX12_remember (a0 : Option Nat) (a1 : Int32) (a2 : Int32) (M : Mem) : Option (Unit × Mem) :=
  if a1 = 1 then (
    some ((), M)
  ) else (
    if a1 = 2 then (
      fX12_remember_L17 a0 a2 M
    ) else (
      bo (aI M a0 15 1) fun v15 =>
      bo (wI M a0 2 v15) fun M16 =>
      fX12_remember_L17 a0 a2 M16
    )
  )
def rmX12_remember : Room := { frames := 0, cells := 0, slots := 0, locals := 0 }
set_option maxRecDepth 100000 in
set_option maxHeartbeats 4000000 in
theorem ctX12_remember (l : Launch) (x : Cx) (a0 : Option Nat) (a1 : Int32) (a2 : Int32) (M : Mem) (v : Unit) (N : Mem) (h : fX12_remember a0 a1 a2 M = some (v, N)) : CT l yX12_remember cX12_remember 3 (none) rmX12_remember x [rv x a0, .int a1, .int a2] M none N := by
  refine ct_mk (enc := fun _ : Unit => none) (li := [(1, a1), (2, a2)]) (ll := []) (lr := [(0, a0)]) (by decide +kernel) (by simp [lg_sl, rv_cat, cat_int, cat_long]) (by simp [flat, lv_args, rv_cat, cat_int, cat_long]) h ?_
  intro p e s m args below meth c E
  have hL17 : ∀ (p0 : Option Nat) (p2 : Int32) (M : Mem), RT p l e rmX12_remember s m args below meth c x 3 (QM below args s x (fun _ : Unit => none) rmX12_remember.cells rmX12_remember.slots) 0 0 (fX12_remember_L17 p0 p2 M) 17 [(2, p2)] [] [(0, p0)] [] M := by
    intro p0 p2 M
    unfold fX12_remember_L17
    refine r_aload_n (pc := 17) E dX12_remember_17 rfl 0 rfl ?_
    refine r_iconst (pc := 18) (v := 1) E dX12_remember_18 (by decide) ?_
    refine r_aload_n (pc := 19) E dX12_remember_19 rfl 0 rfl ?_
    refine r_iconst (pc := 20) (v := 0) E dX12_remember_20 (by decide) ?_
    refine r_iaload (pc := 21) E dX12_remember_21 (fun v21 => ?_)
    refine r_iastore (pc := 22) E dX12_remember_22 (fun M22 => ?_)
    refine r_aload_n (pc := 23) E dX12_remember_23 rfl 0 rfl ?_
    refine r_iconst (pc := 24) (v := 0) E dX12_remember_24 (by decide) ?_
    refine r_iload_n (pc := 25) E dX12_remember_25 rfl 0 rfl ?_
    refine r_iastore (pc := 26) E dX12_remember_26 (fun M26 => ?_)
    exact e_void (pc := 27) E dX12_remember_27
  show RT p l e rmX12_remember s m args below meth c x 3 (QM below args s x (fun _ : Unit => none) rmX12_remember.cells rmX12_remember.slots) 0 0 (fX12_remember a0 a1 a2 M) 0 [(1, a1), (2, a2)] [] [(0, a0)] [] M
  unfold fX12_remember
  refine r_iload_n (pc := 0) E dX12_remember_0 rfl 0 rfl ?_
  refine r_iconst (pc := 1) (v := 1) E dX12_remember_1 (by decide) ?_
  refine r_icmp_ne (pc := 2) (tgt := 6) E dX12_remember_2 (by decide) ?_ ?_
  · refine r_iload_n (pc := 6) E dX12_remember_6 rfl 0 rfl ?_
    refine r_iconst (pc := 7) (v := 2) E dX12_remember_7 (by decide) ?_
    refine r_icmp_eq (pc := 8) (tgt := 17) E dX12_remember_8 (by decide) ?_ ?_
    · exact r_sub [1] [] [0] rfl rfl rfl (hL17 a0 a2 _)
    · refine r_aload_n (pc := 11) E dX12_remember_11 rfl 0 rfl ?_
      refine r_iconst (pc := 12) (v := 2) E dX12_remember_12 (by decide) ?_
      refine r_aload_n (pc := 13) E dX12_remember_13 rfl 0 rfl ?_
      refine r_iconst (pc := 14) (v := 1) E dX12_remember_14 (by decide) ?_
      refine r_iaload (pc := 15) E dX12_remember_15 (fun v15 => ?_)
      refine r_iastore (pc := 16) E dX12_remember_16 (fun M16 => ?_)
      exact r_sub [1] [] [0] rfl rfl rfl (hL17 a0 a2 _)
  · exact e_void (pc := 5) E dX12_remember_5
def fX7_note_L68 (p0 : Option Nat) (M : Mem) : Option (Unit × Mem) :=
  bo (gR M p0 7 2) fun v69 =>
  bo (aI M v69 15 4) fun v74 =>
  bo (wI M v69 4 (v74 + 1)) fun M77 =>
  some ((), M77)
def fX7_note (a0 : Option Nat) (a1 : Int32) (a2 : Int32) (a3 : Int32) (a4 : Int32) (M : Mem) : Option (Unit × Mem) :=
  bo (gR M a0 7 2) fun v1 =>
  bo (aI M v1 15 4) fun v5 =>
  bn (v5) fun v6 =>
  if v6 < 0 then (
    fX7_note_L68 a0 M
  ) else (
    if 2000 ≤ v6 then (
      fX7_note_L68 a0 M
    ) else (
      bo (gR M a0 7 3) fun v22 =>
      bo (wI M v22 (4 * v6) a1) fun M30 =>
      bo (gR M30 a0 7 3) fun v32 =>
      bo (wI M30 v32 ((4 * v6) + 1) a2) fun M42 =>
      bo (gR M42 a0 7 3) fun v44 =>
      bo (wI M42 v44 ((4 * v6) + 2) a3) fun M54 =>
      bo (gR M54 a0 7 3) fun v56 =>
      bo (wI M54 v56 ((4 * v6) + 3) a4) fun M67 =>
      fX7_note_L68 a0 M67
    )
  )
def rmX7_note : Room := { frames := 0, cells := 0, slots := 0, locals := 0 }
set_option maxRecDepth 100000 in
set_option maxHeartbeats 4000000 in
theorem ctX7_note (l : Launch) (x : Cx) (a0 : Option Nat) (a1 : Int32) (a2 : Int32) (a3 : Int32) (a4 : Int32) (M : Mem) (v : Unit) (N : Mem) (h : fX7_note a0 a1 a2 a3 a4 M = some (v, N)) : CT l yX7_note cX7_note 6 (none) rmX7_note x [rv x a0, .int a1, .int a2, .int a3, .int a4] M none N := by
  refine ct_mk (enc := fun _ : Unit => none) (li := [(1, a1), (2, a2), (3, a3), (4, a4)]) (ll := []) (lr := [(0, a0)]) (by decide +kernel) (by simp [lg_sl, rv_cat, cat_int, cat_long]) (by simp [flat, lv_args, rv_cat, cat_int, cat_long]) h ?_
  intro p e s m args below meth c E
  have hL68 : ∀ (p0 : Option Nat) (M : Mem), RT p l e rmX7_note s m args below meth c x 6 (QM below args s x (fun _ : Unit => none) rmX7_note.cells rmX7_note.slots) 0 0 (fX7_note_L68 p0 M) 68 [] [] [(0, p0)] [] M := by
    intro p0 M
    unfold fX7_note_L68
    refine r_aload_n (pc := 68) E dX7_note_68 rfl 0 rfl ?_
    refine r_getA (pc := 69) E fd_7_2 wf_RX7_9 dX7_note_69 (fun v69 => ?_)
    refine r_iconst (pc := 72) (v := 4) E dX7_note_72 (by decide) ?_
    refine r_dup2 (pc := 73) E dX7_note_73 rfl (rv_cat _ _) ?_
    refine r_iaload (pc := 74) E dX7_note_74 (fun v74 => ?_)
    refine r_iconst (pc := 75) (v := 1) E dX7_note_75 (by decide) ?_
    refine r_iadd (pc := 76) E dX7_note_76 ?_
    refine r_iastore (pc := 77) E dX7_note_77 (fun M77 => ?_)
    exact e_void (pc := 78) E dX7_note_78
  show RT p l e rmX7_note s m args below meth c x 6 (QM below args s x (fun _ : Unit => none) rmX7_note.cells rmX7_note.slots) 0 0 (fX7_note a0 a1 a2 a3 a4 M) 0 [(1, a1), (2, a2), (3, a3), (4, a4)] [] [(0, a0)] [] M
  unfold fX7_note
  refine r_aload_n (pc := 0) E dX7_note_0 rfl 0 rfl ?_
  refine r_getA (pc := 1) E fd_7_2 wf_RX7_9 dX7_note_1 (fun v1 => ?_)
  refine r_iconst (pc := 4) (v := 4) E dX7_note_4 (by decide) ?_
  refine r_iaload (pc := 5) E dX7_note_5 (fun v5 => ?_)
  refine r_istore (pc := 6) (lf := fun v6 => [(5, v6), (1, a1), (2, a2), (3, a3), (4, a4)]) (lg := fun v6 => []) (lk := fun v6 => [(0, a0)]) E dX7_note_6 (by decide) (fun _ => rfl) (fun _ => rfl) (fun _ => rfl) (fun v6 => ?_)
  refine r_iload (pc := 8) E dX7_note_8 0 rfl ?_
  refine r_if_lt (pc := 10) (tgt := 68) E dX7_note_10 (by decide) ?_ ?_
  · exact r_sub [] [] [0] rfl rfl rfl (hL68 a0 _)
  · refine r_iload (pc := 13) E dX7_note_13 0 rfl ?_
    refine r_sipush (pc := 15) (v := 2000) E dX7_note_15 (by decide) ?_
    refine r_icmp_ge (pc := 18) (tgt := 68) E dX7_note_18 (by decide) ?_ ?_
    · exact r_sub [] [] [0] rfl rfl rfl (hL68 a0 _)
    · refine r_aload_n (pc := 21) E dX7_note_21 rfl 0 rfl ?_
      refine r_getA (pc := 22) E fd_7_3 wf_RX7_15 dX7_note_22 (fun v22 => ?_)
      refine r_iconst (pc := 25) (v := 4) E dX7_note_25 (by decide) ?_
      refine r_iload (pc := 26) E dX7_note_26 0 rfl ?_
      refine r_imul (pc := 28) E dX7_note_28 ?_
      refine r_iload_n (pc := 29) E dX7_note_29 rfl 1 rfl ?_
      refine r_iastore (pc := 30) E dX7_note_30 (fun M30 => ?_)
      refine r_aload_n (pc := 31) E dX7_note_31 rfl 0 rfl ?_
      refine r_getA (pc := 32) E fd_7_3 wf_RX7_15 dX7_note_32 (fun v32 => ?_)
      refine r_iconst (pc := 35) (v := 4) E dX7_note_35 (by decide) ?_
      refine r_iload (pc := 36) E dX7_note_36 0 rfl ?_
      refine r_imul (pc := 38) E dX7_note_38 ?_
      refine r_iconst (pc := 39) (v := 1) E dX7_note_39 (by decide) ?_
      refine r_iadd (pc := 40) E dX7_note_40 ?_
      refine r_iload_n (pc := 41) E dX7_note_41 rfl 2 rfl ?_
      refine r_iastore (pc := 42) E dX7_note_42 (fun M42 => ?_)
      refine r_aload_n (pc := 43) E dX7_note_43 rfl 0 rfl ?_
      refine r_getA (pc := 44) E fd_7_3 wf_RX7_15 dX7_note_44 (fun v44 => ?_)
      refine r_iconst (pc := 47) (v := 4) E dX7_note_47 (by decide) ?_
      refine r_iload (pc := 48) E dX7_note_48 0 rfl ?_
      refine r_imul (pc := 50) E dX7_note_50 ?_
      refine r_iconst (pc := 51) (v := 2) E dX7_note_51 (by decide) ?_
      refine r_iadd (pc := 52) E dX7_note_52 ?_
      refine r_iload_n (pc := 53) E dX7_note_53 rfl 3 rfl ?_
      refine r_iastore (pc := 54) E dX7_note_54 (fun M54 => ?_)
      refine r_aload_n (pc := 55) E dX7_note_55 rfl 0 rfl ?_
      refine r_getA (pc := 56) E fd_7_3 wf_RX7_15 dX7_note_56 (fun v56 => ?_)
      refine r_iconst (pc := 59) (v := 4) E dX7_note_59 (by decide) ?_
      refine r_iload (pc := 60) E dX7_note_60 0 rfl ?_
      refine r_imul (pc := 62) E dX7_note_62 ?_
      refine r_iconst (pc := 63) (v := 3) E dX7_note_63 (by decide) ?_
      refine r_iadd (pc := 64) E dX7_note_64 ?_
      refine r_iload (pc := 65) E dX7_note_65 4 rfl ?_
      refine r_iastore (pc := 67) E dX7_note_67 (fun M67 => ?_)
      exact r_sub [] [] [0] rfl rfl rfl (hL68 a0 _)
def fX9_runOne_L52 (p0 : Option Nat) (p3 : Int64) (p5 : Int32) (p6 : Int32) (M : Mem) : Option (Int32 × Mem) :=
  bo (gR M p0 9 8) fun v53 =>
  bo (gI M v53 0 3) fun v56 =>
  if v56 = 0 then (
    bo (gR M p0 9 7) fun v68 =>
    bo (gR M v68 4 0) fun v71 =>
    bo (gI M v71 8 1) fun v74 =>
    bo (gI M p0 9 18) fun v78 =>
    if p6 ≤ (v74 - v78) then (
      bo (chk M p0 9) fun _ => bd (fX9_putLetters p0 p6 M) fun v91 M91 =>
      bo (gR M91 p0 9 5) fun v95 =>
      bd (fX12_offsetOf v95 p3 p6 M91) fun v101 M101 =>
      bn (v101) fun v104 =>
      bo (chk M101 p0 9) fun _ => bd (fX9_reaches p0 v104 M101) fun v109 M109 =>
      if v109 = 0 then (
        some (18, M109)
      ) else (
        bo (chk M109 p0 9) fun _ => bd (fX9_putCopy p0 v104.toInt32 p5 M109) fun v124 M124 =>
        bo (chk M124 p0 9) fun _ => bd (fX9_tooMany p0 M124) fun v128 M128 =>
        if v128 = 0 then (
          bo (gR M128 p0 9 5) fun v138 =>
          bd (fX12_whichOf p3 p6 M128) fun v144 M144 =>
          bd (fX12_remember v138 v144 v104.toInt32 M144) fun v150 M150 =>
          bo (gR M150 p0 9 6) fun v154 =>
          bo (chk M150 v154 7) fun _ => bd (fX7_note v154 p6 p5 p3.toInt32 v104.toInt32 M150) fun v166 M166 =>
          bo (gR M166 p0 9 6) fun v170 =>
          bo (gR M166 p0 9 5) fun v174 =>
          bo (chk M166 v170 7) fun _ => bd (fX7_noteRemembered v170 v174 M166) fun v177 M177 =>
          some (0, M177)
        ) else (
          some (20, M128)
        )
      )
    ) else (
      some (19, M)
    )
  ) else (
    some (17, M)
  )
def fX9_runOne (a0 : Option Nat) (a1 : Int32) (M : Mem) : Option (Int32 × Mem) :=
  bo (chk M a0 9) fun _ => bd (fX9_symbolOf a0 1 M) fun v2 M2 =>
  bn (v2) fun v5 =>
  bo (gR M2 a0 9 8) fun v10 =>
  bo (chk M2 v10 0) fun _ => bd (fX0_take v10 v5 M2) fun v14 M14 =>
  bn ((shlJ 1 v5) + v14) fun v18 =>
  bo (chk M14 a0 9) fun _ => bd (fX9_lengthOf a0 2 M14) fun v21 M21 =>
  bn (v21) fun v24 =>
  bo (chk M21 a0 9) fun _ => bd (fX9_lengthOf a0 0 M21) fun v28 M28 =>
  bn (v28) fun v31 =>
  if a1 = 0 then (
    bo (chk M28 a0 9) fun _ => bd (fX9_goOn a0 0 M28) fun v39 M39 =>
    bo (chk M39 a0 9) fun _ => bd (fX9_goOn a0 2 M39) fun v44 M44 =>
    bo (chk M44 a0 9) fun _ => bd (fX9_goOn a0 1 M44) fun v49 M49 =>
    fX9_runOne_L52 a0 v18 v24 v31 M49
  ) else (
    fX9_runOne_L52 a0 v18 v24 v31 M28
  )
def rmX9_runOne : Room := { frames := 3, cells := 0, slots := 0, locals := 70 }
set_option maxRecDepth 100000 in
set_option maxHeartbeats 4000000 in
theorem ctX9_runOne (l : Launch) (x : Cx) (a0 : Option Nat) (a1 : Int32) (M : Mem) (v : Int32) (N : Mem) (h : fX9_runOne a0 a1 M = some (v, N)) : CT l yX9_runOne cX9_runOne 9 (some (FieldType.int)) rmX9_runOne x [rv x a0, .int a1] M (some (.int v)) N := by
  refine ct_mk (enc := fun v : Int32 => some (.int v)) (li := [(1, a1)]) (ll := []) (lr := [(0, a0)]) (by decide +kernel) (by simp [lg_sl, rv_cat, cat_int, cat_long]) (by simp [flat, lv_args, rv_cat, cat_int, cat_long]) h ?_
  intro p e s m args below meth c E
  have hL52 : ∀ (p0 : Option Nat) (p3 : Int64) (p5 : Int32) (p6 : Int32) (M : Mem), RT p l e rmX9_runOne s m args below meth c x 9 (QM below args s x (fun v : Int32 => some (.int v)) rmX9_runOne.cells rmX9_runOne.slots) 0 0 (fX9_runOne_L52 p0 p3 p5 p6 M) 52 [(5, p5), (6, p6)] [(3, p3)] [(0, p0)] [] M := by
    intro p0 p3 p5 p6 M
    unfold fX9_runOne_L52
    refine r_aload_n (pc := 52) E dX9_runOne_52 rfl 0 rfl ?_
    refine r_getR (pc := 53) E fd_9_8 wf_RX9_34 dX9_runOne_53 (fun v53 => ?_)
    refine r_getZ (pc := 56) E fd_0_3 wf_RX9_190 dX9_runOne_56 (fun v56 => ?_)
    refine r_if_eq (pc := 59) (tgt := 65) E dX9_runOne_59 (by decide) ?_ ?_
    · refine r_iload (pc := 65) E dX9_runOne_65 1 rfl ?_
      refine r_aload_n (pc := 67) E dX9_runOne_67 rfl 0 rfl ?_
      refine r_getR (pc := 68) E fd_9_7 wf_RX9_57 dX9_runOne_68 (fun v68 => ?_)
      refine r_getR (pc := 71) E fd_4_0 wf_RX9_167 dX9_runOne_71 (fun v71 => ?_)
      refine r_getI (pc := 74) E fd_8_1 wf_RX9_65 dX9_runOne_74 (fun v74 => ?_)
      refine r_aload_n (pc := 77) E dX9_runOne_77 rfl 0 rfl ?_
      refine r_getI (pc := 78) E fd_9_18 wf_RX9_142 dX9_runOne_78 (fun v78 => ?_)
      refine r_isub (pc := 81) E dX9_runOne_81 ?_
      refine r_icmp_le (pc := 82) (tgt := 88) E dX9_runOne_82 (by decide) ?_ ?_
      · refine r_aload_n (pc := 88) E dX9_runOne_88 rfl 0 rfl ?_
        refine r_iload (pc := 89) E dX9_runOne_89 1 rfl ?_
        refine r_kVv (pc := 91) (As := [.int p6]) (rest := []) E wc_X9_putLetters wi_RX9 hd_X9_putLetters (ci := 9) rfl wl_RX9_172 wn_X9_putLetters ws_X9_putLetters dX9_runOne_91 (by decide) (Nat.le_of_ble_eq_true rfl) ⟨rfl, rfl⟩ (ctX9_putLetters l x _ _ _) rfl (fun v91 M91 => ?_)
        refine r_aload_n (pc := 94) E dX9_runOne_94 rfl 0 rfl ?_
        refine r_getA (pc := 95) E fd_9_5 wf_RX9_28 dX9_runOne_95 (fun v95 => ?_)
        refine r_lload_n (pc := 98) E dX9_runOne_98 rfl 0 rfl ?_
        refine r_iload (pc := 99) E dX9_runOne_99 1 rfl ?_
        refine r_kSNl (pc := 101) (As := [rv x v95, .long p3, .int p6]) (rest := []) E wc_X12_offsetOf wi_RX12 hd_X12_offsetOf (host := "TabledFrames") (by decide +kernel) wt_X12_offsetOf dX9_runOne_101 (by decide) (Nat.le_of_ble_eq_true rfl) ⟨rfl, rfl⟩ (ctX12_offsetOf l x _ _ _ _) rfl (fun v101 M101 => ?_)
        refine r_lstore (pc := 104) (lf := fun v104 => [(5, p5), (6, p6)]) (lg := fun v104 => [(7, v104), (3, p3)]) (lk := fun v104 => [(0, p0)]) E dX9_runOne_104 (by decide) (fun _ => rfl) (fun _ => rfl) (fun _ => rfl) (fun v104 => ?_)
        refine r_aload_n (pc := 106) E dX9_runOne_106 rfl 0 rfl ?_
        refine r_lload (pc := 107) E dX9_runOne_107 0 rfl ?_
        refine r_kVi (pc := 109) (As := [.long v104]) (rest := []) E wc_X9_reaches wi_RX9 hd_X9_reaches (ci := 9) rfl wl_RX9_197 wn_X9_reaches ws_X9_reaches dX9_runOne_109 (by decide) (Nat.le_of_ble_eq_true rfl) ⟨rfl, rfl⟩ (ctX9_reaches l x _ _ _) rfl (fun v109 M109 => ?_)
        refine r_if_ne (pc := 112) (tgt := 118) E dX9_runOne_112 (by decide) ?_ ?_
        · refine r_aload_n (pc := 118) E dX9_runOne_118 rfl 0 rfl ?_
          refine r_lload (pc := 119) E dX9_runOne_119 0 rfl ?_
          refine r_l2i (pc := 121) E dX9_runOne_121 ?_
          refine r_iload (pc := 122) E dX9_runOne_122 0 rfl ?_
          refine r_kVv (pc := 124) (As := [.int v104.toInt32, .int p5]) (rest := []) E wc_X9_putCopy wi_RX9 hd_X9_putCopy (ci := 9) rfl wl_RX9_201 wn_X9_putCopy ws_X9_putCopy dX9_runOne_124 (by decide) (Nat.le_of_ble_eq_true rfl) ⟨rfl, rfl⟩ (ctX9_putCopy l x _ _ _ _) rfl (fun v124 M124 => ?_)
          refine r_aload_n (pc := 127) E dX9_runOne_127 rfl 0 rfl ?_
          refine r_kVi (pc := 128) (As := []) (rest := []) E wc_X9_tooMany wi_RX9 hd_X9_tooMany (ci := 9) rfl wl_RX9_175 wn_X9_tooMany ws_X9_tooMany dX9_runOne_128 (by decide) (Nat.le_of_ble_eq_true rfl) ⟨rfl, rfl⟩ (ctX9_tooMany l x _ _) rfl (fun v128 M128 => ?_)
          refine r_if_eq (pc := 131) (tgt := 137) E dX9_runOne_131 (by decide) ?_ ?_
          · refine r_aload_n (pc := 137) E dX9_runOne_137 rfl 0 rfl ?_
            refine r_getA (pc := 138) E fd_9_5 wf_RX9_28 dX9_runOne_138 (fun v138 => ?_)
            refine r_lload_n (pc := 141) E dX9_runOne_141 rfl 1 rfl ?_
            refine r_iload (pc := 142) E dX9_runOne_142 1 rfl ?_
            refine r_kSNi (pc := 144) (As := [.long p3, .int p6]) (rest := [rv x v138]) E wc_X12_whichOf wi_RX12 hd_X12_whichOf (host := "TabledFrames") (by decide +kernel) wt_X12_whichOf dX9_runOne_144 (by decide) (Nat.le_of_ble_eq_true rfl) ⟨rfl, rfl⟩ (ctX12_whichOf l x _ _ _) rfl (fun v144 M144 => ?_)
            refine r_lload (pc := 147) E dX9_runOne_147 0 rfl ?_
            refine r_l2i (pc := 149) E dX9_runOne_149 ?_
            refine r_kSNv (pc := 150) (As := [rv x v138, .int v144, .int v104.toInt32]) (rest := []) E wc_X12_remember wi_RX12 hd_X12_remember (host := "TabledFrames") (by decide +kernel) wt_X12_remember dX9_runOne_150 (by decide) (Nat.le_of_ble_eq_true rfl) ⟨rfl, rfl⟩ (ctX12_remember l x _ _ _ _) rfl (fun v150 M150 => ?_)
            refine r_aload_n (pc := 153) E dX9_runOne_153 rfl 0 rfl ?_
            refine r_getR (pc := 154) E fd_9_6 wf_RX9_53 dX9_runOne_154 (fun v154 => ?_)
            refine r_iload (pc := 157) E dX9_runOne_157 1 rfl ?_
            refine r_iload (pc := 159) E dX9_runOne_159 0 rfl ?_
            refine r_lload_n (pc := 161) E dX9_runOne_161 rfl 1 rfl ?_
            refine r_l2i (pc := 162) E dX9_runOne_162 ?_
            refine r_lload (pc := 163) E dX9_runOne_163 0 rfl ?_
            refine r_l2i (pc := 165) E dX9_runOne_165 ?_
            refine r_kVv (pc := 166) (As := [.int p6, .int p5, .int p3.toInt32, .int v104.toInt32]) (rest := []) E wc_X7_note wi_RX7 hd_X7_note (ci := 7) rfl wl_RX9_213 wn_X7_note ws_X7_note dX9_runOne_166 (by decide) (Nat.le_of_ble_eq_true rfl) ⟨rfl, rfl⟩ (ctX7_note l x _ _ _ _ _ _) rfl (fun v166 M166 => ?_)
            refine r_aload_n (pc := 169) E dX9_runOne_169 rfl 0 rfl ?_
            refine r_getR (pc := 170) E fd_9_6 wf_RX9_53 dX9_runOne_170 (fun v170 => ?_)
            refine r_aload_n (pc := 173) E dX9_runOne_173 rfl 0 rfl ?_
            refine r_getA (pc := 174) E fd_9_5 wf_RX9_28 dX9_runOne_174 (fun v174 => ?_)
            refine r_kVv (pc := 177) (As := [rv x v174]) (rest := []) E wc_X7_noteRemembered wi_RX7 hd_X7_noteRemembered (ci := 7) rfl wl_RX9_101 wn_X7_noteRemembered ws_X7_noteRemembered dX9_runOne_177 (by decide) (Nat.le_of_ble_eq_true rfl) ⟨rfl, rfl⟩ (ctX7_noteRemembered l x _ _ _) rfl (fun v177 M177 => ?_)
            refine r_iconst (pc := 180) (v := 0) E dX9_runOne_180 (by decide) ?_
            exact e_int (pc := 181) E dX9_runOne_181
          · refine r_bipush (pc := 134) (v := 20) E dX9_runOne_134 (by decide) ?_
            exact e_int (pc := 136) E dX9_runOne_136
        · refine r_bipush (pc := 115) (v := 18) E dX9_runOne_115 (by decide) ?_
          exact e_int (pc := 117) E dX9_runOne_117
      · refine r_bipush (pc := 85) (v := 19) E dX9_runOne_85 (by decide) ?_
        exact e_int (pc := 87) E dX9_runOne_87
    · refine r_bipush (pc := 62) (v := 17) E dX9_runOne_62 (by decide) ?_
      exact e_int (pc := 64) E dX9_runOne_64
  show RT p l e rmX9_runOne s m args below meth c x 9 (QM below args s x (fun v : Int32 => some (.int v)) rmX9_runOne.cells rmX9_runOne.slots) 0 0 (fX9_runOne a0 a1 M) 0 [(1, a1)] [] [(0, a0)] [] M
  unfold fX9_runOne
  refine r_aload_n (pc := 0) E dX9_runOne_0 rfl 0 rfl ?_
  refine r_iconst (pc := 1) (v := 1) E dX9_runOne_1 (by decide) ?_
  refine r_kVi (pc := 2) (As := [.int 1]) (rest := []) E wc_X9_symbolOf wi_RX9 hd_X9_symbolOf (ci := 9) rfl wl_RX9_181 wn_X9_symbolOf ws_X9_symbolOf dX9_runOne_2 (by decide) (Nat.le_of_ble_eq_true rfl) ⟨rfl, rfl⟩ (ctX9_symbolOf l x _ _ _) rfl (fun v2 M2 => ?_)
  refine r_istore_n (pc := 5) (lf := fun v5 => [(2, v5), (1, a1)]) (lg := fun v5 => []) (lk := fun v5 => [(0, a0)]) E dX9_runOne_5 rfl (by decide) (fun _ => rfl) (fun _ => rfl) (fun _ => rfl) (fun v5 => ?_)
  refine r_lconst (pc := 6) (v := 1) E dX9_runOne_6 (by decide) ?_
  refine r_iload_n (pc := 7) E dX9_runOne_7 rfl 0 rfl ?_
  refine r_lshl (pc := 8) E dX9_runOne_8 ?_
  refine r_aload_n (pc := 9) E dX9_runOne_9 rfl 0 rfl ?_
  refine r_getR (pc := 10) E fd_9_8 wf_RX9_34 dX9_runOne_10 (fun v10 => ?_)
  refine r_iload_n (pc := 13) E dX9_runOne_13 rfl 0 rfl ?_
  refine r_kVl (pc := 14) (As := [.int v5]) (rest := [.long (shlJ 1 v5)]) E wc_X0_take wi_RX0 hd_X0_take (ci := 0) rfl wl_RX9_159 wn_X0_take ws_X0_take dX9_runOne_14 (by decide) (Nat.le_of_ble_eq_true rfl) ⟨rfl, rfl⟩ (ctX0_take l x _ _ _) rfl (fun v14 M14 => ?_)
  refine r_ladd (pc := 17) E dX9_runOne_17 ?_
  refine r_lstore_n (pc := 18) (lf := fun v18 => [(2, v5), (1, a1)]) (lg := fun v18 => [(3, v18)]) (lk := fun v18 => [(0, a0)]) E dX9_runOne_18 rfl (by decide) (fun _ => rfl) (fun _ => rfl) (fun _ => rfl) (fun v18 => ?_)
  refine r_aload_n (pc := 19) E dX9_runOne_19 rfl 0 rfl ?_
  refine r_iconst (pc := 20) (v := 2) E dX9_runOne_20 (by decide) ?_
  refine r_kVi (pc := 21) (As := [.int 2]) (rest := []) E wc_X9_lengthOf wi_RX9 hd_X9_lengthOf (ci := 9) rfl wl_RX9_184 wn_X9_lengthOf ws_X9_lengthOf dX9_runOne_21 (by decide) (Nat.le_of_ble_eq_true rfl) ⟨rfl, rfl⟩ (ctX9_lengthOf l x _ _ _) rfl (fun v21 M21 => ?_)
  refine r_istore (pc := 24) (lf := fun v24 => [(5, v24), (2, v5), (1, a1)]) (lg := fun v24 => [(3, v18)]) (lk := fun v24 => [(0, a0)]) E dX9_runOne_24 (by decide) (fun _ => rfl) (fun _ => rfl) (fun _ => rfl) (fun v24 => ?_)
  refine r_aload_n (pc := 26) E dX9_runOne_26 rfl 0 rfl ?_
  refine r_iconst (pc := 27) (v := 0) E dX9_runOne_27 (by decide) ?_
  refine r_kVi (pc := 28) (As := [.int 0]) (rest := []) E wc_X9_lengthOf wi_RX9 hd_X9_lengthOf (ci := 9) rfl wl_RX9_184 wn_X9_lengthOf ws_X9_lengthOf dX9_runOne_28 (by decide) (Nat.le_of_ble_eq_true rfl) ⟨rfl, rfl⟩ (ctX9_lengthOf l x _ _ _) rfl (fun v28 M28 => ?_)
  refine r_istore (pc := 31) (lf := fun v31 => [(6, v31), (5, v24), (2, v5), (1, a1)]) (lg := fun v31 => [(3, v18)]) (lk := fun v31 => [(0, a0)]) E dX9_runOne_31 (by decide) (fun _ => rfl) (fun _ => rfl) (fun _ => rfl) (fun v31 => ?_)
  refine r_iload_n (pc := 33) E dX9_runOne_33 rfl 3 rfl ?_
  refine r_if_ne (pc := 34) (tgt := 52) E dX9_runOne_34 (by decide) ?_ ?_
  · exact r_sub [1, 0] [0] [0] rfl rfl rfl (hL52 a0 v18 v24 v31 _)
  · refine r_aload_n (pc := 37) E dX9_runOne_37 rfl 0 rfl ?_
    refine r_iconst (pc := 38) (v := 0) E dX9_runOne_38 (by decide) ?_
    refine r_kVv (pc := 39) (As := [.int 0]) (rest := []) E wc_X9_goOn wi_RX9 hd_X9_goOn (ci := 9) rfl wl_RX9_187 wn_X9_goOn ws_X9_goOn dX9_runOne_39 (by decide) (Nat.le_of_ble_eq_true rfl) ⟨rfl, rfl⟩ (ctX9_goOn l x _ _ _) rfl (fun v39 M39 => ?_)
    refine r_aload_n (pc := 42) E dX9_runOne_42 rfl 0 rfl ?_
    refine r_iconst (pc := 43) (v := 2) E dX9_runOne_43 (by decide) ?_
    refine r_kVv (pc := 44) (As := [.int 2]) (rest := []) E wc_X9_goOn wi_RX9 hd_X9_goOn (ci := 9) rfl wl_RX9_187 wn_X9_goOn ws_X9_goOn dX9_runOne_44 (by decide) (Nat.le_of_ble_eq_true rfl) ⟨rfl, rfl⟩ (ctX9_goOn l x _ _ _) rfl (fun v44 M44 => ?_)
    refine r_aload_n (pc := 47) E dX9_runOne_47 rfl 0 rfl ?_
    refine r_iconst (pc := 48) (v := 1) E dX9_runOne_48 (by decide) ?_
    refine r_kVv (pc := 49) (As := [.int 1]) (rest := []) E wc_X9_goOn wi_RX9 hd_X9_goOn (ci := 9) rfl wl_RX9_187 wn_X9_goOn ws_X9_goOn dX9_runOne_49 (by decide) (Nat.le_of_ble_eq_true rfl) ⟨rfl, rfl⟩ (ctX9_goOn l x _ _ _) rfl (fun v49 M49 => ?_)
    exact r_sub [1, 0] [0] [0] rfl rfl rfl (hL52 a0 v18 v24 v31 _)
def fX9_run_L215 (q0 : Int32) (M : Mem) : Option (Int32 × Mem) :=
  rtZ q0 M
def fX9_run_L210 (M : Mem) : Option (Int32 × Mem) :=
  fX9_run_L215 1 M
def fX9_run_L143 (p0 : Option Nat) (p2 : Int32) (M : Mem) : Option (Int32 × Mem) :=
  bo (gR M p0 9 7) fun v145 =>
  bo (gR M v145 4 0) fun v148 =>
  bo (gI M v148 8 1) fun v151 =>
  bo (gI M p0 9 18) fun v155 =>
  bo (chk M p0 9) fun _ => bd (fX9_putLetters p0 (v151 - v155) M) fun v159 M159 =>
  bo (chk M159 p0 9) fun _ => bd (fX9_tooMany p0 M159) fun v163 M163 =>
  if v163 = 0 then (
    bo (chk M163 p0 9) fun _ => bd (fX9_none p0 M163) fun v181 M181 =>
    if v181 = 0 then (
      bo (gR M181 p0 9 8) fun v188 =>
      bo (gI M181 v188 0 2) fun v191 =>
      if v191 = 0 then (
        fX9_run_L210 M181
      ) else (
        bo (gR M181 p0 9 6) fun v198 =>
        bo (chk M181 v198 7) fun _ => bd (fX7_fail v198 17 p2 M181) fun v204 M204 =>
        if v204 = 0 then (
          fX9_run_L215 0 M204
        ) else (
          fX9_run_L210 M204
        )
      )
    ) else (
      fX9_run_L210 M181
    )
  ) else (
    bo (gR M163 p0 9 6) fun v170 =>
    bo (chk M163 v170 7) fun _ => bd (fX7_fail v170 20 p2 M163) fun v176 M176 =>
    rtZ v176 M176
  )
def fX9_run_L116 (k90 : Option Nat × Int32 × Int32 → Mem → Option (Int32 × Mem)) (p0 : Option Nat) (p2 : Int32) (p4 : Int32) (q0 : Option Nat) (q1 : Int32) (M : Mem) : Option (Int32 × Mem) :=
  bo (chk M q0 9) fun _ => bd (fX9_runOne q0 q1 M) fun v116 M116 =>
  bn (v116) fun v119 =>
  if v119 = 0 then (
    bn (p4 + 1) fun v137 =>
    k90 ((p0, p2, v137)) M116
  ) else (
    bo (gR M116 p0 9 6) fun v127 =>
    bo (chk M116 v127 7) fun _ => bd (fX7_fail v127 v119 p2 M116) fun v133 M133 =>
    rtZ v133 M133
  )
def fX9_run_B90 (k90 : Option Nat × Int32 × Int32 → Mem → Option (Int32 × Mem)) (p0 : Option Nat) (p2 : Int32) (p4 : Int32) (M : Mem) : Option (Int32 × Mem) :=
  bo (gI M p0 9 15) fun v93 =>
  if v93 ≤ p4 then (
    fX9_run_L143 p0 p2 M
  ) else (
    bo (gI M p0 9 15) fun v103 =>
    if p4 = (v103 - 1) then (
      fX9_run_L116 k90 p0 p2 p4 p0 1 M
    ) else (
      fX9_run_L116 k90 p0 p2 p4 p0 0 M
    )
  )
def fX9_run_L90 (p0 : Option Nat) (p2 : Int32) (p4 : Int32) (M : Mem) : Option (Int32 × Mem) :=
  lp (fun k90 (a : Option Nat × Int32 × Int32) M => fX9_run_B90 k90 a.1 a.2.1 a.2.2 M) FU ((p0, p2, p4)) M
def fX9_run_B50 (k50 : Option Nat × Int32 × Int32 → Mem → Option (Int32 × Mem)) (p0 : Option Nat) (p2 : Int32) (p4 : Int32) (M : Mem) : Option (Int32 × Mem) :=
  if 3 ≤ p4 then (
    bn (0) fun v88 =>
    fX9_run_L90 p0 p2 v88 M
  ) else (
    bo (gR M p0 9 4) fun v57 =>
    bo (gR M p0 9 8) fun v63 =>
    bo (gR M p0 9 0) fun v67 =>
    bo (aR M v67 20 p4) fun v72 =>
    bo (gI M v72 10 0) fun v73 =>
    bo (chk M v63 0) fun _ => bd (fX0_take v63 v73 M) fun v76 M76 =>
    bo (wI M76 v57 p4 v76.toInt32) fun M80 =>
    bn (p4 + 1) fun v81 =>
    k50 ((p0, p2, v81)) M80
  )
def fX9_run_L50 (p0 : Option Nat) (p2 : Int32) (p4 : Int32) (M : Mem) : Option (Int32 × Mem) :=
  lp (fun k50 (a : Option Nat × Int32 × Int32) M => fX9_run_B50 k50 a.1 a.2.1 a.2.2 M) FU ((p0, p2, p4)) M
def fX9_run (a0 : Option Nat) (a1 : Option Nat) (a2 : Int32) (a3 : Int32) (M : Mem) : Option (Int32 × Mem) :=
  bo (pI M a0 9 18 0) fun M2 =>
  bo (gR M2 a0 9 10) fun v7 =>
  bo (gI M2 v7 8 1) fun v10 =>
  bo (pI M2 a0 9 17 v10) fun M13 =>
  bo (chk M13 a0 9) fun _ => bd (fX9_none a0 M13) fun v17 M17 =>
  if v17 = 0 then (
    bo (gR M17 a0 9 8) fun v24 =>
    bo (chk M17 v24 0) fun _ => bd (fX0_begin v24 a1 a2 a3 M17) fun v30 M30 =>
    if v30 = 0 then (
      bo (gR M30 a0 9 6) fun v37 =>
      bo (chk M30 v37 7) fun _ => bd (fX7_fail v37 17 a2 M30) fun v43 M43 =>
      rtZ v43 M43
    ) else (
      bn (0) fun v48 =>
      fX9_run_L50 a0 a2 v48 M30
    )
  ) else (
    fX9_run_L143 a0 a2 M17
  )
def rmX9_run : Room := { frames := 4, cells := 0, slots := 0, locals := 98 }
set_option maxRecDepth 100000 in
set_option maxHeartbeats 4000000 in
theorem ctX9_run (l : Launch) (x : Cx) (a0 : Option Nat) (a1 : Option Nat) (a2 : Int32) (a3 : Int32) (M : Mem) (v : Int32) (N : Mem) (h : fX9_run a0 a1 a2 a3 M = some (v, N)) : CT l yX9_run cX9_run 6 (some (FieldType.boolean)) rmX9_run x [rv x a0, rv x a1, .int a2, .int a3] M (some (.int v)) N := by
  refine ct_mk (enc := fun v : Int32 => some (.int v)) (li := [(2, a2), (3, a3)]) (ll := []) (lr := [(0, a0), (1, a1)]) (by decide +kernel) (by simp [lg_sl, rv_cat, cat_int, cat_long]) (by simp [flat, lv_args, rv_cat, cat_int, cat_long]) h ?_
  intro p e s m args below meth c E
  have hL215 : ∀ (q0 : Int32) (M : Mem), RT p l e rmX9_run s m args below meth c x 6 (QM below args s x (fun v : Int32 => some (.int v)) rmX9_run.cells rmX9_run.slots) 0 0 (fX9_run_L215 q0 M) 215 [] [] [] [.int q0] M := by
    intro q0 M
    unfold fX9_run_L215
    exact e_bool (pc := 215) E dX9_run_215
  have hL210 : ∀ (M : Mem), RT p l e rmX9_run s m args below meth c x 6 (QM below args s x (fun v : Int32 => some (.int v)) rmX9_run.cells rmX9_run.slots) 0 0 (fX9_run_L210 M) 210 [] [] [] [] M := by
    intro M
    unfold fX9_run_L210
    refine r_iconst (pc := 210) (v := 1) E dX9_run_210 (by decide) ?_
    refine r_goto (pc := 211) (tgt := 215) E dX9_run_211 (by decide) ?_
    exact r_sub [] [] [] rfl rfl rfl (hL215 1 _)
  have hL143 : ∀ (p0 : Option Nat) (p2 : Int32) (M : Mem), RT p l e rmX9_run s m args below meth c x 6 (QM below args s x (fun v : Int32 => some (.int v)) rmX9_run.cells rmX9_run.slots) 0 0 (fX9_run_L143 p0 p2 M) 143 [(2, p2)] [] [(0, p0)] [] M := by
    intro p0 p2 M
    unfold fX9_run_L143
    refine r_aload_n (pc := 143) E dX9_run_143 rfl 0 rfl ?_
    refine r_aload_n (pc := 144) E dX9_run_144 rfl 0 rfl ?_
    refine r_getR (pc := 145) E fd_9_7 wf_RX9_57 dX9_run_145 (fun v145 => ?_)
    refine r_getR (pc := 148) E fd_4_0 wf_RX9_167 dX9_run_148 (fun v148 => ?_)
    refine r_getI (pc := 151) E fd_8_1 wf_RX9_65 dX9_run_151 (fun v151 => ?_)
    refine r_aload_n (pc := 154) E dX9_run_154 rfl 0 rfl ?_
    refine r_getI (pc := 155) E fd_9_18 wf_RX9_142 dX9_run_155 (fun v155 => ?_)
    refine r_isub (pc := 158) E dX9_run_158 ?_
    refine r_kVv (pc := 159) (As := [.int (v151 - v155)]) (rest := []) E wc_X9_putLetters wi_RX9 hd_X9_putLetters (ci := 9) rfl wl_RX9_172 wn_X9_putLetters ws_X9_putLetters dX9_run_159 (by decide) (Nat.le_of_ble_eq_true rfl) ⟨rfl, rfl⟩ (ctX9_putLetters l x _ _ _) rfl (fun v159 M159 => ?_)
    refine r_aload_n (pc := 162) E dX9_run_162 rfl 0 rfl ?_
    refine r_kVi (pc := 163) (As := []) (rest := []) E wc_X9_tooMany wi_RX9 hd_X9_tooMany (ci := 9) rfl wl_RX9_175 wn_X9_tooMany ws_X9_tooMany dX9_run_163 (by decide) (Nat.le_of_ble_eq_true rfl) ⟨rfl, rfl⟩ (ctX9_tooMany l x _ _) rfl (fun v163 M163 => ?_)
    refine r_if_eq (pc := 166) (tgt := 180) E dX9_run_166 (by decide) ?_ ?_
    · refine r_aload_n (pc := 180) E dX9_run_180 rfl 0 rfl ?_
      refine r_kVi (pc := 181) (As := []) (rest := []) E wc_X9_none wi_RX9 hd_X9_none (ci := 9) rfl wl_RX9_148 wn_X9_none ws_X9_none dX9_run_181 (by decide) (Nat.le_of_ble_eq_true rfl) ⟨rfl, rfl⟩ (ctX9_none l x _ _) rfl (fun v181 M181 => ?_)
      refine r_if_ne (pc := 184) (tgt := 210) E dX9_run_184 (by decide) ?_ ?_
      · exact r_sub [] [] [] rfl rfl rfl (hL210 _)
      · refine r_aload_n (pc := 187) E dX9_run_187 rfl 0 rfl ?_
        refine r_getR (pc := 188) E fd_9_8 wf_RX9_34 dX9_run_188 (fun v188 => ?_)
        refine r_getI (pc := 191) E fd_0_2 wf_RX9_178 dX9_run_191 (fun v191 => ?_)
        refine r_if_eq (pc := 194) (tgt := 210) E dX9_run_194 (by decide) ?_ ?_
        · exact r_sub [] [] [] rfl rfl rfl (hL210 _)
        · refine r_aload_n (pc := 197) E dX9_run_197 rfl 0 rfl ?_
          refine r_getR (pc := 198) E fd_9_6 wf_RX9_53 dX9_run_198 (fun v198 => ?_)
          refine r_bipush (pc := 201) (v := 17) E dX9_run_201 (by decide) ?_
          refine r_iload_n (pc := 203) E dX9_run_203 rfl 0 rfl ?_
          refine r_kVi (pc := 204) (As := [.int 17, .int p2]) (rest := []) E wc_X7_fail wi_RX7 hd_X7_fail (ci := 7) rfl wl_RX9_125 wn_X7_fail ws_X7_fail dX9_run_204 (by decide) (Nat.le_of_ble_eq_true rfl) ⟨rfl, rfl⟩ (ctX7_fail l x _ _ _ _) rfl (fun v204 M204 => ?_)
          refine r_if_eq (pc := 207) (tgt := 214) E dX9_run_207 (by decide) ?_ ?_
          · refine r_iconst (pc := 214) (v := 0) E dX9_run_214 (by decide) ?_
            exact r_sub [] [] [] rfl rfl rfl (hL215 0 _)
          · exact r_sub [] [] [] rfl rfl rfl (hL210 _)
    · refine r_aload_n (pc := 169) E dX9_run_169 rfl 0 rfl ?_
      refine r_getR (pc := 170) E fd_9_6 wf_RX9_53 dX9_run_170 (fun v170 => ?_)
      refine r_bipush (pc := 173) (v := 20) E dX9_run_173 (by decide) ?_
      refine r_iload_n (pc := 175) E dX9_run_175 rfl 0 rfl ?_
      refine r_kVi (pc := 176) (As := [.int 20, .int p2]) (rest := []) E wc_X7_fail wi_RX7 hd_X7_fail (ci := 7) rfl wl_RX9_125 wn_X7_fail ws_X7_fail dX9_run_176 (by decide) (Nat.le_of_ble_eq_true rfl) ⟨rfl, rfl⟩ (ctX7_fail l x _ _ _ _) rfl (fun v176 M176 => ?_)
      exact e_bool (pc := 179) E dX9_run_179
  have hL116 : ∀ (k90 : Option Nat × Int32 × Int32 → Mem → Option (Int32 × Mem)) (hk90 : ∀ a M, RT p l e rmX9_run s m args below meth c x 6 (QM below args s x (fun v : Int32 => some (.int v)) rmX9_run.cells rmX9_run.slots) 0 0 (k90 a M) 90 [(2, a.2.1), (4, a.2.2)] [] [(0, a.1)] [] M) (p0 : Option Nat) (p2 : Int32) (p4 : Int32) (q0 : Option Nat) (q1 : Int32) (M : Mem), RT p l e rmX9_run s m args below meth c x 6 (QM below args s x (fun v : Int32 => some (.int v)) rmX9_run.cells rmX9_run.slots) 0 0 (fX9_run_L116 k90 p0 p2 p4 q0 q1 M) 116 [(2, p2), (4, p4)] [] [(0, p0)] [.int q1, rv x q0] M := by
    intro k90 hk90 p0 p2 p4 q0 q1 M
    unfold fX9_run_L116
    refine r_kVi (pc := 116) (As := [.int q1]) (rest := []) E wc_X9_runOne wi_RX9 hd_X9_runOne (ci := 9) rfl wl_RX9_163 wn_X9_runOne ws_X9_runOne dX9_run_116 (by decide) (Nat.le_of_ble_eq_true rfl) ⟨rfl, rfl⟩ (ctX9_runOne l x _ _ _) rfl (fun v116 M116 => ?_)
    refine r_istore (pc := 119) (lf := fun v119 => [(5, v119), (2, p2), (4, p4)]) (lg := fun v119 => []) (lk := fun v119 => [(0, p0)]) E dX9_run_119 (by decide) (fun _ => rfl) (fun _ => rfl) (fun _ => rfl) (fun v119 => ?_)
    refine r_iload (pc := 121) E dX9_run_121 0 rfl ?_
    refine r_if_eq (pc := 123) (tgt := 137) E dX9_run_123 (by decide) ?_ ?_
    · refine r_iinc (pc := 137) (w := 1) (lf := fun v137 => [(4, v137), (5, v119), (2, p2)]) (ll' := []) (lr' := [(0, p0)]) E dX9_run_137 2 rfl (by decide) (by decide) (fun _ => rfl) rfl rfl (fun v137 => ?_)
      refine r_goto (pc := 140) (tgt := 90) E dX9_run_140 (by decide) ?_
      exact r_sub [2, 0] [] [0] rfl rfl rfl (hk90 ((p0, p2, v137)) _)
    · refine r_aload_n (pc := 126) E dX9_run_126 rfl 0 rfl ?_
      refine r_getR (pc := 127) E fd_9_6 wf_RX9_53 dX9_run_127 (fun v127 => ?_)
      refine r_iload (pc := 130) E dX9_run_130 0 rfl ?_
      refine r_iload_n (pc := 132) E dX9_run_132 rfl 1 rfl ?_
      refine r_kVi (pc := 133) (As := [.int v119, .int p2]) (rest := []) E wc_X7_fail wi_RX7 hd_X7_fail (ci := 7) rfl wl_RX9_125 wn_X7_fail ws_X7_fail dX9_run_133 (by decide) (Nat.le_of_ble_eq_true rfl) ⟨rfl, rfl⟩ (ctX7_fail l x _ _ _ _) rfl (fun v133 M133 => ?_)
      exact e_bool (pc := 136) E dX9_run_136
  have hL90 : ∀ (p0 : Option Nat) (p2 : Int32) (p4 : Int32) (M : Mem), RT p l e rmX9_run s m args below meth c x 6 (QM below args s x (fun v : Int32 => some (.int v)) rmX9_run.cells rmX9_run.slots) 0 0 (fX9_run_L90 p0 p2 p4 M) 90 [(2, p2), (4, p4)] [] [(0, p0)] [] M := by
    intro p0 p2 p4 M
    refine r_lp (fi := fun a : Option Nat × Int32 × Int32 => [(2, a.2.1), (4, a.2.2)]) (fl := fun a : Option Nat × Int32 × Int32 => []) (fr := fun a : Option Nat × Int32 × Int32 => [(0, a.1)]) (fs := fun a : Option Nat × Int32 × Int32 => []) ?_ FU ((p0, p2, p4)) M
    intro k90 hk90 a M
    obtain ⟨p0, p2, p4⟩ := a
    show RT p l e rmX9_run s m args below meth c x 6 (QM below args s x (fun v : Int32 => some (.int v)) rmX9_run.cells rmX9_run.slots) 0 0 (fX9_run_B90 k90 p0 p2 p4 M) 90 [(2, p2), (4, p4)] [] [(0, p0)] [] M
    unfold fX9_run_B90
    refine r_iload (pc := 90) E dX9_run_90 1 rfl ?_
    refine r_aload_n (pc := 92) E dX9_run_92 rfl 0 rfl ?_
    refine r_getI (pc := 93) E fd_9_15 wf_RX9_115 dX9_run_93 (fun v93 => ?_)
    refine r_icmp_ge (pc := 96) (tgt := 143) E dX9_run_96 (by decide) ?_ ?_
    · exact r_sub [0] [] [0] rfl rfl rfl (hL143 p0 p2 _)
    · refine r_aload_n (pc := 99) E dX9_run_99 rfl 0 rfl ?_
      refine r_iload (pc := 100) E dX9_run_100 1 rfl ?_
      refine r_aload_n (pc := 102) E dX9_run_102 rfl 0 rfl ?_
      refine r_getI (pc := 103) E fd_9_15 wf_RX9_115 dX9_run_103 (fun v103 => ?_)
      refine r_iconst (pc := 106) (v := 1) E dX9_run_106 (by decide) ?_
      refine r_isub (pc := 107) E dX9_run_107 ?_
      refine r_icmp_ne (pc := 108) (tgt := 115) E dX9_run_108 (by decide) ?_ ?_
      · refine r_iconst (pc := 115) (v := 0) E dX9_run_115 (by decide) ?_
        exact r_sub [0, 1] [] [0] rfl rfl rfl (hL116 k90 hk90 p0 p2 p4 p0 0 _)
      · refine r_iconst (pc := 111) (v := 1) E dX9_run_111 (by decide) ?_
        refine r_goto (pc := 112) (tgt := 116) E dX9_run_112 (by decide) ?_
        exact r_sub [0, 1] [] [0] rfl rfl rfl (hL116 k90 hk90 p0 p2 p4 p0 1 _)
  have hL50 : ∀ (p0 : Option Nat) (p2 : Int32) (p4 : Int32) (M : Mem), RT p l e rmX9_run s m args below meth c x 6 (QM below args s x (fun v : Int32 => some (.int v)) rmX9_run.cells rmX9_run.slots) 0 0 (fX9_run_L50 p0 p2 p4 M) 50 [(2, p2), (4, p4)] [] [(0, p0)] [] M := by
    intro p0 p2 p4 M
    refine r_lp (fi := fun a : Option Nat × Int32 × Int32 => [(2, a.2.1), (4, a.2.2)]) (fl := fun a : Option Nat × Int32 × Int32 => []) (fr := fun a : Option Nat × Int32 × Int32 => [(0, a.1)]) (fs := fun a : Option Nat × Int32 × Int32 => []) ?_ FU ((p0, p2, p4)) M
    intro k50 hk50 a M
    obtain ⟨p0, p2, p4⟩ := a
    show RT p l e rmX9_run s m args below meth c x 6 (QM below args s x (fun v : Int32 => some (.int v)) rmX9_run.cells rmX9_run.slots) 0 0 (fX9_run_B50 k50 p0 p2 p4 M) 50 [(2, p2), (4, p4)] [] [(0, p0)] [] M
    unfold fX9_run_B50
    refine r_iload (pc := 50) E dX9_run_50 1 rfl ?_
    refine r_iconst (pc := 52) (v := 3) E dX9_run_52 (by decide) ?_
    refine r_icmp_ge (pc := 53) (tgt := 87) E dX9_run_53 (by decide) ?_ ?_
    · refine r_iconst (pc := 87) (v := 0) E dX9_run_87 (by decide) ?_
      refine r_istore (pc := 88) (lf := fun v88 => [(4, v88), (2, p2)]) (lg := fun v88 => []) (lk := fun v88 => [(0, p0)]) E dX9_run_88 (by decide) (fun _ => rfl) (fun _ => rfl) (fun _ => rfl) (fun v88 => ?_)
      exact r_sub [1, 0] [] [0] rfl rfl rfl (hL90 p0 p2 v88 _)
    · refine r_aload_n (pc := 56) E dX9_run_56 rfl 0 rfl ?_
      refine r_getA (pc := 57) E fd_9_4 wf_RX9_24 dX9_run_57 (fun v57 => ?_)
      refine r_iload (pc := 60) E dX9_run_60 1 rfl ?_
      refine r_aload_n (pc := 62) E dX9_run_62 rfl 0 rfl ?_
      refine r_getR (pc := 63) E fd_9_8 wf_RX9_34 dX9_run_63 (fun v63 => ?_)
      refine r_aload_n (pc := 66) E dX9_run_66 rfl 0 rfl ?_
      refine r_getA (pc := 67) E fd_9_0 wf_RX9_11 dX9_run_67 (fun v67 => ?_)
      refine r_iload (pc := 70) E dX9_run_70 1 rfl ?_
      refine r_aaload20 (pc := 72) E dX9_run_72 (fun v72 => ?_)
      refine r_getI (pc := 73) E fd_10_0 wf_RX9_156 dX9_run_73 (fun v73 => ?_)
      refine r_kVl (pc := 76) (As := [.int v73]) (rest := [.int p4, rv x v57]) E wc_X0_take wi_RX0 hd_X0_take (ci := 0) rfl wl_RX9_159 wn_X0_take ws_X0_take dX9_run_76 (by decide) (Nat.le_of_ble_eq_true rfl) ⟨rfl, rfl⟩ (ctX0_take l x _ _ _) rfl (fun v76 M76 => ?_)
      refine r_l2i (pc := 79) E dX9_run_79 ?_
      refine r_iastore (pc := 80) E dX9_run_80 (fun M80 => ?_)
      refine r_iinc (pc := 81) (w := 1) (lf := fun v81 => [(4, v81), (2, p2)]) (ll' := []) (lr' := [(0, p0)]) E dX9_run_81 1 rfl (by decide) (by decide) (fun _ => rfl) rfl rfl (fun v81 => ?_)
      refine r_goto (pc := 84) (tgt := 50) E dX9_run_84 (by decide) ?_
      exact r_sub [1, 0] [] [0] rfl rfl rfl (hk50 ((p0, p2, v81)) _)
  show RT p l e rmX9_run s m args below meth c x 6 (QM below args s x (fun v : Int32 => some (.int v)) rmX9_run.cells rmX9_run.slots) 0 0 (fX9_run a0 a1 a2 a3 M) 0 [(2, a2), (3, a3)] [] [(0, a0), (1, a1)] [] M
  unfold fX9_run
  refine r_aload_n (pc := 0) E dX9_run_0 rfl 0 rfl ?_
  refine r_iconst (pc := 1) (v := 0) E dX9_run_1 (by decide) ?_
  refine r_putI (pc := 2) E fd_9_18 wf_RX9_142 dX9_run_2 (Or.inl rfl) (fun M2 => ?_)
  refine r_aload_n (pc := 5) E dX9_run_5 rfl 0 rfl ?_
  refine r_aload_n (pc := 6) E dX9_run_6 rfl 0 rfl ?_
  refine r_getR (pc := 7) E fd_9_10 wf_RX9_47 dX9_run_7 (fun v7 => ?_)
  refine r_getI (pc := 10) E fd_8_1 wf_RX9_65 dX9_run_10 (fun v10 => ?_)
  refine r_putI (pc := 13) E fd_9_17 wf_RX9_145 dX9_run_13 (Or.inl rfl) (fun M13 => ?_)
  refine r_aload_n (pc := 16) E dX9_run_16 rfl 0 rfl ?_
  refine r_kVi (pc := 17) (As := []) (rest := []) E wc_X9_none wi_RX9 hd_X9_none (ci := 9) rfl wl_RX9_148 wn_X9_none ws_X9_none dX9_run_17 (by decide) (Nat.le_of_ble_eq_true rfl) ⟨rfl, rfl⟩ (ctX9_none l x _ _) rfl (fun v17 M17 => ?_)
  refine r_if_ne (pc := 20) (tgt := 143) E dX9_run_20 (by decide) ?_ ?_
  · exact r_sub [0] [] [0] rfl rfl rfl (hL143 a0 a2 _)
  · refine r_aload_n (pc := 23) E dX9_run_23 rfl 0 rfl ?_
    refine r_getR (pc := 24) E fd_9_8 wf_RX9_34 dX9_run_24 (fun v24 => ?_)
    refine r_aload_n (pc := 27) E dX9_run_27 rfl 1 rfl ?_
    refine r_iload_n (pc := 28) E dX9_run_28 rfl 0 rfl ?_
    refine r_iload_n (pc := 29) E dX9_run_29 rfl 1 rfl ?_
    refine r_kVi (pc := 30) (As := [rv x a1, .int a2, .int a3]) (rest := []) E wc_X0_begin wi_RX0 hd_X0_begin (ci := 0) rfl wl_RX9_152 wn_X0_begin ws_X0_begin dX9_run_30 (by decide) (Nat.le_of_ble_eq_true rfl) ⟨rfl, rfl⟩ (ctX0_begin l x _ _ _ _ _) rfl (fun v30 M30 => ?_)
    refine r_if_ne (pc := 33) (tgt := 47) E dX9_run_33 (by decide) ?_ ?_
    · refine r_iconst (pc := 47) (v := 0) E dX9_run_47 (by decide) ?_
      refine r_istore (pc := 48) (lf := fun v48 => [(4, v48), (2, a2), (3, a3)]) (lg := fun v48 => []) (lk := fun v48 => [(0, a0), (1, a1)]) E dX9_run_48 (by decide) (fun _ => rfl) (fun _ => rfl) (fun _ => rfl) (fun v48 => ?_)
      exact r_sub [1, 0] [] [0] rfl rfl rfl (hL50 a0 a2 v48 _)
    · refine r_aload_n (pc := 36) E dX9_run_36 rfl 0 rfl ?_
      refine r_getR (pc := 37) E fd_9_6 wf_RX9_53 dX9_run_37 (fun v37 => ?_)
      refine r_bipush (pc := 40) (v := 17) E dX9_run_40 (by decide) ?_
      refine r_iload_n (pc := 42) E dX9_run_42 rfl 0 rfl ?_
      refine r_kVi (pc := 43) (As := [.int 17, .int a2]) (rest := []) E wc_X7_fail wi_RX7 hd_X7_fail (ci := 7) rfl wl_RX9_125 wn_X7_fail ws_X7_fail dX9_run_43 (by decide) (Nat.le_of_ble_eq_true rfl) ⟨rfl, rfl⟩ (ctX7_fail l x _ _ _ _) rfl (fun v43 M43 => ?_)
      exact e_bool (pc := 46) E dX9_run_46
def fX5_readPacked_L64 (M : Mem) : Option (Int32 × Mem) :=
  rtZ 0 M
def fX5_readPacked_L169 (M : Mem) : Option (Int32 × Mem) :=
  rtZ 0 M
def fX5_readPacked_L143 (p0 : Option Nat) (p1 : Int32) (M : Mem) : Option (Int32 × Mem) :=
  bo (gI M p0 5 8) fun v144 =>
  if v144 < 0 then (
    fX5_readPacked_L169 M
  ) else (
    bo (gR M p0 5 1) fun v151 =>
    bo (gR M p0 5 3) fun v155 =>
    bo (gI M p0 5 8) fun v159 =>
    bo (chk M v151 9) fun _ => bd (fX9_run v151 v155 v159 p1 M) fun v163 M163 =>
    if v163 = 0 then (
      fX5_readPacked_L169 M163
    ) else (
      bo (pI M163 p0 5 8 p1) fun M173 =>
      rtZ 1 M173
    )
  )
def fX5_readPacked_B93 (k93 : Option Nat × Int32 × Int32 × Int32 → Mem → Option (Int32 × Mem)) (p0 : Option Nat) (p1 : Int32) (p2 : Int32) (p3 : Int32) (M : Mem) : Option (Int32 × Mem) :=
  if 3 ≤ p3 then (
    fX5_readPacked_L143 p0 p1 M
  ) else (
    bo (gI M p0 5 8) fun v99 =>
    if v99 < 0 then (
      fX5_readPacked_L143 p0 p1 M
    ) else (
      bo (gR M p0 5 1) fun v106 =>
      bo (chk M v106 9) fun _ => bd (fX9_none v106 M) fun v109 M109 =>
      if v109 = 0 then (
        bo (gR M109 p0 5 1) fun v117 =>
        bo (gR M109 p0 5 3) fun v122 =>
        bo (gI M109 p0 5 8) fun v127 =>
        bo (chk M109 v117 9) fun _ => bd (fX9_readTable v117 p3 v122 p2 v127 p1 M109) fun v131 M131 =>
        bo (pI M131 p0 5 8 v131) fun M134 =>
        bn (p3 + 1) fun v137 =>
        k93 ((p0, p1, p2, v137)) M134
      ) else (
        fX5_readPacked_L143 p0 p1 M109
      )
    )
  )
def fX5_readPacked_L93 (p0 : Option Nat) (p1 : Int32) (p2 : Int32) (p3 : Int32) (M : Mem) : Option (Int32 × Mem) :=
  lp (fun k93 (a : Option Nat × Int32 × Int32 × Int32) M => fX5_readPacked_B93 k93 a.1 a.2.1 a.2.2.1 a.2.2.2 M) FU ((p0, p1, p2, p3)) M
def fX5_readPacked (a0 : Option Nat) (M : Mem) : Option (Int32 × Mem) :=
  bo (gI M a0 5 8) fun v1 =>
  bo (gI M a0 5 16) fun v5 =>
  bn (v1 + v5) fun v9 =>
  bo (gR M a0 5 0) fun v11 =>
  bo (gR M a0 5 3) fun v15 =>
  bo (gI M a0 5 8) fun v19 =>
  bo (gR M a0 5 1) fun v24 =>
  bo (gI M v24 9 13) fun v27 =>
  bo (chk M v11 4) fun _ => bd (fX4_readHead v11 v15 v19 v9 v27 M) fun v30 M30 =>
  if v30 = 0 then (
    fX5_readPacked_L64 M30
  ) else (
    bo (gR M30 a0 5 0) fun v37 =>
    bo (gR M30 a0 5 3) fun v41 =>
    bo (chk M30 v37 4) fun _ => bd (fX4_readCode v37 v41 M30) fun v44 M44 =>
    if v44 = 0 then (
      fX5_readPacked_L64 M44
    ) else (
      bo (gR M44 a0 5 0) fun v51 =>
      bo (gR M44 a0 5 3) fun v55 =>
      bo (chk M44 v51 4) fun _ => bd (fX4_readBody v51 v55 M44) fun v58 M58 =>
      if v58 = 0 then (
        fX5_readPacked_L64 M58
      ) else (
        bo (gR M58 a0 5 0) fun v67 =>
        bo (gI M58 v67 4 3) fun v70 =>
        bn (v70) fun v73 =>
        bo (gR M58 a0 5 1) fun v76 =>
        bo (gR M58 a0 5 3) fun v80 =>
        bo (chk M58 v76 9) fun _ => bd (fX9_readHead v76 v80 v73 v9 M58) fun v85 M85 =>
        bo (pI M85 a0 5 8 v85) fun M88 =>
        bn (0) fun v92 =>
        fX5_readPacked_L93 a0 v9 v73 v92 M88
      )
    )
  )
def rmX5_readPacked : Room := { frames := 5, cells := 0, slots := 0, locals := 133 }
set_option maxRecDepth 100000 in
set_option maxHeartbeats 4000000 in
theorem ctX5_readPacked (l : Launch) (x : Cx) (a0 : Option Nat) (M : Mem) (v : Int32) (N : Mem) (h : fX5_readPacked a0 M = some (v, N)) : CT l yX5_readPacked cX5_readPacked 4 (some (FieldType.boolean)) rmX5_readPacked x [rv x a0] M (some (.int v)) N := by
  refine ct_mk (enc := fun v : Int32 => some (.int v)) (li := []) (ll := []) (lr := [(0, a0)]) (by decide +kernel) (by simp [lg_sl, rv_cat, cat_int, cat_long]) (by simp [flat, lv_args, rv_cat, cat_int, cat_long]) h ?_
  intro p e s m args below meth c E
  have hL64 : ∀ (M : Mem), RT p l e rmX5_readPacked s m args below meth c x 4 (QM below args s x (fun v : Int32 => some (.int v)) rmX5_readPacked.cells rmX5_readPacked.slots) 0 0 (fX5_readPacked_L64 M) 64 [] [] [] [] M := by
    intro M
    unfold fX5_readPacked_L64
    refine r_iconst (pc := 64) (v := 0) E dX5_readPacked_64 (by decide) ?_
    exact e_bool (pc := 65) E dX5_readPacked_65
  have hL169 : ∀ (M : Mem), RT p l e rmX5_readPacked s m args below meth c x 4 (QM below args s x (fun v : Int32 => some (.int v)) rmX5_readPacked.cells rmX5_readPacked.slots) 0 0 (fX5_readPacked_L169 M) 169 [] [] [] [] M := by
    intro M
    unfold fX5_readPacked_L169
    refine r_iconst (pc := 169) (v := 0) E dX5_readPacked_169 (by decide) ?_
    exact e_bool (pc := 170) E dX5_readPacked_170
  have hL143 : ∀ (p0 : Option Nat) (p1 : Int32) (M : Mem), RT p l e rmX5_readPacked s m args below meth c x 4 (QM below args s x (fun v : Int32 => some (.int v)) rmX5_readPacked.cells rmX5_readPacked.slots) 0 0 (fX5_readPacked_L143 p0 p1 M) 143 [(1, p1)] [] [(0, p0)] [] M := by
    intro p0 p1 M
    unfold fX5_readPacked_L143
    refine r_aload_n (pc := 143) E dX5_readPacked_143 rfl 0 rfl ?_
    refine r_getI (pc := 144) E fd_5_8 wf_RX5_53 dX5_readPacked_144 (fun v144 => ?_)
    refine r_if_lt (pc := 147) (tgt := 169) E dX5_readPacked_147 (by decide) ?_ ?_
    · exact r_sub [] [] [] rfl rfl rfl (hL169 _)
    · refine r_aload_n (pc := 150) E dX5_readPacked_150 rfl 0 rfl ?_
      refine r_getR (pc := 151) E fd_5_1 wf_RX5_41 dX5_readPacked_151 (fun v151 => ?_)
      refine r_aload_n (pc := 154) E dX5_readPacked_154 rfl 0 rfl ?_
      refine r_getR (pc := 155) E fd_5_3 wf_RX5_14 dX5_readPacked_155 (fun v155 => ?_)
      refine r_aload_n (pc := 158) E dX5_readPacked_158 rfl 0 rfl ?_
      refine r_getI (pc := 159) E fd_5_8 wf_RX5_53 dX5_readPacked_159 (fun v159 => ?_)
      refine r_iload_n (pc := 162) E dX5_readPacked_162 rfl 0 rfl ?_
      refine r_kVi (pc := 163) (As := [rv x v155, .int v159, .int p1]) (rest := []) E wc_X9_run wi_RX9 hd_X9_run (ci := 9) rfl wl_RX5_228 wn_X9_run ws_X9_run dX5_readPacked_163 (by decide) (Nat.le_of_ble_eq_true rfl) ⟨rfl, rfl⟩ (ctX9_run l x _ _ _ _ _) rfl (fun v163 M163 => ?_)
      refine r_if_ne (pc := 166) (tgt := 171) E dX5_readPacked_166 (by decide) ?_ ?_
      · refine r_aload_n (pc := 171) E dX5_readPacked_171 rfl 0 rfl ?_
        refine r_iload_n (pc := 172) E dX5_readPacked_172 rfl 0 rfl ?_
        refine r_putI (pc := 173) E fd_5_8 wf_RX5_53 dX5_readPacked_173 (Or.inl rfl) (fun M173 => ?_)
        refine r_iconst (pc := 176) (v := 1) E dX5_readPacked_176 (by decide) ?_
        exact e_bool (pc := 177) E dX5_readPacked_177
      · exact r_sub [] [] [] rfl rfl rfl (hL169 _)
  have hL93 : ∀ (p0 : Option Nat) (p1 : Int32) (p2 : Int32) (p3 : Int32) (M : Mem), RT p l e rmX5_readPacked s m args below meth c x 4 (QM below args s x (fun v : Int32 => some (.int v)) rmX5_readPacked.cells rmX5_readPacked.slots) 0 0 (fX5_readPacked_L93 p0 p1 p2 p3 M) 93 [(1, p1), (2, p2), (3, p3)] [] [(0, p0)] [] M := by
    intro p0 p1 p2 p3 M
    refine r_lp (fi := fun a : Option Nat × Int32 × Int32 × Int32 => [(1, a.2.1), (2, a.2.2.1), (3, a.2.2.2)]) (fl := fun a : Option Nat × Int32 × Int32 × Int32 => []) (fr := fun a : Option Nat × Int32 × Int32 × Int32 => [(0, a.1)]) (fs := fun a : Option Nat × Int32 × Int32 × Int32 => []) ?_ FU ((p0, p1, p2, p3)) M
    intro k93 hk93 a M
    obtain ⟨p0, p1, p2, p3⟩ := a
    show RT p l e rmX5_readPacked s m args below meth c x 4 (QM below args s x (fun v : Int32 => some (.int v)) rmX5_readPacked.cells rmX5_readPacked.slots) 0 0 (fX5_readPacked_B93 k93 p0 p1 p2 p3 M) 93 [(1, p1), (2, p2), (3, p3)] [] [(0, p0)] [] M
    unfold fX5_readPacked_B93
    refine r_iload_n (pc := 93) E dX5_readPacked_93 rfl 2 rfl ?_
    refine r_iconst (pc := 94) (v := 3) E dX5_readPacked_94 (by decide) ?_
    refine r_icmp_ge (pc := 95) (tgt := 143) E dX5_readPacked_95 (by decide) ?_ ?_
    · exact r_sub [0] [] [0] rfl rfl rfl (hL143 p0 p1 _)
    · refine r_aload_n (pc := 98) E dX5_readPacked_98 rfl 0 rfl ?_
      refine r_getI (pc := 99) E fd_5_8 wf_RX5_53 dX5_readPacked_99 (fun v99 => ?_)
      refine r_if_lt (pc := 102) (tgt := 143) E dX5_readPacked_102 (by decide) ?_ ?_
      · exact r_sub [0] [] [0] rfl rfl rfl (hL143 p0 p1 _)
      · refine r_aload_n (pc := 105) E dX5_readPacked_105 rfl 0 rfl ?_
        refine r_getR (pc := 106) E fd_5_1 wf_RX5_41 dX5_readPacked_106 (fun v106 => ?_)
        refine r_kVi (pc := 109) (As := []) (rest := []) E wc_X9_none wi_RX9 hd_X9_none (ci := 9) rfl wl_RX5_221 wn_X9_none ws_X9_none dX5_readPacked_109 (by decide) (Nat.le_of_ble_eq_true rfl) ⟨rfl, rfl⟩ (ctX9_none l x _ _) rfl (fun v109 M109 => ?_)
        refine r_if_ne (pc := 112) (tgt := 143) E dX5_readPacked_112 (by decide) ?_ ?_
        · exact r_sub [0] [] [0] rfl rfl rfl (hL143 p0 p1 _)
        · refine r_aload_n (pc := 115) E dX5_readPacked_115 rfl 0 rfl ?_
          refine r_aload_n (pc := 116) E dX5_readPacked_116 rfl 0 rfl ?_
          refine r_getR (pc := 117) E fd_5_1 wf_RX5_41 dX5_readPacked_117 (fun v117 => ?_)
          refine r_iload_n (pc := 120) E dX5_readPacked_120 rfl 2 rfl ?_
          refine r_aload_n (pc := 121) E dX5_readPacked_121 rfl 0 rfl ?_
          refine r_getR (pc := 122) E fd_5_3 wf_RX5_14 dX5_readPacked_122 (fun v122 => ?_)
          refine r_iload_n (pc := 125) E dX5_readPacked_125 rfl 1 rfl ?_
          refine r_aload_n (pc := 126) E dX5_readPacked_126 rfl 0 rfl ?_
          refine r_getI (pc := 127) E fd_5_8 wf_RX5_53 dX5_readPacked_127 (fun v127 => ?_)
          refine r_iload_n (pc := 130) E dX5_readPacked_130 rfl 0 rfl ?_
          refine r_kVi (pc := 131) (As := [.int p3, rv x v122, .int p2, .int v127, .int p1]) (rest := [rv x p0]) E wc_X9_readTable wi_RX9 hd_X9_readTable (ci := 9) rfl wl_RX5_224 wn_X9_readTable ws_X9_readTable dX5_readPacked_131 (by decide) (Nat.le_of_ble_eq_true rfl) ⟨rfl, rfl⟩ (ctX9_readTable l x _ _ _ _ _ _ _) rfl (fun v131 M131 => ?_)
          refine r_putI (pc := 134) E fd_5_8 wf_RX5_53 dX5_readPacked_134 (Or.inl rfl) (fun M134 => ?_)
          refine r_iinc (pc := 137) (w := 1) (lf := fun v137 => [(3, v137), (1, p1), (2, p2)]) (ll' := []) (lr' := [(0, p0)]) E dX5_readPacked_137 2 rfl (by decide) (by decide) (fun _ => rfl) rfl rfl (fun v137 => ?_)
          refine r_goto (pc := 140) (tgt := 93) E dX5_readPacked_140 (by decide) ?_
          exact r_sub [1, 2, 0] [] [0] rfl rfl rfl (hk93 ((p0, p1, p2, v137)) _)
  show RT p l e rmX5_readPacked s m args below meth c x 4 (QM below args s x (fun v : Int32 => some (.int v)) rmX5_readPacked.cells rmX5_readPacked.slots) 0 0 (fX5_readPacked a0 M) 0 [] [] [(0, a0)] [] M
  unfold fX5_readPacked
  refine r_aload_n (pc := 0) E dX5_readPacked_0 rfl 0 rfl ?_
  refine r_getI (pc := 1) E fd_5_8 wf_RX5_53 dX5_readPacked_1 (fun v1 => ?_)
  refine r_aload_n (pc := 4) E dX5_readPacked_4 rfl 0 rfl ?_
  refine r_getI (pc := 5) E fd_5_16 wf_RX5_191 dX5_readPacked_5 (fun v5 => ?_)
  refine r_iadd (pc := 8) E dX5_readPacked_8 ?_
  refine r_istore_n (pc := 9) (lf := fun v9 => [(1, v9)]) (lg := fun v9 => []) (lk := fun v9 => [(0, a0)]) E dX5_readPacked_9 rfl (by decide) (fun _ => rfl) (fun _ => rfl) (fun _ => rfl) (fun v9 => ?_)
  refine r_aload_n (pc := 10) E dX5_readPacked_10 rfl 0 rfl ?_
  refine r_getR (pc := 11) E fd_5_0 wf_RX5_32 dX5_readPacked_11 (fun v11 => ?_)
  refine r_aload_n (pc := 14) E dX5_readPacked_14 rfl 0 rfl ?_
  refine r_getR (pc := 15) E fd_5_3 wf_RX5_14 dX5_readPacked_15 (fun v15 => ?_)
  refine r_aload_n (pc := 18) E dX5_readPacked_18 rfl 0 rfl ?_
  refine r_getI (pc := 19) E fd_5_8 wf_RX5_53 dX5_readPacked_19 (fun v19 => ?_)
  refine r_iload_n (pc := 22) E dX5_readPacked_22 rfl 0 rfl ?_
  refine r_aload_n (pc := 23) E dX5_readPacked_23 rfl 0 rfl ?_
  refine r_getR (pc := 24) E fd_5_1 wf_RX5_41 dX5_readPacked_24 (fun v24 => ?_)
  refine r_getI (pc := 27) E fd_9_13 wf_RX5_194 dX5_readPacked_27 (fun v27 => ?_)
  refine r_kVi (pc := 30) (As := [rv x v15, .int v19, .int v9, .int v27]) (rest := []) E wc_X4_readHead wi_RX4 hd_X4_readHead (ci := 4) rfl wl_RX5_205 wn_X4_readHead ws_X4_readHead dX5_readPacked_30 (by decide) (Nat.le_of_ble_eq_true rfl) ⟨rfl, rfl⟩ (ctX4_readHead l x _ _ _ _ _ _) rfl (fun v30 M30 => ?_)
  refine r_if_eq (pc := 33) (tgt := 64) E dX5_readPacked_33 (by decide) ?_ ?_
  · exact r_sub [] [] [] rfl rfl rfl (hL64 _)
  · refine r_aload_n (pc := 36) E dX5_readPacked_36 rfl 0 rfl ?_
    refine r_getR (pc := 37) E fd_5_0 wf_RX5_32 dX5_readPacked_37 (fun v37 => ?_)
    refine r_aload_n (pc := 40) E dX5_readPacked_40 rfl 0 rfl ?_
    refine r_getR (pc := 41) E fd_5_3 wf_RX5_14 dX5_readPacked_41 (fun v41 => ?_)
    refine r_kVi (pc := 44) (As := [rv x v41]) (rest := []) E wc_X4_readCode wi_RX4 hd_X4_readCode (ci := 4) rfl wl_RX5_208 wn_X4_readCode ws_X4_readCode dX5_readPacked_44 (by decide) (Nat.le_of_ble_eq_true rfl) ⟨rfl, rfl⟩ (ctX4_readCode l x _ _ _) rfl (fun v44 M44 => ?_)
    refine r_if_eq (pc := 47) (tgt := 64) E dX5_readPacked_47 (by decide) ?_ ?_
    · exact r_sub [] [] [] rfl rfl rfl (hL64 _)
    · refine r_aload_n (pc := 50) E dX5_readPacked_50 rfl 0 rfl ?_
      refine r_getR (pc := 51) E fd_5_0 wf_RX5_32 dX5_readPacked_51 (fun v51 => ?_)
      refine r_aload_n (pc := 54) E dX5_readPacked_54 rfl 0 rfl ?_
      refine r_getR (pc := 55) E fd_5_3 wf_RX5_14 dX5_readPacked_55 (fun v55 => ?_)
      refine r_kVi (pc := 58) (As := [rv x v55]) (rest := []) E wc_X4_readBody wi_RX4 hd_X4_readBody (ci := 4) rfl wl_RX5_212 wn_X4_readBody ws_X4_readBody dX5_readPacked_58 (by decide) (Nat.le_of_ble_eq_true rfl) ⟨rfl, rfl⟩ (ctX4_readBody l x _ _ _) rfl (fun v58 M58 => ?_)
      refine r_if_ne (pc := 61) (tgt := 66) E dX5_readPacked_61 (by decide) ?_ ?_
      · refine r_aload_n (pc := 66) E dX5_readPacked_66 rfl 0 rfl ?_
        refine r_getR (pc := 67) E fd_5_0 wf_RX5_32 dX5_readPacked_67 (fun v67 => ?_)
        refine r_getI (pc := 70) E fd_4_3 wf_RX5_215 dX5_readPacked_70 (fun v70 => ?_)
        refine r_istore_n (pc := 73) (lf := fun v73 => [(2, v73), (1, v9)]) (lg := fun v73 => []) (lk := fun v73 => [(0, a0)]) E dX5_readPacked_73 rfl (by decide) (fun _ => rfl) (fun _ => rfl) (fun _ => rfl) (fun v73 => ?_)
        refine r_aload_n (pc := 74) E dX5_readPacked_74 rfl 0 rfl ?_
        refine r_aload_n (pc := 75) E dX5_readPacked_75 rfl 0 rfl ?_
        refine r_getR (pc := 76) E fd_5_1 wf_RX5_41 dX5_readPacked_76 (fun v76 => ?_)
        refine r_aload_n (pc := 79) E dX5_readPacked_79 rfl 0 rfl ?_
        refine r_getR (pc := 80) E fd_5_3 wf_RX5_14 dX5_readPacked_80 (fun v80 => ?_)
        refine r_iload_n (pc := 83) E dX5_readPacked_83 rfl 0 rfl ?_
        refine r_iload_n (pc := 84) E dX5_readPacked_84 rfl 1 rfl ?_
        refine r_kVi (pc := 85) (As := [rv x v80, .int v73, .int v9]) (rest := [rv x a0]) E wc_X9_readHead wi_RX9 hd_X9_readHead (ci := 9) rfl wl_RX5_218 wn_X9_readHead ws_X9_readHead dX5_readPacked_85 (by decide) (Nat.le_of_ble_eq_true rfl) ⟨rfl, rfl⟩ (ctX9_readHead l x _ _ _ _ _) rfl (fun v85 M85 => ?_)
        refine r_putI (pc := 88) E fd_5_8 wf_RX5_53 dX5_readPacked_88 (Or.inl rfl) (fun M88 => ?_)
        refine r_iconst (pc := 91) (v := 0) E dX5_readPacked_91 (by decide) ?_
        refine r_istore_n (pc := 92) (lf := fun v92 => [(3, v92), (2, v73), (1, v9)]) (lg := fun v92 => []) (lk := fun v92 => [(0, a0)]) E dX5_readPacked_92 rfl (by decide) (fun _ => rfl) (fun _ => rfl) (fun _ => rfl) (fun v92 => ?_)
        exact r_sub [2, 1, 0] [] [0] rfl rfl rfl (hL93 a0 v9 v73 v92 _)
      · exact r_sub [] [] [] rfl rfl rfl (hL64 _)
def fX5_readPlain_L74 (M : Mem) : Option (Int32 × Mem) :=
  rtZ 1 M
def fX5_readPlain (a0 : Option Nat) (M : Mem) : Option (Int32 × Mem) :=
  bo (gI M a0 5 15) fun v1 =>
  if v1 = 0 then (
    bo (gR M a0 5 4) fun v8 =>
    bo (gR M a0 5 3) fun v12 =>
    bo (gI M a0 5 8) fun v16 =>
    bo (gI M a0 5 16) fun v20 =>
    bo (chk M v8 8) fun _ => bd (fX8_addFrom v8 v12 v16 v20 M) fun v23 M23 =>
    bo (gI M23 a0 5 8) fun v28 =>
    bo (gI M23 a0 5 16) fun v32 =>
    bo (pI M23 a0 5 8 (v28 + v32)) fun M36 =>
    fX5_readPlain_L74 M36
  ) else (
    bo (gR M a0 5 4) fun v43 =>
    bo (gR M a0 5 3) fun v47 =>
    bo (gI M a0 5 8) fun v51 =>
    bo (chk M v47 8) fun _ => bd (fX8_get v47 v51 M) fun v54 M54 =>
    bo (gI M54 a0 5 16) fun v58 =>
    bo (chk M54 v43 8) fun _ => bd (fX8_addSame v43 v54 v58 M54) fun v61 M61 =>
    bo (gI M61 a0 5 8) fun v66 =>
    bo (pI M61 a0 5 8 (v66 + 1)) fun M71 =>
    fX5_readPlain_L74 M71
  )
def rmX5_readPlain : Room := { frames := 2, cells := 0, slots := 0, locals := 48 }
set_option maxRecDepth 100000 in
set_option maxHeartbeats 4000000 in
theorem ctX5_readPlain (l : Launch) (x : Cx) (a0 : Option Nat) (M : Mem) (v : Int32) (N : Mem) (h : fX5_readPlain a0 M = some (v, N)) : CT l yX5_readPlain cX5_readPlain 1 (some (FieldType.boolean)) rmX5_readPlain x [rv x a0] M (some (.int v)) N := by
  refine ct_mk (enc := fun v : Int32 => some (.int v)) (li := []) (ll := []) (lr := [(0, a0)]) (by decide +kernel) (by simp [lg_sl, rv_cat, cat_int, cat_long]) (by simp [flat, lv_args, rv_cat, cat_int, cat_long]) h ?_
  intro p e s m args below meth c E
  have hL74 : ∀ (M : Mem), RT p l e rmX5_readPlain s m args below meth c x 1 (QM below args s x (fun v : Int32 => some (.int v)) rmX5_readPlain.cells rmX5_readPlain.slots) 0 0 (fX5_readPlain_L74 M) 74 [] [] [] [] M := by
    intro M
    unfold fX5_readPlain_L74
    refine r_iconst (pc := 74) (v := 1) E dX5_readPlain_74 (by decide) ?_
    exact e_bool (pc := 75) E dX5_readPlain_75
  show RT p l e rmX5_readPlain s m args below meth c x 1 (QM below args s x (fun v : Int32 => some (.int v)) rmX5_readPlain.cells rmX5_readPlain.slots) 0 0 (fX5_readPlain a0 M) 0 [] [] [(0, a0)] [] M
  unfold fX5_readPlain
  refine r_aload_n (pc := 0) E dX5_readPlain_0 rfl 0 rfl ?_
  refine r_getI (pc := 1) E fd_5_15 wf_RX5_79 dX5_readPlain_1 (fun v1 => ?_)
  refine r_if_ne (pc := 4) (tgt := 42) E dX5_readPlain_4 (by decide) ?_ ?_
  · refine r_aload_n (pc := 42) E dX5_readPlain_42 rfl 0 rfl ?_
    refine r_getR (pc := 43) E fd_5_4 wf_RX5_20 dX5_readPlain_43 (fun v43 => ?_)
    refine r_aload_n (pc := 46) E dX5_readPlain_46 rfl 0 rfl ?_
    refine r_getR (pc := 47) E fd_5_3 wf_RX5_14 dX5_readPlain_47 (fun v47 => ?_)
    refine r_aload_n (pc := 50) E dX5_readPlain_50 rfl 0 rfl ?_
    refine r_getI (pc := 51) E fd_5_8 wf_RX5_53 dX5_readPlain_51 (fun v51 => ?_)
    refine r_kVi (pc := 54) (As := [.int v51]) (rest := [rv x v43]) E wc_X8_get wi_RX8 hd_X8_get (ci := 8) rfl wl_RX5_136 wn_X8_get ws_X8_get dX5_readPlain_54 (by decide) (Nat.le_of_ble_eq_true rfl) ⟨rfl, rfl⟩ (ctX8_get l x _ _ _) rfl (fun v54 M54 => ?_)
    refine r_aload_n (pc := 57) E dX5_readPlain_57 rfl 0 rfl ?_
    refine r_getI (pc := 58) E fd_5_16 wf_RX5_191 dX5_readPlain_58 (fun v58 => ?_)
    refine r_kVv (pc := 61) (As := [.int v54, .int v58]) (rest := []) E wc_X8_addSame wi_RX8 hd_X8_addSame (ci := 8) rfl wl_RX5_201 wn_X8_addSame ws_X8_addSame dX5_readPlain_61 (by decide) (Nat.le_of_ble_eq_true rfl) ⟨rfl, rfl⟩ (ctX8_addSame l x _ _ _ _) rfl (fun v61 M61 => ?_)
    refine r_aload_n (pc := 64) E dX5_readPlain_64 rfl 0 rfl ?_
    refine r_dup (pc := 65) E dX5_readPlain_65 (rv_cat _ _) ?_
    refine r_getI (pc := 66) E fd_5_8 wf_RX5_53 dX5_readPlain_66 (fun v66 => ?_)
    refine r_iconst (pc := 69) (v := 1) E dX5_readPlain_69 (by decide) ?_
    refine r_iadd (pc := 70) E dX5_readPlain_70 ?_
    refine r_putI (pc := 71) E fd_5_8 wf_RX5_53 dX5_readPlain_71 (Or.inl rfl) (fun M71 => ?_)
    exact r_sub [] [] [] rfl rfl rfl (hL74 _)
  · refine r_aload_n (pc := 7) E dX5_readPlain_7 rfl 0 rfl ?_
    refine r_getR (pc := 8) E fd_5_4 wf_RX5_20 dX5_readPlain_8 (fun v8 => ?_)
    refine r_aload_n (pc := 11) E dX5_readPlain_11 rfl 0 rfl ?_
    refine r_getR (pc := 12) E fd_5_3 wf_RX5_14 dX5_readPlain_12 (fun v12 => ?_)
    refine r_aload_n (pc := 15) E dX5_readPlain_15 rfl 0 rfl ?_
    refine r_getI (pc := 16) E fd_5_8 wf_RX5_53 dX5_readPlain_16 (fun v16 => ?_)
    refine r_aload_n (pc := 19) E dX5_readPlain_19 rfl 0 rfl ?_
    refine r_getI (pc := 20) E fd_5_16 wf_RX5_191 dX5_readPlain_20 (fun v20 => ?_)
    refine r_kVv (pc := 23) (As := [rv x v12, .int v16, .int v20]) (rest := []) E wc_X8_addFrom wi_RX8 hd_X8_addFrom (ci := 8) rfl wl_RX5_197 wn_X8_addFrom ws_X8_addFrom dX5_readPlain_23 (by decide) (Nat.le_of_ble_eq_true rfl) ⟨rfl, rfl⟩ (ctX8_addFrom l x _ _ _ _ _) rfl (fun v23 M23 => ?_)
    refine r_aload_n (pc := 26) E dX5_readPlain_26 rfl 0 rfl ?_
    refine r_dup (pc := 27) E dX5_readPlain_27 (rv_cat _ _) ?_
    refine r_getI (pc := 28) E fd_5_8 wf_RX5_53 dX5_readPlain_28 (fun v28 => ?_)
    refine r_aload_n (pc := 31) E dX5_readPlain_31 rfl 0 rfl ?_
    refine r_getI (pc := 32) E fd_5_16 wf_RX5_191 dX5_readPlain_32 (fun v32 => ?_)
    refine r_iadd (pc := 35) E dX5_readPlain_35 ?_
    refine r_putI (pc := 36) E fd_5_8 wf_RX5_53 dX5_readPlain_36 (Or.inl rfl) (fun M36 => ?_)
    refine r_goto (pc := 39) (tgt := 74) E dX5_readPlain_39 (by decide) ?_
    exact r_sub [] [] [] rfl rfl rfl (hL74 _)
def fX5_endBlock_L50 (p0 : Option Nat) (q0 : Option Nat) (q1 : Int32) (q2 : Int32) (q3 : Int32) (M : Mem) : Option (Int32 × Mem) :=
  bo (wI M q0 q1 (q2 + q3)) fun M51 =>
  bo (gR M51 p0 5 2) fun v53 =>
  bo (gR M51 v53 7 2) fun v56 =>
  bo (gR M51 p0 5 4) fun v61 =>
  bo (gI M51 v61 8 1) fun v64 =>
  bo (wI M51 v56 5 v64) fun M67 =>
  rtZ 1 M67
def fX5_endBlock (a0 : Option Nat) (M : Mem) : Option (Int32 × Mem) :=
  bo (gR M a0 5 4) fun v1 =>
  bo (gI M v1 8 1) fun v4 =>
  if v4 ≤ 8000 then (
    bo (gR M a0 5 2) fun v28 =>
    bo (gR M v28 7 2) fun v31 =>
    bo (aI M v31 15 2) fun v36 =>
    bo (gI M a0 5 15) fun v38 =>
    if v38 = 2 then (
      fX5_endBlock_L50 a0 v31 2 v36 1 M
    ) else (
      fX5_endBlock_L50 a0 v31 2 v36 0 M
    )
  ) else (
    bo (gR M a0 5 2) fun v14 =>
    bo (gI M a0 5 14) fun v20 =>
    bo (chk M v14 7) fun _ => bd (fX7_fail v14 7 v20 M) fun v23 M23 =>
    rtZ v23 M23
  )
def rmX5_endBlock : Room := { frames := 1, cells := 0, slots := 0, locals := 22 }
set_option maxRecDepth 100000 in
set_option maxHeartbeats 4000000 in
theorem ctX5_endBlock (l : Launch) (x : Cx) (a0 : Option Nat) (M : Mem) (v : Int32) (N : Mem) (h : fX5_endBlock a0 M = some (v, N)) : CT l yX5_endBlock cX5_endBlock 1 (some (FieldType.boolean)) rmX5_endBlock x [rv x a0] M (some (.int v)) N := by
  refine ct_mk (enc := fun v : Int32 => some (.int v)) (li := []) (ll := []) (lr := [(0, a0)]) (by decide +kernel) (by simp [lg_sl, rv_cat, cat_int, cat_long]) (by simp [flat, lv_args, rv_cat, cat_int, cat_long]) h ?_
  intro p e s m args below meth c E
  have hL50 : ∀ (p0 : Option Nat) (q0 : Option Nat) (q1 : Int32) (q2 : Int32) (q3 : Int32) (M : Mem), RT p l e rmX5_endBlock s m args below meth c x 1 (QM below args s x (fun v : Int32 => some (.int v)) rmX5_endBlock.cells rmX5_endBlock.slots) 0 0 (fX5_endBlock_L50 p0 q0 q1 q2 q3 M) 50 [] [] [(0, p0)] [.int q3, .int q2, .int q1, rv x q0] M := by
    intro p0 q0 q1 q2 q3 M
    unfold fX5_endBlock_L50
    refine r_iadd (pc := 50) E dX5_endBlock_50 ?_
    refine r_iastore (pc := 51) E dX5_endBlock_51 (fun M51 => ?_)
    refine r_aload_n (pc := 52) E dX5_endBlock_52 rfl 0 rfl ?_
    refine r_getR (pc := 53) E fd_5_2 wf_RX5_23 dX5_endBlock_53 (fun v53 => ?_)
    refine r_getA (pc := 56) E fd_7_2 wf_RX5_132 dX5_endBlock_56 (fun v56 => ?_)
    refine r_iconst (pc := 59) (v := 5) E dX5_endBlock_59 (by decide) ?_
    refine r_aload_n (pc := 60) E dX5_endBlock_60 rfl 0 rfl ?_
    refine r_getR (pc := 61) E fd_5_4 wf_RX5_20 dX5_endBlock_61 (fun v61 => ?_)
    refine r_getI (pc := 64) E fd_8_1 wf_RX5_57 dX5_endBlock_64 (fun v64 => ?_)
    refine r_iastore (pc := 67) E dX5_endBlock_67 (fun M67 => ?_)
    refine r_iconst (pc := 68) (v := 1) E dX5_endBlock_68 (by decide) ?_
    exact e_bool (pc := 69) E dX5_endBlock_69
  show RT p l e rmX5_endBlock s m args below meth c x 1 (QM below args s x (fun v : Int32 => some (.int v)) rmX5_endBlock.cells rmX5_endBlock.slots) 0 0 (fX5_endBlock a0 M) 0 [] [] [(0, a0)] [] M
  unfold fX5_endBlock
  refine r_aload_n (pc := 0) E dX5_endBlock_0 rfl 0 rfl ?_
  refine r_getR (pc := 1) E fd_5_4 wf_RX5_20 dX5_endBlock_1 (fun v1 => ?_)
  refine r_getI (pc := 4) E fd_8_1 wf_RX5_57 dX5_endBlock_4 (fun v4 => ?_)
  refine r_sipush (pc := 7) (v := 8000) E dX5_endBlock_7 (by decide) ?_
  refine r_icmp_le (pc := 10) (tgt := 27) E dX5_endBlock_10 (by decide) ?_ ?_
  · refine r_aload_n (pc := 27) E dX5_endBlock_27 rfl 0 rfl ?_
    refine r_getR (pc := 28) E fd_5_2 wf_RX5_23 dX5_endBlock_28 (fun v28 => ?_)
    refine r_getA (pc := 31) E fd_7_2 wf_RX5_132 dX5_endBlock_31 (fun v31 => ?_)
    refine r_iconst (pc := 34) (v := 2) E dX5_endBlock_34 (by decide) ?_
    refine r_dup2 (pc := 35) E dX5_endBlock_35 rfl (rv_cat _ _) ?_
    refine r_iaload (pc := 36) E dX5_endBlock_36 (fun v36 => ?_)
    refine r_aload_n (pc := 37) E dX5_endBlock_37 rfl 0 rfl ?_
    refine r_getI (pc := 38) E fd_5_15 wf_RX5_79 dX5_endBlock_38 (fun v38 => ?_)
    refine r_iconst (pc := 41) (v := 2) E dX5_endBlock_41 (by decide) ?_
    refine r_icmp_ne (pc := 42) (tgt := 49) E dX5_endBlock_42 (by decide) ?_ ?_
    · refine r_iconst (pc := 49) (v := 0) E dX5_endBlock_49 (by decide) ?_
      exact r_sub [] [] [0] rfl rfl rfl (hL50 a0 v31 2 v36 0 _)
    · refine r_iconst (pc := 45) (v := 1) E dX5_endBlock_45 (by decide) ?_
      refine r_goto (pc := 46) (tgt := 50) E dX5_endBlock_46 (by decide) ?_
      exact r_sub [] [] [0] rfl rfl rfl (hL50 a0 v31 2 v36 1 _)
  · refine r_aload_n (pc := 13) E dX5_endBlock_13 rfl 0 rfl ?_
    refine r_getR (pc := 14) E fd_5_2 wf_RX5_23 dX5_endBlock_14 (fun v14 => ?_)
    refine r_bipush (pc := 17) (v := 7) E dX5_endBlock_17 (by decide) ?_
    refine r_aload_n (pc := 19) E dX5_endBlock_19 rfl 0 rfl ?_
    refine r_getI (pc := 20) E fd_5_14 wf_RX5_186 dX5_endBlock_20 (fun v20 => ?_)
    refine r_kVi (pc := 23) (As := [.int 7, .int v20]) (rest := []) E wc_X7_fail wi_RX7 hd_X7_fail (ci := 7) rfl wl_RX5_122 wn_X7_fail ws_X7_fail dX5_endBlock_23 (by decide) (Nat.le_of_ble_eq_true rfl) ⟨rfl, rfl⟩ (ctX7_fail l x _ _ _ _) rfl (fun v23 M23 => ?_)
    exact e_bool (pc := 26) E dX5_endBlock_26
def fX12_turn (a0 : Int64) (a2 : Int32) (M : Mem) : Option (Int64 × Mem) :=
  some ((shlJ a0 a2) ||| (ushJ a0 (64 - a2)), M)
def rmX12_turn : Room := { frames := 0, cells := 0, slots := 0, locals := 0 }
set_option maxRecDepth 100000 in
set_option maxHeartbeats 4000000 in
theorem ctX12_turn (l : Launch) (x : Cx) (a0 : Int64) (a2 : Int32) (M : Mem) (v : Int64) (N : Mem) (h : fX12_turn a0 a2 M = some (v, N)) : CT l yX12_turn cX12_turn 3 (some (FieldType.long)) rmX12_turn x [.long a0, .int a2] M (some (.long v)) N := by
  refine ct_mk (enc := fun v : Int64 => some (.long v)) (li := [(2, a2)]) (ll := [(0, a0)]) (lr := []) (by decide +kernel) (by simp [lg_sl, rv_cat, cat_int, cat_long]) (by simp [flat, lv_args, rv_cat, cat_int, cat_long]) h ?_
  intro p e s m args below meth c E
  show RT p l e rmX12_turn s m args below meth c x 3 (QM below args s x (fun v : Int64 => some (.long v)) rmX12_turn.cells rmX12_turn.slots) 0 0 (fX12_turn a0 a2 M) 0 [(2, a2)] [(0, a0)] [] [] M
  unfold fX12_turn
  refine r_lload_n (pc := 0) E dX12_turn_0 rfl 0 rfl ?_
  refine r_iload_n (pc := 1) E dX12_turn_1 rfl 0 rfl ?_
  refine r_lshl (pc := 2) E dX12_turn_2 ?_
  refine r_lload_n (pc := 3) E dX12_turn_3 rfl 0 rfl ?_
  refine r_bipush (pc := 4) (v := 64) E dX12_turn_4 (by decide) ?_
  refine r_iload_n (pc := 6) E dX12_turn_6 rfl 0 rfl ?_
  refine r_isub (pc := 7) E dX12_turn_7 ?_
  refine r_lushr (pc := 8) E dX12_turn_8 ?_
  refine r_lor (pc := 9) E dX12_turn_9 ?_
  exact e_long (pc := 10) E dX12_turn_10
def fX12_round (a0 : Int64) (a2 : Int64) (M : Mem) : Option (Int64 × Mem) :=
  bd (fX12_turn (a0 + (a2 * ((-4417276706812531889)))) 31 M) fun v9 M9 =>
  some (v9 * ((-7046029288634856825)), M9)
def rmX12_round : Room := { frames := 1, cells := 0, slots := 0, locals := 22 }
set_option maxRecDepth 100000 in
set_option maxHeartbeats 4000000 in
theorem ctX12_round (l : Launch) (x : Cx) (a0 : Int64) (a2 : Int64) (M : Mem) (v : Int64) (N : Mem) (h : fX12_round a0 a2 M = some (v, N)) : CT l yX12_round cX12_round 4 (some (FieldType.long)) rmX12_round x [.long a0, .long a2] M (some (.long v)) N := by
  refine ct_mk (enc := fun v : Int64 => some (.long v)) (li := []) (ll := [(0, a0), (2, a2)]) (lr := []) (by decide +kernel) (by simp [lg_sl, rv_cat, cat_int, cat_long]) (by simp [flat, lv_args, rv_cat, cat_int, cat_long]) h ?_
  intro p e s m args below meth c E
  show RT p l e rmX12_round s m args below meth c x 4 (QM below args s x (fun v : Int64 => some (.long v)) rmX12_round.cells rmX12_round.slots) 0 0 (fX12_round a0 a2 M) 0 [] [(0, a0), (2, a2)] [] [] M
  unfold fX12_round
  refine r_lload_n (pc := 0) E dX12_round_0 rfl 0 rfl ?_
  refine r_lload_n (pc := 1) E dX12_round_1 rfl 1 rfl ?_
  refine r_ldc2 (pc := 2) E wk_RX12_190 dX12_round_2 ?_
  refine r_lmul (pc := 5) E dX12_round_5 ?_
  refine r_ladd (pc := 6) E dX12_round_6 ?_
  refine r_bipush (pc := 7) (v := 31) E dX12_round_7 (by decide) ?_
  refine r_kSl (pc := 9) (As := [.long (a0 + (a2 * ((-4417276706812531889)))), .int 31]) (rest := []) E wc_X12_turn wi_RX12 hd_X12_turn wl_RX12_192 wt_X12_turn dX12_round_9 (by decide) (Nat.le_of_ble_eq_true rfl) ⟨rfl, rfl⟩ (ctX12_turn l x _ _ _) rfl (fun v9 M9 => ?_)
  refine r_ldc2 (pc := 12) E wk_RX12_196 dX12_round_12 ?_
  refine r_lmul (pc := 15) E dX12_round_15 ?_
  exact e_long (pc := 16) E dX12_round_16
def fX8_sumOfLong_B20 (k20 : Option Nat × Int32 × Int64 × Int64 × Int64 × Int64 × Int32 → Mem → Option (Int64 × Mem)) (p0 : Option Nat) (p2 : Int32) (p3 : Int64) (p5 : Int64) (p7 : Int64) (p9 : Int64) (p11 : Int32) (M : Mem) : Option (Int64 × Mem) :=
  if p2 ≤ p11 then (
    bd (fX12_turn p3 1 M) fun v101 M101 =>
    bd (fX12_turn p5 7 M101) fun v108 M108 =>
    bd (fX12_turn p7 12 M108) fun v116 M116 =>
    bd (fX12_turn p9 18 M116) fun v124 M124 =>
    bn (((v101 + v108) + v116) + v124) fun v128 =>
    bd (fX12_round 0 p3 M124) fun v134 M134 =>
    bn (((v128 ^^^ v134) * ((-7046029288634856825))) + ((-8796714831421723037))) fun v146 =>
    bd (fX12_round 0 p5 M134) fun v153 M153 =>
    bn (((v146 ^^^ v153) * ((-7046029288634856825))) + ((-8796714831421723037))) fun v165 =>
    bd (fX12_round 0 p7 M153) fun v172 M172 =>
    bn (((v165 ^^^ v172) * ((-7046029288634856825))) + ((-8796714831421723037))) fun v184 =>
    bd (fX12_round 0 p9 M172) fun v191 M191 =>
    some (((v184 ^^^ v191) * ((-7046029288634856825))) + ((-8796714831421723037)), M191)
  ) else (
    bo (chk M p0 8) fun _ => bd (fX8_number p0 p11 8 M) fun v32 M32 =>
    bd (fX12_round p3 v32 M32) fun v35 M35 =>
    bn (v35) fun v38 =>
    bo (chk M35 p0 8) fun _ => bd (fX8_number p0 (p11 + 8) 8 M35) fun v49 M49 =>
    bd (fX12_round p5 v49 M49) fun v52 M52 =>
    bn (v52) fun v55 =>
    bo (chk M52 p0 8) fun _ => bd (fX8_number p0 (p11 + 16) 8 M52) fun v67 M67 =>
    bd (fX12_round p7 v67 M67) fun v70 M70 =>
    bn (v70) fun v73 =>
    bo (chk M70 p0 8) fun _ => bd (fX8_number p0 (p11 + 24) 8 M70) fun v85 M85 =>
    bd (fX12_round p9 v85 M85) fun v88 M88 =>
    bn (v88) fun v91 =>
    bn (p11 + 32) fun v93 =>
    k20 ((p0, p2, v38, v55, v73, v91, v93)) M88
  )
def fX8_sumOfLong_L20 (p0 : Option Nat) (p2 : Int32) (p3 : Int64) (p5 : Int64) (p7 : Int64) (p9 : Int64) (p11 : Int32) (M : Mem) : Option (Int64 × Mem) :=
  lp (fun k20 (a : Option Nat × Int32 × Int64 × Int64 × Int64 × Int64 × Int32) M => fX8_sumOfLong_B20 k20 a.1 a.2.1 a.2.2.1 a.2.2.2.1 a.2.2.2.2.1 a.2.2.2.2.2.1 a.2.2.2.2.2.2 M) FU ((p0, p2, p3, p5, p7, p9, p11)) M
def fX8_sumOfLong (a0 : Option Nat) (a1 : Int32) (a2 : Int32) (M : Mem) : Option (Int64 × Mem) :=
  bn (6983438078262162902) fun v3 =>
  bn ((-4417276706812531889)) fun v7 =>
  bn (0) fun v10 =>
  bn (7046029288634856825) fun v15 =>
  bn (a1) fun v18 =>
  fX8_sumOfLong_L20 a0 a2 v3 v7 v10 v15 v18 M
def rmX8_sumOfLong : Room := { frames := 2, cells := 0, slots := 0, locals := 46 }
set_option maxRecDepth 100000 in
set_option maxHeartbeats 4000000 in
theorem ctX8_sumOfLong (l : Launch) (x : Cx) (a0 : Option Nat) (a1 : Int32) (a2 : Int32) (M : Mem) (v : Int64) (N : Mem) (h : fX8_sumOfLong a0 a1 a2 M = some (v, N)) : CT l yX8_sumOfLong cX8_sumOfLong 13 (some (FieldType.long)) rmX8_sumOfLong x [rv x a0, .int a1, .int a2] M (some (.long v)) N := by
  refine ct_mk (enc := fun v : Int64 => some (.long v)) (li := [(1, a1), (2, a2)]) (ll := []) (lr := [(0, a0)]) (by decide +kernel) (by simp [lg_sl, rv_cat, cat_int, cat_long]) (by simp [flat, lv_args, rv_cat, cat_int, cat_long]) h ?_
  intro p e s m args below meth c E
  have hL20 : ∀ (p0 : Option Nat) (p2 : Int32) (p3 : Int64) (p5 : Int64) (p7 : Int64) (p9 : Int64) (p11 : Int32) (M : Mem), RT p l e rmX8_sumOfLong s m args below meth c x 13 (QM below args s x (fun v : Int64 => some (.long v)) rmX8_sumOfLong.cells rmX8_sumOfLong.slots) 0 0 (fX8_sumOfLong_L20 p0 p2 p3 p5 p7 p9 p11 M) 20 [(2, p2), (11, p11)] [(3, p3), (5, p5), (7, p7), (9, p9)] [(0, p0)] [] M := by
    intro p0 p2 p3 p5 p7 p9 p11 M
    refine r_lp (fi := fun a : Option Nat × Int32 × Int64 × Int64 × Int64 × Int64 × Int32 => [(2, a.2.1), (11, a.2.2.2.2.2.2)]) (fl := fun a : Option Nat × Int32 × Int64 × Int64 × Int64 × Int64 × Int32 => [(3, a.2.2.1), (5, a.2.2.2.1), (7, a.2.2.2.2.1), (9, a.2.2.2.2.2.1)]) (fr := fun a : Option Nat × Int32 × Int64 × Int64 × Int64 × Int64 × Int32 => [(0, a.1)]) (fs := fun a : Option Nat × Int32 × Int64 × Int64 × Int64 × Int64 × Int32 => []) ?_ FU ((p0, p2, p3, p5, p7, p9, p11)) M
    intro k20 hk20 a M
    obtain ⟨p0, p2, p3, p5, p7, p9, p11⟩ := a
    show RT p l e rmX8_sumOfLong s m args below meth c x 13 (QM below args s x (fun v : Int64 => some (.long v)) rmX8_sumOfLong.cells rmX8_sumOfLong.slots) 0 0 (fX8_sumOfLong_B20 k20 p0 p2 p3 p5 p7 p9 p11 M) 20 [(2, p2), (11, p11)] [(3, p3), (5, p5), (7, p7), (9, p9)] [(0, p0)] [] M
    unfold fX8_sumOfLong_B20
    refine r_iload (pc := 20) E dX8_sumOfLong_20 1 rfl ?_
    refine r_iload_n (pc := 22) E dX8_sumOfLong_22 rfl 0 rfl ?_
    refine r_icmp_ge (pc := 23) (tgt := 99) E dX8_sumOfLong_23 (by decide) ?_ ?_
    · refine r_lload_n (pc := 99) E dX8_sumOfLong_99 rfl 0 rfl ?_
      refine r_iconst (pc := 100) (v := 1) E dX8_sumOfLong_100 (by decide) ?_
      refine r_kSNl (pc := 101) (As := [.long p3, .int 1]) (rest := []) E wc_X12_turn wi_RX12 hd_X12_turn (host := "TabledFrames") (by decide +kernel) wt_X12_turn dX8_sumOfLong_101 (by decide) (Nat.le_of_ble_eq_true rfl) ⟨rfl, rfl⟩ (ctX12_turn l x _ _ _) rfl (fun v101 M101 => ?_)
      refine r_lload (pc := 104) E dX8_sumOfLong_104 1 rfl ?_
      refine r_bipush (pc := 106) (v := 7) E dX8_sumOfLong_106 (by decide) ?_
      refine r_kSNl (pc := 108) (As := [.long p5, .int 7]) (rest := [.long v101]) E wc_X12_turn wi_RX12 hd_X12_turn (host := "TabledFrames") (by decide +kernel) wt_X12_turn dX8_sumOfLong_108 (by decide) (Nat.le_of_ble_eq_true rfl) ⟨rfl, rfl⟩ (ctX12_turn l x _ _ _) rfl (fun v108 M108 => ?_)
      refine r_ladd (pc := 111) E dX8_sumOfLong_111 ?_
      refine r_lload (pc := 112) E dX8_sumOfLong_112 2 rfl ?_
      refine r_bipush (pc := 114) (v := 12) E dX8_sumOfLong_114 (by decide) ?_
      refine r_kSNl (pc := 116) (As := [.long p7, .int 12]) (rest := [.long (v101 + v108)]) E wc_X12_turn wi_RX12 hd_X12_turn (host := "TabledFrames") (by decide +kernel) wt_X12_turn dX8_sumOfLong_116 (by decide) (Nat.le_of_ble_eq_true rfl) ⟨rfl, rfl⟩ (ctX12_turn l x _ _ _) rfl (fun v116 M116 => ?_)
      refine r_ladd (pc := 119) E dX8_sumOfLong_119 ?_
      refine r_lload (pc := 120) E dX8_sumOfLong_120 3 rfl ?_
      refine r_bipush (pc := 122) (v := 18) E dX8_sumOfLong_122 (by decide) ?_
      refine r_kSNl (pc := 124) (As := [.long p9, .int 18]) (rest := [.long ((v101 + v108) + v116)]) E wc_X12_turn wi_RX12 hd_X12_turn (host := "TabledFrames") (by decide +kernel) wt_X12_turn dX8_sumOfLong_124 (by decide) (Nat.le_of_ble_eq_true rfl) ⟨rfl, rfl⟩ (ctX12_turn l x _ _ _) rfl (fun v124 M124 => ?_)
      refine r_ladd (pc := 127) E dX8_sumOfLong_127 ?_
      refine r_lstore (pc := 128) (lf := fun v128 => [(2, p2)]) (lg := fun v128 => [(11, v128), (3, p3), (5, p5), (7, p7), (9, p9)]) (lk := fun v128 => [(0, p0)]) E dX8_sumOfLong_128 (by decide) (fun _ => rfl) (fun _ => rfl) (fun _ => rfl) (fun v128 => ?_)
      refine r_lload (pc := 130) E dX8_sumOfLong_130 0 rfl ?_
      refine r_lconst (pc := 132) (v := 0) E dX8_sumOfLong_132 (by decide) ?_
      refine r_lload_n (pc := 133) E dX8_sumOfLong_133 rfl 1 rfl ?_
      refine r_kSNl (pc := 134) (As := [.long 0, .long p3]) (rest := [.long v128]) E wc_X12_round wi_RX12 hd_X12_round (host := "TabledFrames") (by decide +kernel) wt_X12_round dX8_sumOfLong_134 (by decide) (Nat.le_of_ble_eq_true rfl) ⟨rfl, rfl⟩ (ctX12_round l x _ _ _) rfl (fun v134 M134 => ?_)
      refine r_lxor (pc := 137) E dX8_sumOfLong_137 ?_
      refine r_ldc2 (pc := 138) E wk_RX8_64 dX8_sumOfLong_138 ?_
      refine r_lmul (pc := 141) E dX8_sumOfLong_141 ?_
      refine r_ldc2 (pc := 142) E wk_RX8_66 dX8_sumOfLong_142 ?_
      refine r_ladd (pc := 145) E dX8_sumOfLong_145 ?_
      refine r_lstore (pc := 146) (lf := fun v146 => [(2, p2)]) (lg := fun v146 => [(11, v146), (3, p3), (5, p5), (7, p7), (9, p9)]) (lk := fun v146 => [(0, p0)]) E dX8_sumOfLong_146 (by decide) (fun _ => rfl) (fun _ => rfl) (fun _ => rfl) (fun v146 => ?_)
      refine r_lload (pc := 148) E dX8_sumOfLong_148 0 rfl ?_
      refine r_lconst (pc := 150) (v := 0) E dX8_sumOfLong_150 (by decide) ?_
      refine r_lload (pc := 151) E dX8_sumOfLong_151 2 rfl ?_
      refine r_kSNl (pc := 153) (As := [.long 0, .long p5]) (rest := [.long v146]) E wc_X12_round wi_RX12 hd_X12_round (host := "TabledFrames") (by decide +kernel) wt_X12_round dX8_sumOfLong_153 (by decide) (Nat.le_of_ble_eq_true rfl) ⟨rfl, rfl⟩ (ctX12_round l x _ _ _) rfl (fun v153 M153 => ?_)
      refine r_lxor (pc := 156) E dX8_sumOfLong_156 ?_
      refine r_ldc2 (pc := 157) E wk_RX8_64 dX8_sumOfLong_157 ?_
      refine r_lmul (pc := 160) E dX8_sumOfLong_160 ?_
      refine r_ldc2 (pc := 161) E wk_RX8_66 dX8_sumOfLong_161 ?_
      refine r_ladd (pc := 164) E dX8_sumOfLong_164 ?_
      refine r_lstore (pc := 165) (lf := fun v165 => [(2, p2)]) (lg := fun v165 => [(11, v165), (3, p3), (5, p5), (7, p7), (9, p9)]) (lk := fun v165 => [(0, p0)]) E dX8_sumOfLong_165 (by decide) (fun _ => rfl) (fun _ => rfl) (fun _ => rfl) (fun v165 => ?_)
      refine r_lload (pc := 167) E dX8_sumOfLong_167 0 rfl ?_
      refine r_lconst (pc := 169) (v := 0) E dX8_sumOfLong_169 (by decide) ?_
      refine r_lload (pc := 170) E dX8_sumOfLong_170 3 rfl ?_
      refine r_kSNl (pc := 172) (As := [.long 0, .long p7]) (rest := [.long v165]) E wc_X12_round wi_RX12 hd_X12_round (host := "TabledFrames") (by decide +kernel) wt_X12_round dX8_sumOfLong_172 (by decide) (Nat.le_of_ble_eq_true rfl) ⟨rfl, rfl⟩ (ctX12_round l x _ _ _) rfl (fun v172 M172 => ?_)
      refine r_lxor (pc := 175) E dX8_sumOfLong_175 ?_
      refine r_ldc2 (pc := 176) E wk_RX8_64 dX8_sumOfLong_176 ?_
      refine r_lmul (pc := 179) E dX8_sumOfLong_179 ?_
      refine r_ldc2 (pc := 180) E wk_RX8_66 dX8_sumOfLong_180 ?_
      refine r_ladd (pc := 183) E dX8_sumOfLong_183 ?_
      refine r_lstore (pc := 184) (lf := fun v184 => [(2, p2)]) (lg := fun v184 => [(11, v184), (3, p3), (5, p5), (7, p7), (9, p9)]) (lk := fun v184 => [(0, p0)]) E dX8_sumOfLong_184 (by decide) (fun _ => rfl) (fun _ => rfl) (fun _ => rfl) (fun v184 => ?_)
      refine r_lload (pc := 186) E dX8_sumOfLong_186 0 rfl ?_
      refine r_lconst (pc := 188) (v := 0) E dX8_sumOfLong_188 (by decide) ?_
      refine r_lload (pc := 189) E dX8_sumOfLong_189 4 rfl ?_
      refine r_kSNl (pc := 191) (As := [.long 0, .long p9]) (rest := [.long v184]) E wc_X12_round wi_RX12 hd_X12_round (host := "TabledFrames") (by decide +kernel) wt_X12_round dX8_sumOfLong_191 (by decide) (Nat.le_of_ble_eq_true rfl) ⟨rfl, rfl⟩ (ctX12_round l x _ _ _) rfl (fun v191 M191 => ?_)
      refine r_lxor (pc := 194) E dX8_sumOfLong_194 ?_
      refine r_ldc2 (pc := 195) E wk_RX8_64 dX8_sumOfLong_195 ?_
      refine r_lmul (pc := 198) E dX8_sumOfLong_198 ?_
      refine r_ldc2 (pc := 199) E wk_RX8_66 dX8_sumOfLong_199 ?_
      refine r_ladd (pc := 202) E dX8_sumOfLong_202 ?_
      exact e_long (pc := 203) E dX8_sumOfLong_203
    · refine r_lload_n (pc := 26) E dX8_sumOfLong_26 rfl 0 rfl ?_
      refine r_aload_n (pc := 27) E dX8_sumOfLong_27 rfl 0 rfl ?_
      refine r_iload (pc := 28) E dX8_sumOfLong_28 1 rfl ?_
      refine r_bipush (pc := 30) (v := 8) E dX8_sumOfLong_30 (by decide) ?_
      refine r_kVl (pc := 32) (As := [.int p11, .int 8]) (rest := [.long p3]) E wc_X8_number wi_RX8 hd_X8_number (ci := 8) rfl wl_RX8_53 wn_X8_number ws_X8_number dX8_sumOfLong_32 (by decide) (Nat.le_of_ble_eq_true rfl) ⟨rfl, rfl⟩ (ctX8_number l x _ _ _ _) rfl (fun v32 M32 => ?_)
      refine r_kSNl (pc := 35) (As := [.long p3, .long v32]) (rest := []) E wc_X12_round wi_RX12 hd_X12_round (host := "TabledFrames") (by decide +kernel) wt_X12_round dX8_sumOfLong_35 (by decide) (Nat.le_of_ble_eq_true rfl) ⟨rfl, rfl⟩ (ctX12_round l x _ _ _) rfl (fun v35 M35 => ?_)
      refine r_lstore_n (pc := 38) (lf := fun v38 => [(2, p2), (11, p11)]) (lg := fun v38 => [(3, v38), (5, p5), (7, p7), (9, p9)]) (lk := fun v38 => [(0, p0)]) E dX8_sumOfLong_38 rfl (by decide) (fun _ => rfl) (fun _ => rfl) (fun _ => rfl) (fun v38 => ?_)
      refine r_lload (pc := 39) E dX8_sumOfLong_39 1 rfl ?_
      refine r_aload_n (pc := 41) E dX8_sumOfLong_41 rfl 0 rfl ?_
      refine r_iload (pc := 42) E dX8_sumOfLong_42 1 rfl ?_
      refine r_bipush (pc := 44) (v := 8) E dX8_sumOfLong_44 (by decide) ?_
      refine r_iadd (pc := 46) E dX8_sumOfLong_46 ?_
      refine r_bipush (pc := 47) (v := 8) E dX8_sumOfLong_47 (by decide) ?_
      refine r_kVl (pc := 49) (As := [.int (p11 + 8), .int 8]) (rest := [.long p5]) E wc_X8_number wi_RX8 hd_X8_number (ci := 8) rfl wl_RX8_53 wn_X8_number ws_X8_number dX8_sumOfLong_49 (by decide) (Nat.le_of_ble_eq_true rfl) ⟨rfl, rfl⟩ (ctX8_number l x _ _ _ _) rfl (fun v49 M49 => ?_)
      refine r_kSNl (pc := 52) (As := [.long p5, .long v49]) (rest := []) E wc_X12_round wi_RX12 hd_X12_round (host := "TabledFrames") (by decide +kernel) wt_X12_round dX8_sumOfLong_52 (by decide) (Nat.le_of_ble_eq_true rfl) ⟨rfl, rfl⟩ (ctX12_round l x _ _ _) rfl (fun v52 M52 => ?_)
      refine r_lstore (pc := 55) (lf := fun v55 => [(2, p2), (11, p11)]) (lg := fun v55 => [(5, v55), (3, v38), (7, p7), (9, p9)]) (lk := fun v55 => [(0, p0)]) E dX8_sumOfLong_55 (by decide) (fun _ => rfl) (fun _ => rfl) (fun _ => rfl) (fun v55 => ?_)
      refine r_lload (pc := 57) E dX8_sumOfLong_57 2 rfl ?_
      refine r_aload_n (pc := 59) E dX8_sumOfLong_59 rfl 0 rfl ?_
      refine r_iload (pc := 60) E dX8_sumOfLong_60 1 rfl ?_
      refine r_bipush (pc := 62) (v := 16) E dX8_sumOfLong_62 (by decide) ?_
      refine r_iadd (pc := 64) E dX8_sumOfLong_64 ?_
      refine r_bipush (pc := 65) (v := 8) E dX8_sumOfLong_65 (by decide) ?_
      refine r_kVl (pc := 67) (As := [.int (p11 + 16), .int 8]) (rest := [.long p7]) E wc_X8_number wi_RX8 hd_X8_number (ci := 8) rfl wl_RX8_53 wn_X8_number ws_X8_number dX8_sumOfLong_67 (by decide) (Nat.le_of_ble_eq_true rfl) ⟨rfl, rfl⟩ (ctX8_number l x _ _ _ _) rfl (fun v67 M67 => ?_)
      refine r_kSNl (pc := 70) (As := [.long p7, .long v67]) (rest := []) E wc_X12_round wi_RX12 hd_X12_round (host := "TabledFrames") (by decide +kernel) wt_X12_round dX8_sumOfLong_70 (by decide) (Nat.le_of_ble_eq_true rfl) ⟨rfl, rfl⟩ (ctX12_round l x _ _ _) rfl (fun v70 M70 => ?_)
      refine r_lstore (pc := 73) (lf := fun v73 => [(2, p2), (11, p11)]) (lg := fun v73 => [(7, v73), (5, v55), (3, v38), (9, p9)]) (lk := fun v73 => [(0, p0)]) E dX8_sumOfLong_73 (by decide) (fun _ => rfl) (fun _ => rfl) (fun _ => rfl) (fun v73 => ?_)
      refine r_lload (pc := 75) E dX8_sumOfLong_75 3 rfl ?_
      refine r_aload_n (pc := 77) E dX8_sumOfLong_77 rfl 0 rfl ?_
      refine r_iload (pc := 78) E dX8_sumOfLong_78 1 rfl ?_
      refine r_bipush (pc := 80) (v := 24) E dX8_sumOfLong_80 (by decide) ?_
      refine r_iadd (pc := 82) E dX8_sumOfLong_82 ?_
      refine r_bipush (pc := 83) (v := 8) E dX8_sumOfLong_83 (by decide) ?_
      refine r_kVl (pc := 85) (As := [.int (p11 + 24), .int 8]) (rest := [.long p9]) E wc_X8_number wi_RX8 hd_X8_number (ci := 8) rfl wl_RX8_53 wn_X8_number ws_X8_number dX8_sumOfLong_85 (by decide) (Nat.le_of_ble_eq_true rfl) ⟨rfl, rfl⟩ (ctX8_number l x _ _ _ _) rfl (fun v85 M85 => ?_)
      refine r_kSNl (pc := 88) (As := [.long p9, .long v85]) (rest := []) E wc_X12_round wi_RX12 hd_X12_round (host := "TabledFrames") (by decide +kernel) wt_X12_round dX8_sumOfLong_88 (by decide) (Nat.le_of_ble_eq_true rfl) ⟨rfl, rfl⟩ (ctX12_round l x _ _ _) rfl (fun v88 M88 => ?_)
      refine r_lstore (pc := 91) (lf := fun v91 => [(2, p2), (11, p11)]) (lg := fun v91 => [(9, v91), (7, v73), (5, v55), (3, v38)]) (lk := fun v91 => [(0, p0)]) E dX8_sumOfLong_91 (by decide) (fun _ => rfl) (fun _ => rfl) (fun _ => rfl) (fun v91 => ?_)
      refine r_iinc (pc := 93) (w := 32) (lf := fun v93 => [(11, v93), (2, p2)]) (ll' := [(9, v91), (7, v73), (5, v55), (3, v38)]) (lr' := [(0, p0)]) E dX8_sumOfLong_93 1 rfl (by decide) (by decide) (fun _ => rfl) rfl rfl (fun v93 => ?_)
      refine r_goto (pc := 96) (tgt := 20) E dX8_sumOfLong_96 (by decide) ?_
      exact r_sub [1, 0] [3, 2, 1, 0] [0] rfl rfl rfl (hk20 ((p0, p2, v38, v55, v73, v91, v93)) _)
  show RT p l e rmX8_sumOfLong s m args below meth c x 13 (QM below args s x (fun v : Int64 => some (.long v)) rmX8_sumOfLong.cells rmX8_sumOfLong.slots) 0 0 (fX8_sumOfLong a0 a1 a2 M) 0 [(1, a1), (2, a2)] [] [(0, a0)] [] M
  unfold fX8_sumOfLong
  refine r_ldc2 (pc := 0) E wk_RX8_72 dX8_sumOfLong_0 ?_
  refine r_lstore_n (pc := 3) (lf := fun v3 => [(1, a1), (2, a2)]) (lg := fun v3 => [(3, v3)]) (lk := fun v3 => [(0, a0)]) E dX8_sumOfLong_3 rfl (by decide) (fun _ => rfl) (fun _ => rfl) (fun _ => rfl) (fun v3 => ?_)
  refine r_ldc2 (pc := 4) E wk_RX8_68 dX8_sumOfLong_4 ?_
  refine r_lstore (pc := 7) (lf := fun v7 => [(1, a1), (2, a2)]) (lg := fun v7 => [(5, v7), (3, v3)]) (lk := fun v7 => [(0, a0)]) E dX8_sumOfLong_7 (by decide) (fun _ => rfl) (fun _ => rfl) (fun _ => rfl) (fun v7 => ?_)
  refine r_lconst (pc := 9) (v := 0) E dX8_sumOfLong_9 (by decide) ?_
  refine r_lstore (pc := 10) (lf := fun v10 => [(1, a1), (2, a2)]) (lg := fun v10 => [(7, v10), (5, v7), (3, v3)]) (lk := fun v10 => [(0, a0)]) E dX8_sumOfLong_10 (by decide) (fun _ => rfl) (fun _ => rfl) (fun _ => rfl) (fun v10 => ?_)
  refine r_ldc2 (pc := 12) E wk_RX8_74 dX8_sumOfLong_12 ?_
  refine r_lstore (pc := 15) (lf := fun v15 => [(1, a1), (2, a2)]) (lg := fun v15 => [(9, v15), (7, v10), (5, v7), (3, v3)]) (lk := fun v15 => [(0, a0)]) E dX8_sumOfLong_15 (by decide) (fun _ => rfl) (fun _ => rfl) (fun _ => rfl) (fun v15 => ?_)
  refine r_iload_n (pc := 17) E dX8_sumOfLong_17 rfl 0 rfl ?_
  refine r_istore (pc := 18) (lf := fun v18 => [(11, v18), (1, a1), (2, a2)]) (lg := fun v18 => [(9, v15), (7, v10), (5, v7), (3, v3)]) (lk := fun v18 => [(0, a0)]) E dX8_sumOfLong_18 (by decide) (fun _ => rfl) (fun _ => rfl) (fun _ => rfl) (fun v18 => ?_)
  exact r_sub [2, 0] [3, 2, 1, 0] [0] rfl rfl rfl (hL20 a0 a2 v3 v7 v10 v15 v18 _)
def fX8_sumFrom_B127 (k127 : Option Nat × Int32 × Int64 → Mem → Option (Int64 × Mem)) (p0 : Option Nat) (p2 : Int32) (p3 : Int64) (M : Mem) : Option (Int64 × Mem) :=
  bo (gI M p0 8 1) fun v128 =>
  if (v128 - p2) < 1 then (
    bn ((p3 ^^^ (ushJ p3 33)) * ((-4417276706812531889))) fun v175 =>
    bn ((v175 ^^^ (ushJ v175 29)) * 1609587929392839161) fun v186 =>
    some (v186 ^^^ (ushJ v186 32), M)
  ) else (
    bo (chk M p0 8) fun _ => bd (fX8_get p0 p2 M) fun v140 M140 =>
    bd (fX12_turn (p3 ^^^ (v140.toInt64 * 2870177450012600261)) 11 M140) fun v151 M151 =>
    bn (v151 * ((-7046029288634856825))) fun v158 =>
    bn (p2 + 1) fun v159 =>
    k127 ((p0, v159, v158)) M151
  )
def fX8_sumFrom_L127 (p0 : Option Nat) (p2 : Int32) (p3 : Int64) (M : Mem) : Option (Int64 × Mem) :=
  lp (fun k127 (a : Option Nat × Int32 × Int64) M => fX8_sumFrom_B127 k127 a.1 a.2.1 a.2.2 M) FU ((p0, p2, p3)) M
def fX8_sumFrom_B85 (k85 : Option Nat × Int32 × Int64 → Mem → Option (Int64 × Mem)) (p0 : Option Nat) (p2 : Int32) (p3 : Int64) (M : Mem) : Option (Int64 × Mem) :=
  bo (gI M p0 8 1) fun v86 =>
  if (v86 - p2) < 4 then (
    fX8_sumFrom_L127 p0 p2 p3 M
  ) else (
    bo (chk M p0 8) fun _ => bd (fX8_number p0 p2 4 M) fun v99 M99 =>
    bd (fX12_turn (p3 ^^^ (v99 * ((-7046029288634856825)))) 23 M99) fun v109 M109 =>
    bn ((v109 * ((-4417276706812531889))) + 1609587929392839161) fun v120 =>
    bn (p2 + 4) fun v121 =>
    k85 ((p0, v121, v120)) M109
  )
def fX8_sumFrom_L85 (p0 : Option Nat) (p2 : Int32) (p3 : Int64) (M : Mem) : Option (Int64 × Mem) :=
  lp (fun k85 (a : Option Nat × Int32 × Int64) M => fX8_sumFrom_B85 k85 a.1 a.2.1 a.2.2 M) FU ((p0, p2, p3)) M
def fX8_sumFrom_B41 (k41 : Option Nat × Int32 × Int64 → Mem → Option (Int64 × Mem)) (p0 : Option Nat) (p2 : Int32) (p3 : Int64) (M : Mem) : Option (Int64 × Mem) :=
  bo (gI M p0 8 1) fun v42 =>
  if (v42 - p2) < 8 then (
    fX8_sumFrom_L85 p0 p2 p3 M
  ) else (
    bo (chk M p0 8) fun _ => bd (fX8_number p0 p2 8 M) fun v58 M58 =>
    bd (fX12_round 0 v58 M58) fun v61 M61 =>
    bd (fX12_turn (p3 ^^^ v61) 27 M61) fun v67 M67 =>
    bn ((v67 * ((-7046029288634856825))) + ((-8796714831421723037))) fun v78 =>
    bn (p2 + 8) fun v79 =>
    k41 ((p0, v79, v78)) M67
  )
def fX8_sumFrom_L41 (p0 : Option Nat) (p2 : Int32) (p3 : Int64) (M : Mem) : Option (Int64 × Mem) :=
  lp (fun k41 (a : Option Nat × Int32 × Int64) M => fX8_sumFrom_B41 k41 a.1 a.2.1 a.2.2 M) FU ((p0, p2, p3)) M
def fX8_sumFrom_L32 (p0 : Option Nat) (p1 : Int32) (p2 : Int32) (q0 : Int64) (M : Mem) : Option (Int64 × Mem) :=
  bo (gI M p0 8 1) fun v33 =>
  bn (q0 + ((v33 - p1).toInt64)) fun v40 =>
  fX8_sumFrom_L41 p0 p2 v40 M
def fX8_sumFrom (a0 : Option Nat) (a1 : Int32) (M : Mem) : Option (Int64 × Mem) :=
  bo (gI M a0 8 1) fun v2 =>
  bo (dv (v2 - a1) 32) fun v9 =>
  bn (a1 + (v9 * 32)) fun v14 =>
  if v14 ≤ a1 then (
    fX8_sumFrom_L32 a0 a1 v14 2870177450012600261 M
  ) else (
    bo (chk M a0 8) fun _ => bd (fX8_sumOfLong a0 a1 v14 M) fun v23 M23 =>
    fX8_sumFrom_L32 a0 a1 v14 v23 M23
  )
def rmX8_sumFrom : Room := { frames := 3, cells := 0, slots := 0, locals := 78 }
set_option maxRecDepth 100000 in
set_option maxHeartbeats 4000000 in
theorem ctX8_sumFrom (l : Launch) (x : Cx) (a0 : Option Nat) (a1 : Int32) (M : Mem) (v : Int64) (N : Mem) (h : fX8_sumFrom a0 a1 M = some (v, N)) : CT l yX8_sumFrom cX8_sumFrom 5 (some (FieldType.long)) rmX8_sumFrom x [rv x a0, .int a1] M (some (.long v)) N := by
  refine ct_mk (enc := fun v : Int64 => some (.long v)) (li := [(1, a1)]) (ll := []) (lr := [(0, a0)]) (by decide +kernel) (by simp [lg_sl, rv_cat, cat_int, cat_long]) (by simp [flat, lv_args, rv_cat, cat_int, cat_long]) h ?_
  intro p e s m args below meth c E
  have hL127 : ∀ (p0 : Option Nat) (p2 : Int32) (p3 : Int64) (M : Mem), RT p l e rmX8_sumFrom s m args below meth c x 5 (QM below args s x (fun v : Int64 => some (.long v)) rmX8_sumFrom.cells rmX8_sumFrom.slots) 0 0 (fX8_sumFrom_L127 p0 p2 p3 M) 127 [(2, p2)] [(3, p3)] [(0, p0)] [] M := by
    intro p0 p2 p3 M
    refine r_lp (fi := fun a : Option Nat × Int32 × Int64 => [(2, a.2.1)]) (fl := fun a : Option Nat × Int32 × Int64 => [(3, a.2.2)]) (fr := fun a : Option Nat × Int32 × Int64 => [(0, a.1)]) (fs := fun a : Option Nat × Int32 × Int64 => []) ?_ FU ((p0, p2, p3)) M
    intro k127 hk127 a M
    obtain ⟨p0, p2, p3⟩ := a
    show RT p l e rmX8_sumFrom s m args below meth c x 5 (QM below args s x (fun v : Int64 => some (.long v)) rmX8_sumFrom.cells rmX8_sumFrom.slots) 0 0 (fX8_sumFrom_B127 k127 p0 p2 p3 M) 127 [(2, p2)] [(3, p3)] [(0, p0)] [] M
    unfold fX8_sumFrom_B127
    refine r_aload_n (pc := 127) E dX8_sumFrom_127 rfl 0 rfl ?_
    refine r_getI (pc := 128) E fd_8_1 wf_RX8_21 dX8_sumFrom_128 (fun v128 => ?_)
    refine r_iload_n (pc := 131) E dX8_sumFrom_131 rfl 0 rfl ?_
    refine r_isub (pc := 132) E dX8_sumFrom_132 ?_
    refine r_iconst (pc := 133) (v := 1) E dX8_sumFrom_133 (by decide) ?_
    refine r_icmp_lt (pc := 134) (tgt := 165) E dX8_sumFrom_134 (by decide) ?_ ?_
    · refine r_lload_n (pc := 165) E dX8_sumFrom_165 rfl 0 rfl ?_
      refine r_lload_n (pc := 166) E dX8_sumFrom_166 rfl 0 rfl ?_
      refine r_bipush (pc := 167) (v := 33) E dX8_sumFrom_167 (by decide) ?_
      refine r_lushr (pc := 169) E dX8_sumFrom_169 ?_
      refine r_lxor (pc := 170) E dX8_sumFrom_170 ?_
      refine r_ldc2 (pc := 171) E wk_RX8_68 dX8_sumFrom_171 ?_
      refine r_lmul (pc := 174) E dX8_sumFrom_174 ?_
      refine r_lstore_n (pc := 175) (lf := fun v175 => [(2, p2)]) (lg := fun v175 => [(3, v175)]) (lk := fun v175 => [(0, p0)]) E dX8_sumFrom_175 rfl (by decide) (fun _ => rfl) (fun _ => rfl) (fun _ => rfl) (fun v175 => ?_)
      refine r_lload_n (pc := 176) E dX8_sumFrom_176 rfl 0 rfl ?_
      refine r_lload_n (pc := 177) E dX8_sumFrom_177 rfl 0 rfl ?_
      refine r_bipush (pc := 178) (v := 29) E dX8_sumFrom_178 (by decide) ?_
      refine r_lushr (pc := 180) E dX8_sumFrom_180 ?_
      refine r_lxor (pc := 181) E dX8_sumFrom_181 ?_
      refine r_ldc2 (pc := 182) E wk_RX8_70 dX8_sumFrom_182 ?_
      refine r_lmul (pc := 185) E dX8_sumFrom_185 ?_
      refine r_lstore_n (pc := 186) (lf := fun v186 => [(2, p2)]) (lg := fun v186 => [(3, v186)]) (lk := fun v186 => [(0, p0)]) E dX8_sumFrom_186 rfl (by decide) (fun _ => rfl) (fun _ => rfl) (fun _ => rfl) (fun v186 => ?_)
      refine r_lload_n (pc := 187) E dX8_sumFrom_187 rfl 0 rfl ?_
      refine r_lload_n (pc := 188) E dX8_sumFrom_188 rfl 0 rfl ?_
      refine r_bipush (pc := 189) (v := 32) E dX8_sumFrom_189 (by decide) ?_
      refine r_lushr (pc := 191) E dX8_sumFrom_191 ?_
      refine r_lxor (pc := 192) E dX8_sumFrom_192 ?_
      exact e_long (pc := 193) E dX8_sumFrom_193
    · refine r_lload_n (pc := 137) E dX8_sumFrom_137 rfl 0 rfl ?_
      refine r_aload_n (pc := 138) E dX8_sumFrom_138 rfl 0 rfl ?_
      refine r_iload_n (pc := 139) E dX8_sumFrom_139 rfl 0 rfl ?_
      refine r_kVi (pc := 140) (As := [.int p2]) (rest := [.long p3]) E wc_X8_get wi_RX8 hd_X8_get (ci := 8) rfl wl_RX8_28 wn_X8_get ws_X8_get dX8_sumFrom_140 (by decide) (Nat.le_of_ble_eq_true rfl) ⟨rfl, rfl⟩ (ctX8_get l x _ _ _) rfl (fun v140 M140 => ?_)
      refine r_i2l (pc := 143) E dX8_sumFrom_143 ?_
      refine r_ldc2 (pc := 144) E wk_RX8_51 dX8_sumFrom_144 ?_
      refine r_lmul (pc := 147) E dX8_sumFrom_147 ?_
      refine r_lxor (pc := 148) E dX8_sumFrom_148 ?_
      refine r_bipush (pc := 149) (v := 11) E dX8_sumFrom_149 (by decide) ?_
      refine r_kSNl (pc := 151) (As := [.long (p3 ^^^ (v140.toInt64 * 2870177450012600261)), .int 11]) (rest := []) E wc_X12_turn wi_RX12 hd_X12_turn (host := "TabledFrames") (by decide +kernel) wt_X12_turn dX8_sumFrom_151 (by decide) (Nat.le_of_ble_eq_true rfl) ⟨rfl, rfl⟩ (ctX12_turn l x _ _ _) rfl (fun v151 M151 => ?_)
      refine r_ldc2 (pc := 154) E wk_RX8_64 dX8_sumFrom_154 ?_
      refine r_lmul (pc := 157) E dX8_sumFrom_157 ?_
      refine r_lstore_n (pc := 158) (lf := fun v158 => [(2, p2)]) (lg := fun v158 => [(3, v158)]) (lk := fun v158 => [(0, p0)]) E dX8_sumFrom_158 rfl (by decide) (fun _ => rfl) (fun _ => rfl) (fun _ => rfl) (fun v158 => ?_)
      refine r_iinc (pc := 159) (w := 1) (lf := fun v159 => [(2, v159)]) (ll' := [(3, v158)]) (lr' := [(0, p0)]) E dX8_sumFrom_159 0 rfl (by decide) (by decide) (fun _ => rfl) rfl rfl (fun v159 => ?_)
      refine r_goto (pc := 162) (tgt := 127) E dX8_sumFrom_162 (by decide) ?_
      exact r_sub [0] [0] [0] rfl rfl rfl (hk127 ((p0, v159, v158)) _)
  have hL85 : ∀ (p0 : Option Nat) (p2 : Int32) (p3 : Int64) (M : Mem), RT p l e rmX8_sumFrom s m args below meth c x 5 (QM below args s x (fun v : Int64 => some (.long v)) rmX8_sumFrom.cells rmX8_sumFrom.slots) 0 0 (fX8_sumFrom_L85 p0 p2 p3 M) 85 [(2, p2)] [(3, p3)] [(0, p0)] [] M := by
    intro p0 p2 p3 M
    refine r_lp (fi := fun a : Option Nat × Int32 × Int64 => [(2, a.2.1)]) (fl := fun a : Option Nat × Int32 × Int64 => [(3, a.2.2)]) (fr := fun a : Option Nat × Int32 × Int64 => [(0, a.1)]) (fs := fun a : Option Nat × Int32 × Int64 => []) ?_ FU ((p0, p2, p3)) M
    intro k85 hk85 a M
    obtain ⟨p0, p2, p3⟩ := a
    show RT p l e rmX8_sumFrom s m args below meth c x 5 (QM below args s x (fun v : Int64 => some (.long v)) rmX8_sumFrom.cells rmX8_sumFrom.slots) 0 0 (fX8_sumFrom_B85 k85 p0 p2 p3 M) 85 [(2, p2)] [(3, p3)] [(0, p0)] [] M
    unfold fX8_sumFrom_B85
    refine r_aload_n (pc := 85) E dX8_sumFrom_85 rfl 0 rfl ?_
    refine r_getI (pc := 86) E fd_8_1 wf_RX8_21 dX8_sumFrom_86 (fun v86 => ?_)
    refine r_iload_n (pc := 89) E dX8_sumFrom_89 rfl 0 rfl ?_
    refine r_isub (pc := 90) E dX8_sumFrom_90 ?_
    refine r_iconst (pc := 91) (v := 4) E dX8_sumFrom_91 (by decide) ?_
    refine r_icmp_lt (pc := 92) (tgt := 127) E dX8_sumFrom_92 (by decide) ?_ ?_
    · exact r_sub [0] [0] [0] rfl rfl rfl (hL127 p0 p2 p3 _)
    · refine r_lload_n (pc := 95) E dX8_sumFrom_95 rfl 0 rfl ?_
      refine r_aload_n (pc := 96) E dX8_sumFrom_96 rfl 0 rfl ?_
      refine r_iload_n (pc := 97) E dX8_sumFrom_97 rfl 0 rfl ?_
      refine r_iconst (pc := 98) (v := 4) E dX8_sumFrom_98 (by decide) ?_
      refine r_kVl (pc := 99) (As := [.int p2, .int 4]) (rest := [.long p3]) E wc_X8_number wi_RX8 hd_X8_number (ci := 8) rfl wl_RX8_53 wn_X8_number ws_X8_number dX8_sumFrom_99 (by decide) (Nat.le_of_ble_eq_true rfl) ⟨rfl, rfl⟩ (ctX8_number l x _ _ _ _) rfl (fun v99 M99 => ?_)
      refine r_ldc2 (pc := 102) E wk_RX8_64 dX8_sumFrom_102 ?_
      refine r_lmul (pc := 105) E dX8_sumFrom_105 ?_
      refine r_lxor (pc := 106) E dX8_sumFrom_106 ?_
      refine r_bipush (pc := 107) (v := 23) E dX8_sumFrom_107 (by decide) ?_
      refine r_kSNl (pc := 109) (As := [.long (p3 ^^^ (v99 * ((-7046029288634856825)))), .int 23]) (rest := []) E wc_X12_turn wi_RX12 hd_X12_turn (host := "TabledFrames") (by decide +kernel) wt_X12_turn dX8_sumFrom_109 (by decide) (Nat.le_of_ble_eq_true rfl) ⟨rfl, rfl⟩ (ctX12_turn l x _ _ _) rfl (fun v109 M109 => ?_)
      refine r_ldc2 (pc := 112) E wk_RX8_68 dX8_sumFrom_112 ?_
      refine r_lmul (pc := 115) E dX8_sumFrom_115 ?_
      refine r_ldc2 (pc := 116) E wk_RX8_70 dX8_sumFrom_116 ?_
      refine r_ladd (pc := 119) E dX8_sumFrom_119 ?_
      refine r_lstore_n (pc := 120) (lf := fun v120 => [(2, p2)]) (lg := fun v120 => [(3, v120)]) (lk := fun v120 => [(0, p0)]) E dX8_sumFrom_120 rfl (by decide) (fun _ => rfl) (fun _ => rfl) (fun _ => rfl) (fun v120 => ?_)
      refine r_iinc (pc := 121) (w := 4) (lf := fun v121 => [(2, v121)]) (ll' := [(3, v120)]) (lr' := [(0, p0)]) E dX8_sumFrom_121 0 rfl (by decide) (by decide) (fun _ => rfl) rfl rfl (fun v121 => ?_)
      refine r_goto (pc := 124) (tgt := 85) E dX8_sumFrom_124 (by decide) ?_
      exact r_sub [0] [0] [0] rfl rfl rfl (hk85 ((p0, v121, v120)) _)
  have hL41 : ∀ (p0 : Option Nat) (p2 : Int32) (p3 : Int64) (M : Mem), RT p l e rmX8_sumFrom s m args below meth c x 5 (QM below args s x (fun v : Int64 => some (.long v)) rmX8_sumFrom.cells rmX8_sumFrom.slots) 0 0 (fX8_sumFrom_L41 p0 p2 p3 M) 41 [(2, p2)] [(3, p3)] [(0, p0)] [] M := by
    intro p0 p2 p3 M
    refine r_lp (fi := fun a : Option Nat × Int32 × Int64 => [(2, a.2.1)]) (fl := fun a : Option Nat × Int32 × Int64 => [(3, a.2.2)]) (fr := fun a : Option Nat × Int32 × Int64 => [(0, a.1)]) (fs := fun a : Option Nat × Int32 × Int64 => []) ?_ FU ((p0, p2, p3)) M
    intro k41 hk41 a M
    obtain ⟨p0, p2, p3⟩ := a
    show RT p l e rmX8_sumFrom s m args below meth c x 5 (QM below args s x (fun v : Int64 => some (.long v)) rmX8_sumFrom.cells rmX8_sumFrom.slots) 0 0 (fX8_sumFrom_B41 k41 p0 p2 p3 M) 41 [(2, p2)] [(3, p3)] [(0, p0)] [] M
    unfold fX8_sumFrom_B41
    refine r_aload_n (pc := 41) E dX8_sumFrom_41 rfl 0 rfl ?_
    refine r_getI (pc := 42) E fd_8_1 wf_RX8_21 dX8_sumFrom_42 (fun v42 => ?_)
    refine r_iload_n (pc := 45) E dX8_sumFrom_45 rfl 0 rfl ?_
    refine r_isub (pc := 46) E dX8_sumFrom_46 ?_
    refine r_bipush (pc := 47) (v := 8) E dX8_sumFrom_47 (by decide) ?_
    refine r_icmp_lt (pc := 49) (tgt := 85) E dX8_sumFrom_49 (by decide) ?_ ?_
    · exact r_sub [0] [0] [0] rfl rfl rfl (hL85 p0 p2 p3 _)
    · refine r_lload_n (pc := 52) E dX8_sumFrom_52 rfl 0 rfl ?_
      refine r_lconst (pc := 53) (v := 0) E dX8_sumFrom_53 (by decide) ?_
      refine r_aload_n (pc := 54) E dX8_sumFrom_54 rfl 0 rfl ?_
      refine r_iload_n (pc := 55) E dX8_sumFrom_55 rfl 0 rfl ?_
      refine r_bipush (pc := 56) (v := 8) E dX8_sumFrom_56 (by decide) ?_
      refine r_kVl (pc := 58) (As := [.int p2, .int 8]) (rest := [.long 0, .long p3]) E wc_X8_number wi_RX8 hd_X8_number (ci := 8) rfl wl_RX8_53 wn_X8_number ws_X8_number dX8_sumFrom_58 (by decide) (Nat.le_of_ble_eq_true rfl) ⟨rfl, rfl⟩ (ctX8_number l x _ _ _ _) rfl (fun v58 M58 => ?_)
      refine r_kSNl (pc := 61) (As := [.long 0, .long v58]) (rest := [.long p3]) E wc_X12_round wi_RX12 hd_X12_round (host := "TabledFrames") (by decide +kernel) wt_X12_round dX8_sumFrom_61 (by decide) (Nat.le_of_ble_eq_true rfl) ⟨rfl, rfl⟩ (ctX12_round l x _ _ _) rfl (fun v61 M61 => ?_)
      refine r_lxor (pc := 64) E dX8_sumFrom_64 ?_
      refine r_bipush (pc := 65) (v := 27) E dX8_sumFrom_65 (by decide) ?_
      refine r_kSNl (pc := 67) (As := [.long (p3 ^^^ v61), .int 27]) (rest := []) E wc_X12_turn wi_RX12 hd_X12_turn (host := "TabledFrames") (by decide +kernel) wt_X12_turn dX8_sumFrom_67 (by decide) (Nat.le_of_ble_eq_true rfl) ⟨rfl, rfl⟩ (ctX12_turn l x _ _ _) rfl (fun v67 M67 => ?_)
      refine r_ldc2 (pc := 70) E wk_RX8_64 dX8_sumFrom_70 ?_
      refine r_lmul (pc := 73) E dX8_sumFrom_73 ?_
      refine r_ldc2 (pc := 74) E wk_RX8_66 dX8_sumFrom_74 ?_
      refine r_ladd (pc := 77) E dX8_sumFrom_77 ?_
      refine r_lstore_n (pc := 78) (lf := fun v78 => [(2, p2)]) (lg := fun v78 => [(3, v78)]) (lk := fun v78 => [(0, p0)]) E dX8_sumFrom_78 rfl (by decide) (fun _ => rfl) (fun _ => rfl) (fun _ => rfl) (fun v78 => ?_)
      refine r_iinc (pc := 79) (w := 8) (lf := fun v79 => [(2, v79)]) (ll' := [(3, v78)]) (lr' := [(0, p0)]) E dX8_sumFrom_79 0 rfl (by decide) (by decide) (fun _ => rfl) rfl rfl (fun v79 => ?_)
      refine r_goto (pc := 82) (tgt := 41) E dX8_sumFrom_82 (by decide) ?_
      exact r_sub [0] [0] [0] rfl rfl rfl (hk41 ((p0, v79, v78)) _)
  have hL32 : ∀ (p0 : Option Nat) (p1 : Int32) (p2 : Int32) (q0 : Int64) (M : Mem), RT p l e rmX8_sumFrom s m args below meth c x 5 (QM below args s x (fun v : Int64 => some (.long v)) rmX8_sumFrom.cells rmX8_sumFrom.slots) 0 0 (fX8_sumFrom_L32 p0 p1 p2 q0 M) 32 [(1, p1), (2, p2)] [] [(0, p0)] [.long q0] M := by
    intro p0 p1 p2 q0 M
    unfold fX8_sumFrom_L32
    refine r_aload_n (pc := 32) E dX8_sumFrom_32 rfl 0 rfl ?_
    refine r_getI (pc := 33) E fd_8_1 wf_RX8_21 dX8_sumFrom_33 (fun v33 => ?_)
    refine r_iload_n (pc := 36) E dX8_sumFrom_36 rfl 0 rfl ?_
    refine r_isub (pc := 37) E dX8_sumFrom_37 ?_
    refine r_i2l (pc := 38) E dX8_sumFrom_38 ?_
    refine r_ladd (pc := 39) E dX8_sumFrom_39 ?_
    refine r_lstore_n (pc := 40) (lf := fun v40 => [(1, p1), (2, p2)]) (lg := fun v40 => [(3, v40)]) (lk := fun v40 => [(0, p0)]) E dX8_sumFrom_40 rfl (by decide) (fun _ => rfl) (fun _ => rfl) (fun _ => rfl) (fun v40 => ?_)
    exact r_sub [1] [0] [0] rfl rfl rfl (hL41 p0 p2 v40 _)
  show RT p l e rmX8_sumFrom s m args below meth c x 5 (QM below args s x (fun v : Int64 => some (.long v)) rmX8_sumFrom.cells rmX8_sumFrom.slots) 0 0 (fX8_sumFrom a0 a1 M) 0 [(1, a1)] [] [(0, a0)] [] M
  unfold fX8_sumFrom
  refine r_iload_n (pc := 0) E dX8_sumFrom_0 rfl 0 rfl ?_
  refine r_aload_n (pc := 1) E dX8_sumFrom_1 rfl 0 rfl ?_
  refine r_getI (pc := 2) E fd_8_1 wf_RX8_21 dX8_sumFrom_2 (fun v2 => ?_)
  refine r_iload_n (pc := 5) E dX8_sumFrom_5 rfl 0 rfl ?_
  refine r_isub (pc := 6) E dX8_sumFrom_6 ?_
  refine r_bipush (pc := 7) (v := 32) E dX8_sumFrom_7 (by decide) ?_
  refine r_idiv (pc := 9) E dX8_sumFrom_9 (fun v9 => ?_)
  refine r_bipush (pc := 10) (v := 32) E dX8_sumFrom_10 (by decide) ?_
  refine r_imul (pc := 12) E dX8_sumFrom_12 ?_
  refine r_iadd (pc := 13) E dX8_sumFrom_13 ?_
  refine r_istore_n (pc := 14) (lf := fun v14 => [(2, v14), (1, a1)]) (lg := fun v14 => []) (lk := fun v14 => [(0, a0)]) E dX8_sumFrom_14 rfl (by decide) (fun _ => rfl) (fun _ => rfl) (fun _ => rfl) (fun v14 => ?_)
  refine r_iload_n (pc := 15) E dX8_sumFrom_15 rfl 0 rfl ?_
  refine r_iload_n (pc := 16) E dX8_sumFrom_16 rfl 1 rfl ?_
  refine r_icmp_le (pc := 17) (tgt := 29) E dX8_sumFrom_17 (by decide) ?_ ?_
  · refine r_ldc2 (pc := 29) E wk_RX8_51 dX8_sumFrom_29 ?_
    exact r_sub [1, 0] [] [0] rfl rfl rfl (hL32 a0 a1 v14 2870177450012600261 _)
  · refine r_aload_n (pc := 20) E dX8_sumFrom_20 rfl 0 rfl ?_
    refine r_iload_n (pc := 21) E dX8_sumFrom_21 rfl 1 rfl ?_
    refine r_iload_n (pc := 22) E dX8_sumFrom_22 rfl 0 rfl ?_
    refine r_kVl (pc := 23) (As := [.int a1, .int v14]) (rest := []) E wc_X8_sumOfLong wi_RX8 hd_X8_sumOfLong (ci := 8) rfl wl_RX8_47 wn_X8_sumOfLong ws_X8_sumOfLong dX8_sumFrom_23 (by decide) (Nat.le_of_ble_eq_true rfl) ⟨rfl, rfl⟩ (ctX8_sumOfLong l x _ _ _ _) rfl (fun v23 M23 => ?_)
    refine r_goto (pc := 26) (tgt := 32) E dX8_sumFrom_26 (by decide) ?_
    exact r_sub [1, 0] [] [0] rfl rfl rfl (hL32 a0 a1 v14 v23 _)
def fX5_readEnd_L45 (p0 : Option Nat) (M : Mem) : Option (Int32 × Mem) :=
  bo (gI M p0 5 13) fun v46 =>
  if v46 = 0 then (
    rtZ 1 M
  ) else (
    bo (chk M p0 5) fun _ => bd (fX5_there p0 4 M) fun v58 M58 =>
    if v58 = 0 then (
      bo (chk M58 p0 5) fun _ => bd (fX5_lacks p0 M58) fun v65 M65 =>
      rtZ v65 M65
    ) else (
      bo (gR M58 p0 5 3) fun v70 =>
      bo (gI M58 p0 5 8) fun v74 =>
      bo (chk M58 v70 8) fun _ => bd (fX8_number v70 v74 4 M58) fun v78 M78 =>
      bo (gR M78 p0 5 4) fun v83 =>
      bo (gR M78 p0 5 1) fun v87 =>
      bo (gI M78 v87 9 12) fun v90 =>
      bo (chk M78 v83 8) fun _ => bd (fX8_sumFrom v83 v90 M78) fun v93 M93 =>
      if v78.toInt32 = v93.toInt32 then (
        bo (gI M93 p0 5 8) fun v116 =>
        bo (pI M93 p0 5 8 (v116 + 4)) fun M121 =>
        rtZ 1 M121
      ) else (
        bo (gR M93 p0 5 2) fun v101 =>
        bo (gI M93 p0 5 8) fun v107 =>
        bo (chk M93 v101 7) fun _ => bd (fX7_fail v101 9 v107 M93) fun v110 M110 =>
        rtZ v110 M110
      )
    )
  )
def fX5_readEnd (a0 : Option Nat) (M : Mem) : Option (Int32 × Mem) :=
  bo (gI M a0 5 11) fun v1 =>
  if v1 = 0 then (
    fX5_readEnd_L45 a0 M
  ) else (
    bo (gJ M a0 5 10) fun v8 =>
    bo (gR M a0 5 4) fun v12 =>
    bo (gI M v12 8 1) fun v15 =>
    bo (gR M a0 5 1) fun v19 =>
    bo (gI M v19 9 12) fun v22 =>
    if (lg_cmp v8 ((v15 - v22).toInt64)) = 0 then (
      fX5_readEnd_L45 a0 M
    ) else (
      bo (gR M a0 5 2) fun v32 =>
      bo (gI M a0 5 12) fun v38 =>
      bo (chk M v32 7) fun _ => bd (fX7_fail v32 8 v38 M) fun v41 M41 =>
      rtZ v41 M41
    )
  )
def rmX5_readEnd : Room := { frames := 4, cells := 0, slots := 0, locals := 102 }
set_option maxRecDepth 100000 in
set_option maxHeartbeats 4000000 in
theorem ctX5_readEnd (l : Launch) (x : Cx) (a0 : Option Nat) (M : Mem) (v : Int32) (N : Mem) (h : fX5_readEnd a0 M = some (v, N)) : CT l yX5_readEnd cX5_readEnd 1 (some (FieldType.boolean)) rmX5_readEnd x [rv x a0] M (some (.int v)) N := by
  refine ct_mk (enc := fun v : Int32 => some (.int v)) (li := []) (ll := []) (lr := [(0, a0)]) (by decide +kernel) (by simp [lg_sl, rv_cat, cat_int, cat_long]) (by simp [flat, lv_args, rv_cat, cat_int, cat_long]) h ?_
  intro p e s m args below meth c E
  have hL45 : ∀ (p0 : Option Nat) (M : Mem), RT p l e rmX5_readEnd s m args below meth c x 1 (QM below args s x (fun v : Int32 => some (.int v)) rmX5_readEnd.cells rmX5_readEnd.slots) 0 0 (fX5_readEnd_L45 p0 M) 45 [] [] [(0, p0)] [] M := by
    intro p0 M
    unfold fX5_readEnd_L45
    refine r_aload_n (pc := 45) E dX5_readEnd_45 rfl 0 rfl ?_
    refine r_getZ (pc := 46) E fd_5_13 wf_RX5_140 dX5_readEnd_46 (fun v46 => ?_)
    refine r_if_ne (pc := 49) (tgt := 54) E dX5_readEnd_49 (by decide) ?_ ?_
    · refine r_aload_n (pc := 54) E dX5_readEnd_54 rfl 0 rfl ?_
      refine r_ldc2 (pc := 55) E wk_RX5_103 dX5_readEnd_55 ?_
      refine r_kVi (pc := 58) (As := [.long 4]) (rest := []) E wc_X5_there wi_RX5 hd_X5_there (ci := 5) rfl wl_RX5_105 wn_X5_there ws_X5_there dX5_readEnd_58 (by decide) (Nat.le_of_ble_eq_true rfl) ⟨rfl, rfl⟩ (ctX5_there l x _ _ _) rfl (fun v58 M58 => ?_)
      refine r_if_ne (pc := 61) (tgt := 69) E dX5_readEnd_61 (by decide) ?_ ?_
      · refine r_aload_n (pc := 69) E dX5_readEnd_69 rfl 0 rfl ?_
        refine r_getR (pc := 70) E fd_5_3 wf_RX5_14 dX5_readEnd_70 (fun v70 => ?_)
        refine r_aload_n (pc := 73) E dX5_readEnd_73 rfl 0 rfl ?_
        refine r_getI (pc := 74) E fd_5_8 wf_RX5_53 dX5_readEnd_74 (fun v74 => ?_)
        refine r_iconst (pc := 77) (v := 4) E dX5_readEnd_77 (by decide) ?_
        refine r_kVl (pc := 78) (As := [.int v74, .int 4]) (rest := []) E wc_X8_number wi_RX8 hd_X8_number (ci := 8) rfl wl_RX5_112 wn_X8_number ws_X8_number dX5_readEnd_78 (by decide) (Nat.le_of_ble_eq_true rfl) ⟨rfl, rfl⟩ (ctX8_number l x _ _ _ _) rfl (fun v78 M78 => ?_)
        refine r_l2i (pc := 81) E dX5_readEnd_81 ?_
        refine r_aload_n (pc := 82) E dX5_readEnd_82 rfl 0 rfl ?_
        refine r_getR (pc := 83) E fd_5_4 wf_RX5_20 dX5_readEnd_83 (fun v83 => ?_)
        refine r_aload_n (pc := 86) E dX5_readEnd_86 rfl 0 rfl ?_
        refine r_getR (pc := 87) E fd_5_1 wf_RX5_41 dX5_readEnd_87 (fun v87 => ?_)
        refine r_getI (pc := 90) E fd_9_12 wf_RX5_232 dX5_readEnd_90 (fun v90 => ?_)
        refine r_kVl (pc := 93) (As := [.int v90]) (rest := [.int v78.toInt32]) E wc_X8_sumFrom wi_RX8 hd_X8_sumFrom (ci := 8) rfl wl_RX5_235 wn_X8_sumFrom ws_X8_sumFrom dX5_readEnd_93 (by decide) (Nat.le_of_ble_eq_true rfl) ⟨rfl, rfl⟩ (ctX8_sumFrom l x _ _ _) rfl (fun v93 M93 => ?_)
        refine r_l2i (pc := 96) E dX5_readEnd_96 ?_
        refine r_icmp_eq (pc := 97) (tgt := 114) E dX5_readEnd_97 (by decide) ?_ ?_
        · refine r_aload_n (pc := 114) E dX5_readEnd_114 rfl 0 rfl ?_
          refine r_dup (pc := 115) E dX5_readEnd_115 (rv_cat _ _) ?_
          refine r_getI (pc := 116) E fd_5_8 wf_RX5_53 dX5_readEnd_116 (fun v116 => ?_)
          refine r_iconst (pc := 119) (v := 4) E dX5_readEnd_119 (by decide) ?_
          refine r_iadd (pc := 120) E dX5_readEnd_120 ?_
          refine r_putI (pc := 121) E fd_5_8 wf_RX5_53 dX5_readEnd_121 (Or.inl rfl) (fun M121 => ?_)
          refine r_iconst (pc := 124) (v := 1) E dX5_readEnd_124 (by decide) ?_
          exact e_bool (pc := 125) E dX5_readEnd_125
        · refine r_aload_n (pc := 100) E dX5_readEnd_100 rfl 0 rfl ?_
          refine r_getR (pc := 101) E fd_5_2 wf_RX5_23 dX5_readEnd_101 (fun v101 => ?_)
          refine r_bipush (pc := 104) (v := 9) E dX5_readEnd_104 (by decide) ?_
          refine r_aload_n (pc := 106) E dX5_readEnd_106 rfl 0 rfl ?_
          refine r_getI (pc := 107) E fd_5_8 wf_RX5_53 dX5_readEnd_107 (fun v107 => ?_)
          refine r_kVi (pc := 110) (As := [.int 9, .int v107]) (rest := []) E wc_X7_fail wi_RX7 hd_X7_fail (ci := 7) rfl wl_RX5_122 wn_X7_fail ws_X7_fail dX5_readEnd_110 (by decide) (Nat.le_of_ble_eq_true rfl) ⟨rfl, rfl⟩ (ctX7_fail l x _ _ _ _) rfl (fun v110 M110 => ?_)
          exact e_bool (pc := 113) E dX5_readEnd_113
      · refine r_aload_n (pc := 64) E dX5_readEnd_64 rfl 0 rfl ?_
        refine r_kVi (pc := 65) (As := []) (rest := []) E wc_X5_lacks wi_RX5 hd_X5_lacks (ci := 5) rfl wl_RX5_109 wn_X5_lacks ws_X5_lacks dX5_readEnd_65 (by decide) (Nat.le_of_ble_eq_true rfl) ⟨rfl, rfl⟩ (ctX5_lacks l x _ _) rfl (fun v65 M65 => ?_)
        exact e_bool (pc := 68) E dX5_readEnd_68
    · refine r_iconst (pc := 52) (v := 1) E dX5_readEnd_52 (by decide) ?_
      exact e_bool (pc := 53) E dX5_readEnd_53
  show RT p l e rmX5_readEnd s m args below meth c x 1 (QM below args s x (fun v : Int32 => some (.int v)) rmX5_readEnd.cells rmX5_readEnd.slots) 0 0 (fX5_readEnd a0 M) 0 [] [] [(0, a0)] [] M
  unfold fX5_readEnd
  refine r_aload_n (pc := 0) E dX5_readEnd_0 rfl 0 rfl ?_
  refine r_getZ (pc := 1) E fd_5_11 wf_RX5_172 dX5_readEnd_1 (fun v1 => ?_)
  refine r_if_eq (pc := 4) (tgt := 45) E dX5_readEnd_4 (by decide) ?_ ?_
  · exact r_sub [] [] [0] rfl rfl rfl (hL45 a0 _)
  · refine r_aload_n (pc := 7) E dX5_readEnd_7 rfl 0 rfl ?_
    refine r_getJ (pc := 8) E fd_5_10 wf_RX5_175 dX5_readEnd_8 (fun v8 => ?_)
    refine r_aload_n (pc := 11) E dX5_readEnd_11 rfl 0 rfl ?_
    refine r_getR (pc := 12) E fd_5_4 wf_RX5_20 dX5_readEnd_12 (fun v12 => ?_)
    refine r_getI (pc := 15) E fd_8_1 wf_RX5_57 dX5_readEnd_15 (fun v15 => ?_)
    refine r_aload_n (pc := 18) E dX5_readEnd_18 rfl 0 rfl ?_
    refine r_getR (pc := 19) E fd_5_1 wf_RX5_41 dX5_readEnd_19 (fun v19 => ?_)
    refine r_getI (pc := 22) E fd_9_12 wf_RX5_232 dX5_readEnd_22 (fun v22 => ?_)
    refine r_isub (pc := 25) E dX5_readEnd_25 ?_
    refine r_i2l (pc := 26) E dX5_readEnd_26 ?_
    refine r_lcmp (pc := 27) E dX5_readEnd_27 ?_
    refine r_if_eq (pc := 28) (tgt := 45) E dX5_readEnd_28 (by decide) ?_ ?_
    · exact r_sub [] [] [0] rfl rfl rfl (hL45 a0 _)
    · refine r_aload_n (pc := 31) E dX5_readEnd_31 rfl 0 rfl ?_
      refine r_getR (pc := 32) E fd_5_2 wf_RX5_23 dX5_readEnd_32 (fun v32 => ?_)
      refine r_bipush (pc := 35) (v := 8) E dX5_readEnd_35 (by decide) ?_
      refine r_aload_n (pc := 37) E dX5_readEnd_37 rfl 0 rfl ?_
      refine r_getI (pc := 38) E fd_5_12 wf_RX5_169 dX5_readEnd_38 (fun v38 => ?_)
      refine r_kVi (pc := 41) (As := [.int 8, .int v38]) (rest := []) E wc_X7_fail wi_RX7 hd_X7_fail (ci := 7) rfl wl_RX5_122 wn_X7_fail ws_X7_fail dX5_readEnd_41 (by decide) (Nat.le_of_ble_eq_true rfl) ⟨rfl, rfl⟩ (ctX7_fail l x _ _ _ _) rfl (fun v41 M41 => ?_)
      exact e_bool (pc := 44) E dX5_readEnd_44
def fX5_openAll_L191 (p6 : Int32) (M : Mem) : Option (Int32 × Mem) :=
  rtZ p6 M
def fX5_openAll_L183 (k51 : Option Nat × Int32 × Int32 → Mem → Option (Int32 × Mem)) (p0 : Option Nat) (p7 : Int32) (q0 : Int32) (M : Mem) : Option (Int32 × Mem) :=
  bn (q0) fun v183 =>
  bn (p7 + 1) fun v185 =>
  k51 ((p0, v183, v185)) M
def fX5_openAll_L182 (k51 : Option Nat × Int32 × Int32 → Mem → Option (Int32 × Mem)) (p0 : Option Nat) (p7 : Int32) (M : Mem) : Option (Int32 × Mem) :=
  fX5_openAll_L183 k51 p0 p7 0 M
def fX5_openAll_L178 (k51 : Option Nat × Int32 × Int32 → Mem → Option (Int32 × Mem)) (p0 : Option Nat) (p7 : Int32) (M : Mem) : Option (Int32 × Mem) :=
  fX5_openAll_L183 k51 p0 p7 1 M
def fX5_openAll_L159 (k51 : Option Nat × Int32 × Int32 → Mem → Option (Int32 × Mem)) (p0 : Option Nat) (p6 : Int32) (p7 : Int32) (M : Mem) : Option (Int32 × Mem) :=
  if p6 = 0 then (
    fX5_openAll_L182 k51 p0 p7 M
  ) else (
    bo (gI M p0 5 18) fun v165 =>
    if v165 = 0 then (
      bo (chk M p0 5) fun _ => bd (fX5_readEnd p0 M) fun v172 M172 =>
      if v172 = 0 then (
        fX5_openAll_L182 k51 p0 p7 M172
      ) else (
        fX5_openAll_L178 k51 p0 p7 M172
      )
    ) else (
      fX5_openAll_L178 k51 p0 p7 M
    )
  )
def fX5_openAll_L151 (k51 : Option Nat × Int32 × Int32 → Mem → Option (Int32 × Mem)) (k87 : Option Nat × Int32 × Int32 × Int32 → Mem → Option (Int32 × Mem)) (p0 : Option Nat) (p7 : Int32) (p8 : Int32) (q0 : Int32) (M : Mem) : Option (Int32 × Mem) :=
  bn (q0) fun v151 =>
  bn (p8 + 1) fun v153 =>
  k87 ((p0, v151, p7, v153)) M
def fX5_openAll_L150 (k51 : Option Nat × Int32 × Int32 → Mem → Option (Int32 × Mem)) (k87 : Option Nat × Int32 × Int32 × Int32 → Mem → Option (Int32 × Mem)) (p0 : Option Nat) (p7 : Int32) (p8 : Int32) (M : Mem) : Option (Int32 × Mem) :=
  fX5_openAll_L151 k51 k87 p0 p7 p8 0 M
def fX5_openAll_L139 (k51 : Option Nat × Int32 × Int32 → Mem → Option (Int32 × Mem)) (k87 : Option Nat × Int32 × Int32 × Int32 → Mem → Option (Int32 × Mem)) (p0 : Option Nat) (p7 : Int32) (p8 : Int32) (M : Mem) : Option (Int32 × Mem) :=
  bo (chk M p0 5) fun _ => bd (fX5_endBlock p0 M) fun v140 M140 =>
  if v140 = 0 then (
    fX5_openAll_L150 k51 k87 p0 p7 p8 M140
  ) else (
    fX5_openAll_L151 k51 k87 p0 p7 p8 1 M140
  )
def fX5_openAll_B87 (k51 : Option Nat × Int32 × Int32 → Mem → Option (Int32 × Mem)) (k87 : Option Nat × Int32 × Int32 × Int32 → Mem → Option (Int32 × Mem)) (p0 : Option Nat) (p6 : Int32) (p7 : Int32) (p8 : Int32) (M : Mem) : Option (Int32 × Mem) :=
  if 8000 ≤ p8 then (
    fX5_openAll_L159 k51 p0 p6 p7 M
  ) else (
    if p6 = 0 then (
      fX5_openAll_L159 k51 p0 p6 p7 M
    ) else (
      bo (gI M p0 5 17) fun v101 =>
      if v101 = 0 then (
        bo (chk M p0 5) fun _ => bd (fX5_readBlockHead p0 M) fun v108 M108 =>
        if v108 = 0 then (
          fX5_openAll_L150 k51 k87 p0 p7 p8 M108
        ) else (
          bo (gI M108 p0 5 15) fun v115 =>
          if v115 = 2 then (
            bo (chk M108 p0 5) fun _ => bd (fX5_readPacked p0 M108) fun v123 M123 =>
            if v123 = 0 then (
              fX5_openAll_L150 k51 k87 p0 p7 p8 M123
            ) else (
              fX5_openAll_L139 k51 k87 p0 p7 p8 M123
            )
          ) else (
            bo (chk M108 p0 5) fun _ => bd (fX5_readPlain p0 M108) fun v133 M133 =>
            if v133 = 0 then (
              fX5_openAll_L150 k51 k87 p0 p7 p8 M133
            ) else (
              fX5_openAll_L139 k51 k87 p0 p7 p8 M133
            )
          )
        )
      ) else (
        fX5_openAll_L159 k51 p0 p6 p7 M
      )
    )
  )
def fX5_openAll_L87 (k51 : Option Nat × Int32 × Int32 → Mem → Option (Int32 × Mem)) (p0 : Option Nat) (p6 : Int32) (p7 : Int32) (p8 : Int32) (M : Mem) : Option (Int32 × Mem) :=
  lp (fun k87 (a : Option Nat × Int32 × Int32 × Int32) M => fX5_openAll_B87 k51 k87 a.1 a.2.1 a.2.2.1 a.2.2.2 M) FU ((p0, p6, p7, p8)) M
def fX5_openAll_B51 (k51 : Option Nat × Int32 × Int32 → Mem → Option (Int32 × Mem)) (p0 : Option Nat) (p6 : Int32) (p7 : Int32) (M : Mem) : Option (Int32 × Mem) :=
  if 8000 ≤ p7 then (
    fX5_openAll_L191 p6 M
  ) else (
    if p6 = 0 then (
      fX5_openAll_L191 p6 M
    ) else (
      bo (gI M p0 5 8) fun v65 =>
      bo (gR M p0 5 3) fun v69 =>
      bo (gI M v69 8 1) fun v72 =>
      if v72 ≤ v65 then (
        fX5_openAll_L191 p6 M
      ) else (
        bo (chk M p0 5) fun _ => bd (fX5_readMark p0 M) fun v79 M79 =>
        bn (v79) fun v82 =>
        bn (0) fun v85 =>
        fX5_openAll_L87 k51 p0 v82 p7 v85 M79
      )
    )
  )
def fX5_openAll_L51 (p0 : Option Nat) (p6 : Int32) (p7 : Int32) (M : Mem) : Option (Int32 × Mem) :=
  lp (fun k51 (a : Option Nat × Int32 × Int32) M => fX5_openAll_B51 k51 a.1 a.2.1 a.2.2 M) FU ((p0, p6, p7)) M
def fX5_openAll (a0 : Option Nat) (a1 : Option Nat) (a2 : Option Nat) (a3 : Option Nat) (a4 : Int64) (M : Mem) : Option (Int32 × Mem) :=
  bo (pR M a0 5 3 a1) fun M2 =>
  bo (pR M2 a0 5 4 a2) fun M7 =>
  bo (pR M7 a0 5 5 a3) fun M12 =>
  bo (pJ M12 a0 5 7 a4) fun M18 =>
  bo (pI M18 a0 5 8 0) fun M23 =>
  bo (gR M23 a0 5 4) fun v27 =>
  bo (pI M23 v27 8 1 0) fun M31 =>
  bo (gR M31 a0 5 2) fun v35 =>
  bo (chk M31 v35 7) fun _ => bd (fX7_clear v35 M31) fun v38 M38 =>
  bo (chk M38 a0 5) fun _ => bd (fX5_forget a0 M38) fun v42 M42 =>
  bn (1) fun v46 =>
  bn (0) fun v49 =>
  fX5_openAll_L51 a0 v46 v49 M42
def rmX5_openAll : Room := { frames := 6, cells := 0, slots := 0, locals := 156 }
set_option maxRecDepth 100000 in
set_option maxHeartbeats 4000000 in
theorem ctX5_openAll (l : Launch) (x : Cx) (a0 : Option Nat) (a1 : Option Nat) (a2 : Option Nat) (a3 : Option Nat) (a4 : Int64) (M : Mem) (v : Int32) (N : Mem) (h : fX5_openAll a0 a1 a2 a3 a4 M = some (v, N)) : CT l yX5_openAll cX5_openAll 9 (some (FieldType.boolean)) rmX5_openAll x [rv x a0, rv x a1, rv x a2, rv x a3, .long a4] M (some (.int v)) N := by
  refine ct_mk (enc := fun v : Int32 => some (.int v)) (li := []) (ll := [(4, a4)]) (lr := [(0, a0), (1, a1), (2, a2), (3, a3)]) (by decide +kernel) (by simp [lg_sl, rv_cat, cat_int, cat_long]) (by simp [flat, lv_args, rv_cat, cat_int, cat_long]) h ?_
  intro p e s m args below meth c E
  have hL191 : ∀ (p6 : Int32) (M : Mem), RT p l e rmX5_openAll s m args below meth c x 9 (QM below args s x (fun v : Int32 => some (.int v)) rmX5_openAll.cells rmX5_openAll.slots) 0 0 (fX5_openAll_L191 p6 M) 191 [(6, p6)] [] [] [] M := by
    intro p6 M
    unfold fX5_openAll_L191
    refine r_iload (pc := 191) E dX5_openAll_191 0 rfl ?_
    exact e_bool (pc := 193) E dX5_openAll_193
  have hL183 : ∀ (k51 : Option Nat × Int32 × Int32 → Mem → Option (Int32 × Mem)) (hk51 : ∀ a M, RT p l e rmX5_openAll s m args below meth c x 9 (QM below args s x (fun v : Int32 => some (.int v)) rmX5_openAll.cells rmX5_openAll.slots) 0 0 (k51 a M) 51 [(6, a.2.1), (7, a.2.2)] [] [(0, a.1)] [] M) (p0 : Option Nat) (p7 : Int32) (q0 : Int32) (M : Mem), RT p l e rmX5_openAll s m args below meth c x 9 (QM below args s x (fun v : Int32 => some (.int v)) rmX5_openAll.cells rmX5_openAll.slots) 0 0 (fX5_openAll_L183 k51 p0 p7 q0 M) 183 [(7, p7)] [] [(0, p0)] [.int q0] M := by
    intro k51 hk51 p0 p7 q0 M
    unfold fX5_openAll_L183
    refine r_istore (pc := 183) (lf := fun v183 => [(6, v183), (7, p7)]) (lg := fun v183 => []) (lk := fun v183 => [(0, p0)]) E dX5_openAll_183 (by decide) (fun _ => rfl) (fun _ => rfl) (fun _ => rfl) (fun v183 => ?_)
    refine r_iinc (pc := 185) (w := 1) (lf := fun v185 => [(7, v185), (6, v183)]) (ll' := []) (lr' := [(0, p0)]) E dX5_openAll_185 1 rfl (by decide) (by decide) (fun _ => rfl) rfl rfl (fun v185 => ?_)
    refine r_goto (pc := 188) (tgt := 51) E dX5_openAll_188 (by decide) ?_
    exact r_sub [1, 0] [] [0] rfl rfl rfl (hk51 ((p0, v183, v185)) _)
  have hL182 : ∀ (k51 : Option Nat × Int32 × Int32 → Mem → Option (Int32 × Mem)) (hk51 : ∀ a M, RT p l e rmX5_openAll s m args below meth c x 9 (QM below args s x (fun v : Int32 => some (.int v)) rmX5_openAll.cells rmX5_openAll.slots) 0 0 (k51 a M) 51 [(6, a.2.1), (7, a.2.2)] [] [(0, a.1)] [] M) (p0 : Option Nat) (p7 : Int32) (M : Mem), RT p l e rmX5_openAll s m args below meth c x 9 (QM below args s x (fun v : Int32 => some (.int v)) rmX5_openAll.cells rmX5_openAll.slots) 0 0 (fX5_openAll_L182 k51 p0 p7 M) 182 [(7, p7)] [] [(0, p0)] [] M := by
    intro k51 hk51 p0 p7 M
    unfold fX5_openAll_L182
    refine r_iconst (pc := 182) (v := 0) E dX5_openAll_182 (by decide) ?_
    exact r_sub [0] [] [0] rfl rfl rfl (hL183 k51 hk51 p0 p7 0 _)
  have hL178 : ∀ (k51 : Option Nat × Int32 × Int32 → Mem → Option (Int32 × Mem)) (hk51 : ∀ a M, RT p l e rmX5_openAll s m args below meth c x 9 (QM below args s x (fun v : Int32 => some (.int v)) rmX5_openAll.cells rmX5_openAll.slots) 0 0 (k51 a M) 51 [(6, a.2.1), (7, a.2.2)] [] [(0, a.1)] [] M) (p0 : Option Nat) (p7 : Int32) (M : Mem), RT p l e rmX5_openAll s m args below meth c x 9 (QM below args s x (fun v : Int32 => some (.int v)) rmX5_openAll.cells rmX5_openAll.slots) 0 0 (fX5_openAll_L178 k51 p0 p7 M) 178 [(7, p7)] [] [(0, p0)] [] M := by
    intro k51 hk51 p0 p7 M
    unfold fX5_openAll_L178
    refine r_iconst (pc := 178) (v := 1) E dX5_openAll_178 (by decide) ?_
    refine r_goto (pc := 179) (tgt := 183) E dX5_openAll_179 (by decide) ?_
    exact r_sub [0] [] [0] rfl rfl rfl (hL183 k51 hk51 p0 p7 1 _)
  have hL159 : ∀ (k51 : Option Nat × Int32 × Int32 → Mem → Option (Int32 × Mem)) (hk51 : ∀ a M, RT p l e rmX5_openAll s m args below meth c x 9 (QM below args s x (fun v : Int32 => some (.int v)) rmX5_openAll.cells rmX5_openAll.slots) 0 0 (k51 a M) 51 [(6, a.2.1), (7, a.2.2)] [] [(0, a.1)] [] M) (p0 : Option Nat) (p6 : Int32) (p7 : Int32) (M : Mem), RT p l e rmX5_openAll s m args below meth c x 9 (QM below args s x (fun v : Int32 => some (.int v)) rmX5_openAll.cells rmX5_openAll.slots) 0 0 (fX5_openAll_L159 k51 p0 p6 p7 M) 159 [(6, p6), (7, p7)] [] [(0, p0)] [] M := by
    intro k51 hk51 p0 p6 p7 M
    unfold fX5_openAll_L159
    refine r_iload (pc := 159) E dX5_openAll_159 0 rfl ?_
    refine r_if_eq (pc := 161) (tgt := 182) E dX5_openAll_161 (by decide) ?_ ?_
    · exact r_sub [1] [] [0] rfl rfl rfl (hL182 k51 hk51 p0 p7 _)
    · refine r_aload_n (pc := 164) E dX5_openAll_164 rfl 0 rfl ?_
      refine r_getZ (pc := 165) E fd_5_18 wf_RX5_91 dX5_openAll_165 (fun v165 => ?_)
      refine r_if_ne (pc := 168) (tgt := 178) E dX5_openAll_168 (by decide) ?_ ?_
      · exact r_sub [1] [] [0] rfl rfl rfl (hL178 k51 hk51 p0 p7 _)
      · refine r_aload_n (pc := 171) E dX5_openAll_171 rfl 0 rfl ?_
        refine r_kVi (pc := 172) (As := []) (rest := []) E wc_X5_readEnd wi_RX5 hd_X5_readEnd (ci := 5) rfl wl_RX5_94 wn_X5_readEnd ws_X5_readEnd dX5_openAll_172 (by decide) (Nat.le_of_ble_eq_true rfl) ⟨rfl, rfl⟩ (ctX5_readEnd l x _ _) rfl (fun v172 M172 => ?_)
        refine r_if_eq (pc := 175) (tgt := 182) E dX5_openAll_175 (by decide) ?_ ?_
        · exact r_sub [1] [] [0] rfl rfl rfl (hL182 k51 hk51 p0 p7 _)
        · exact r_sub [1] [] [0] rfl rfl rfl (hL178 k51 hk51 p0 p7 _)
  have hL151 : ∀ (k51 : Option Nat × Int32 × Int32 → Mem → Option (Int32 × Mem)) (hk51 : ∀ a M, RT p l e rmX5_openAll s m args below meth c x 9 (QM below args s x (fun v : Int32 => some (.int v)) rmX5_openAll.cells rmX5_openAll.slots) 0 0 (k51 a M) 51 [(6, a.2.1), (7, a.2.2)] [] [(0, a.1)] [] M) (k87 : Option Nat × Int32 × Int32 × Int32 → Mem → Option (Int32 × Mem)) (hk87 : ∀ a M, RT p l e rmX5_openAll s m args below meth c x 9 (QM below args s x (fun v : Int32 => some (.int v)) rmX5_openAll.cells rmX5_openAll.slots) 0 0 (k87 a M) 87 [(6, a.2.1), (7, a.2.2.1), (8, a.2.2.2)] [] [(0, a.1)] [] M) (p0 : Option Nat) (p7 : Int32) (p8 : Int32) (q0 : Int32) (M : Mem), RT p l e rmX5_openAll s m args below meth c x 9 (QM below args s x (fun v : Int32 => some (.int v)) rmX5_openAll.cells rmX5_openAll.slots) 0 0 (fX5_openAll_L151 k51 k87 p0 p7 p8 q0 M) 151 [(7, p7), (8, p8)] [] [(0, p0)] [.int q0] M := by
    intro k51 hk51 k87 hk87 p0 p7 p8 q0 M
    unfold fX5_openAll_L151
    refine r_istore (pc := 151) (lf := fun v151 => [(6, v151), (7, p7), (8, p8)]) (lg := fun v151 => []) (lk := fun v151 => [(0, p0)]) E dX5_openAll_151 (by decide) (fun _ => rfl) (fun _ => rfl) (fun _ => rfl) (fun v151 => ?_)
    refine r_iinc (pc := 153) (w := 1) (lf := fun v153 => [(8, v153), (6, v151), (7, p7)]) (ll' := []) (lr' := [(0, p0)]) E dX5_openAll_153 2 rfl (by decide) (by decide) (fun _ => rfl) rfl rfl (fun v153 => ?_)
    refine r_goto (pc := 156) (tgt := 87) E dX5_openAll_156 (by decide) ?_
    exact r_sub [1, 2, 0] [] [0] rfl rfl rfl (hk87 ((p0, v151, p7, v153)) _)
  have hL150 : ∀ (k51 : Option Nat × Int32 × Int32 → Mem → Option (Int32 × Mem)) (hk51 : ∀ a M, RT p l e rmX5_openAll s m args below meth c x 9 (QM below args s x (fun v : Int32 => some (.int v)) rmX5_openAll.cells rmX5_openAll.slots) 0 0 (k51 a M) 51 [(6, a.2.1), (7, a.2.2)] [] [(0, a.1)] [] M) (k87 : Option Nat × Int32 × Int32 × Int32 → Mem → Option (Int32 × Mem)) (hk87 : ∀ a M, RT p l e rmX5_openAll s m args below meth c x 9 (QM below args s x (fun v : Int32 => some (.int v)) rmX5_openAll.cells rmX5_openAll.slots) 0 0 (k87 a M) 87 [(6, a.2.1), (7, a.2.2.1), (8, a.2.2.2)] [] [(0, a.1)] [] M) (p0 : Option Nat) (p7 : Int32) (p8 : Int32) (M : Mem), RT p l e rmX5_openAll s m args below meth c x 9 (QM below args s x (fun v : Int32 => some (.int v)) rmX5_openAll.cells rmX5_openAll.slots) 0 0 (fX5_openAll_L150 k51 k87 p0 p7 p8 M) 150 [(7, p7), (8, p8)] [] [(0, p0)] [] M := by
    intro k51 hk51 k87 hk87 p0 p7 p8 M
    unfold fX5_openAll_L150
    refine r_iconst (pc := 150) (v := 0) E dX5_openAll_150 (by decide) ?_
    exact r_sub [0, 1] [] [0] rfl rfl rfl (hL151 k51 hk51 k87 hk87 p0 p7 p8 0 _)
  have hL139 : ∀ (k51 : Option Nat × Int32 × Int32 → Mem → Option (Int32 × Mem)) (hk51 : ∀ a M, RT p l e rmX5_openAll s m args below meth c x 9 (QM below args s x (fun v : Int32 => some (.int v)) rmX5_openAll.cells rmX5_openAll.slots) 0 0 (k51 a M) 51 [(6, a.2.1), (7, a.2.2)] [] [(0, a.1)] [] M) (k87 : Option Nat × Int32 × Int32 × Int32 → Mem → Option (Int32 × Mem)) (hk87 : ∀ a M, RT p l e rmX5_openAll s m args below meth c x 9 (QM below args s x (fun v : Int32 => some (.int v)) rmX5_openAll.cells rmX5_openAll.slots) 0 0 (k87 a M) 87 [(6, a.2.1), (7, a.2.2.1), (8, a.2.2.2)] [] [(0, a.1)] [] M) (p0 : Option Nat) (p7 : Int32) (p8 : Int32) (M : Mem), RT p l e rmX5_openAll s m args below meth c x 9 (QM below args s x (fun v : Int32 => some (.int v)) rmX5_openAll.cells rmX5_openAll.slots) 0 0 (fX5_openAll_L139 k51 k87 p0 p7 p8 M) 139 [(7, p7), (8, p8)] [] [(0, p0)] [] M := by
    intro k51 hk51 k87 hk87 p0 p7 p8 M
    unfold fX5_openAll_L139
    refine r_aload_n (pc := 139) E dX5_openAll_139 rfl 0 rfl ?_
    refine r_kVi (pc := 140) (As := []) (rest := []) E wc_X5_endBlock wi_RX5 hd_X5_endBlock (ci := 5) rfl wl_RX5_88 wn_X5_endBlock ws_X5_endBlock dX5_openAll_140 (by decide) (Nat.le_of_ble_eq_true rfl) ⟨rfl, rfl⟩ (ctX5_endBlock l x _ _) rfl (fun v140 M140 => ?_)
    refine r_if_eq (pc := 143) (tgt := 150) E dX5_openAll_143 (by decide) ?_ ?_
    · exact r_sub [0, 1] [] [0] rfl rfl rfl (hL150 k51 hk51 k87 hk87 p0 p7 p8 _)
    · refine r_iconst (pc := 146) (v := 1) E dX5_openAll_146 (by decide) ?_
      refine r_goto (pc := 147) (tgt := 151) E dX5_openAll_147 (by decide) ?_
      exact r_sub [0, 1] [] [0] rfl rfl rfl (hL151 k51 hk51 k87 hk87 p0 p7 p8 1 _)
  have hL87 : ∀ (k51 : Option Nat × Int32 × Int32 → Mem → Option (Int32 × Mem)) (hk51 : ∀ a M, RT p l e rmX5_openAll s m args below meth c x 9 (QM below args s x (fun v : Int32 => some (.int v)) rmX5_openAll.cells rmX5_openAll.slots) 0 0 (k51 a M) 51 [(6, a.2.1), (7, a.2.2)] [] [(0, a.1)] [] M) (p0 : Option Nat) (p6 : Int32) (p7 : Int32) (p8 : Int32) (M : Mem), RT p l e rmX5_openAll s m args below meth c x 9 (QM below args s x (fun v : Int32 => some (.int v)) rmX5_openAll.cells rmX5_openAll.slots) 0 0 (fX5_openAll_L87 k51 p0 p6 p7 p8 M) 87 [(6, p6), (7, p7), (8, p8)] [] [(0, p0)] [] M := by
    intro k51 hk51 p0 p6 p7 p8 M
    refine r_lp (fi := fun a : Option Nat × Int32 × Int32 × Int32 => [(6, a.2.1), (7, a.2.2.1), (8, a.2.2.2)]) (fl := fun a : Option Nat × Int32 × Int32 × Int32 => []) (fr := fun a : Option Nat × Int32 × Int32 × Int32 => [(0, a.1)]) (fs := fun a : Option Nat × Int32 × Int32 × Int32 => []) ?_ FU ((p0, p6, p7, p8)) M
    intro k87 hk87 a M
    obtain ⟨p0, p6, p7, p8⟩ := a
    show RT p l e rmX5_openAll s m args below meth c x 9 (QM below args s x (fun v : Int32 => some (.int v)) rmX5_openAll.cells rmX5_openAll.slots) 0 0 (fX5_openAll_B87 k51 k87 p0 p6 p7 p8 M) 87 [(6, p6), (7, p7), (8, p8)] [] [(0, p0)] [] M
    unfold fX5_openAll_B87
    refine r_iload (pc := 87) E dX5_openAll_87 2 rfl ?_
    refine r_sipush (pc := 89) (v := 8000) E dX5_openAll_89 (by decide) ?_
    refine r_icmp_ge (pc := 92) (tgt := 159) E dX5_openAll_92 (by decide) ?_ ?_
    · exact r_sub [0, 1] [] [0] rfl rfl rfl (hL159 k51 hk51 p0 p6 p7 _)
    · refine r_iload (pc := 95) E dX5_openAll_95 0 rfl ?_
      refine r_if_eq (pc := 97) (tgt := 159) E dX5_openAll_97 (by decide) ?_ ?_
      · exact r_sub [0, 1] [] [0] rfl rfl rfl (hL159 k51 hk51 p0 p6 p7 _)
      · refine r_aload_n (pc := 100) E dX5_openAll_100 rfl 0 rfl ?_
        refine r_getZ (pc := 101) E fd_5_17 wf_RX5_72 dX5_openAll_101 (fun v101 => ?_)
        refine r_if_ne (pc := 104) (tgt := 159) E dX5_openAll_104 (by decide) ?_ ?_
        · exact r_sub [0, 1] [] [0] rfl rfl rfl (hL159 k51 hk51 p0 p6 p7 _)
        · refine r_aload_n (pc := 107) E dX5_openAll_107 rfl 0 rfl ?_
          refine r_kVi (pc := 108) (As := []) (rest := []) E wc_X5_readBlockHead wi_RX5 hd_X5_readBlockHead (ci := 5) rfl wl_RX5_76 wn_X5_readBlockHead ws_X5_readBlockHead dX5_openAll_108 (by decide) (Nat.le_of_ble_eq_true rfl) ⟨rfl, rfl⟩ (ctX5_readBlockHead l x _ _) rfl (fun v108 M108 => ?_)
          refine r_if_eq (pc := 111) (tgt := 150) E dX5_openAll_111 (by decide) ?_ ?_
          · exact r_sub [1, 2] [] [0] rfl rfl rfl (hL150 k51 hk51 k87 hk87 p0 p7 p8 _)
          · refine r_aload_n (pc := 114) E dX5_openAll_114 rfl 0 rfl ?_
            refine r_getI (pc := 115) E fd_5_15 wf_RX5_79 dX5_openAll_115 (fun v115 => ?_)
            refine r_iconst (pc := 118) (v := 2) E dX5_openAll_118 (by decide) ?_
            refine r_icmp_ne (pc := 119) (tgt := 132) E dX5_openAll_119 (by decide) ?_ ?_
            · refine r_aload_n (pc := 132) E dX5_openAll_132 rfl 0 rfl ?_
              refine r_kVi (pc := 133) (As := []) (rest := []) E wc_X5_readPlain wi_RX5 hd_X5_readPlain (ci := 5) rfl wl_RX5_85 wn_X5_readPlain ws_X5_readPlain dX5_openAll_133 (by decide) (Nat.le_of_ble_eq_true rfl) ⟨rfl, rfl⟩ (ctX5_readPlain l x _ _) rfl (fun v133 M133 => ?_)
              refine r_if_eq (pc := 136) (tgt := 150) E dX5_openAll_136 (by decide) ?_ ?_
              · exact r_sub [1, 2] [] [0] rfl rfl rfl (hL150 k51 hk51 k87 hk87 p0 p7 p8 _)
              · exact r_sub [1, 2] [] [0] rfl rfl rfl (hL139 k51 hk51 k87 hk87 p0 p7 p8 _)
            · refine r_aload_n (pc := 122) E dX5_openAll_122 rfl 0 rfl ?_
              refine r_kVi (pc := 123) (As := []) (rest := []) E wc_X5_readPacked wi_RX5 hd_X5_readPacked (ci := 5) rfl wl_RX5_82 wn_X5_readPacked ws_X5_readPacked dX5_openAll_123 (by decide) (Nat.le_of_ble_eq_true rfl) ⟨rfl, rfl⟩ (ctX5_readPacked l x _ _) rfl (fun v123 M123 => ?_)
              refine r_if_eq (pc := 126) (tgt := 150) E dX5_openAll_126 (by decide) ?_ ?_
              · exact r_sub [1, 2] [] [0] rfl rfl rfl (hL150 k51 hk51 k87 hk87 p0 p7 p8 _)
              · refine r_goto (pc := 129) (tgt := 139) E dX5_openAll_129 (by decide) ?_
                exact r_sub [1, 2] [] [0] rfl rfl rfl (hL139 k51 hk51 k87 hk87 p0 p7 p8 _)
  have hL51 : ∀ (p0 : Option Nat) (p6 : Int32) (p7 : Int32) (M : Mem), RT p l e rmX5_openAll s m args below meth c x 9 (QM below args s x (fun v : Int32 => some (.int v)) rmX5_openAll.cells rmX5_openAll.slots) 0 0 (fX5_openAll_L51 p0 p6 p7 M) 51 [(6, p6), (7, p7)] [] [(0, p0)] [] M := by
    intro p0 p6 p7 M
    refine r_lp (fi := fun a : Option Nat × Int32 × Int32 => [(6, a.2.1), (7, a.2.2)]) (fl := fun a : Option Nat × Int32 × Int32 => []) (fr := fun a : Option Nat × Int32 × Int32 => [(0, a.1)]) (fs := fun a : Option Nat × Int32 × Int32 => []) ?_ FU ((p0, p6, p7)) M
    intro k51 hk51 a M
    obtain ⟨p0, p6, p7⟩ := a
    show RT p l e rmX5_openAll s m args below meth c x 9 (QM below args s x (fun v : Int32 => some (.int v)) rmX5_openAll.cells rmX5_openAll.slots) 0 0 (fX5_openAll_B51 k51 p0 p6 p7 M) 51 [(6, p6), (7, p7)] [] [(0, p0)] [] M
    unfold fX5_openAll_B51
    refine r_iload (pc := 51) E dX5_openAll_51 1 rfl ?_
    refine r_sipush (pc := 53) (v := 8000) E dX5_openAll_53 (by decide) ?_
    refine r_icmp_ge (pc := 56) (tgt := 191) E dX5_openAll_56 (by decide) ?_ ?_
    · exact r_sub [0] [] [] rfl rfl rfl (hL191 p6 _)
    · refine r_iload (pc := 59) E dX5_openAll_59 0 rfl ?_
      refine r_if_eq (pc := 61) (tgt := 191) E dX5_openAll_61 (by decide) ?_ ?_
      · exact r_sub [0] [] [] rfl rfl rfl (hL191 p6 _)
      · refine r_aload_n (pc := 64) E dX5_openAll_64 rfl 0 rfl ?_
        refine r_getI (pc := 65) E fd_5_8 wf_RX5_53 dX5_openAll_65 (fun v65 => ?_)
        refine r_aload_n (pc := 68) E dX5_openAll_68 rfl 0 rfl ?_
        refine r_getR (pc := 69) E fd_5_3 wf_RX5_14 dX5_openAll_69 (fun v69 => ?_)
        refine r_getI (pc := 72) E fd_8_1 wf_RX5_57 dX5_openAll_72 (fun v72 => ?_)
        refine r_icmp_ge (pc := 75) (tgt := 191) E dX5_openAll_75 (by decide) ?_ ?_
        · exact r_sub [0] [] [] rfl rfl rfl (hL191 p6 _)
        · refine r_aload_n (pc := 78) E dX5_openAll_78 rfl 0 rfl ?_
          refine r_kVi (pc := 79) (As := []) (rest := []) E wc_X5_readMark wi_RX5 hd_X5_readMark (ci := 5) rfl wl_RX5_68 wn_X5_readMark ws_X5_readMark dX5_openAll_79 (by decide) (Nat.le_of_ble_eq_true rfl) ⟨rfl, rfl⟩ (ctX5_readMark l x _ _) rfl (fun v79 M79 => ?_)
          refine r_istore (pc := 82) (lf := fun v82 => [(6, v82), (7, p7)]) (lg := fun v82 => []) (lk := fun v82 => [(0, p0)]) E dX5_openAll_82 (by decide) (fun _ => rfl) (fun _ => rfl) (fun _ => rfl) (fun v82 => ?_)
          refine r_iconst (pc := 84) (v := 0) E dX5_openAll_84 (by decide) ?_
          refine r_istore (pc := 85) (lf := fun v85 => [(8, v85), (6, v82), (7, p7)]) (lg := fun v85 => []) (lk := fun v85 => [(0, p0)]) E dX5_openAll_85 (by decide) (fun _ => rfl) (fun _ => rfl) (fun _ => rfl) (fun v85 => ?_)
          exact r_sub [1, 2, 0] [] [0] rfl rfl rfl (hL87 k51 hk51 p0 v82 p7 v85 _)
  show RT p l e rmX5_openAll s m args below meth c x 9 (QM below args s x (fun v : Int32 => some (.int v)) rmX5_openAll.cells rmX5_openAll.slots) 0 0 (fX5_openAll a0 a1 a2 a3 a4 M) 0 [] [(4, a4)] [(0, a0), (1, a1), (2, a2), (3, a3)] [] M
  unfold fX5_openAll
  refine r_aload_n (pc := 0) E dX5_openAll_0 rfl 0 rfl ?_
  refine r_aload_n (pc := 1) E dX5_openAll_1 rfl 1 rfl ?_
  refine r_putR (pc := 2) E fd_5_3 wf_RX5_14 dX5_openAll_2 (Or.inl rfl) (fun M2 => ?_)
  refine r_aload_n (pc := 5) E dX5_openAll_5 rfl 0 rfl ?_
  refine r_aload_n (pc := 6) E dX5_openAll_6 rfl 2 rfl ?_
  refine r_putR (pc := 7) E fd_5_4 wf_RX5_20 dX5_openAll_7 (Or.inl rfl) (fun M7 => ?_)
  refine r_aload_n (pc := 10) E dX5_openAll_10 rfl 0 rfl ?_
  refine r_aload_n (pc := 11) E dX5_openAll_11 rfl 3 rfl ?_
  refine r_putR (pc := 12) E fd_5_5 wf_RX5_45 dX5_openAll_12 (Or.inl rfl) (fun M12 => ?_)
  refine r_aload_n (pc := 15) E dX5_openAll_15 rfl 0 rfl ?_
  refine r_lload (pc := 16) E dX5_openAll_16 0 rfl ?_
  refine r_putJ (pc := 18) E fd_5_7 wf_RX5_49 dX5_openAll_18 (Or.inl rfl) (fun M18 => ?_)
  refine r_aload_n (pc := 21) E dX5_openAll_21 rfl 0 rfl ?_
  refine r_iconst (pc := 22) (v := 0) E dX5_openAll_22 (by decide) ?_
  refine r_putI (pc := 23) E fd_5_8 wf_RX5_53 dX5_openAll_23 (Or.inl rfl) (fun M23 => ?_)
  refine r_aload_n (pc := 26) E dX5_openAll_26 rfl 0 rfl ?_
  refine r_getR (pc := 27) E fd_5_4 wf_RX5_20 dX5_openAll_27 (fun v27 => ?_)
  refine r_iconst (pc := 30) (v := 0) E dX5_openAll_30 (by decide) ?_
  refine r_putI (pc := 31) E fd_8_1 wf_RX5_57 dX5_openAll_31 (Or.inl rfl) (fun M31 => ?_)
  refine r_aload_n (pc := 34) E dX5_openAll_34 rfl 0 rfl ?_
  refine r_getR (pc := 35) E fd_5_2 wf_RX5_23 dX5_openAll_35 (fun v35 => ?_)
  refine r_kVv (pc := 38) (As := []) (rest := []) E wc_X7_clear wi_RX7 hd_X7_clear (ci := 7) rfl wl_RX5_60 wn_X7_clear ws_X7_clear dX5_openAll_38 (by decide) (Nat.le_of_ble_eq_true rfl) ⟨rfl, rfl⟩ (ctX7_clear l x _ _) rfl (fun v38 M38 => ?_)
  refine r_aload_n (pc := 41) E dX5_openAll_41 rfl 0 rfl ?_
  refine r_kVv (pc := 42) (As := []) (rest := []) E wc_X5_forget wi_RX5 hd_X5_forget (ci := 5) rfl wl_RX5_65 wn_X5_forget ws_X5_forget dX5_openAll_42 (by decide) (Nat.le_of_ble_eq_true rfl) ⟨rfl, rfl⟩ (ctX5_forget l x _ _) rfl (fun v42 M42 => ?_)
  refine r_iconst (pc := 45) (v := 1) E dX5_openAll_45 (by decide) ?_
  refine r_istore (pc := 46) (lf := fun v46 => [(6, v46)]) (lg := fun v46 => [(4, a4)]) (lk := fun v46 => [(0, a0), (1, a1), (2, a2), (3, a3)]) E dX5_openAll_46 (by decide) (fun _ => rfl) (fun _ => rfl) (fun _ => rfl) (fun v46 => ?_)
  refine r_iconst (pc := 48) (v := 0) E dX5_openAll_48 (by decide) ?_
  refine r_istore (pc := 49) (lf := fun v49 => [(7, v49), (6, v46)]) (lg := fun v49 => [(4, a4)]) (lk := fun v49 => [(0, a0), (1, a1), (2, a2), (3, a3)]) E dX5_openAll_49 (by decide) (fun _ => rfl) (fun _ => rfl) (fun _ => rfl) (fun v49 => ?_)
  exact r_sub [1, 0] [] [0] rfl rfl rfl (hL51 a0 v46 v49 _)
def fX6_init (a0 : Option Nat) (a1 : Option Nat) (a2 : Option Nat) (M : Mem) : Option (Unit × Mem) :=
  bo (chk0 a0) fun _ =>
  bd (nw M 3) fun v5 M5 =>
  bo (chk0 v5) fun _ => bd (fX3_init v5 M5) fun v9 M9 =>
  bo (pR M9 a0 6 0 v5) fun M12 =>
  bd (nw M12 8) fun v16 M16 =>
  bo (chk0 v16) fun _ => bd (fX8_init v16 8000 M16) fun v23 M23 =>
  bo (pR M23 a0 6 1 v16) fun M26 =>
  bd (nw M26 1) fun v30 M30 =>
  bo (chk0 v30) fun _ => bd (fX1_init v30 M30) fun v34 M34 =>
  bo (pR M34 a0 6 3 v30) fun M37 =>
  bd (nwA M37 20 3 3) fun v42 M42 =>
  bo (pR M42 a0 6 5 v42) fun M45 =>
  bd (nwA M45 20 3 3) fun v50 M50 =>
  bo (pR M50 a0 6 6 v50) fun M53 =>
  bd (nwA M53 15 3 3) fun v58 M58 =>
  bo (pR M58 a0 6 7 v58) fun M60 =>
  bd (nwA M60 15 512 512) fun v67 M67 =>
  bo (pR M67 a0 6 8 v67) fun M69 =>
  bd (nwA M69 15 3 3) fun v74 M74 =>
  bo (pR M74 a0 6 9 v74) fun M76 =>
  bd (nwA M76 15 3 3) fun v81 M81 =>
  bo (pR M81 a0 6 10 v81) fun M83 =>
  bd (nwA M83 15 64 64) fun v89 M89 =>
  bo (pR M89 a0 6 11 v89) fun M91 =>
  bo (gR M91 a0 6 1) fun v96 =>
  bo (pR M91 a0 6 12 v96) fun M99 =>
  bo (gR M99 a0 6 1) fun v104 =>
  bo (pR M99 a0 6 13 v104) fun M107 =>
  bo (pR M107 a0 6 2 a1) fun M112 =>
  bo (pR M112 a0 6 4 a2) fun M117 =>
  bn (0) fun v121 =>
  if 3 ≤ v121 then (
    none
  ) else (
    bo (gR M117 a0 6 5) fun v128_1 =>
    bd (nw M117 10) fun v132_1 M132_1 =>
    bo (chk0 v132_1) fun _ => bd (fX10_init v132_1 M132_1) fun v136_1 M136_1 =>
    bo (wR M136_1 v128_1 20 10 v121 v132_1) fun M139_1 =>
    bo (gR M139_1 a0 6 6) fun v141_1 =>
    bo (gR M139_1 a0 6 5) fun v146_1 =>
    bo (aR M139_1 v146_1 20 v121) fun v150_1 =>
    bo (wR M139_1 v141_1 20 10 v121 v150_1) fun M151_1 =>
    bn (v121 + 1) fun v152_1 =>
    if 3 ≤ v152_1 then (
      none
    ) else (
      bo (gR M151_1 a0 6 5) fun v128_2 =>
      bd (nw M151_1 10) fun v132_2 M132_2 =>
      bo (chk0 v132_2) fun _ => bd (fX10_init v132_2 M132_2) fun v136_2 M136_2 =>
      bo (wR M136_2 v128_2 20 10 v152_1 v132_2) fun M139_2 =>
      bo (gR M139_2 a0 6 6) fun v141_2 =>
      bo (gR M139_2 a0 6 5) fun v146_2 =>
      bo (aR M139_2 v146_2 20 v152_1) fun v150_2 =>
      bo (wR M139_2 v141_2 20 10 v152_1 v150_2) fun M151_2 =>
      bn (v152_1 + 1) fun v152_2 =>
      if 3 ≤ v152_2 then (
        none
      ) else (
        bo (gR M151_2 a0 6 5) fun v128_3 =>
        bd (nw M151_2 10) fun v132_3 M132_3 =>
        bo (chk0 v132_3) fun _ => bd (fX10_init v132_3 M132_3) fun v136_3 M136_3 =>
        bo (wR M136_3 v128_3 20 10 v152_2 v132_3) fun M139_3 =>
        bo (gR M139_3 a0 6 6) fun v141_3 =>
        bo (gR M139_3 a0 6 5) fun v146_3 =>
        bo (aR M139_3 v146_3 20 v152_2) fun v150_3 =>
        bo (wR M139_3 v141_3 20 10 v152_2 v150_3) fun M151_3 =>
        bn (v152_2 + 1) fun v152_3 =>
        if 3 ≤ v152_3 then (
          some ((), M151_3)
        ) else (
          none
        )
      )
    )
  )
def rmX6_init : Room := { frames := 3, cells := 38, slots := 47910, locals := 64 }
set_option maxRecDepth 100000 in
set_option maxHeartbeats 4000000 in
theorem ctX6_init (l : Launch) (x : Cx) (a0 : Option Nat) (a1 : Option Nat) (a2 : Option Nat) (M : Mem) (v : Unit) (N : Mem) (h : fX6_init a0 a1 a2 M = some (v, N)) : CT l yX6_init cX6_init 4 (none) rmX6_init x [rv x a0, rv x a1, rv x a2] M none N := by
  refine ct_mk (enc := fun _ : Unit => none) (li := []) (ll := []) (lr := [(0, a0), (1, a1), (2, a2)]) (by decide +kernel) (by simp [lg_sl, rv_cat, cat_int, cat_long]) (by simp [flat, lv_args, rv_cat, cat_int, cat_long]) h ?_
  intro p e s m args below meth c E
  show RT p l e rmX6_init s m args below meth c x 4 (QM below args s x (fun _ : Unit => none) rmX6_init.cells rmX6_init.slots) 0 0 (fX6_init a0 a1 a2 M) 0 [] [] [(0, a0), (1, a1), (2, a2)] [] M
  unfold fX6_init
  refine r_aload_n (pc := 0) E dX6_init_0 rfl 0 rfl ?_
  refine r_obj (pc := 1) E wl_RX6_3 wo_inst wo_code dX6_init_1 (by decide) (by decide) (Nat.le_of_ble_eq_true rfl) ?_
  refine r_aload_n (pc := 4) E dX6_init_4 rfl 0 rfl ?_
  refine r_new (pc := 5) E cd_3 (by decide) wx_RX6_9 dX6_init_5 (by decide) (by decide) (fun v5 M5 => ?_)
  refine r_widen (k := 1) (n := 12) (by decide) (by decide) ?_
  refine r_dup (pc := 8) E dX6_init_8 (rv_cat _ _) ?_
  refine r_callI (pc := 9) (As := []) (rest := [rv x v5, rv x a0]) E wc_X3_init wi_RX3 hd_X3_init wl_RX6_11 rfl wn_X3_init dX6_init_9 (by decide) (Nat.le_of_ble_eq_true rfl) (ctX3_init l x _ _) rfl (fun v9 M9 => ?_)
  refine r_widen (k := 10) (n := 32652) (by decide) (by decide) ?_
  refine r_putR (pc := 12) E fd_6_0 wf_RX6_12 dX6_init_12 (Or.inr ⟨rfl, rfl⟩) (fun M12 => ?_)
  refine r_aload_n (pc := 15) E dX6_init_15 rfl 0 rfl ?_
  refine r_new (pc := 16) E cd_8 (by decide) wx_RX6_18 dX6_init_16 (by decide) (by decide) (fun v16 M16 => ?_)
  refine r_widen (k := 11) (n := 32656) (by decide) (by decide) ?_
  refine r_dup (pc := 19) E dX6_init_19 (rv_cat _ _) ?_
  refine r_sipush (pc := 20) (v := 8000) E dX6_init_20 (by decide) ?_
  refine r_callI (pc := 23) (As := [.int 8000]) (rest := [rv x v16, rv x a0]) E wc_X8_init wi_RX8 hd_X8_init wl_RX6_20 rfl wn_X8_init dX6_init_23 (by decide) (Nat.le_of_ble_eq_true rfl) (ctX8_init l x _ _ _) rfl (fun v23 M23 => ?_)
  refine r_widen (k := 12) (n := 41656) (by decide) (by decide) ?_
  refine r_putR (pc := 26) E fd_6_1 wf_RX6_23 dX6_init_26 (Or.inr ⟨rfl, rfl⟩) (fun M26 => ?_)
  refine r_aload_n (pc := 29) E dX6_init_29 rfl 0 rfl ?_
  refine r_new (pc := 30) E cd_1 (by decide) wx_RX6_27 dX6_init_30 (by decide) (by decide) (fun v30 M30 => ?_)
  refine r_widen (k := 13) (n := 41660) (by decide) (by decide) ?_
  refine r_dup (pc := 33) E dX6_init_33 (rv_cat _ _) ?_
  refine r_callI (pc := 34) (As := []) (rest := [rv x v30, rv x a0]) E wc_X1_init wi_RX1 hd_X1_init wl_RX6_29 rfl wn_X1_init dX6_init_34 (by decide) (Nat.le_of_ble_eq_true rfl) (ctX1_init l x _ _) rfl (fun v34 M34 => ?_)
  refine r_widen (k := 16) (n := 44220) (by decide) (by decide) ?_
  refine r_putR (pc := 37) E fd_6_3 wf_RX6_30 dX6_init_37 (Or.inr ⟨rfl, rfl⟩) (fun M37 => ?_)
  refine r_aload_n (pc := 40) E dX6_init_40 rfl 0 rfl ?_
  refine r_iconst (pc := 41) (v := 3) E dX6_init_41 (by decide) ?_
  refine r_anew20 (pc := 42) E wx_RX6_34 dX6_init_42 (by decide) (by decide) (by decide) (fun v42 M42 => ?_)
  refine r_widen (k := 17) (n := 44223) (by decide) (by decide) ?_
  refine r_putA (pc := 45) E fd_6_5 wf_RX6_36 dX6_init_45 (Or.inr ⟨rfl, rfl⟩) (fun M45 => ?_)
  refine r_aload_n (pc := 48) E dX6_init_48 rfl 0 rfl ?_
  refine r_iconst (pc := 49) (v := 3) E dX6_init_49 (by decide) ?_
  refine r_anew20 (pc := 50) E wx_RX6_34 dX6_init_50 (by decide) (by decide) (by decide) (fun v50 M50 => ?_)
  refine r_widen (k := 18) (n := 44226) (by decide) (by decide) ?_
  refine r_putA (pc := 53) E fd_6_6 wf_RX6_40 dX6_init_53 (Or.inr ⟨rfl, rfl⟩) (fun M53 => ?_)
  refine r_aload_n (pc := 56) E dX6_init_56 rfl 0 rfl ?_
  refine r_iconst (pc := 57) (v := 3) E dX6_init_57 (by decide) ?_
  refine r_newarrayI (pc := 58) E wa_I dX6_init_58 (by decide) (by decide) (by decide) (fun v58 M58 => ?_)
  refine r_widen (k := 19) (n := 44229) (by decide) (by decide) ?_
  refine r_putA (pc := 60) E fd_6_7 wf_RX6_43 dX6_init_60 (Or.inr ⟨rfl, rfl⟩) (fun M60 => ?_)
  refine r_aload_n (pc := 63) E dX6_init_63 rfl 0 rfl ?_
  refine r_sipush (pc := 64) (v := 512) E dX6_init_64 (by decide) ?_
  refine r_newarrayI (pc := 67) E wa_I dX6_init_67 (by decide) (by decide) (by decide) (fun v67 M67 => ?_)
  refine r_widen (k := 20) (n := 44741) (by decide) (by decide) ?_
  refine r_putA (pc := 69) E fd_6_8 wf_RX6_47 dX6_init_69 (Or.inr ⟨rfl, rfl⟩) (fun M69 => ?_)
  refine r_aload_n (pc := 72) E dX6_init_72 rfl 0 rfl ?_
  refine r_iconst (pc := 73) (v := 3) E dX6_init_73 (by decide) ?_
  refine r_newarrayI (pc := 74) E wa_I dX6_init_74 (by decide) (by decide) (by decide) (fun v74 M74 => ?_)
  refine r_widen (k := 21) (n := 44744) (by decide) (by decide) ?_
  refine r_putA (pc := 76) E fd_6_9 wf_RX6_50 dX6_init_76 (Or.inr ⟨rfl, rfl⟩) (fun M76 => ?_)
  refine r_aload_n (pc := 79) E dX6_init_79 rfl 0 rfl ?_
  refine r_iconst (pc := 80) (v := 3) E dX6_init_80 (by decide) ?_
  refine r_newarrayI (pc := 81) E wa_I dX6_init_81 (by decide) (by decide) (by decide) (fun v81 M81 => ?_)
  refine r_widen (k := 22) (n := 44747) (by decide) (by decide) ?_
  refine r_putA (pc := 83) E fd_6_10 wf_RX6_53 dX6_init_83 (Or.inr ⟨rfl, rfl⟩) (fun M83 => ?_)
  refine r_aload_n (pc := 86) E dX6_init_86 rfl 0 rfl ?_
  refine r_bipush (pc := 87) (v := 64) E dX6_init_87 (by decide) ?_
  refine r_newarrayI (pc := 89) E wa_I dX6_init_89 (by decide) (by decide) (by decide) (fun v89 M89 => ?_)
  refine r_widen (k := 23) (n := 44811) (by decide) (by decide) ?_
  refine r_putA (pc := 91) E fd_6_11 wf_RX6_56 dX6_init_91 (Or.inr ⟨rfl, rfl⟩) (fun M91 => ?_)
  refine r_aload_n (pc := 94) E dX6_init_94 rfl 0 rfl ?_
  refine r_aload_n (pc := 95) E dX6_init_95 rfl 0 rfl ?_
  refine r_getR (pc := 96) E fd_6_1 wf_RX6_23 dX6_init_96 (fun v96 => ?_)
  refine r_putR (pc := 99) E fd_6_12 wf_RX6_59 dX6_init_99 (Or.inl rfl) (fun M99 => ?_)
  refine r_aload_n (pc := 102) E dX6_init_102 rfl 0 rfl ?_
  refine r_aload_n (pc := 103) E dX6_init_103 rfl 0 rfl ?_
  refine r_getR (pc := 104) E fd_6_1 wf_RX6_23 dX6_init_104 (fun v104 => ?_)
  refine r_putR (pc := 107) E fd_6_13 wf_RX6_62 dX6_init_107 (Or.inl rfl) (fun M107 => ?_)
  refine r_aload_n (pc := 110) E dX6_init_110 rfl 0 rfl ?_
  refine r_aload_n (pc := 111) E dX6_init_111 rfl 1 rfl ?_
  refine r_putR (pc := 112) E fd_6_2 wf_RX6_65 dX6_init_112 (Or.inr ⟨rfl, rfl⟩) (fun M112 => ?_)
  refine r_aload_n (pc := 115) E dX6_init_115 rfl 0 rfl ?_
  refine r_aload_n (pc := 116) E dX6_init_116 rfl 2 rfl ?_
  refine r_putA (pc := 117) E fd_6_4 wf_RX6_69 dX6_init_117 (Or.inr ⟨rfl, rfl⟩) (fun M117 => ?_)
  refine r_iconst (pc := 120) (v := 0) E dX6_init_120 (by decide) ?_
  refine r_istore_n (pc := 121) (lf := fun v121 => [(3, v121)]) (lg := fun v121 => []) (lk := fun v121 => [(0, a0), (1, a1), (2, a2)]) E dX6_init_121 rfl (by decide) (fun _ => rfl) (fun _ => rfl) (fun _ => rfl) (fun v121 => ?_)
  refine r_iload_n (pc := 122) E dX6_init_122 rfl 0 rfl ?_
  refine r_iconst (pc := 123) (v := 3) E dX6_init_123 (by decide) ?_
  refine r_icmp_ge (pc := 124) (tgt := 158) E dX6_init_124 (by decide) ?_ ?_
  · exact r_none
  · refine r_aload_n (pc := 127) E dX6_init_127 rfl 0 rfl ?_
    refine r_getA (pc := 128) E fd_6_5 wf_RX6_36 dX6_init_128 (fun v128_1 => ?_)
    refine r_iload_n (pc := 131) E dX6_init_131 rfl 0 rfl ?_
    refine r_new (pc := 132) E cd_10 (by decide) wx_RX6_34 dX6_init_132 (by decide) (by decide) (fun v132_1 M132_1 => ?_)
    refine r_widen (k := 24) (n := 44820) (by decide) (by decide) ?_
    refine r_dup (pc := 135) E dX6_init_135 (rv_cat _ _) ?_
    refine r_callI (pc := 136) (As := []) (rest := [rv x v132_1, .int v121, rv x v128_1]) E wc_X10_init wi_RX10 hd_X10_init wl_RX6_72 rfl wn_X10_init dX6_init_136 (by decide) (Nat.le_of_ble_eq_true rfl) (ctX10_init l x _ _) rfl (fun v136_1 M136_1 => ?_)
    refine r_widen (k := 28) (n := 45844) (by decide) (by decide) ?_
    refine r_aastore20 (pc := 139) E dX6_init_139 (fun M139_1 => ?_)
    refine r_aload_n (pc := 140) E dX6_init_140 rfl 0 rfl ?_
    refine r_getA (pc := 141) E fd_6_6 wf_RX6_40 dX6_init_141 (fun v141_1 => ?_)
    refine r_iload_n (pc := 144) E dX6_init_144 rfl 0 rfl ?_
    refine r_aload_n (pc := 145) E dX6_init_145 rfl 0 rfl ?_
    refine r_getA (pc := 146) E fd_6_5 wf_RX6_36 dX6_init_146 (fun v146_1 => ?_)
    refine r_iload_n (pc := 149) E dX6_init_149 rfl 0 rfl ?_
    refine r_aaload20 (pc := 150) E dX6_init_150 (fun v150_1 => ?_)
    refine r_aastore20 (pc := 151) E dX6_init_151 (fun M151_1 => ?_)
    refine r_iinc (pc := 152) (w := 1) (lf := fun v152_1 => [(3, v152_1)]) (ll' := []) (lr' := [(0, a0), (1, a1), (2, a2)]) E dX6_init_152 0 rfl (by decide) (by decide) (fun _ => rfl) rfl rfl (fun v152_1 => ?_)
    refine r_goto (pc := 155) (tgt := 122) E dX6_init_155 (by decide) ?_
    refine r_iload_n (pc := 122) E dX6_init_122 rfl 0 rfl ?_
    refine r_iconst (pc := 123) (v := 3) E dX6_init_123 (by decide) ?_
    refine r_icmp_ge (pc := 124) (tgt := 158) E dX6_init_124 (by decide) ?_ ?_
    · exact r_none
    · refine r_aload_n (pc := 127) E dX6_init_127 rfl 0 rfl ?_
      refine r_getA (pc := 128) E fd_6_5 wf_RX6_36 dX6_init_128 (fun v128_2 => ?_)
      refine r_iload_n (pc := 131) E dX6_init_131 rfl 0 rfl ?_
      refine r_new (pc := 132) E cd_10 (by decide) wx_RX6_34 dX6_init_132 (by decide) (by decide) (fun v132_2 M132_2 => ?_)
      refine r_widen (k := 29) (n := 45853) (by decide) (by decide) ?_
      refine r_dup (pc := 135) E dX6_init_135 (rv_cat _ _) ?_
      refine r_callI (pc := 136) (As := []) (rest := [rv x v132_2, .int v152_1, rv x v128_2]) E wc_X10_init wi_RX10 hd_X10_init wl_RX6_72 rfl wn_X10_init dX6_init_136 (by decide) (Nat.le_of_ble_eq_true rfl) (ctX10_init l x _ _) rfl (fun v136_2 M136_2 => ?_)
      refine r_widen (k := 33) (n := 46877) (by decide) (by decide) ?_
      refine r_aastore20 (pc := 139) E dX6_init_139 (fun M139_2 => ?_)
      refine r_aload_n (pc := 140) E dX6_init_140 rfl 0 rfl ?_
      refine r_getA (pc := 141) E fd_6_6 wf_RX6_40 dX6_init_141 (fun v141_2 => ?_)
      refine r_iload_n (pc := 144) E dX6_init_144 rfl 0 rfl ?_
      refine r_aload_n (pc := 145) E dX6_init_145 rfl 0 rfl ?_
      refine r_getA (pc := 146) E fd_6_5 wf_RX6_36 dX6_init_146 (fun v146_2 => ?_)
      refine r_iload_n (pc := 149) E dX6_init_149 rfl 0 rfl ?_
      refine r_aaload20 (pc := 150) E dX6_init_150 (fun v150_2 => ?_)
      refine r_aastore20 (pc := 151) E dX6_init_151 (fun M151_2 => ?_)
      refine r_iinc (pc := 152) (w := 1) (lf := fun v152_2 => [(3, v152_2)]) (ll' := []) (lr' := [(0, a0), (1, a1), (2, a2)]) E dX6_init_152 0 rfl (by decide) (by decide) (fun _ => rfl) rfl rfl (fun v152_2 => ?_)
      refine r_goto (pc := 155) (tgt := 122) E dX6_init_155 (by decide) ?_
      refine r_iload_n (pc := 122) E dX6_init_122 rfl 0 rfl ?_
      refine r_iconst (pc := 123) (v := 3) E dX6_init_123 (by decide) ?_
      refine r_icmp_ge (pc := 124) (tgt := 158) E dX6_init_124 (by decide) ?_ ?_
      · exact r_none
      · refine r_aload_n (pc := 127) E dX6_init_127 rfl 0 rfl ?_
        refine r_getA (pc := 128) E fd_6_5 wf_RX6_36 dX6_init_128 (fun v128_3 => ?_)
        refine r_iload_n (pc := 131) E dX6_init_131 rfl 0 rfl ?_
        refine r_new (pc := 132) E cd_10 (by decide) wx_RX6_34 dX6_init_132 (by decide) (by decide) (fun v132_3 M132_3 => ?_)
        refine r_widen (k := 34) (n := 46886) (by decide) (by decide) ?_
        refine r_dup (pc := 135) E dX6_init_135 (rv_cat _ _) ?_
        refine r_callI (pc := 136) (As := []) (rest := [rv x v132_3, .int v152_2, rv x v128_3]) E wc_X10_init wi_RX10 hd_X10_init wl_RX6_72 rfl wn_X10_init dX6_init_136 (by decide) (Nat.le_of_ble_eq_true rfl) (ctX10_init l x _ _) rfl (fun v136_3 M136_3 => ?_)
        refine r_widen (k := 38) (n := 47910) (by decide) (by decide) ?_
        refine r_aastore20 (pc := 139) E dX6_init_139 (fun M139_3 => ?_)
        refine r_aload_n (pc := 140) E dX6_init_140 rfl 0 rfl ?_
        refine r_getA (pc := 141) E fd_6_6 wf_RX6_40 dX6_init_141 (fun v141_3 => ?_)
        refine r_iload_n (pc := 144) E dX6_init_144 rfl 0 rfl ?_
        refine r_aload_n (pc := 145) E dX6_init_145 rfl 0 rfl ?_
        refine r_getA (pc := 146) E fd_6_5 wf_RX6_36 dX6_init_146 (fun v146_3 => ?_)
        refine r_iload_n (pc := 149) E dX6_init_149 rfl 0 rfl ?_
        refine r_aaload20 (pc := 150) E dX6_init_150 (fun v150_3 => ?_)
        refine r_aastore20 (pc := 151) E dX6_init_151 (fun M151_3 => ?_)
        refine r_iinc (pc := 152) (w := 1) (lf := fun v152_3 => [(3, v152_3)]) (ll' := []) (lr' := [(0, a0), (1, a1), (2, a2)]) E dX6_init_152 0 rfl (by decide) (by decide) (fun _ => rfl) rfl rfl (fun v152_3 => ?_)
        refine r_goto (pc := 155) (tgt := 122) E dX6_init_155 (by decide) ?_
        refine r_iload_n (pc := 122) E dX6_init_122 rfl 0 rfl ?_
        refine r_iconst (pc := 123) (v := 3) E dX6_init_123 (by decide) ?_
        refine r_icmp_ge (pc := 124) (tgt := 158) E dX6_init_124 (by decide) ?_ ?_
        · refine r_widen (k := 38) (n := 47910) (by decide) (by decide) ?_
          exact e_void (pc := 158) E dX6_init_158
        · exact r_none
def fX8_addNumber_B3 (k3 : Option Nat × Int64 × Int32 × Int32 → Mem → Option (Unit × Mem)) (p0 : Option Nat) (p1 : Int64) (p3 : Int32) (p4 : Int32) (M : Mem) : Option (Unit × Mem) :=
  if p3 ≤ p4 then (
    some ((), M)
  ) else (
    bo (chk M p0 8) fun _ => bd (fX8_add p0 ((ushJ p1 (8 * p4)).toInt32) M) fun v18 M18 =>
    bn (p4 + 1) fun v21 =>
    k3 ((p0, p1, p3, v21)) M18
  )
def fX8_addNumber_L3 (p0 : Option Nat) (p1 : Int64) (p3 : Int32) (p4 : Int32) (M : Mem) : Option (Unit × Mem) :=
  lp (fun k3 (a : Option Nat × Int64 × Int32 × Int32) M => fX8_addNumber_B3 k3 a.1 a.2.1 a.2.2.1 a.2.2.2 M) FU ((p0, p1, p3, p4)) M
def fX8_addNumber (a0 : Option Nat) (a1 : Int64) (a3 : Int32) (M : Mem) : Option (Unit × Mem) :=
  bn (0) fun v1 =>
  fX8_addNumber_L3 a0 a1 a3 v1 M
def rmX8_addNumber : Room := { frames := 1, cells := 0, slots := 0, locals := 21 }
set_option maxRecDepth 100000 in
set_option maxHeartbeats 4000000 in
theorem ctX8_addNumber (l : Launch) (x : Cx) (a0 : Option Nat) (a1 : Int64) (a3 : Int32) (M : Mem) (v : Unit) (N : Mem) (h : fX8_addNumber a0 a1 a3 M = some (v, N)) : CT l yX8_addNumber cX8_addNumber 5 (none) rmX8_addNumber x [rv x a0, .long a1, .int a3] M none N := by
  refine ct_mk (enc := fun _ : Unit => none) (li := [(3, a3)]) (ll := [(1, a1)]) (lr := [(0, a0)]) (by decide +kernel) (by simp [lg_sl, rv_cat, cat_int, cat_long]) (by simp [flat, lv_args, rv_cat, cat_int, cat_long]) h ?_
  intro p e s m args below meth c E
  have hL3 : ∀ (p0 : Option Nat) (p1 : Int64) (p3 : Int32) (p4 : Int32) (M : Mem), RT p l e rmX8_addNumber s m args below meth c x 5 (QM below args s x (fun _ : Unit => none) rmX8_addNumber.cells rmX8_addNumber.slots) 0 0 (fX8_addNumber_L3 p0 p1 p3 p4 M) 3 [(3, p3), (4, p4)] [(1, p1)] [(0, p0)] [] M := by
    intro p0 p1 p3 p4 M
    refine r_lp (fi := fun a : Option Nat × Int64 × Int32 × Int32 => [(3, a.2.2.1), (4, a.2.2.2)]) (fl := fun a : Option Nat × Int64 × Int32 × Int32 => [(1, a.2.1)]) (fr := fun a : Option Nat × Int64 × Int32 × Int32 => [(0, a.1)]) (fs := fun a : Option Nat × Int64 × Int32 × Int32 => []) ?_ FU ((p0, p1, p3, p4)) M
    intro k3 hk3 a M
    obtain ⟨p0, p1, p3, p4⟩ := a
    show RT p l e rmX8_addNumber s m args below meth c x 5 (QM below args s x (fun _ : Unit => none) rmX8_addNumber.cells rmX8_addNumber.slots) 0 0 (fX8_addNumber_B3 k3 p0 p1 p3 p4 M) 3 [(3, p3), (4, p4)] [(1, p1)] [(0, p0)] [] M
    unfold fX8_addNumber_B3
    refine r_iload (pc := 3) E dX8_addNumber_3 1 rfl ?_
    refine r_iload_n (pc := 5) E dX8_addNumber_5 rfl 0 rfl ?_
    refine r_icmp_ge (pc := 6) (tgt := 27) E dX8_addNumber_6 (by decide) ?_ ?_
    · exact e_void (pc := 27) E dX8_addNumber_27
    · refine r_aload_n (pc := 9) E dX8_addNumber_9 rfl 0 rfl ?_
      refine r_lload_n (pc := 10) E dX8_addNumber_10 rfl 0 rfl ?_
      refine r_bipush (pc := 11) (v := 8) E dX8_addNumber_11 (by decide) ?_
      refine r_iload (pc := 13) E dX8_addNumber_13 1 rfl ?_
      refine r_imul (pc := 15) E dX8_addNumber_15 ?_
      refine r_lushr (pc := 16) E dX8_addNumber_16 ?_
      refine r_l2i (pc := 17) E dX8_addNumber_17 ?_
      refine r_kVv (pc := 18) (As := [.int ((ushJ p1 (8 * p4)).toInt32)]) (rest := []) E wc_X8_add wi_RX8 hd_X8_add (ci := 8) rfl wl_RX8_32 wn_X8_add ws_X8_add dX8_addNumber_18 (by decide) (Nat.le_of_ble_eq_true rfl) ⟨rfl, rfl⟩ (ctX8_add l x _ _ _) rfl (fun v18 M18 => ?_)
      refine r_iinc (pc := 21) (w := 1) (lf := fun v21 => [(4, v21), (3, p3)]) (ll' := [(1, p1)]) (lr' := [(0, p0)]) E dX8_addNumber_21 1 rfl (by decide) (by decide) (fun _ => rfl) rfl rfl (fun v21 => ?_)
      refine r_goto (pc := 24) (tgt := 3) E dX8_addNumber_24 (by decide) ?_
      exact r_sub [1, 0] [0] [0] rfl rfl rfl (hk3 ((p0, p1, p3, v21)) _)
  show RT p l e rmX8_addNumber s m args below meth c x 5 (QM below args s x (fun _ : Unit => none) rmX8_addNumber.cells rmX8_addNumber.slots) 0 0 (fX8_addNumber a0 a1 a3 M) 0 [(3, a3)] [(1, a1)] [(0, a0)] [] M
  unfold fX8_addNumber
  refine r_iconst (pc := 0) (v := 0) E dX8_addNumber_0 (by decide) ?_
  refine r_istore (pc := 1) (lf := fun v1 => [(4, v1), (3, a3)]) (lg := fun v1 => [(1, a1)]) (lk := fun v1 => [(0, a0)]) E dX8_addNumber_1 (by decide) (fun _ => rfl) (fun _ => rfl) (fun _ => rfl) (fun v1 => ?_)
  exact r_sub [1, 0] [0] [0] rfl rfl rfl (hL3 a0 a1 a3 v1 _)
def fX6_writeHead_L206 (M : Mem) : Option (Unit × Mem) :=
  some ((), M)
def fX6_writeHead_L199 (p6 : Int32) (q0 : Option Nat) (q1 : Int64) (M : Mem) : Option (Unit × Mem) :=
  bo (chk M q0 8) fun _ => bd (fX8_addNumber q0 q1 (p6 + 1) M) fun v203 M203 =>
  fX6_writeHead_L206 M203
def fX6_writeHead_L170 (p0 : Option Nat) (p3 : Int32) (p4 : Int32) (p6 : Int32) (q0 : Option Nat) (q1 : Int64) (q2 : Int32) (M : Mem) : Option (Unit × Mem) :=
  bo (chk M q0 8) fun _ => bd (fX8_addNumber q0 q1 q2 M) fun v170 M170 =>
  if p3 = 0 then (
    fX6_writeHead_L206 M170
  ) else (
    bo (gR M170 p0 6 13) fun v178 =>
    if p6 = 0 then (
      fX6_writeHead_L199 p6 v178 p4.toInt64 M170
    ) else (
      fX6_writeHead_L199 p6 v178 ((p4 - 256).toInt64) M170
    )
  )
def fX6_writeHead_L152 (p0 : Option Nat) (p1 : Int32) (p3 : Int32) (p4 : Int32) (p5 : Int32) (p6 : Int32) (M : Mem) : Option (Unit × Mem) :=
  bo (gR M p0 6 13) fun v153 =>
  if p5 = 3 then (
    fX6_writeHead_L170 p0 p3 p4 p6 v153 p1.toInt64 4 M
  ) else (
    fX6_writeHead_L170 p0 p3 p4 p6 v153 p1.toInt64 p5 M
  )
def fX6_writeHead_L149 (p0 : Option Nat) (p1 : Int32) (p3 : Int32) (p4 : Int32) (p5 : Int32) (p6 : Int32) (q0 : Option Nat) (q1 : Int32) (M : Mem) : Option (Unit × Mem) :=
  bo (chk M q0 8) fun _ => bd (fX8_add q0 q1 M) fun v149 M149 =>
  fX6_writeHead_L152 p0 p1 p3 p4 p5 p6 M149
def fX6_writeHead_L103 (p0 : Option Nat) (p1 : Int32) (p2 : Int32) (p3 : Int32) (p4 : Int32) (p5 : Int32) (p6 : Int32) (q0 : Option Nat) (q1 : Int32) (q2 : Int32) (M : Mem) : Option (Unit × Mem) :=
  bo (chk M q0 8) fun _ => bd (fX8_add q0 (((q1 ||| q2) ||| (shlI (p2 &&& 1) 2)) ||| p5) M) fun v113 M113 =>
  if p3 = 0 then (
    bo (gR M113 p0 6 13) fun v121 =>
    if 1024 < p4 then (
      bd (fX12_logOf ((p4 - 1).toInt64) M113) fun v141 M141 =>
      fX6_writeHead_L149 p0 p1 p3 p4 p5 p6 v121 (shlI (v141 - 9) 3) M141
    ) else (
      fX6_writeHead_L149 p0 p1 p3 p4 p5 p6 v121 0 M113
    )
  ) else (
    fX6_writeHead_L152 p0 p1 p3 p4 p5 p6 M113
  )
def fX6_writeHead_L71 (p0 : Option Nat) (p1 : Int32) (p2 : Int32) (p3 : Int32) (p4 : Int32) (p5 : Int32) (q0 : Int32) (M : Mem) : Option (Unit × Mem) :=
  bn (q0) fun v71 =>
  bo (gR M p0 6 13) fun v74 =>
  bo (chk M v74 8) fun _ => bd (fX8_addNumber v74 4247762216 4 M) fun v81 M81 =>
  bo (gR M81 p0 6 13) fun v85 =>
  if p3 = 0 then (
    fX6_writeHead_L103 p0 p1 p2 p3 p4 p5 v71 v85 (shlI v71 6) 0 M81
  ) else (
    fX6_writeHead_L103 p0 p1 p2 p3 p4 p5 v71 v85 (shlI v71 6) 32 M81
  )
def fX6_writeHead_L70 (p0 : Option Nat) (p1 : Int32) (p2 : Int32) (p3 : Int32) (p4 : Int32) (p5 : Int32) (M : Mem) : Option (Unit × Mem) :=
  fX6_writeHead_L71 p0 p1 p2 p3 p4 p5 0 M
def fX6_writeHead_L52 (p0 : Option Nat) (p1 : Int32) (p2 : Int32) (p3 : Int32) (p4 : Int32) (q0 : Int32) (M : Mem) : Option (Unit × Mem) :=
  bn (q0) fun v52 =>
  if p3 = 0 then (
    fX6_writeHead_L70 p0 p1 p2 p3 p4 v52 M
  ) else (
    if p4 < 256 then (
      fX6_writeHead_L70 p0 p1 p2 p3 p4 v52 M
    ) else (
      fX6_writeHead_L71 p0 p1 p2 p3 p4 v52 1 M
    )
  )
def fX6_writeHead_L11 (p0 : Option Nat) (p1 : Int32) (p2 : Int32) (q0 : Int32) (M : Mem) : Option (Unit × Mem) :=
  bn (q0) fun v11 =>
  bo (gR M p0 6 12) fun v13 =>
  bo (gI M v13 8 1) fun v16 =>
  bn (v16) fun v19 =>
  if p1 = 0 then (
    fX6_writeHead_L52 p0 p1 p2 v11 v19 0 M
  ) else (
    if (ushI p1 8) = 0 then (
      fX6_writeHead_L52 p0 p1 p2 v11 v19 1 M
    ) else (
      if (ushI p1 16) = 0 then (
        fX6_writeHead_L52 p0 p1 p2 v11 v19 2 M
      ) else (
        fX6_writeHead_L52 p0 p1 p2 v11 v19 3 M
      )
    )
  )
def fX6_writeHead (a0 : Option Nat) (a1 : Int32) (a2 : Int32) (M : Mem) : Option (Unit × Mem) :=
  if (a2 &&& 2) = 0 then (
    fX6_writeHead_L11 a0 a1 a2 0 M
  ) else (
    fX6_writeHead_L11 a0 a1 a2 1 M
  )
def rmX6_writeHead : Room := { frames := 2, cells := 0, slots := 0, locals := 45 }
set_option maxRecDepth 100000 in
set_option maxHeartbeats 4000000 in
theorem ctX6_writeHead (l : Launch) (x : Cx) (a0 : Option Nat) (a1 : Int32) (a2 : Int32) (M : Mem) (v : Unit) (N : Mem) (h : fX6_writeHead a0 a1 a2 M = some (v, N)) : CT l yX6_writeHead cX6_writeHead 7 (none) rmX6_writeHead x [rv x a0, .int a1, .int a2] M none N := by
  refine ct_mk (enc := fun _ : Unit => none) (li := [(1, a1), (2, a2)]) (ll := []) (lr := [(0, a0)]) (by decide +kernel) (by simp [lg_sl, rv_cat, cat_int, cat_long]) (by simp [flat, lv_args, rv_cat, cat_int, cat_long]) h ?_
  intro p e s m args below meth c E
  have hL206 : ∀ (M : Mem), RT p l e rmX6_writeHead s m args below meth c x 7 (QM below args s x (fun _ : Unit => none) rmX6_writeHead.cells rmX6_writeHead.slots) 0 0 (fX6_writeHead_L206 M) 206 [] [] [] [] M := by
    intro M
    unfold fX6_writeHead_L206
    exact e_void (pc := 206) E dX6_writeHead_206
  have hL199 : ∀ (p6 : Int32) (q0 : Option Nat) (q1 : Int64) (M : Mem), RT p l e rmX6_writeHead s m args below meth c x 7 (QM below args s x (fun _ : Unit => none) rmX6_writeHead.cells rmX6_writeHead.slots) 0 0 (fX6_writeHead_L199 p6 q0 q1 M) 199 [(6, p6)] [] [] [.long q1, rv x q0] M := by
    intro p6 q0 q1 M
    unfold fX6_writeHead_L199
    refine r_iload (pc := 199) E dX6_writeHead_199 0 rfl ?_
    refine r_iconst (pc := 201) (v := 1) E dX6_writeHead_201 (by decide) ?_
    refine r_iadd (pc := 202) E dX6_writeHead_202 ?_
    refine r_kVv (pc := 203) (As := [.long q1, .int (p6 + 1)]) (rest := []) E wc_X8_addNumber wi_RX8 hd_X8_addNumber (ci := 8) rfl wl_RX6_121 wn_X8_addNumber ws_X8_addNumber dX6_writeHead_203 (by decide) (Nat.le_of_ble_eq_true rfl) ⟨rfl, rfl⟩ (ctX8_addNumber l x _ _ _ _) rfl (fun v203 M203 => ?_)
    exact r_sub [] [] [] rfl rfl rfl (hL206 _)
  have hL170 : ∀ (p0 : Option Nat) (p3 : Int32) (p4 : Int32) (p6 : Int32) (q0 : Option Nat) (q1 : Int64) (q2 : Int32) (M : Mem), RT p l e rmX6_writeHead s m args below meth c x 7 (QM below args s x (fun _ : Unit => none) rmX6_writeHead.cells rmX6_writeHead.slots) 0 0 (fX6_writeHead_L170 p0 p3 p4 p6 q0 q1 q2 M) 170 [(3, p3), (4, p4), (6, p6)] [] [(0, p0)] [.int q2, .long q1, rv x q0] M := by
    intro p0 p3 p4 p6 q0 q1 q2 M
    unfold fX6_writeHead_L170
    refine r_kVv (pc := 170) (As := [.long q1, .int q2]) (rest := []) E wc_X8_addNumber wi_RX8 hd_X8_addNumber (ci := 8) rfl wl_RX6_121 wn_X8_addNumber ws_X8_addNumber dX6_writeHead_170 (by decide) (Nat.le_of_ble_eq_true rfl) ⟨rfl, rfl⟩ (ctX8_addNumber l x _ _ _ _) rfl (fun v170 M170 => ?_)
    refine r_iload_n (pc := 173) E dX6_writeHead_173 rfl 0 rfl ?_
    refine r_if_eq (pc := 174) (tgt := 206) E dX6_writeHead_174 (by decide) ?_ ?_
    · exact r_sub [] [] [] rfl rfl rfl (hL206 _)
    · refine r_aload_n (pc := 177) E dX6_writeHead_177 rfl 0 rfl ?_
      refine r_getR (pc := 178) E fd_6_13 wf_RX6_62 dX6_writeHead_178 (fun v178 => ?_)
      refine r_iload (pc := 181) E dX6_writeHead_181 2 rfl ?_
      refine r_if_ne (pc := 183) (tgt := 192) E dX6_writeHead_183 (by decide) ?_ ?_
      · refine r_iload (pc := 192) E dX6_writeHead_192 1 rfl ?_
        refine r_sipush (pc := 194) (v := 256) E dX6_writeHead_194 (by decide) ?_
        refine r_isub (pc := 197) E dX6_writeHead_197 ?_
        refine r_i2l (pc := 198) E dX6_writeHead_198 ?_
        exact r_sub [2] [] [] rfl rfl rfl (hL199 p6 v178 ((p4 - 256).toInt64) _)
      · refine r_iload (pc := 186) E dX6_writeHead_186 1 rfl ?_
        refine r_i2l (pc := 188) E dX6_writeHead_188 ?_
        refine r_goto (pc := 189) (tgt := 199) E dX6_writeHead_189 (by decide) ?_
        exact r_sub [2] [] [] rfl rfl rfl (hL199 p6 v178 p4.toInt64 _)
  have hL152 : ∀ (p0 : Option Nat) (p1 : Int32) (p3 : Int32) (p4 : Int32) (p5 : Int32) (p6 : Int32) (M : Mem), RT p l e rmX6_writeHead s m args below meth c x 7 (QM below args s x (fun _ : Unit => none) rmX6_writeHead.cells rmX6_writeHead.slots) 0 0 (fX6_writeHead_L152 p0 p1 p3 p4 p5 p6 M) 152 [(1, p1), (3, p3), (4, p4), (5, p5), (6, p6)] [] [(0, p0)] [] M := by
    intro p0 p1 p3 p4 p5 p6 M
    unfold fX6_writeHead_L152
    refine r_aload_n (pc := 152) E dX6_writeHead_152 rfl 0 rfl ?_
    refine r_getR (pc := 153) E fd_6_13 wf_RX6_62 dX6_writeHead_153 (fun v153 => ?_)
    refine r_iload_n (pc := 156) E dX6_writeHead_156 rfl 0 rfl ?_
    refine r_i2l (pc := 157) E dX6_writeHead_157 ?_
    refine r_iload (pc := 158) E dX6_writeHead_158 3 rfl ?_
    refine r_iconst (pc := 160) (v := 3) E dX6_writeHead_160 (by decide) ?_
    refine r_icmp_ne (pc := 161) (tgt := 168) E dX6_writeHead_161 (by decide) ?_ ?_
    · refine r_iload (pc := 168) E dX6_writeHead_168 3 rfl ?_
      exact r_sub [1, 2, 4] [] [0] rfl rfl rfl (hL170 p0 p3 p4 p6 v153 p1.toInt64 p5 _)
    · refine r_iconst (pc := 164) (v := 4) E dX6_writeHead_164 (by decide) ?_
      refine r_goto (pc := 165) (tgt := 170) E dX6_writeHead_165 (by decide) ?_
      exact r_sub [1, 2, 4] [] [0] rfl rfl rfl (hL170 p0 p3 p4 p6 v153 p1.toInt64 4 _)
  have hL149 : ∀ (p0 : Option Nat) (p1 : Int32) (p3 : Int32) (p4 : Int32) (p5 : Int32) (p6 : Int32) (q0 : Option Nat) (q1 : Int32) (M : Mem), RT p l e rmX6_writeHead s m args below meth c x 7 (QM below args s x (fun _ : Unit => none) rmX6_writeHead.cells rmX6_writeHead.slots) 0 0 (fX6_writeHead_L149 p0 p1 p3 p4 p5 p6 q0 q1 M) 149 [(1, p1), (3, p3), (4, p4), (5, p5), (6, p6)] [] [(0, p0)] [.int q1, rv x q0] M := by
    intro p0 p1 p3 p4 p5 p6 q0 q1 M
    unfold fX6_writeHead_L149
    refine r_kVv (pc := 149) (As := [.int q1]) (rest := []) E wc_X8_add wi_RX8 hd_X8_add (ci := 8) rfl wl_RX6_127 wn_X8_add ws_X8_add dX6_writeHead_149 (by decide) (Nat.le_of_ble_eq_true rfl) ⟨rfl, rfl⟩ (ctX8_add l x _ _ _) rfl (fun v149 M149 => ?_)
    exact r_sub [0, 1, 2, 3, 4] [] [0] rfl rfl rfl (hL152 p0 p1 p3 p4 p5 p6 _)
  have hL103 : ∀ (p0 : Option Nat) (p1 : Int32) (p2 : Int32) (p3 : Int32) (p4 : Int32) (p5 : Int32) (p6 : Int32) (q0 : Option Nat) (q1 : Int32) (q2 : Int32) (M : Mem), RT p l e rmX6_writeHead s m args below meth c x 7 (QM below args s x (fun _ : Unit => none) rmX6_writeHead.cells rmX6_writeHead.slots) 0 0 (fX6_writeHead_L103 p0 p1 p2 p3 p4 p5 p6 q0 q1 q2 M) 103 [(1, p1), (2, p2), (3, p3), (4, p4), (5, p5), (6, p6)] [] [(0, p0)] [.int q2, .int q1, rv x q0] M := by
    intro p0 p1 p2 p3 p4 p5 p6 q0 q1 q2 M
    unfold fX6_writeHead_L103
    refine r_ior (pc := 103) E dX6_writeHead_103 ?_
    refine r_iload_n (pc := 104) E dX6_writeHead_104 rfl 1 rfl ?_
    refine r_iconst (pc := 105) (v := 1) E dX6_writeHead_105 (by decide) ?_
    refine r_iand (pc := 106) E dX6_writeHead_106 ?_
    refine r_iconst (pc := 107) (v := 2) E dX6_writeHead_107 (by decide) ?_
    refine r_ishl (pc := 108) E dX6_writeHead_108 ?_
    refine r_ior (pc := 109) E dX6_writeHead_109 ?_
    refine r_iload (pc := 110) E dX6_writeHead_110 4 rfl ?_
    refine r_ior (pc := 112) E dX6_writeHead_112 ?_
    refine r_kVv (pc := 113) (As := [.int (((q1 ||| q2) ||| (shlI (p2 &&& 1) 2)) ||| p5)]) (rest := []) E wc_X8_add wi_RX8 hd_X8_add (ci := 8) rfl wl_RX6_127 wn_X8_add ws_X8_add dX6_writeHead_113 (by decide) (Nat.le_of_ble_eq_true rfl) ⟨rfl, rfl⟩ (ctX8_add l x _ _ _) rfl (fun v113 M113 => ?_)
    refine r_iload_n (pc := 116) E dX6_writeHead_116 rfl 2 rfl ?_
    refine r_if_ne (pc := 117) (tgt := 152) E dX6_writeHead_117 (by decide) ?_ ?_
    · exact r_sub [0, 2, 3, 4, 5] [] [0] rfl rfl rfl (hL152 p0 p1 p3 p4 p5 p6 _)
    · refine r_aload_n (pc := 120) E dX6_writeHead_120 rfl 0 rfl ?_
      refine r_getR (pc := 121) E fd_6_13 wf_RX6_62 dX6_writeHead_121 (fun v121 => ?_)
      refine r_iload (pc := 124) E dX6_writeHead_124 3 rfl ?_
      refine r_sipush (pc := 126) (v := 1024) E dX6_writeHead_126 (by decide) ?_
      refine r_icmp_gt (pc := 129) (tgt := 136) E dX6_writeHead_129 (by decide) ?_ ?_
      · refine r_iload (pc := 136) E dX6_writeHead_136 3 rfl ?_
        refine r_iconst (pc := 138) (v := 1) E dX6_writeHead_138 (by decide) ?_
        refine r_isub (pc := 139) E dX6_writeHead_139 ?_
        refine r_i2l (pc := 140) E dX6_writeHead_140 ?_
        refine r_kSNi (pc := 141) (As := [.long ((p4 - 1).toInt64)]) (rest := [rv x v121]) E wc_X12_logOf wi_RX12 hd_X12_logOf (host := "TabledFrames") (by decide +kernel) wt_X12_logOf dX6_writeHead_141 (by decide) (Nat.le_of_ble_eq_true rfl) ⟨rfl, rfl⟩ (ctX12_logOf l x _ _) rfl (fun v141 M141 => ?_)
        refine r_bipush (pc := 144) (v := 9) E dX6_writeHead_144 (by decide) ?_
        refine r_isub (pc := 146) E dX6_writeHead_146 ?_
        refine r_iconst (pc := 147) (v := 3) E dX6_writeHead_147 (by decide) ?_
        refine r_ishl (pc := 148) E dX6_writeHead_148 ?_
        exact r_sub [0, 2, 3, 4, 5] [] [0] rfl rfl rfl (hL149 p0 p1 p3 p4 p5 p6 v121 (shlI (v141 - 9) 3) _)
      · refine r_iconst (pc := 132) (v := 0) E dX6_writeHead_132 (by decide) ?_
        refine r_goto (pc := 133) (tgt := 149) E dX6_writeHead_133 (by decide) ?_
        exact r_sub [0, 2, 3, 4, 5] [] [0] rfl rfl rfl (hL149 p0 p1 p3 p4 p5 p6 v121 0 _)
  have hL71 : ∀ (p0 : Option Nat) (p1 : Int32) (p2 : Int32) (p3 : Int32) (p4 : Int32) (p5 : Int32) (q0 : Int32) (M : Mem), RT p l e rmX6_writeHead s m args below meth c x 7 (QM below args s x (fun _ : Unit => none) rmX6_writeHead.cells rmX6_writeHead.slots) 0 0 (fX6_writeHead_L71 p0 p1 p2 p3 p4 p5 q0 M) 71 [(1, p1), (2, p2), (3, p3), (4, p4), (5, p5)] [] [(0, p0)] [.int q0] M := by
    intro p0 p1 p2 p3 p4 p5 q0 M
    unfold fX6_writeHead_L71
    refine r_istore (pc := 71) (lf := fun v71 => [(6, v71), (1, p1), (2, p2), (3, p3), (4, p4), (5, p5)]) (lg := fun v71 => []) (lk := fun v71 => [(0, p0)]) E dX6_writeHead_71 (by decide) (fun _ => rfl) (fun _ => rfl) (fun _ => rfl) (fun v71 => ?_)
    refine r_aload_n (pc := 73) E dX6_writeHead_73 rfl 0 rfl ?_
    refine r_getR (pc := 74) E fd_6_13 wf_RX6_62 dX6_writeHead_74 (fun v74 => ?_)
    refine r_ldc2 (pc := 77) E wk_RX6_125 dX6_writeHead_77 ?_
    refine r_iconst (pc := 80) (v := 4) E dX6_writeHead_80 (by decide) ?_
    refine r_kVv (pc := 81) (As := [.long 4247762216, .int 4]) (rest := []) E wc_X8_addNumber wi_RX8 hd_X8_addNumber (ci := 8) rfl wl_RX6_121 wn_X8_addNumber ws_X8_addNumber dX6_writeHead_81 (by decide) (Nat.le_of_ble_eq_true rfl) ⟨rfl, rfl⟩ (ctX8_addNumber l x _ _ _ _) rfl (fun v81 M81 => ?_)
    refine r_aload_n (pc := 84) E dX6_writeHead_84 rfl 0 rfl ?_
    refine r_getR (pc := 85) E fd_6_13 wf_RX6_62 dX6_writeHead_85 (fun v85 => ?_)
    refine r_iload (pc := 88) E dX6_writeHead_88 0 rfl ?_
    refine r_bipush (pc := 90) (v := 6) E dX6_writeHead_90 (by decide) ?_
    refine r_ishl (pc := 92) E dX6_writeHead_92 ?_
    refine r_iload_n (pc := 93) E dX6_writeHead_93 rfl 3 rfl ?_
    refine r_if_eq (pc := 94) (tgt := 102) E dX6_writeHead_94 (by decide) ?_ ?_
    · refine r_iconst (pc := 102) (v := 0) E dX6_writeHead_102 (by decide) ?_
      exact r_sub [1, 2, 3, 4, 5, 0] [] [0] rfl rfl rfl (hL103 p0 p1 p2 p3 p4 p5 v71 v85 (shlI v71 6) 0 _)
    · refine r_bipush (pc := 97) (v := 32) E dX6_writeHead_97 (by decide) ?_
      refine r_goto (pc := 99) (tgt := 103) E dX6_writeHead_99 (by decide) ?_
      exact r_sub [1, 2, 3, 4, 5, 0] [] [0] rfl rfl rfl (hL103 p0 p1 p2 p3 p4 p5 v71 v85 (shlI v71 6) 32 _)
  have hL70 : ∀ (p0 : Option Nat) (p1 : Int32) (p2 : Int32) (p3 : Int32) (p4 : Int32) (p5 : Int32) (M : Mem), RT p l e rmX6_writeHead s m args below meth c x 7 (QM below args s x (fun _ : Unit => none) rmX6_writeHead.cells rmX6_writeHead.slots) 0 0 (fX6_writeHead_L70 p0 p1 p2 p3 p4 p5 M) 70 [(1, p1), (2, p2), (3, p3), (4, p4), (5, p5)] [] [(0, p0)] [] M := by
    intro p0 p1 p2 p3 p4 p5 M
    unfold fX6_writeHead_L70
    refine r_iconst (pc := 70) (v := 0) E dX6_writeHead_70 (by decide) ?_
    exact r_sub [0, 1, 2, 3, 4] [] [0] rfl rfl rfl (hL71 p0 p1 p2 p3 p4 p5 0 _)
  have hL52 : ∀ (p0 : Option Nat) (p1 : Int32) (p2 : Int32) (p3 : Int32) (p4 : Int32) (q0 : Int32) (M : Mem), RT p l e rmX6_writeHead s m args below meth c x 7 (QM below args s x (fun _ : Unit => none) rmX6_writeHead.cells rmX6_writeHead.slots) 0 0 (fX6_writeHead_L52 p0 p1 p2 p3 p4 q0 M) 52 [(1, p1), (2, p2), (3, p3), (4, p4)] [] [(0, p0)] [.int q0] M := by
    intro p0 p1 p2 p3 p4 q0 M
    unfold fX6_writeHead_L52
    refine r_istore (pc := 52) (lf := fun v52 => [(5, v52), (1, p1), (2, p2), (3, p3), (4, p4)]) (lg := fun v52 => []) (lk := fun v52 => [(0, p0)]) E dX6_writeHead_52 (by decide) (fun _ => rfl) (fun _ => rfl) (fun _ => rfl) (fun v52 => ?_)
    refine r_iload_n (pc := 54) E dX6_writeHead_54 rfl 3 rfl ?_
    refine r_if_eq (pc := 55) (tgt := 70) E dX6_writeHead_55 (by decide) ?_ ?_
    · exact r_sub [1, 2, 3, 4, 0] [] [0] rfl rfl rfl (hL70 p0 p1 p2 p3 p4 v52 _)
    · refine r_iload (pc := 58) E dX6_writeHead_58 4 rfl ?_
      refine r_sipush (pc := 60) (v := 256) E dX6_writeHead_60 (by decide) ?_
      refine r_icmp_lt (pc := 63) (tgt := 70) E dX6_writeHead_63 (by decide) ?_ ?_
      · exact r_sub [1, 2, 3, 4, 0] [] [0] rfl rfl rfl (hL70 p0 p1 p2 p3 p4 v52 _)
      · refine r_iconst (pc := 66) (v := 1) E dX6_writeHead_66 (by decide) ?_
        refine r_goto (pc := 67) (tgt := 71) E dX6_writeHead_67 (by decide) ?_
        exact r_sub [1, 2, 3, 4, 0] [] [0] rfl rfl rfl (hL71 p0 p1 p2 p3 p4 v52 1 _)
  have hL11 : ∀ (p0 : Option Nat) (p1 : Int32) (p2 : Int32) (q0 : Int32) (M : Mem), RT p l e rmX6_writeHead s m args below meth c x 7 (QM below args s x (fun _ : Unit => none) rmX6_writeHead.cells rmX6_writeHead.slots) 0 0 (fX6_writeHead_L11 p0 p1 p2 q0 M) 11 [(1, p1), (2, p2)] [] [(0, p0)] [.int q0] M := by
    intro p0 p1 p2 q0 M
    unfold fX6_writeHead_L11
    refine r_istore_n (pc := 11) (lf := fun v11 => [(3, v11), (1, p1), (2, p2)]) (lg := fun v11 => []) (lk := fun v11 => [(0, p0)]) E dX6_writeHead_11 rfl (by decide) (fun _ => rfl) (fun _ => rfl) (fun _ => rfl) (fun v11 => ?_)
    refine r_aload_n (pc := 12) E dX6_writeHead_12 rfl 0 rfl ?_
    refine r_getR (pc := 13) E fd_6_12 wf_RX6_59 dX6_writeHead_13 (fun v13 => ?_)
    refine r_getI (pc := 16) E fd_8_1 wf_RX6_77 dX6_writeHead_16 (fun v16 => ?_)
    refine r_istore (pc := 19) (lf := fun v19 => [(4, v19), (3, v11), (1, p1), (2, p2)]) (lg := fun v19 => []) (lk := fun v19 => [(0, p0)]) E dX6_writeHead_19 (by decide) (fun _ => rfl) (fun _ => rfl) (fun _ => rfl) (fun v19 => ?_)
    refine r_iload_n (pc := 21) E dX6_writeHead_21 rfl 2 rfl ?_
    refine r_if_ne (pc := 22) (tgt := 29) E dX6_writeHead_22 (by decide) ?_ ?_
    · refine r_iload_n (pc := 29) E dX6_writeHead_29 rfl 2 rfl ?_
      refine r_bipush (pc := 30) (v := 8) E dX6_writeHead_30 (by decide) ?_
      refine r_iushr (pc := 32) E dX6_writeHead_32 ?_
      refine r_if_ne (pc := 33) (tgt := 40) E dX6_writeHead_33 (by decide) ?_ ?_
      · refine r_iload_n (pc := 40) E dX6_writeHead_40 rfl 2 rfl ?_
        refine r_bipush (pc := 41) (v := 16) E dX6_writeHead_41 (by decide) ?_
        refine r_iushr (pc := 43) E dX6_writeHead_43 ?_
        refine r_if_ne (pc := 44) (tgt := 51) E dX6_writeHead_44 (by decide) ?_ ?_
        · refine r_iconst (pc := 51) (v := 3) E dX6_writeHead_51 (by decide) ?_
          exact r_sub [2, 3, 1, 0] [] [0] rfl rfl rfl (hL52 p0 p1 p2 v11 v19 3 _)
        · refine r_iconst (pc := 47) (v := 2) E dX6_writeHead_47 (by decide) ?_
          refine r_goto (pc := 48) (tgt := 52) E dX6_writeHead_48 (by decide) ?_
          exact r_sub [2, 3, 1, 0] [] [0] rfl rfl rfl (hL52 p0 p1 p2 v11 v19 2 _)
      · refine r_iconst (pc := 36) (v := 1) E dX6_writeHead_36 (by decide) ?_
        refine r_goto (pc := 37) (tgt := 52) E dX6_writeHead_37 (by decide) ?_
        exact r_sub [2, 3, 1, 0] [] [0] rfl rfl rfl (hL52 p0 p1 p2 v11 v19 1 _)
    · refine r_iconst (pc := 25) (v := 0) E dX6_writeHead_25 (by decide) ?_
      refine r_goto (pc := 26) (tgt := 52) E dX6_writeHead_26 (by decide) ?_
      exact r_sub [2, 3, 1, 0] [] [0] rfl rfl rfl (hL52 p0 p1 p2 v11 v19 0 _)
  show RT p l e rmX6_writeHead s m args below meth c x 7 (QM below args s x (fun _ : Unit => none) rmX6_writeHead.cells rmX6_writeHead.slots) 0 0 (fX6_writeHead a0 a1 a2 M) 0 [(1, a1), (2, a2)] [] [(0, a0)] [] M
  unfold fX6_writeHead
  refine r_iload_n (pc := 0) E dX6_writeHead_0 rfl 1 rfl ?_
  refine r_iconst (pc := 1) (v := 2) E dX6_writeHead_1 (by decide) ?_
  refine r_iand (pc := 2) E dX6_writeHead_2 ?_
  refine r_if_eq (pc := 3) (tgt := 10) E dX6_writeHead_3 (by decide) ?_ ?_
  · refine r_iconst (pc := 10) (v := 0) E dX6_writeHead_10 (by decide) ?_
    exact r_sub [0, 1] [] [0] rfl rfl rfl (hL11 a0 a1 a2 0 _)
  · refine r_iconst (pc := 6) (v := 1) E dX6_writeHead_6 (by decide) ?_
    refine r_goto (pc := 7) (tgt := 11) E dX6_writeHead_7 (by decide) ?_
    exact r_sub [0, 1] [] [0] rfl rfl rfl (hL11 a0 a1 a2 1 _)
def fX8_same_B4 (k4 : Option Nat × Int32 × Int32 × Int32 → Mem → Option (Int32 × Mem)) (p0 : Option Nat) (p1 : Int32) (p2 : Int32) (p3 : Int32) (M : Mem) : Option (Int32 × Mem) :=
  if p2 ≤ p3 then (
    rtZ 1 M
  ) else (
    bo (chk M p0 8) fun _ => bd (fX8_get p0 p3 M) fun v11 M11 =>
    bo (chk M11 p0 8) fun _ => bd (fX8_get p0 p1 M11) fun v16 M16 =>
    if v11 = v16 then (
      bn (p3 + 1) fun v24 =>
      k4 ((p0, p1, p2, v24)) M16
    ) else (
      rtZ 0 M16
    )
  )
def fX8_same_L4 (p0 : Option Nat) (p1 : Int32) (p2 : Int32) (p3 : Int32) (M : Mem) : Option (Int32 × Mem) :=
  lp (fun k4 (a : Option Nat × Int32 × Int32 × Int32) M => fX8_same_B4 k4 a.1 a.2.1 a.2.2.1 a.2.2.2 M) FU ((p0, p1, p2, p3)) M
def fX8_same (a0 : Option Nat) (a1 : Int32) (a2 : Int32) (M : Mem) : Option (Int32 × Mem) :=
  bn (a1 + 1) fun v3 =>
  fX8_same_L4 a0 a1 a2 v3 M
def rmX8_same : Room := { frames := 1, cells := 0, slots := 0, locals := 21 }
set_option maxRecDepth 100000 in
set_option maxHeartbeats 4000000 in
theorem ctX8_same (l : Launch) (x : Cx) (a0 : Option Nat) (a1 : Int32) (a2 : Int32) (M : Mem) (v : Int32) (N : Mem) (h : fX8_same a0 a1 a2 M = some (v, N)) : CT l yX8_same cX8_same 4 (some (FieldType.boolean)) rmX8_same x [rv x a0, .int a1, .int a2] M (some (.int v)) N := by
  refine ct_mk (enc := fun v : Int32 => some (.int v)) (li := [(1, a1), (2, a2)]) (ll := []) (lr := [(0, a0)]) (by decide +kernel) (by simp [lg_sl, rv_cat, cat_int, cat_long]) (by simp [flat, lv_args, rv_cat, cat_int, cat_long]) h ?_
  intro p e s m args below meth c E
  have hL4 : ∀ (p0 : Option Nat) (p1 : Int32) (p2 : Int32) (p3 : Int32) (M : Mem), RT p l e rmX8_same s m args below meth c x 4 (QM below args s x (fun v : Int32 => some (.int v)) rmX8_same.cells rmX8_same.slots) 0 0 (fX8_same_L4 p0 p1 p2 p3 M) 4 [(1, p1), (2, p2), (3, p3)] [] [(0, p0)] [] M := by
    intro p0 p1 p2 p3 M
    refine r_lp (fi := fun a : Option Nat × Int32 × Int32 × Int32 => [(1, a.2.1), (2, a.2.2.1), (3, a.2.2.2)]) (fl := fun a : Option Nat × Int32 × Int32 × Int32 => []) (fr := fun a : Option Nat × Int32 × Int32 × Int32 => [(0, a.1)]) (fs := fun a : Option Nat × Int32 × Int32 × Int32 => []) ?_ FU ((p0, p1, p2, p3)) M
    intro k4 hk4 a M
    obtain ⟨p0, p1, p2, p3⟩ := a
    show RT p l e rmX8_same s m args below meth c x 4 (QM below args s x (fun v : Int32 => some (.int v)) rmX8_same.cells rmX8_same.slots) 0 0 (fX8_same_B4 k4 p0 p1 p2 p3 M) 4 [(1, p1), (2, p2), (3, p3)] [] [(0, p0)] [] M
    unfold fX8_same_B4
    refine r_iload_n (pc := 4) E dX8_same_4 rfl 2 rfl ?_
    refine r_iload_n (pc := 5) E dX8_same_5 rfl 1 rfl ?_
    refine r_icmp_ge (pc := 6) (tgt := 30) E dX8_same_6 (by decide) ?_ ?_
    · refine r_iconst (pc := 30) (v := 1) E dX8_same_30 (by decide) ?_
      exact e_bool (pc := 31) E dX8_same_31
    · refine r_aload_n (pc := 9) E dX8_same_9 rfl 0 rfl ?_
      refine r_iload_n (pc := 10) E dX8_same_10 rfl 2 rfl ?_
      refine r_kVi (pc := 11) (As := [.int p3]) (rest := []) E wc_X8_get wi_RX8 hd_X8_get (ci := 8) rfl wl_RX8_28 wn_X8_get ws_X8_get dX8_same_11 (by decide) (Nat.le_of_ble_eq_true rfl) ⟨rfl, rfl⟩ (ctX8_get l x _ _ _) rfl (fun v11 M11 => ?_)
      refine r_aload_n (pc := 14) E dX8_same_14 rfl 0 rfl ?_
      refine r_iload_n (pc := 15) E dX8_same_15 rfl 0 rfl ?_
      refine r_kVi (pc := 16) (As := [.int p1]) (rest := [.int v11]) E wc_X8_get wi_RX8 hd_X8_get (ci := 8) rfl wl_RX8_28 wn_X8_get ws_X8_get dX8_same_16 (by decide) (Nat.le_of_ble_eq_true rfl) ⟨rfl, rfl⟩ (ctX8_get l x _ _ _) rfl (fun v16 M16 => ?_)
      refine r_icmp_eq (pc := 19) (tgt := 24) E dX8_same_19 (by decide) ?_ ?_
      · refine r_iinc (pc := 24) (w := 1) (lf := fun v24 => [(3, v24), (1, p1), (2, p2)]) (ll' := []) (lr' := [(0, p0)]) E dX8_same_24 2 rfl (by decide) (by decide) (fun _ => rfl) rfl rfl (fun v24 => ?_)
        refine r_goto (pc := 27) (tgt := 4) E dX8_same_27 (by decide) ?_
        exact r_sub [1, 2, 0] [] [0] rfl rfl rfl (hk4 ((p0, p1, p2, v24)) _)
      · refine r_iconst (pc := 22) (v := 0) E dX8_same_22 (by decide) ?_
        exact e_bool (pc := 23) E dX8_same_23
  show RT p l e rmX8_same s m args below meth c x 4 (QM below args s x (fun v : Int32 => some (.int v)) rmX8_same.cells rmX8_same.slots) 0 0 (fX8_same a0 a1 a2 M) 0 [(1, a1), (2, a2)] [] [(0, a0)] [] M
  unfold fX8_same
  refine r_iload_n (pc := 0) E dX8_same_0 rfl 0 rfl ?_
  refine r_iconst (pc := 1) (v := 1) E dX8_same_1 (by decide) ?_
  refine r_iadd (pc := 2) E dX8_same_2 ?_
  refine r_istore_n (pc := 3) (lf := fun v3 => [(3, v3), (1, a1), (2, a2)]) (lg := fun v3 => []) (lk := fun v3 => [(0, a0)]) E dX8_same_3 rfl (by decide) (fun _ => rfl) (fun _ => rfl) (fun _ => rfl) (fun v3 => ?_)
  exact r_sub [1, 2, 0] [] [0] rfl rfl rfl (hL4 a0 a1 a2 v3 _)
def fX6_valueOf_B2 (k2 : Option Nat × Int32 × Int32 × Int32 → Mem → Option (Int32 × Mem)) (p0 : Option Nat) (p1 : Int32) (p2 : Int32) (p3 : Int32) (M : Mem) : Option (Int32 × Mem) :=
  if 3 < p3 then (
    some (p1 + 3, M)
  ) else (
    bo (gR M p0 6 10) fun v8 =>
    bd (fX12_offsetOf v8 p3.toInt64 p2 M) fun v14 M14 =>
    if (lg_cmp v14 p1.toInt64) = 0 then (
      some (p3, M14)
    ) else (
      bn (p3 + 1) fun v25 =>
      k2 ((p0, p1, p2, v25)) M14
    )
  )
def fX6_valueOf_L2 (p0 : Option Nat) (p1 : Int32) (p2 : Int32) (p3 : Int32) (M : Mem) : Option (Int32 × Mem) :=
  lp (fun k2 (a : Option Nat × Int32 × Int32 × Int32) M => fX6_valueOf_B2 k2 a.1 a.2.1 a.2.2.1 a.2.2.2 M) FU ((p0, p1, p2, p3)) M
def fX6_valueOf (a0 : Option Nat) (a1 : Int32) (a2 : Int32) (M : Mem) : Option (Int32 × Mem) :=
  bn (1) fun v1 =>
  fX6_valueOf_L2 a0 a1 a2 v1 M
def rmX6_valueOf : Room := { frames := 2, cells := 0, slots := 0, locals := 47 }
set_option maxRecDepth 100000 in
set_option maxHeartbeats 4000000 in
theorem ctX6_valueOf (l : Launch) (x : Cx) (a0 : Option Nat) (a1 : Int32) (a2 : Int32) (M : Mem) (v : Int32) (N : Mem) (h : fX6_valueOf a0 a1 a2 M = some (v, N)) : CT l yX6_valueOf cX6_valueOf 4 (some (FieldType.int)) rmX6_valueOf x [rv x a0, .int a1, .int a2] M (some (.int v)) N := by
  refine ct_mk (enc := fun v : Int32 => some (.int v)) (li := [(1, a1), (2, a2)]) (ll := []) (lr := [(0, a0)]) (by decide +kernel) (by simp [lg_sl, rv_cat, cat_int, cat_long]) (by simp [flat, lv_args, rv_cat, cat_int, cat_long]) h ?_
  intro p e s m args below meth c E
  have hL2 : ∀ (p0 : Option Nat) (p1 : Int32) (p2 : Int32) (p3 : Int32) (M : Mem), RT p l e rmX6_valueOf s m args below meth c x 4 (QM below args s x (fun v : Int32 => some (.int v)) rmX6_valueOf.cells rmX6_valueOf.slots) 0 0 (fX6_valueOf_L2 p0 p1 p2 p3 M) 2 [(1, p1), (2, p2), (3, p3)] [] [(0, p0)] [] M := by
    intro p0 p1 p2 p3 M
    refine r_lp (fi := fun a : Option Nat × Int32 × Int32 × Int32 => [(1, a.2.1), (2, a.2.2.1), (3, a.2.2.2)]) (fl := fun a : Option Nat × Int32 × Int32 × Int32 => []) (fr := fun a : Option Nat × Int32 × Int32 × Int32 => [(0, a.1)]) (fs := fun a : Option Nat × Int32 × Int32 × Int32 => []) ?_ FU ((p0, p1, p2, p3)) M
    intro k2 hk2 a M
    obtain ⟨p0, p1, p2, p3⟩ := a
    show RT p l e rmX6_valueOf s m args below meth c x 4 (QM below args s x (fun v : Int32 => some (.int v)) rmX6_valueOf.cells rmX6_valueOf.slots) 0 0 (fX6_valueOf_B2 k2 p0 p1 p2 p3 M) 2 [(1, p1), (2, p2), (3, p3)] [] [(0, p0)] [] M
    unfold fX6_valueOf_B2
    refine r_iload_n (pc := 2) E dX6_valueOf_2 rfl 2 rfl ?_
    refine r_iconst (pc := 3) (v := 3) E dX6_valueOf_3 (by decide) ?_
    refine r_icmp_gt (pc := 4) (tgt := 31) E dX6_valueOf_4 (by decide) ?_ ?_
    · refine r_iload_n (pc := 31) E dX6_valueOf_31 rfl 0 rfl ?_
      refine r_iconst (pc := 32) (v := 3) E dX6_valueOf_32 (by decide) ?_
      refine r_iadd (pc := 33) E dX6_valueOf_33 ?_
      exact e_int (pc := 34) E dX6_valueOf_34
    · refine r_aload_n (pc := 7) E dX6_valueOf_7 rfl 0 rfl ?_
      refine r_getA (pc := 8) E fd_6_10 wf_RX6_53 dX6_valueOf_8 (fun v8 => ?_)
      refine r_iload_n (pc := 11) E dX6_valueOf_11 rfl 2 rfl ?_
      refine r_i2l (pc := 12) E dX6_valueOf_12 ?_
      refine r_iload_n (pc := 13) E dX6_valueOf_13 rfl 1 rfl ?_
      refine r_kSNl (pc := 14) (As := [rv x v8, .long p3.toInt64, .int p2]) (rest := []) E wc_X12_offsetOf wi_RX12 hd_X12_offsetOf (host := "TabledFrames") (by decide +kernel) wt_X12_offsetOf dX6_valueOf_14 (by decide) (Nat.le_of_ble_eq_true rfl) ⟨rfl, rfl⟩ (ctX12_offsetOf l x _ _ _ _) rfl (fun v14 M14 => ?_)
      refine r_iload_n (pc := 17) E dX6_valueOf_17 rfl 0 rfl ?_
      refine r_i2l (pc := 18) E dX6_valueOf_18 ?_
      refine r_lcmp (pc := 19) E dX6_valueOf_19 ?_
      refine r_if_ne (pc := 20) (tgt := 25) E dX6_valueOf_20 (by decide) ?_ ?_
      · refine r_iinc (pc := 25) (w := 1) (lf := fun v25 => [(3, v25), (1, p1), (2, p2)]) (ll' := []) (lr' := [(0, p0)]) E dX6_valueOf_25 2 rfl (by decide) (by decide) (fun _ => rfl) rfl rfl (fun v25 => ?_)
        refine r_goto (pc := 28) (tgt := 2) E dX6_valueOf_28 (by decide) ?_
        exact r_sub [1, 2, 0] [] [0] rfl rfl rfl (hk2 ((p0, p1, p2, v25)) _)
      · refine r_iload_n (pc := 23) E dX6_valueOf_23 rfl 2 rfl ?_
        exact e_int (pc := 24) E dX6_valueOf_24
  show RT p l e rmX6_valueOf s m args below meth c x 4 (QM below args s x (fun v : Int32 => some (.int v)) rmX6_valueOf.cells rmX6_valueOf.slots) 0 0 (fX6_valueOf a0 a1 a2 M) 0 [(1, a1), (2, a2)] [] [(0, a0)] [] M
  unfold fX6_valueOf
  refine r_iconst (pc := 0) (v := 1) E dX6_valueOf_0 (by decide) ?_
  refine r_istore_n (pc := 1) (lf := fun v1 => [(3, v1), (1, a1), (2, a2)]) (lg := fun v1 => []) (lk := fun v1 => [(0, a0)]) E dX6_valueOf_1 rfl (by decide) (fun _ => rfl) (fun _ => rfl) (fun _ => rfl) (fun v1 => ?_)
  exact r_sub [1, 2, 0] [] [0] rfl rfl rfl (hL2 a0 a1 a2 v1 _)
