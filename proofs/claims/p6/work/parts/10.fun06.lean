def fX12_sum_L21 (q0 : Int64) (M : Mem) : Option (Int32 × Mem) :=
  some (q0.toInt32, M)
def fX12_sum (a0 : Option Nat) (a1 : Int32) (M : Mem) : Option (Int32 × Mem) :=
  bo (gR M a0 12 0) fun v1 =>
  bo (chk M v1 8) fun _ => bd (fX8_sumFrom v1 0 M) fun v5 M5 =>
  bn (v5) fun v8 =>
  if a1 = 0 then (
    fX12_sum_L21 v8 M5
  ) else (
    fX12_sum_L21 (ushJ v8 32) M5
  )
def rmX12_sum : Room := { frames := 4, cells := 0, slots := 0, locals := 102 }
set_option maxRecDepth 100000 in
set_option maxHeartbeats 4000000 in
theorem ctX12_sum (l : Launch) (x : Cx) (a0 : Option Nat) (a1 : Int32) (M : Mem) (v : Int32) (N : Mem) (h : fX12_sum a0 a1 M = some (v, N)) : CT l yX12_sum cX12_sum 4 (some (FieldType.int)) rmX12_sum x [rv x a0, .int a1] M (some (.int v)) N := by
  refine ct_mk (enc := fun v : Int32 => some (.int v)) (li := [(1, a1)]) (ll := []) (lr := [(0, a0)]) (by decide +kernel) (by simp [lg_sl, rv_cat, cat_int, cat_long]) (by simp [flat, lv_args, rv_cat, cat_int, cat_long]) h ?_
  intro p e s m args below meth c E
  have hL21 : ∀ (q0 : Int64) (M : Mem), RT p l e rmX12_sum s m args below meth c x 4 (QM below args s x (fun v : Int32 => some (.int v)) rmX12_sum.cells rmX12_sum.slots) 0 0 (fX12_sum_L21 q0 M) 21 [] [] [] [.long q0] M := by
    intro q0 M
    unfold fX12_sum_L21
    refine r_l2i (pc := 21) E dX12_sum_21 ?_
    exact e_int (pc := 22) E dX12_sum_22
  show RT p l e rmX12_sum s m args below meth c x 4 (QM below args s x (fun v : Int32 => some (.int v)) rmX12_sum.cells rmX12_sum.slots) 0 0 (fX12_sum a0 a1 M) 0 [(1, a1)] [] [(0, a0)] [] M
  unfold fX12_sum
  refine r_aload_n (pc := 0) E dX12_sum_0 rfl 0 rfl ?_
  refine r_getR (pc := 1) E fd_12_0 wf_RX12_14 dX12_sum_1 (fun v1 => ?_)
  refine r_iconst (pc := 4) (v := 0) E dX12_sum_4 (by decide) ?_
  refine r_kVl (pc := 5) (As := [.int 0]) (rest := []) E wc_X8_sumFrom wi_RX8 hd_X8_sumFrom (ci := 8) rfl wl_RX12_136 wn_X8_sumFrom ws_X8_sumFrom dX12_sum_5 (by decide) (Nat.le_of_ble_eq_true rfl) ⟨rfl, rfl⟩ (ctX8_sumFrom l x _ _ _) rfl (fun v5 M5 => ?_)
  refine r_lstore_n (pc := 8) (lf := fun v8 => [(1, a1)]) (lg := fun v8 => [(2, v8)]) (lk := fun v8 => [(0, a0)]) E dX12_sum_8 rfl (by decide) (fun _ => rfl) (fun _ => rfl) (fun _ => rfl) (fun v8 => ?_)
  refine r_iload_n (pc := 9) E dX12_sum_9 rfl 0 rfl ?_
  refine r_if_eq (pc := 10) (tgt := 20) E dX12_sum_10 (by decide) ?_ ?_
  · refine r_lload_n (pc := 20) E dX12_sum_20 rfl 0 rfl ?_
    exact r_sub [] [] [] rfl rfl rfl (hL21 v8 _)
  · refine r_lload_n (pc := 13) E dX12_sum_13 rfl 0 rfl ?_
    refine r_bipush (pc := 14) (v := 32) E dX12_sum_14 (by decide) ?_
    refine r_lushr (pc := 16) E dX12_sum_16 ?_
    refine r_goto (pc := 17) (tgt := 21) E dX12_sum_17 (by decide) ?_
    exact r_sub [] [] [] rfl rfl rfl (hL21 (ushJ v8 32) _)
def fX12_told_L30 (q0 : Int32) (M : Mem) : Option (Int32 × Mem) :=
  some (q0, M)
def fX12_told_L16 (M : Mem) : Option (Int32 × Mem) :=
  fX12_told_L30 ((-2)) M
def fX12_told (a0 : Option Nat) (a1 : Int32) (M : Mem) : Option (Int32 × Mem) :=
  if a1 < 0 then (
    fX12_told_L16 M
  ) else (
    bo (gR M a0 12 4) fun v6 =>
    bo (gR M v6 7 2) fun v9 =>
    bo (aL M v9) fun v12 =>
    if a1 < v12 then (
      bo (gR M a0 12 4) fun v22 =>
      bo (gR M v22 7 2) fun v25 =>
      bo (aI M v25 15 a1) fun v29 =>
      fX12_told_L30 v29 M
    ) else (
      fX12_told_L16 M
    )
  )
def rmX12_told : Room := { frames := 0, cells := 0, slots := 0, locals := 0 }
set_option maxRecDepth 100000 in
set_option maxHeartbeats 4000000 in
theorem ctX12_told (l : Launch) (x : Cx) (a0 : Option Nat) (a1 : Int32) (M : Mem) (v : Int32) (N : Mem) (h : fX12_told a0 a1 M = some (v, N)) : CT l yX12_told cX12_told 2 (some (FieldType.int)) rmX12_told x [rv x a0, .int a1] M (some (.int v)) N := by
  refine ct_mk (enc := fun v : Int32 => some (.int v)) (li := [(1, a1)]) (ll := []) (lr := [(0, a0)]) (by decide +kernel) (by simp [lg_sl, rv_cat, cat_int, cat_long]) (by simp [flat, lv_args, rv_cat, cat_int, cat_long]) h ?_
  intro p e s m args below meth c E
  have hL30 : ∀ (q0 : Int32) (M : Mem), RT p l e rmX12_told s m args below meth c x 2 (QM below args s x (fun v : Int32 => some (.int v)) rmX12_told.cells rmX12_told.slots) 0 0 (fX12_told_L30 q0 M) 30 [] [] [] [.int q0] M := by
    intro q0 M
    unfold fX12_told_L30
    exact e_int (pc := 30) E dX12_told_30
  have hL16 : ∀ (M : Mem), RT p l e rmX12_told s m args below meth c x 2 (QM below args s x (fun v : Int32 => some (.int v)) rmX12_told.cells rmX12_told.slots) 0 0 (fX12_told_L16 M) 16 [] [] [] [] M := by
    intro M
    unfold fX12_told_L16
    refine r_bipush (pc := 16) (v := (-2)) E dX12_told_16 (by decide) ?_
    refine r_goto (pc := 18) (tgt := 30) E dX12_told_18 (by decide) ?_
    exact r_sub [] [] [] rfl rfl rfl (hL30 ((-2)) _)
  show RT p l e rmX12_told s m args below meth c x 2 (QM below args s x (fun v : Int32 => some (.int v)) rmX12_told.cells rmX12_told.slots) 0 0 (fX12_told a0 a1 M) 0 [(1, a1)] [] [(0, a0)] [] M
  unfold fX12_told
  refine r_iload_n (pc := 0) E dX12_told_0 rfl 0 rfl ?_
  refine r_if_lt (pc := 1) (tgt := 16) E dX12_told_1 (by decide) ?_ ?_
  · exact r_sub [] [] [] rfl rfl rfl (hL16 _)
  · refine r_iload_n (pc := 4) E dX12_told_4 rfl 0 rfl ?_
    refine r_aload_n (pc := 5) E dX12_told_5 rfl 0 rfl ?_
    refine r_getR (pc := 6) E fd_12_4 wf_RX12_34 dX12_told_6 (fun v6 => ?_)
    refine r_getA (pc := 9) E fd_7_2 wf_RX12_140 dX12_told_9 (fun v9 => ?_)
    refine r_alen (pc := 12) E dX12_told_12 (fun v12 => ?_)
    refine r_icmp_lt (pc := 13) (tgt := 21) E dX12_told_13 (by decide) ?_ ?_
    · refine r_aload_n (pc := 21) E dX12_told_21 rfl 0 rfl ?_
      refine r_getR (pc := 22) E fd_12_4 wf_RX12_34 dX12_told_22 (fun v22 => ?_)
      refine r_getA (pc := 25) E fd_7_2 wf_RX12_140 dX12_told_25 (fun v25 => ?_)
      refine r_iload_n (pc := 28) E dX12_told_28 rfl 0 rfl ?_
      refine r_iaload (pc := 29) E dX12_told_29 (fun v29 => ?_)
      exact r_sub [] [] [] rfl rfl rfl (hL30 v29 _)
    · exact r_sub [] [] [] rfl rfl rfl (hL16 _)
def fX12_sequence_L33 (M : Mem) : Option (Int32 × Mem) :=
  some ((-2), M)
def fX12_sequence (a0 : Option Nat) (a1 : Int32) (a2 : Int32) (M : Mem) : Option (Int32 × Mem) :=
  if a1 < 0 then (
    fX12_sequence_L33 M
  ) else (
    if 2000 ≤ a1 then (
      fX12_sequence_L33 M
    ) else (
      bo (gR M a0 12 4) fun v13 =>
      bo (gR M v13 7 2) fun v16 =>
      bo (aI M v16 15 4) fun v20 =>
      if v20 ≤ a1 then (
        fX12_sequence_L33 M
      ) else (
        if a2 < 0 then (
          fX12_sequence_L33 M
        ) else (
          if a2 ≤ 3 then (
            bo (gR M a0 12 4) fun v37 =>
            bo (gR M v37 7 3) fun v40 =>
            bo (aI M v40 15 ((4 * a1) + a2)) fun v48 =>
            some (v48, M)
          ) else (
            fX12_sequence_L33 M
          )
        )
      )
    )
  )
def rmX12_sequence : Room := { frames := 0, cells := 0, slots := 0, locals := 0 }
set_option maxRecDepth 100000 in
set_option maxHeartbeats 4000000 in
theorem ctX12_sequence (l : Launch) (x : Cx) (a0 : Option Nat) (a1 : Int32) (a2 : Int32) (M : Mem) (v : Int32) (N : Mem) (h : fX12_sequence a0 a1 a2 M = some (v, N)) : CT l yX12_sequence cX12_sequence 3 (some (FieldType.int)) rmX12_sequence x [rv x a0, .int a1, .int a2] M (some (.int v)) N := by
  refine ct_mk (enc := fun v : Int32 => some (.int v)) (li := [(1, a1), (2, a2)]) (ll := []) (lr := [(0, a0)]) (by decide +kernel) (by simp [lg_sl, rv_cat, cat_int, cat_long]) (by simp [flat, lv_args, rv_cat, cat_int, cat_long]) h ?_
  intro p e s m args below meth c E
  have hL33 : ∀ (M : Mem), RT p l e rmX12_sequence s m args below meth c x 3 (QM below args s x (fun v : Int32 => some (.int v)) rmX12_sequence.cells rmX12_sequence.slots) 0 0 (fX12_sequence_L33 M) 33 [] [] [] [] M := by
    intro M
    unfold fX12_sequence_L33
    refine r_bipush (pc := 33) (v := (-2)) E dX12_sequence_33 (by decide) ?_
    exact e_int (pc := 35) E dX12_sequence_35
  show RT p l e rmX12_sequence s m args below meth c x 3 (QM below args s x (fun v : Int32 => some (.int v)) rmX12_sequence.cells rmX12_sequence.slots) 0 0 (fX12_sequence a0 a1 a2 M) 0 [(1, a1), (2, a2)] [] [(0, a0)] [] M
  unfold fX12_sequence
  refine r_iload_n (pc := 0) E dX12_sequence_0 rfl 0 rfl ?_
  refine r_if_lt (pc := 1) (tgt := 33) E dX12_sequence_1 (by decide) ?_ ?_
  · exact r_sub [] [] [] rfl rfl rfl (hL33 _)
  · refine r_iload_n (pc := 4) E dX12_sequence_4 rfl 0 rfl ?_
    refine r_sipush (pc := 5) (v := 2000) E dX12_sequence_5 (by decide) ?_
    refine r_icmp_ge (pc := 8) (tgt := 33) E dX12_sequence_8 (by decide) ?_ ?_
    · exact r_sub [] [] [] rfl rfl rfl (hL33 _)
    · refine r_iload_n (pc := 11) E dX12_sequence_11 rfl 0 rfl ?_
      refine r_aload_n (pc := 12) E dX12_sequence_12 rfl 0 rfl ?_
      refine r_getR (pc := 13) E fd_12_4 wf_RX12_34 dX12_sequence_13 (fun v13 => ?_)
      refine r_getA (pc := 16) E fd_7_2 wf_RX12_140 dX12_sequence_16 (fun v16 => ?_)
      refine r_iconst (pc := 19) (v := 4) E dX12_sequence_19 (by decide) ?_
      refine r_iaload (pc := 20) E dX12_sequence_20 (fun v20 => ?_)
      refine r_icmp_ge (pc := 21) (tgt := 33) E dX12_sequence_21 (by decide) ?_ ?_
      · exact r_sub [] [] [] rfl rfl rfl (hL33 _)
      · refine r_iload_n (pc := 24) E dX12_sequence_24 rfl 1 rfl ?_
        refine r_if_lt (pc := 25) (tgt := 33) E dX12_sequence_25 (by decide) ?_ ?_
        · exact r_sub [] [] [] rfl rfl rfl (hL33 _)
        · refine r_iload_n (pc := 28) E dX12_sequence_28 rfl 1 rfl ?_
          refine r_iconst (pc := 29) (v := 3) E dX12_sequence_29 (by decide) ?_
          refine r_icmp_le (pc := 30) (tgt := 36) E dX12_sequence_30 (by decide) ?_ ?_
          · refine r_aload_n (pc := 36) E dX12_sequence_36 rfl 0 rfl ?_
            refine r_getR (pc := 37) E fd_12_4 wf_RX12_34 dX12_sequence_37 (fun v37 => ?_)
            refine r_getA (pc := 40) E fd_7_3 wf_RX12_144 dX12_sequence_40 (fun v40 => ?_)
            refine r_iconst (pc := 43) (v := 4) E dX12_sequence_43 (by decide) ?_
            refine r_iload_n (pc := 44) E dX12_sequence_44 rfl 0 rfl ?_
            refine r_imul (pc := 45) E dX12_sequence_45 ?_
            refine r_iload_n (pc := 46) E dX12_sequence_46 rfl 1 rfl ?_
            refine r_iadd (pc := 47) E dX12_sequence_47 ?_
            refine r_iaload (pc := 48) E dX12_sequence_48 (fun v48 => ?_)
            exact e_int (pc := 49) E dX12_sequence_49
          · exact r_sub [] [] [] rfl rfl rfl (hL33 _)
def fX12_table_L18 (M : Mem) : Option (Int32 × Mem) :=
  some ((-2), M)
def fX12_table_L79 (M : Mem) : Option (Int32 × Mem) :=
  some ((-2), M)
def fX12_table_L115 (q0 : Int32) (M : Mem) : Option (Int32 × Mem) :=
  some (q0, M)
def fX12_table (a0 : Option Nat) (a1 : Int32) (a2 : Int32) (a3 : Int32) (M : Mem) : Option (Int32 × Mem) :=
  if a1 < 0 then (
    fX12_table_L18 M
  ) else (
    if 3 ≤ a1 then (
      fX12_table_L18 M
    ) else (
      if a3 < 0 then (
        fX12_table_L18 M
      ) else (
        if a3 ≤ 2 then (
          bo (gR M a0 12 6) fun v22 =>
          bo (gR M v22 5 1) fun v25 =>
          bo (gR M v25 9 1) fun v28 =>
          bo (aI M v28 18 a1) fun v32 =>
          if v32 = 0 then (
            some ((-3), M)
          ) else (
            bo (gR M a0 12 6) fun v40 =>
            bo (gR M v40 5 1) fun v43 =>
            bo (gR M v43 9 0) fun v46 =>
            bo (aR M v46 20 a1) fun v50 =>
            bn (v50) fun v51 =>
            if a2 = ((-1)) then (
              bo (gI M v51 10 0) fun v60 =>
              some (v60, M)
            ) else (
              if a2 < 0 then (
                fX12_table_L79 M
              ) else (
                bo (gI M v51 10 0) fun v72 =>
                if a2 < (shlI 1 v72) then (
                  if a3 = 0 then (
                    bo (chk M v51 10) fun _ => bd (fX10_symbolAt v51 a2 M) fun v89 M89 =>
                    fX12_table_L115 v89 M89
                  ) else (
                    if a3 = 1 then (
                      bo (chk M v51 10) fun _ => bd (fX10_bitsAt v51 a2 M) fun v103 M103 =>
                      fX12_table_L115 v103 M103
                    ) else (
                      bo (chk M v51 10) fun _ => bd (fX10_baseAt v51 a2 M) fun v112 M112 =>
                      fX12_table_L115 v112 M112
                    )
                  )
                ) else (
                  fX12_table_L79 M
                )
              )
            )
          )
        ) else (
          fX12_table_L18 M
        )
      )
    )
  )
def rmX12_table : Room := { frames := 1, cells := 0, slots := 0, locals := 21 }
set_option maxRecDepth 100000 in
set_option maxHeartbeats 4000000 in
theorem ctX12_table (l : Launch) (x : Cx) (a0 : Option Nat) (a1 : Int32) (a2 : Int32) (a3 : Int32) (M : Mem) (v : Int32) (N : Mem) (h : fX12_table a0 a1 a2 a3 M = some (v, N)) : CT l yX12_table cX12_table 5 (some (FieldType.int)) rmX12_table x [rv x a0, .int a1, .int a2, .int a3] M (some (.int v)) N := by
  refine ct_mk (enc := fun v : Int32 => some (.int v)) (li := [(1, a1), (2, a2), (3, a3)]) (ll := []) (lr := [(0, a0)]) (by decide +kernel) (by simp [lg_sl, rv_cat, cat_int, cat_long]) (by simp [flat, lv_args, rv_cat, cat_int, cat_long]) h ?_
  intro p e s m args below meth c E
  have hL18 : ∀ (M : Mem), RT p l e rmX12_table s m args below meth c x 5 (QM below args s x (fun v : Int32 => some (.int v)) rmX12_table.cells rmX12_table.slots) 0 0 (fX12_table_L18 M) 18 [] [] [] [] M := by
    intro M
    unfold fX12_table_L18
    refine r_bipush (pc := 18) (v := (-2)) E dX12_table_18 (by decide) ?_
    exact e_int (pc := 20) E dX12_table_20
  have hL79 : ∀ (M : Mem), RT p l e rmX12_table s m args below meth c x 5 (QM below args s x (fun v : Int32 => some (.int v)) rmX12_table.cells rmX12_table.slots) 0 0 (fX12_table_L79 M) 79 [] [] [] [] M := by
    intro M
    unfold fX12_table_L79
    refine r_bipush (pc := 79) (v := (-2)) E dX12_table_79 (by decide) ?_
    exact e_int (pc := 81) E dX12_table_81
  have hL115 : ∀ (q0 : Int32) (M : Mem), RT p l e rmX12_table s m args below meth c x 5 (QM below args s x (fun v : Int32 => some (.int v)) rmX12_table.cells rmX12_table.slots) 0 0 (fX12_table_L115 q0 M) 115 [] [] [] [.int q0] M := by
    intro q0 M
    unfold fX12_table_L115
    exact e_int (pc := 115) E dX12_table_115
  show RT p l e rmX12_table s m args below meth c x 5 (QM below args s x (fun v : Int32 => some (.int v)) rmX12_table.cells rmX12_table.slots) 0 0 (fX12_table a0 a1 a2 a3 M) 0 [(1, a1), (2, a2), (3, a3)] [] [(0, a0)] [] M
  unfold fX12_table
  refine r_iload_n (pc := 0) E dX12_table_0 rfl 0 rfl ?_
  refine r_if_lt (pc := 1) (tgt := 18) E dX12_table_1 (by decide) ?_ ?_
  · exact r_sub [] [] [] rfl rfl rfl (hL18 _)
  · refine r_iload_n (pc := 4) E dX12_table_4 rfl 0 rfl ?_
    refine r_iconst (pc := 5) (v := 3) E dX12_table_5 (by decide) ?_
    refine r_icmp_ge (pc := 6) (tgt := 18) E dX12_table_6 (by decide) ?_ ?_
    · exact r_sub [] [] [] rfl rfl rfl (hL18 _)
    · refine r_iload_n (pc := 9) E dX12_table_9 rfl 2 rfl ?_
      refine r_if_lt (pc := 10) (tgt := 18) E dX12_table_10 (by decide) ?_ ?_
      · exact r_sub [] [] [] rfl rfl rfl (hL18 _)
      · refine r_iload_n (pc := 13) E dX12_table_13 rfl 2 rfl ?_
        refine r_iconst (pc := 14) (v := 2) E dX12_table_14 (by decide) ?_
        refine r_icmp_le (pc := 15) (tgt := 21) E dX12_table_15 (by decide) ?_ ?_
        · refine r_aload_n (pc := 21) E dX12_table_21 rfl 0 rfl ?_
          refine r_getR (pc := 22) E fd_12_6 wf_RX12_60 dX12_table_22 (fun v22 => ?_)
          refine r_getR (pc := 25) E fd_5_1 wf_RX12_147 dX12_table_25 (fun v25 => ?_)
          refine r_getA (pc := 28) E fd_9_1 wf_RX12_151 dX12_table_28 (fun v28 => ?_)
          refine r_iload_n (pc := 31) E dX12_table_31 rfl 0 rfl ?_
          refine r_zaload (pc := 32) E dX12_table_32 (fun v32 => ?_)
          refine r_if_ne (pc := 33) (tgt := 39) E dX12_table_33 (by decide) ?_ ?_
          · refine r_aload_n (pc := 39) E dX12_table_39 rfl 0 rfl ?_
            refine r_getR (pc := 40) E fd_12_6 wf_RX12_60 dX12_table_40 (fun v40 => ?_)
            refine r_getR (pc := 43) E fd_5_1 wf_RX12_147 dX12_table_43 (fun v43 => ?_)
            refine r_getA (pc := 46) E fd_9_0 wf_RX12_157 dX12_table_46 (fun v46 => ?_)
            refine r_iload_n (pc := 49) E dX12_table_49 rfl 0 rfl ?_
            refine r_aaload20 (pc := 50) E dX12_table_50 (fun v50 => ?_)
            refine r_astore (pc := 51) (lf := fun v51 => [(1, a1), (2, a2), (3, a3)]) (lg := fun v51 => []) (lk := fun v51 => [(4, v51), (0, a0)]) E dX12_table_51 (by decide) (fun _ => rfl) (fun _ => rfl) (fun _ => rfl) (fun v51 => ?_)
            refine r_iload_n (pc := 53) E dX12_table_53 rfl 1 rfl ?_
            refine r_iconst (pc := 54) (v := (-1)) E dX12_table_54 (by decide) ?_
            refine r_icmp_ne (pc := 55) (tgt := 64) E dX12_table_55 (by decide) ?_ ?_
            · refine r_iload_n (pc := 64) E dX12_table_64 rfl 1 rfl ?_
              refine r_if_lt (pc := 65) (tgt := 79) E dX12_table_65 (by decide) ?_ ?_
              · exact r_sub [] [] [] rfl rfl rfl (hL79 _)
              · refine r_iload_n (pc := 68) E dX12_table_68 rfl 1 rfl ?_
                refine r_iconst (pc := 69) (v := 1) E dX12_table_69 (by decide) ?_
                refine r_aload (pc := 70) E dX12_table_70 0 rfl ?_
                refine r_getI (pc := 72) E fd_10_0 wf_RX12_161 dX12_table_72 (fun v72 => ?_)
                refine r_ishl (pc := 75) E dX12_table_75 ?_
                refine r_icmp_lt (pc := 76) (tgt := 82) E dX12_table_76 (by decide) ?_ ?_
                · refine r_iload_n (pc := 82) E dX12_table_82 rfl 2 rfl ?_
                  refine r_if_ne (pc := 83) (tgt := 95) E dX12_table_83 (by decide) ?_ ?_
                  · refine r_iload_n (pc := 95) E dX12_table_95 rfl 2 rfl ?_
                    refine r_iconst (pc := 96) (v := 1) E dX12_table_96 (by decide) ?_
                    refine r_icmp_ne (pc := 97) (tgt := 109) E dX12_table_97 (by decide) ?_ ?_
                    · refine r_aload (pc := 109) E dX12_table_109 0 rfl ?_
                      refine r_iload_n (pc := 111) E dX12_table_111 rfl 1 rfl ?_
                      refine r_kVi (pc := 112) (As := [.int a2]) (rest := []) E wc_X10_baseAt wi_RX10 hd_X10_baseAt (ci := 10) rfl wl_RX12_170 wn_X10_baseAt ws_X10_baseAt dX12_table_112 (by decide) (Nat.le_of_ble_eq_true rfl) ⟨rfl, rfl⟩ (ctX10_baseAt l x _ _ _) rfl (fun v112 M112 => ?_)
                      exact r_sub [] [] [] rfl rfl rfl (hL115 v112 _)
                    · refine r_aload (pc := 100) E dX12_table_100 0 rfl ?_
                      refine r_iload_n (pc := 102) E dX12_table_102 rfl 1 rfl ?_
                      refine r_kVi (pc := 103) (As := [.int a2]) (rest := []) E wc_X10_bitsAt wi_RX10 hd_X10_bitsAt (ci := 10) rfl wl_RX12_167 wn_X10_bitsAt ws_X10_bitsAt dX12_table_103 (by decide) (Nat.le_of_ble_eq_true rfl) ⟨rfl, rfl⟩ (ctX10_bitsAt l x _ _ _) rfl (fun v103 M103 => ?_)
                      refine r_goto (pc := 106) (tgt := 115) E dX12_table_106 (by decide) ?_
                      exact r_sub [] [] [] rfl rfl rfl (hL115 v103 _)
                  · refine r_aload (pc := 86) E dX12_table_86 0 rfl ?_
                    refine r_iload_n (pc := 88) E dX12_table_88 rfl 1 rfl ?_
                    refine r_kVi (pc := 89) (As := [.int a2]) (rest := []) E wc_X10_symbolAt wi_RX10 hd_X10_symbolAt (ci := 10) rfl wl_RX12_164 wn_X10_symbolAt ws_X10_symbolAt dX12_table_89 (by decide) (Nat.le_of_ble_eq_true rfl) ⟨rfl, rfl⟩ (ctX10_symbolAt l x _ _ _) rfl (fun v89 M89 => ?_)
                    refine r_goto (pc := 92) (tgt := 115) E dX12_table_92 (by decide) ?_
                    exact r_sub [] [] [] rfl rfl rfl (hL115 v89 _)
                · exact r_sub [] [] [] rfl rfl rfl (hL79 _)
            · refine r_aload (pc := 58) E dX12_table_58 0 rfl ?_
              refine r_getI (pc := 60) E fd_10_0 wf_RX12_161 dX12_table_60 (fun v60 => ?_)
              exact e_int (pc := 63) E dX12_table_63
          · refine r_bipush (pc := 36) (v := (-3)) E dX12_table_36 (by decide) ?_
            exact e_int (pc := 38) E dX12_table_38
        · exact r_sub [] [] [] rfl rfl rfl (hL18 _)
def fX12_bits_L11 (M : Mem) : Option (Int32 × Mem) :=
  some ((-2), M)
def fX12_bits_L47 (q0 : Int32) (M : Mem) : Option (Int32 × Mem) :=
  some (q0, M)
def fX12_bits (a0 : Option Nat) (a1 : Int32) (M : Mem) : Option (Int32 × Mem) :=
  if a1 < 0 then (
    fX12_bits_L11 M
  ) else (
    if a1 < 256 then (
      bo (gR M a0 12 6) fun v15 =>
      bo (gR M v15 5 0) fun v18 =>
      bo (gI M v18 4 2) fun v21 =>
      if v21 = 0 then (
        fX12_bits_L47 ((-3)) M
      ) else (
        bo (gR M a0 12 6) fun v28 =>
        bo (gR M v28 5 0) fun v31 =>
        bo (gR M v31 4 1) fun v34 =>
        bo (gR M v34 1 1) fun v37 =>
        bo (aI M v37 15 a1) fun v41 =>
        fX12_bits_L47 v41 M
      )
    ) else (
      fX12_bits_L11 M
    )
  )
def rmX12_bits : Room := { frames := 0, cells := 0, slots := 0, locals := 0 }
set_option maxRecDepth 100000 in
set_option maxHeartbeats 4000000 in
theorem ctX12_bits (l : Launch) (x : Cx) (a0 : Option Nat) (a1 : Int32) (M : Mem) (v : Int32) (N : Mem) (h : fX12_bits a0 a1 M = some (v, N)) : CT l yX12_bits cX12_bits 2 (some (FieldType.int)) rmX12_bits x [rv x a0, .int a1] M (some (.int v)) N := by
  refine ct_mk (enc := fun v : Int32 => some (.int v)) (li := [(1, a1)]) (ll := []) (lr := [(0, a0)]) (by decide +kernel) (by simp [lg_sl, rv_cat, cat_int, cat_long]) (by simp [flat, lv_args, rv_cat, cat_int, cat_long]) h ?_
  intro p e s m args below meth c E
  have hL11 : ∀ (M : Mem), RT p l e rmX12_bits s m args below meth c x 2 (QM below args s x (fun v : Int32 => some (.int v)) rmX12_bits.cells rmX12_bits.slots) 0 0 (fX12_bits_L11 M) 11 [] [] [] [] M := by
    intro M
    unfold fX12_bits_L11
    refine r_bipush (pc := 11) (v := (-2)) E dX12_bits_11 (by decide) ?_
    exact e_int (pc := 13) E dX12_bits_13
  have hL47 : ∀ (q0 : Int32) (M : Mem), RT p l e rmX12_bits s m args below meth c x 2 (QM below args s x (fun v : Int32 => some (.int v)) rmX12_bits.cells rmX12_bits.slots) 0 0 (fX12_bits_L47 q0 M) 47 [] [] [] [.int q0] M := by
    intro q0 M
    unfold fX12_bits_L47
    exact e_int (pc := 47) E dX12_bits_47
  show RT p l e rmX12_bits s m args below meth c x 2 (QM below args s x (fun v : Int32 => some (.int v)) rmX12_bits.cells rmX12_bits.slots) 0 0 (fX12_bits a0 a1 M) 0 [(1, a1)] [] [(0, a0)] [] M
  unfold fX12_bits
  refine r_iload_n (pc := 0) E dX12_bits_0 rfl 0 rfl ?_
  refine r_if_lt (pc := 1) (tgt := 11) E dX12_bits_1 (by decide) ?_ ?_
  · exact r_sub [] [] [] rfl rfl rfl (hL11 _)
  · refine r_iload_n (pc := 4) E dX12_bits_4 rfl 0 rfl ?_
    refine r_sipush (pc := 5) (v := 256) E dX12_bits_5 (by decide) ?_
    refine r_icmp_lt (pc := 8) (tgt := 14) E dX12_bits_8 (by decide) ?_ ?_
    · refine r_aload_n (pc := 14) E dX12_bits_14 rfl 0 rfl ?_
      refine r_getR (pc := 15) E fd_12_6 wf_RX12_60 dX12_bits_15 (fun v15 => ?_)
      refine r_getR (pc := 18) E fd_5_0 wf_RX12_173 dX12_bits_18 (fun v18 => ?_)
      refine r_getZ (pc := 21) E fd_4_2 wf_RX12_177 dX12_bits_21 (fun v21 => ?_)
      refine r_if_eq (pc := 24) (tgt := 45) E dX12_bits_24 (by decide) ?_ ?_
      · refine r_bipush (pc := 45) (v := (-3)) E dX12_bits_45 (by decide) ?_
        exact r_sub [] [] [] rfl rfl rfl (hL47 ((-3)) _)
      · refine r_aload_n (pc := 27) E dX12_bits_27 rfl 0 rfl ?_
        refine r_getR (pc := 28) E fd_12_6 wf_RX12_60 dX12_bits_28 (fun v28 => ?_)
        refine r_getR (pc := 31) E fd_5_0 wf_RX12_173 dX12_bits_31 (fun v31 => ?_)
        refine r_getR (pc := 34) E fd_4_1 wf_RX12_182 dX12_bits_34 (fun v34 => ?_)
        refine r_getA (pc := 37) E fd_1_1 wf_RX12_185 dX12_bits_37 (fun v37 => ?_)
        refine r_iload_n (pc := 40) E dX12_bits_40 rfl 0 rfl ?_
        refine r_iaload (pc := 41) E dX12_bits_41 (fun v41 => ?_)
        refine r_goto (pc := 42) (tgt := 47) E dX12_bits_42 (by decide) ?_
        exact r_sub [] [] [] rfl rfl rfl (hL47 v41 _)
    · exact r_sub [] [] [] rfl rfl rfl (hL11 _)
def fX13_init (a0 : Option Nat) (M : Mem) : Option (Unit × Mem) :=
  bo (chk0 a0) fun _ =>
  bd (nwA M 14 8000 8000) fun v8 M8 =>
  bo (pR M8 a0 13 0 v8) fun M10 =>
  bd (nwA M10 14 8000 8000) fun v17 M17 =>
  bo (pR M17 a0 13 2 v17) fun M19 =>
  bo (pI M19 a0 13 5 ((-1))) fun M24 =>
  bo (gR M24 a0 13 0) fun v29 =>
  bo (pR M24 a0 13 6 v29) fun M32 =>
  bd (nwA M32 15 256 256) fun v39 M39 =>
  bo (pR M39 a0 13 12 v39) fun M41 =>
  bd (nwA M41 17 5120 5120) fun v48 M48 =>
  bo (pR M48 a0 13 14 v48) fun M50 =>
  bd (nwA M50 14 5120 5120) fun v57 M57 =>
  bo (pR M57 a0 13 15 v57) fun M59 =>
  bd (nwA M59 15 5120 5120) fun v66 M66 =>
  bo (pR M66 a0 13 16 v66) fun M68 =>
  bd (nwA M68 15 10 10) fun v74 M74 =>
  bo (pR M74 a0 13 17 v74) fun M76 =>
  bd (nwA M76 18 10 10) fun v82 M82 =>
  bo (pR M82 a0 13 18 v82) fun M84 =>
  bd (nwA M84 15 256 256) fun v91 M91 =>
  bo (pR M91 a0 13 19 v91) fun M93 =>
  bd (nwA M93 15 768 768) fun v100 M100 =>
  bo (pR M100 a0 13 20 v100) fun M102 =>
  bd (nwA M102 18 3 3) fun v107 M107 =>
  bo (pR M107 a0 13 21 v107) fun M109 =>
  bd (nwA M109 15 3 3) fun v114 M114 =>
  bo (pR M114 a0 13 22 v114) fun M116 =>
  bd (nwA M116 17 6144 6144) fun v123 M123 =>
  bo (pR M123 a0 13 23 v123) fun M125 =>
  bd (nwA M125 15 257 257) fun v132 M132 =>
  bo (pR M132 a0 13 24 v132) fun M134 =>
  bd (nwA M134 14 3000 3000) fun v141 M141 =>
  bo (pR M141 a0 13 25 v141) fun M143 =>
  bd (nwA M143 15 3 3) fun v148 M148 =>
  bo (pR M148 a0 13 30 v148) fun M150 =>
  bd (nwA M150 14 3000 3000) fun v157 M157 =>
  bo (pR M157 a0 13 31 v157) fun M159 =>
  bd (nwA M159 14 8000 8000) fun v166 M166 =>
  bo (pR M166 a0 13 32 v166) fun M168 =>
  bd (nwA M168 14 140000 140000) fun v174 M174 =>
  bo (pR M174 a0 13 34 v174) fun M176 =>
  bd (nwA M176 14 131072 131072) fun v182 M182 =>
  bo (pR M182 a0 13 36 v182) fun M184 =>
  bd (nwA M184 15 3 3) fun v189 M189 =>
  bo (pR M189 a0 13 43 v189) fun M191 =>
  bd (nwA M191 16 3 3) fun v196 M196 =>
  bo (pR M196 a0 13 44 v196) fun M198 =>
  bd (nwA M198 15 12 12) fun v204 M204 =>
  bo (pR M204 a0 13 45 v204) fun M206 =>
  bd (nwA M206 15 2000 2000) fun v213 M213 =>
  bo (pR M213 a0 13 47 v213) fun M215 =>
  bd (nwA M215 15 2000 2000) fun v222 M222 =>
  bo (pR M222 a0 13 48 v222) fun M224 =>
  bd (nwA M224 15 2000 2000) fun v231 M231 =>
  bo (pR M231 a0 13 49 v231) fun M233 =>
  bd (nwA M233 15 2000 2000) fun v240 M240 =>
  bo (pR M240 a0 13 50 v240) fun M242 =>
  bd (nwA M242 14 20000 20000) fun v249 M249 =>
  bo (pR M249 a0 13 53 v249) fun M251 =>
  bd (nwA M251 14 80000 80000) fun v257 M257 =>
  bo (pR M257 a0 13 55 v257) fun M259 =>
  bd (nwA M259 14 11000 11000) fun v266 M266 =>
  bo (pR M266 a0 13 57 v266) fun M268 =>
  bd (nwA M268 16 3 3) fun v273 M273 =>
  bo (pR M273 a0 13 59 v273) fun M275 =>
  bd (nwA M275 16 3 3) fun v280 M280 =>
  bo (pR M280 a0 13 60 v280) fun M282 =>
  bd (nwA M282 15 600 600) fun v289 M289 =>
  bo (pR M289 a0 13 62 v289) fun M291 =>
  bd (nwA M291 15 600 600) fun v298 M298 =>
  bo (pR M298 a0 13 63 v298) fun M300 =>
  bd (nwA M300 16 600 600) fun v307 M307 =>
  bo (pR M307 a0 13 64 v307) fun M309 =>
  bd (nwA M309 15 1800 1800) fun v316 M316 =>
  bo (pR M316 a0 13 65 v316) fun M318 =>
  bd (nwA M318 15 1800 1800) fun v325 M325 =>
  bo (pR M325 a0 13 66 v325) fun M327 =>
  bd (nwA M327 14 2048 2048) fun v334 M334 =>
  bo (pR M334 a0 13 67 v334) fun M336 =>
  bd (nwA M336 15 256 256) fun v343 M343 =>
  bo (pR M343 a0 13 69 v343) fun M345 =>
  bd (nwA M345 16 512 512) fun v352 M352 =>
  bo (pR M352 a0 13 70 v352) fun M354 =>
  bd (nwA M354 15 512 512) fun v361 M361 =>
  bo (pR M361 a0 13 71 v361) fun M363 =>
  bd (nwA M363 18 512 512) fun v370 M370 =>
  bo (pR M370 a0 13 72 v370) fun M372 =>
  some ((), M372)
def rmX13_init : Room := { frames := 1, cells := 42, slots := 452406, locals := 20 }
set_option maxRecDepth 100000 in
set_option maxHeartbeats 4000000 in
theorem ctX13_init (l : Launch) (x : Cx) (a0 : Option Nat) (M : Mem) (v : Unit) (N : Mem) (h : fX13_init a0 M = some (v, N)) : CT l yX13_init cX13_init 1 (none) rmX13_init x [rv x a0] M none N := by
  refine ct_mk (enc := fun _ : Unit => none) (li := []) (ll := []) (lr := [(0, a0)]) (by decide +kernel) (by simp [lg_sl, rv_cat, cat_int, cat_long]) (by simp [flat, lv_args, rv_cat, cat_int, cat_long]) h ?_
  intro p e s m args below meth c E
  show RT p l e rmX13_init s m args below meth c x 1 (QM below args s x (fun _ : Unit => none) rmX13_init.cells rmX13_init.slots) 0 0 (fX13_init a0 M) 0 [] [] [(0, a0)] [] M
  unfold fX13_init
  refine r_aload_n (pc := 0) E dX13_init_0 rfl 0 rfl ?_
  refine r_obj (pc := 1) E wl_RX13_1 wo_inst wo_code dX13_init_1 (by decide) (by decide) (Nat.le_of_ble_eq_true rfl) ?_
  refine r_aload_n (pc := 4) E dX13_init_4 rfl 0 rfl ?_
  refine r_sipush (pc := 5) (v := 8000) E dX13_init_5 (by decide) ?_
  refine r_newarrayB (pc := 8) E wa_B dX13_init_8 (by decide) (by decide) (by decide) (fun v8 M8 => ?_)
  refine r_widen (k := 1) (n := 8000) (by decide) (by decide) ?_
  refine r_putA (pc := 10) E fd_13_0 wf_RX13_7 dX13_init_10 (Or.inr ⟨rfl, rfl⟩) (fun M10 => ?_)
  refine r_aload_n (pc := 13) E dX13_init_13 rfl 0 rfl ?_
  refine r_sipush (pc := 14) (v := 8000) E dX13_init_14 (by decide) ?_
  refine r_newarrayB (pc := 17) E wa_B dX13_init_17 (by decide) (by decide) (by decide) (fun v17 M17 => ?_)
  refine r_widen (k := 2) (n := 16000) (by decide) (by decide) ?_
  refine r_putA (pc := 19) E fd_13_2 wf_RX13_13 dX13_init_19 (Or.inr ⟨rfl, rfl⟩) (fun M19 => ?_)
  refine r_aload_n (pc := 22) E dX13_init_22 rfl 0 rfl ?_
  refine r_iconst (pc := 23) (v := (-1)) E dX13_init_23 (by decide) ?_
  refine r_putI (pc := 24) E fd_13_5 wf_RX13_16 dX13_init_24 (Or.inl rfl) (fun M24 => ?_)
  refine r_aload_n (pc := 27) E dX13_init_27 rfl 0 rfl ?_
  refine r_aload_n (pc := 28) E dX13_init_28 rfl 0 rfl ?_
  refine r_getA (pc := 29) E fd_13_0 wf_RX13_7 dX13_init_29 (fun v29 => ?_)
  refine r_putA (pc := 32) E fd_13_6 wf_RX13_20 dX13_init_32 (Or.inl rfl) (fun M32 => ?_)
  refine r_aload_n (pc := 35) E dX13_init_35 rfl 0 rfl ?_
  refine r_sipush (pc := 36) (v := 256) E dX13_init_36 (by decide) ?_
  refine r_newarrayI (pc := 39) E wa_I dX13_init_39 (by decide) (by decide) (by decide) (fun v39 M39 => ?_)
  refine r_widen (k := 3) (n := 16256) (by decide) (by decide) ?_
  refine r_putA (pc := 41) E fd_13_12 wf_RX13_23 dX13_init_41 (Or.inr ⟨rfl, rfl⟩) (fun M41 => ?_)
  refine r_aload_n (pc := 44) E dX13_init_44 rfl 0 rfl ?_
  refine r_sipush (pc := 45) (v := 5120) E dX13_init_45 (by decide) ?_
  refine r_newarrayS (pc := 48) E wa_S dX13_init_48 (by decide) (by decide) (by decide) (fun v48 M48 => ?_)
  refine r_widen (k := 4) (n := 21376) (by decide) (by decide) ?_
  refine r_putA (pc := 50) E fd_13_14 wf_RX13_27 dX13_init_50 (Or.inr ⟨rfl, rfl⟩) (fun M50 => ?_)
  refine r_aload_n (pc := 53) E dX13_init_53 rfl 0 rfl ?_
  refine r_sipush (pc := 54) (v := 5120) E dX13_init_54 (by decide) ?_
  refine r_newarrayB (pc := 57) E wa_B dX13_init_57 (by decide) (by decide) (by decide) (fun v57 M57 => ?_)
  refine r_widen (k := 5) (n := 26496) (by decide) (by decide) ?_
  refine r_putA (pc := 59) E fd_13_15 wf_RX13_31 dX13_init_59 (Or.inr ⟨rfl, rfl⟩) (fun M59 => ?_)
  refine r_aload_n (pc := 62) E dX13_init_62 rfl 0 rfl ?_
  refine r_sipush (pc := 63) (v := 5120) E dX13_init_63 (by decide) ?_
  refine r_newarrayI (pc := 66) E wa_I dX13_init_66 (by decide) (by decide) (by decide) (fun v66 M66 => ?_)
  refine r_widen (k := 6) (n := 31616) (by decide) (by decide) ?_
  refine r_putA (pc := 68) E fd_13_16 wf_RX13_34 dX13_init_68 (Or.inr ⟨rfl, rfl⟩) (fun M68 => ?_)
  refine r_aload_n (pc := 71) E dX13_init_71 rfl 0 rfl ?_
  refine r_bipush (pc := 72) (v := 10) E dX13_init_72 (by decide) ?_
  refine r_newarrayI (pc := 74) E wa_I dX13_init_74 (by decide) (by decide) (by decide) (fun v74 M74 => ?_)
  refine r_widen (k := 7) (n := 31626) (by decide) (by decide) ?_
  refine r_putA (pc := 76) E fd_13_17 wf_RX13_37 dX13_init_76 (Or.inr ⟨rfl, rfl⟩) (fun M76 => ?_)
  refine r_aload_n (pc := 79) E dX13_init_79 rfl 0 rfl ?_
  refine r_bipush (pc := 80) (v := 10) E dX13_init_80 (by decide) ?_
  refine r_newarrayZ (pc := 82) E wa_Z dX13_init_82 (by decide) (by decide) (by decide) (fun v82 M82 => ?_)
  refine r_widen (k := 8) (n := 31636) (by decide) (by decide) ?_
  refine r_putA (pc := 84) E fd_13_18 wf_RX13_40 dX13_init_84 (Or.inr ⟨rfl, rfl⟩) (fun M84 => ?_)
  refine r_aload_n (pc := 87) E dX13_init_87 rfl 0 rfl ?_
  refine r_sipush (pc := 88) (v := 256) E dX13_init_88 (by decide) ?_
  refine r_newarrayI (pc := 91) E wa_I dX13_init_91 (by decide) (by decide) (by decide) (fun v91 M91 => ?_)
  refine r_widen (k := 9) (n := 31892) (by decide) (by decide) ?_
  refine r_putA (pc := 93) E fd_13_19 wf_RX13_44 dX13_init_93 (Or.inr ⟨rfl, rfl⟩) (fun M93 => ?_)
  refine r_aload_n (pc := 96) E dX13_init_96 rfl 0 rfl ?_
  refine r_sipush (pc := 97) (v := 768) E dX13_init_97 (by decide) ?_
  refine r_newarrayI (pc := 100) E wa_I dX13_init_100 (by decide) (by decide) (by decide) (fun v100 M100 => ?_)
  refine r_widen (k := 10) (n := 32660) (by decide) (by decide) ?_
  refine r_putA (pc := 102) E fd_13_20 wf_RX13_47 dX13_init_102 (Or.inr ⟨rfl, rfl⟩) (fun M102 => ?_)
  refine r_aload_n (pc := 105) E dX13_init_105 rfl 0 rfl ?_
  refine r_iconst (pc := 106) (v := 3) E dX13_init_106 (by decide) ?_
  refine r_newarrayZ (pc := 107) E wa_Z dX13_init_107 (by decide) (by decide) (by decide) (fun v107 M107 => ?_)
  refine r_widen (k := 11) (n := 32663) (by decide) (by decide) ?_
  refine r_putA (pc := 109) E fd_13_21 wf_RX13_50 dX13_init_109 (Or.inr ⟨rfl, rfl⟩) (fun M109 => ?_)
  refine r_aload_n (pc := 112) E dX13_init_112 rfl 0 rfl ?_
  refine r_iconst (pc := 113) (v := 3) E dX13_init_113 (by decide) ?_
  refine r_newarrayI (pc := 114) E wa_I dX13_init_114 (by decide) (by decide) (by decide) (fun v114 M114 => ?_)
  refine r_widen (k := 12) (n := 32666) (by decide) (by decide) ?_
  refine r_putA (pc := 116) E fd_13_22 wf_RX13_53 dX13_init_116 (Or.inr ⟨rfl, rfl⟩) (fun M116 => ?_)
  refine r_aload_n (pc := 119) E dX13_init_119 rfl 0 rfl ?_
  refine r_sipush (pc := 120) (v := 6144) E dX13_init_120 (by decide) ?_
  refine r_newarrayS (pc := 123) E wa_S dX13_init_123 (by decide) (by decide) (by decide) (fun v123 M123 => ?_)
  refine r_widen (k := 13) (n := 38810) (by decide) (by decide) ?_
  refine r_putA (pc := 125) E fd_13_23 wf_RX13_56 dX13_init_125 (Or.inr ⟨rfl, rfl⟩) (fun M125 => ?_)
  refine r_aload_n (pc := 128) E dX13_init_128 rfl 0 rfl ?_
  refine r_sipush (pc := 129) (v := 257) E dX13_init_129 (by decide) ?_
  refine r_newarrayI (pc := 132) E wa_I dX13_init_132 (by decide) (by decide) (by decide) (fun v132 M132 => ?_)
  refine r_widen (k := 14) (n := 39067) (by decide) (by decide) ?_
  refine r_putA (pc := 134) E fd_13_24 wf_RX13_59 dX13_init_134 (Or.inr ⟨rfl, rfl⟩) (fun M134 => ?_)
  refine r_aload_n (pc := 137) E dX13_init_137 rfl 0 rfl ?_
  refine r_sipush (pc := 138) (v := 3000) E dX13_init_138 (by decide) ?_
  refine r_newarrayB (pc := 141) E wa_B dX13_init_141 (by decide) (by decide) (by decide) (fun v141 M141 => ?_)
  refine r_widen (k := 15) (n := 42067) (by decide) (by decide) ?_
  refine r_putA (pc := 143) E fd_13_25 wf_RX13_62 dX13_init_143 (Or.inr ⟨rfl, rfl⟩) (fun M143 => ?_)
  refine r_aload_n (pc := 146) E dX13_init_146 rfl 0 rfl ?_
  refine r_iconst (pc := 147) (v := 3) E dX13_init_147 (by decide) ?_
  refine r_newarrayI (pc := 148) E wa_I dX13_init_148 (by decide) (by decide) (by decide) (fun v148 M148 => ?_)
  refine r_widen (k := 16) (n := 42070) (by decide) (by decide) ?_
  refine r_putA (pc := 150) E fd_13_30 wf_RX13_65 dX13_init_150 (Or.inr ⟨rfl, rfl⟩) (fun M150 => ?_)
  refine r_aload_n (pc := 153) E dX13_init_153 rfl 0 rfl ?_
  refine r_sipush (pc := 154) (v := 3000) E dX13_init_154 (by decide) ?_
  refine r_newarrayB (pc := 157) E wa_B dX13_init_157 (by decide) (by decide) (by decide) (fun v157 M157 => ?_)
  refine r_widen (k := 17) (n := 45070) (by decide) (by decide) ?_
  refine r_putA (pc := 159) E fd_13_31 wf_RX13_68 dX13_init_159 (Or.inr ⟨rfl, rfl⟩) (fun M159 => ?_)
  refine r_aload_n (pc := 162) E dX13_init_162 rfl 0 rfl ?_
  refine r_sipush (pc := 163) (v := 8000) E dX13_init_163 (by decide) ?_
  refine r_newarrayB (pc := 166) E wa_B dX13_init_166 (by decide) (by decide) (by decide) (fun v166 M166 => ?_)
  refine r_widen (k := 18) (n := 53070) (by decide) (by decide) ?_
  refine r_putA (pc := 168) E fd_13_32 wf_RX13_71 dX13_init_168 (Or.inr ⟨rfl, rfl⟩) (fun M168 => ?_)
  refine r_aload_n (pc := 171) E dX13_init_171 rfl 0 rfl ?_
  refine r_ldc (pc := 172) E wk_RX13_74 dX13_init_172 ?_
  refine r_newarrayB (pc := 174) E wa_B dX13_init_174 (by decide) (by decide) (by decide) (fun v174 M174 => ?_)
  refine r_widen (k := 19) (n := 193070) (by decide) (by decide) ?_
  refine r_putA (pc := 176) E fd_13_34 wf_RX13_75 dX13_init_176 (Or.inr ⟨rfl, rfl⟩) (fun M176 => ?_)
  refine r_aload_n (pc := 179) E dX13_init_179 rfl 0 rfl ?_
  refine r_ldc (pc := 180) E wk_RX13_78 dX13_init_180 ?_
  refine r_newarrayB (pc := 182) E wa_B dX13_init_182 (by decide) (by decide) (by decide) (fun v182 M182 => ?_)
  refine r_widen (k := 20) (n := 324142) (by decide) (by decide) ?_
  refine r_putA (pc := 184) E fd_13_36 wf_RX13_79 dX13_init_184 (Or.inr ⟨rfl, rfl⟩) (fun M184 => ?_)
  refine r_aload_n (pc := 187) E dX13_init_187 rfl 0 rfl ?_
  refine r_iconst (pc := 188) (v := 3) E dX13_init_188 (by decide) ?_
  refine r_newarrayI (pc := 189) E wa_I dX13_init_189 (by decide) (by decide) (by decide) (fun v189 M189 => ?_)
  refine r_widen (k := 21) (n := 324145) (by decide) (by decide) ?_
  refine r_putA (pc := 191) E fd_13_43 wf_RX13_82 dX13_init_191 (Or.inr ⟨rfl, rfl⟩) (fun M191 => ?_)
  refine r_aload_n (pc := 194) E dX13_init_194 rfl 0 rfl ?_
  refine r_iconst (pc := 195) (v := 3) E dX13_init_195 (by decide) ?_
  refine r_newarrayJ (pc := 196) E wa_J dX13_init_196 (by decide) (by decide) (by decide) (fun v196 M196 => ?_)
  refine r_widen (k := 22) (n := 324148) (by decide) (by decide) ?_
  refine r_putA (pc := 198) E fd_13_44 wf_RX13_85 dX13_init_198 (Or.inr ⟨rfl, rfl⟩) (fun M198 => ?_)
  refine r_aload_n (pc := 201) E dX13_init_201 rfl 0 rfl ?_
  refine r_bipush (pc := 202) (v := 12) E dX13_init_202 (by decide) ?_
  refine r_newarrayI (pc := 204) E wa_I dX13_init_204 (by decide) (by decide) (by decide) (fun v204 M204 => ?_)
  refine r_widen (k := 23) (n := 324160) (by decide) (by decide) ?_
  refine r_putA (pc := 206) E fd_13_45 wf_RX13_89 dX13_init_206 (Or.inr ⟨rfl, rfl⟩) (fun M206 => ?_)
  refine r_aload_n (pc := 209) E dX13_init_209 rfl 0 rfl ?_
  refine r_sipush (pc := 210) (v := 2000) E dX13_init_210 (by decide) ?_
  refine r_newarrayI (pc := 213) E wa_I dX13_init_213 (by decide) (by decide) (by decide) (fun v213 M213 => ?_)
  refine r_widen (k := 24) (n := 326160) (by decide) (by decide) ?_
  refine r_putA (pc := 215) E fd_13_47 wf_RX13_92 dX13_init_215 (Or.inr ⟨rfl, rfl⟩) (fun M215 => ?_)
  refine r_aload_n (pc := 218) E dX13_init_218 rfl 0 rfl ?_
  refine r_sipush (pc := 219) (v := 2000) E dX13_init_219 (by decide) ?_
  refine r_newarrayI (pc := 222) E wa_I dX13_init_222 (by decide) (by decide) (by decide) (fun v222 M222 => ?_)
  refine r_widen (k := 25) (n := 328160) (by decide) (by decide) ?_
  refine r_putA (pc := 224) E fd_13_48 wf_RX13_95 dX13_init_224 (Or.inr ⟨rfl, rfl⟩) (fun M224 => ?_)
  refine r_aload_n (pc := 227) E dX13_init_227 rfl 0 rfl ?_
  refine r_sipush (pc := 228) (v := 2000) E dX13_init_228 (by decide) ?_
  refine r_newarrayI (pc := 231) E wa_I dX13_init_231 (by decide) (by decide) (by decide) (fun v231 M231 => ?_)
  refine r_widen (k := 26) (n := 330160) (by decide) (by decide) ?_
  refine r_putA (pc := 233) E fd_13_49 wf_RX13_98 dX13_init_233 (Or.inr ⟨rfl, rfl⟩) (fun M233 => ?_)
  refine r_aload_n (pc := 236) E dX13_init_236 rfl 0 rfl ?_
  refine r_sipush (pc := 237) (v := 2000) E dX13_init_237 (by decide) ?_
  refine r_newarrayI (pc := 240) E wa_I dX13_init_240 (by decide) (by decide) (by decide) (fun v240 M240 => ?_)
  refine r_widen (k := 27) (n := 332160) (by decide) (by decide) ?_
  refine r_putA (pc := 242) E fd_13_50 wf_RX13_101 dX13_init_242 (Or.inr ⟨rfl, rfl⟩) (fun M242 => ?_)
  refine r_aload_n (pc := 245) E dX13_init_245 rfl 0 rfl ?_
  refine r_sipush (pc := 246) (v := 20000) E dX13_init_246 (by decide) ?_
  refine r_newarrayB (pc := 249) E wa_B dX13_init_249 (by decide) (by decide) (by decide) (fun v249 M249 => ?_)
  refine r_widen (k := 28) (n := 352160) (by decide) (by decide) ?_
  refine r_putA (pc := 251) E fd_13_53 wf_RX13_104 dX13_init_251 (Or.inr ⟨rfl, rfl⟩) (fun M251 => ?_)
  refine r_aload_n (pc := 254) E dX13_init_254 rfl 0 rfl ?_
  refine r_ldc (pc := 255) E wk_RX13_107 dX13_init_255 ?_
  refine r_newarrayB (pc := 257) E wa_B dX13_init_257 (by decide) (by decide) (by decide) (fun v257 M257 => ?_)
  refine r_widen (k := 29) (n := 432160) (by decide) (by decide) ?_
  refine r_putA (pc := 259) E fd_13_55 wf_RX13_108 dX13_init_259 (Or.inr ⟨rfl, rfl⟩) (fun M259 => ?_)
  refine r_aload_n (pc := 262) E dX13_init_262 rfl 0 rfl ?_
  refine r_sipush (pc := 263) (v := 11000) E dX13_init_263 (by decide) ?_
  refine r_newarrayB (pc := 266) E wa_B dX13_init_266 (by decide) (by decide) (by decide) (fun v266 M266 => ?_)
  refine r_widen (k := 30) (n := 443160) (by decide) (by decide) ?_
  refine r_putA (pc := 268) E fd_13_57 wf_RX13_111 dX13_init_268 (Or.inr ⟨rfl, rfl⟩) (fun M268 => ?_)
  refine r_aload_n (pc := 271) E dX13_init_271 rfl 0 rfl ?_
  refine r_iconst (pc := 272) (v := 3) E dX13_init_272 (by decide) ?_
  refine r_newarrayJ (pc := 273) E wa_J dX13_init_273 (by decide) (by decide) (by decide) (fun v273 M273 => ?_)
  refine r_widen (k := 31) (n := 443163) (by decide) (by decide) ?_
  refine r_putA (pc := 275) E fd_13_59 wf_RX13_114 dX13_init_275 (Or.inr ⟨rfl, rfl⟩) (fun M275 => ?_)
  refine r_aload_n (pc := 278) E dX13_init_278 rfl 0 rfl ?_
  refine r_iconst (pc := 279) (v := 3) E dX13_init_279 (by decide) ?_
  refine r_newarrayJ (pc := 280) E wa_J dX13_init_280 (by decide) (by decide) (by decide) (fun v280 M280 => ?_)
  refine r_widen (k := 32) (n := 443166) (by decide) (by decide) ?_
  refine r_putA (pc := 282) E fd_13_60 wf_RX13_117 dX13_init_282 (Or.inr ⟨rfl, rfl⟩) (fun M282 => ?_)
  refine r_aload_n (pc := 285) E dX13_init_285 rfl 0 rfl ?_
  refine r_sipush (pc := 286) (v := 600) E dX13_init_286 (by decide) ?_
  refine r_newarrayI (pc := 289) E wa_I dX13_init_289 (by decide) (by decide) (by decide) (fun v289 M289 => ?_)
  refine r_widen (k := 33) (n := 443766) (by decide) (by decide) ?_
  refine r_putA (pc := 291) E fd_13_62 wf_RX13_120 dX13_init_291 (Or.inr ⟨rfl, rfl⟩) (fun M291 => ?_)
  refine r_aload_n (pc := 294) E dX13_init_294 rfl 0 rfl ?_
  refine r_sipush (pc := 295) (v := 600) E dX13_init_295 (by decide) ?_
  refine r_newarrayI (pc := 298) E wa_I dX13_init_298 (by decide) (by decide) (by decide) (fun v298 M298 => ?_)
  refine r_widen (k := 34) (n := 444366) (by decide) (by decide) ?_
  refine r_putA (pc := 300) E fd_13_63 wf_RX13_123 dX13_init_300 (Or.inr ⟨rfl, rfl⟩) (fun M300 => ?_)
  refine r_aload_n (pc := 303) E dX13_init_303 rfl 0 rfl ?_
  refine r_sipush (pc := 304) (v := 600) E dX13_init_304 (by decide) ?_
  refine r_newarrayJ (pc := 307) E wa_J dX13_init_307 (by decide) (by decide) (by decide) (fun v307 M307 => ?_)
  refine r_widen (k := 35) (n := 444966) (by decide) (by decide) ?_
  refine r_putA (pc := 309) E fd_13_64 wf_RX13_126 dX13_init_309 (Or.inr ⟨rfl, rfl⟩) (fun M309 => ?_)
  refine r_aload_n (pc := 312) E dX13_init_312 rfl 0 rfl ?_
  refine r_sipush (pc := 313) (v := 1800) E dX13_init_313 (by decide) ?_
  refine r_newarrayI (pc := 316) E wa_I dX13_init_316 (by decide) (by decide) (by decide) (fun v316 M316 => ?_)
  refine r_widen (k := 36) (n := 446766) (by decide) (by decide) ?_
  refine r_putA (pc := 318) E fd_13_65 wf_RX13_129 dX13_init_318 (Or.inr ⟨rfl, rfl⟩) (fun M318 => ?_)
  refine r_aload_n (pc := 321) E dX13_init_321 rfl 0 rfl ?_
  refine r_sipush (pc := 322) (v := 1800) E dX13_init_322 (by decide) ?_
  refine r_newarrayI (pc := 325) E wa_I dX13_init_325 (by decide) (by decide) (by decide) (fun v325 M325 => ?_)
  refine r_widen (k := 37) (n := 448566) (by decide) (by decide) ?_
  refine r_putA (pc := 327) E fd_13_66 wf_RX13_132 dX13_init_327 (Or.inr ⟨rfl, rfl⟩) (fun M327 => ?_)
  refine r_aload_n (pc := 330) E dX13_init_330 rfl 0 rfl ?_
  refine r_sipush (pc := 331) (v := 2048) E dX13_init_331 (by decide) ?_
  refine r_newarrayB (pc := 334) E wa_B dX13_init_334 (by decide) (by decide) (by decide) (fun v334 M334 => ?_)
  refine r_widen (k := 38) (n := 450614) (by decide) (by decide) ?_
  refine r_putA (pc := 336) E fd_13_67 wf_RX13_135 dX13_init_336 (Or.inr ⟨rfl, rfl⟩) (fun M336 => ?_)
  refine r_aload_n (pc := 339) E dX13_init_339 rfl 0 rfl ?_
  refine r_sipush (pc := 340) (v := 256) E dX13_init_340 (by decide) ?_
  refine r_newarrayI (pc := 343) E wa_I dX13_init_343 (by decide) (by decide) (by decide) (fun v343 M343 => ?_)
  refine r_widen (k := 39) (n := 450870) (by decide) (by decide) ?_
  refine r_putA (pc := 345) E fd_13_69 wf_RX13_138 dX13_init_345 (Or.inr ⟨rfl, rfl⟩) (fun M345 => ?_)
  refine r_aload_n (pc := 348) E dX13_init_348 rfl 0 rfl ?_
  refine r_sipush (pc := 349) (v := 512) E dX13_init_349 (by decide) ?_
  refine r_newarrayJ (pc := 352) E wa_J dX13_init_352 (by decide) (by decide) (by decide) (fun v352 M352 => ?_)
  refine r_widen (k := 40) (n := 451382) (by decide) (by decide) ?_
  refine r_putA (pc := 354) E fd_13_70 wf_RX13_141 dX13_init_354 (Or.inr ⟨rfl, rfl⟩) (fun M354 => ?_)
  refine r_aload_n (pc := 357) E dX13_init_357 rfl 0 rfl ?_
  refine r_sipush (pc := 358) (v := 512) E dX13_init_358 (by decide) ?_
  refine r_newarrayI (pc := 361) E wa_I dX13_init_361 (by decide) (by decide) (by decide) (fun v361 M361 => ?_)
  refine r_widen (k := 41) (n := 451894) (by decide) (by decide) ?_
  refine r_putA (pc := 363) E fd_13_71 wf_RX13_144 dX13_init_363 (Or.inr ⟨rfl, rfl⟩) (fun M363 => ?_)
  refine r_aload_n (pc := 366) E dX13_init_366 rfl 0 rfl ?_
  refine r_sipush (pc := 367) (v := 512) E dX13_init_367 (by decide) ?_
  refine r_newarrayZ (pc := 370) E wa_Z dX13_init_370 (by decide) (by decide) (by decide) (fun v370 M370 => ?_)
  refine r_widen (k := 42) (n := 452406) (by decide) (by decide) ?_
  refine r_putA (pc := 372) E fd_13_72 wf_RX13_147 dX13_init_372 (Or.inr ⟨rfl, rfl⟩) (fun M372 => ?_)
  refine r_widen (k := 42) (n := 452406) (by decide) (by decide) ?_
  exact e_void (pc := 375) E dX13_init_375
def fX13_feed_L10 (M : Mem) : Option (Int32 × Mem) :=
  some ((-2), M)
def fX13_feed_B44 (k44 : Option Nat × Int64 × Int32 → Mem → Option (Int32 × Mem)) (p0 : Option Nat) (p1 : Int64) (p4 : Int32) (M : Mem) : Option (Int32 × Mem) :=
  if p4 < 0 then (
    bo (gI M p0 13 1) fun v84 =>
    some (v84, M)
  ) else (
    bo (gR M p0 13 0) fun v50 =>
    bo (gI M p0 13 1) fun v54 =>
    bo (wB M v50 v54 (i2b ((shrJ p1 (8 * p4)).toInt32))) fun M66 =>
    bo (gI M66 p0 13 1) fun v69 =>
    bo (pI M66 p0 13 1 (v69 + 1)) fun M74 =>
    bn (p4 + (-1)) fun v77 =>
    k44 ((p0, p1, v77)) M74
  )
def fX13_feed_L44 (p0 : Option Nat) (p1 : Int64) (p4 : Int32) (M : Mem) : Option (Int32 × Mem) :=
  lp (fun k44 (a : Option Nat × Int64 × Int32) M => fX13_feed_B44 k44 a.1 a.2.1 a.2.2 M) FU ((p0, p1, p4)) M
def fX13_feed (a0 : Option Nat) (a1 : Int64) (a3 : Int32) (M : Mem) : Option (Int32 × Mem) :=
  if a3 < 0 then (
    fX13_feed_L10 M
  ) else (
    if a3 ≤ 8 then (
      if a3 = 0 then (
        bo (pI M a0 13 1 0) fun M19 =>
        some (0, M19)
      ) else (
        bo (gI M a0 13 1) fun v25 =>
        if (v25 + a3) ≤ 8000 then (
          bn (a3 - 1) fun v42 =>
          fX13_feed_L44 a0 a1 v42 M
        ) else (
          some ((-4), M)
        )
      )
    ) else (
      fX13_feed_L10 M
    )
  )
def rmX13_feed : Room := { frames := 0, cells := 0, slots := 0, locals := 0 }
set_option maxRecDepth 100000 in
set_option maxHeartbeats 4000000 in
theorem ctX13_feed (l : Launch) (x : Cx) (a0 : Option Nat) (a1 : Int64) (a3 : Int32) (M : Mem) (v : Int32) (N : Mem) (h : fX13_feed a0 a1 a3 M = some (v, N)) : CT l yX13_feed cX13_feed 5 (some (FieldType.int)) rmX13_feed x [rv x a0, .long a1, .int a3] M (some (.int v)) N := by
  refine ct_mk (enc := fun v : Int32 => some (.int v)) (li := [(3, a3)]) (ll := [(1, a1)]) (lr := [(0, a0)]) (by decide +kernel) (by simp [lg_sl, rv_cat, cat_int, cat_long]) (by simp [flat, lv_args, rv_cat, cat_int, cat_long]) h ?_
  intro p e s m args below meth c E
  have hL10 : ∀ (M : Mem), RT p l e rmX13_feed s m args below meth c x 5 (QM below args s x (fun v : Int32 => some (.int v)) rmX13_feed.cells rmX13_feed.slots) 0 0 (fX13_feed_L10 M) 10 [] [] [] [] M := by
    intro M
    unfold fX13_feed_L10
    refine r_bipush (pc := 10) (v := (-2)) E dX13_feed_10 (by decide) ?_
    exact e_int (pc := 12) E dX13_feed_12
  have hL44 : ∀ (p0 : Option Nat) (p1 : Int64) (p4 : Int32) (M : Mem), RT p l e rmX13_feed s m args below meth c x 5 (QM below args s x (fun v : Int32 => some (.int v)) rmX13_feed.cells rmX13_feed.slots) 0 0 (fX13_feed_L44 p0 p1 p4 M) 44 [(4, p4)] [(1, p1)] [(0, p0)] [] M := by
    intro p0 p1 p4 M
    refine r_lp (fi := fun a : Option Nat × Int64 × Int32 => [(4, a.2.2)]) (fl := fun a : Option Nat × Int64 × Int32 => [(1, a.2.1)]) (fr := fun a : Option Nat × Int64 × Int32 => [(0, a.1)]) (fs := fun a : Option Nat × Int64 × Int32 => []) ?_ FU ((p0, p1, p4)) M
    intro k44 hk44 a M
    obtain ⟨p0, p1, p4⟩ := a
    show RT p l e rmX13_feed s m args below meth c x 5 (QM below args s x (fun v : Int32 => some (.int v)) rmX13_feed.cells rmX13_feed.slots) 0 0 (fX13_feed_B44 k44 p0 p1 p4 M) 44 [(4, p4)] [(1, p1)] [(0, p0)] [] M
    unfold fX13_feed_B44
    refine r_iload (pc := 44) E dX13_feed_44 0 rfl ?_
    refine r_if_lt (pc := 46) (tgt := 83) E dX13_feed_46 (by decide) ?_ ?_
    · refine r_aload_n (pc := 83) E dX13_feed_83 rfl 0 rfl ?_
      refine r_getI (pc := 84) E fd_13_1 wf_RX13_150 dX13_feed_84 (fun v84 => ?_)
      exact e_int (pc := 87) E dX13_feed_87
    · refine r_aload_n (pc := 49) E dX13_feed_49 rfl 0 rfl ?_
      refine r_getA (pc := 50) E fd_13_0 wf_RX13_7 dX13_feed_50 (fun v50 => ?_)
      refine r_aload_n (pc := 53) E dX13_feed_53 rfl 0 rfl ?_
      refine r_getI (pc := 54) E fd_13_1 wf_RX13_150 dX13_feed_54 (fun v54 => ?_)
      refine r_lload_n (pc := 57) E dX13_feed_57 rfl 0 rfl ?_
      refine r_bipush (pc := 58) (v := 8) E dX13_feed_58 (by decide) ?_
      refine r_iload (pc := 60) E dX13_feed_60 0 rfl ?_
      refine r_imul (pc := 62) E dX13_feed_62 ?_
      refine r_lshr (pc := 63) E dX13_feed_63 ?_
      refine r_l2i (pc := 64) E dX13_feed_64 ?_
      refine r_i2b (pc := 65) E dX13_feed_65 ?_
      refine r_bastore (pc := 66) E dX13_feed_66 (fun M66 => ?_)
      refine r_aload_n (pc := 67) E dX13_feed_67 rfl 0 rfl ?_
      refine r_dup (pc := 68) E dX13_feed_68 (rv_cat _ _) ?_
      refine r_getI (pc := 69) E fd_13_1 wf_RX13_150 dX13_feed_69 (fun v69 => ?_)
      refine r_iconst (pc := 72) (v := 1) E dX13_feed_72 (by decide) ?_
      refine r_iadd (pc := 73) E dX13_feed_73 ?_
      refine r_putI (pc := 74) E fd_13_1 wf_RX13_150 dX13_feed_74 (Or.inl rfl) (fun M74 => ?_)
      refine r_iinc (pc := 77) (w := (-1)) (lf := fun v77 => [(4, v77)]) (ll' := [(1, p1)]) (lr' := [(0, p0)]) E dX13_feed_77 0 rfl (by decide) (by decide) (fun _ => rfl) rfl rfl (fun v77 => ?_)
      refine r_goto (pc := 80) (tgt := 44) E dX13_feed_80 (by decide) ?_
      exact r_sub [0] [0] [0] rfl rfl rfl (hk44 ((p0, p1, v77)) _)
  show RT p l e rmX13_feed s m args below meth c x 5 (QM below args s x (fun v : Int32 => some (.int v)) rmX13_feed.cells rmX13_feed.slots) 0 0 (fX13_feed a0 a1 a3 M) 0 [(3, a3)] [(1, a1)] [(0, a0)] [] M
  unfold fX13_feed
  refine r_iload_n (pc := 0) E dX13_feed_0 rfl 0 rfl ?_
  refine r_if_lt (pc := 1) (tgt := 10) E dX13_feed_1 (by decide) ?_ ?_
  · exact r_sub [] [] [] rfl rfl rfl (hL10 _)
  · refine r_iload_n (pc := 4) E dX13_feed_4 rfl 0 rfl ?_
    refine r_bipush (pc := 5) (v := 8) E dX13_feed_5 (by decide) ?_
    refine r_icmp_le (pc := 7) (tgt := 13) E dX13_feed_7 (by decide) ?_ ?_
    · refine r_iload_n (pc := 13) E dX13_feed_13 rfl 0 rfl ?_
      refine r_if_ne (pc := 14) (tgt := 24) E dX13_feed_14 (by decide) ?_ ?_
      · refine r_aload_n (pc := 24) E dX13_feed_24 rfl 0 rfl ?_
        refine r_getI (pc := 25) E fd_13_1 wf_RX13_150 dX13_feed_25 (fun v25 => ?_)
        refine r_iload_n (pc := 28) E dX13_feed_28 rfl 0 rfl ?_
        refine r_iadd (pc := 29) E dX13_feed_29 ?_
        refine r_sipush (pc := 30) (v := 8000) E dX13_feed_30 (by decide) ?_
        refine r_icmp_le (pc := 33) (tgt := 39) E dX13_feed_33 (by decide) ?_ ?_
        · refine r_iload_n (pc := 39) E dX13_feed_39 rfl 0 rfl ?_
          refine r_iconst (pc := 40) (v := 1) E dX13_feed_40 (by decide) ?_
          refine r_isub (pc := 41) E dX13_feed_41 ?_
          refine r_istore (pc := 42) (lf := fun v42 => [(4, v42), (3, a3)]) (lg := fun v42 => [(1, a1)]) (lk := fun v42 => [(0, a0)]) E dX13_feed_42 (by decide) (fun _ => rfl) (fun _ => rfl) (fun _ => rfl) (fun v42 => ?_)
          exact r_sub [0] [0] [0] rfl rfl rfl (hL44 a0 a1 v42 _)
        · refine r_bipush (pc := 36) (v := (-4)) E dX13_feed_36 (by decide) ?_
          exact e_int (pc := 38) E dX13_feed_38
      · refine r_aload_n (pc := 17) E dX13_feed_17 rfl 0 rfl ?_
        refine r_iconst (pc := 18) (v := 0) E dX13_feed_18 (by decide) ?_
        refine r_putI (pc := 19) E fd_13_1 wf_RX13_150 dX13_feed_19 (Or.inl rfl) (fun M19 => ?_)
        refine r_iconst (pc := 22) (v := 0) E dX13_feed_22 (by decide) ?_
        exact e_int (pc := 23) E dX13_feed_23
    · exact r_sub [] [] [] rfl rfl rfl (hL10 _)
def fX13_fill_L14 (M : Mem) : Option (Int32 × Mem) :=
  some ((-2), M)
def fX13_fill_B38 (k38 : Option Nat × Int32 × Int32 × Int32 × Int32 → Mem → Option (Int32 × Mem)) (p0 : Option Nat) (p1 : Int32) (p3 : Int32) (p4 : Int32) (p5 : Int32) (M : Mem) : Option (Int32 × Mem) :=
  if p1 ≤ p5 then (
    bo (gI M p0 13 1) fun v88 =>
    some (v88, M)
  ) else (
    bn ((p4 * 1664525) + 1013904223) fun v52 =>
    bo (gR M p0 13 0) fun v55 =>
    bo (gI M p0 13 1) fun v59 =>
    bo (wB M v55 v59 (i2b (ushI (ushI v52 24) p3))) fun M70 =>
    bo (gI M70 p0 13 1) fun v73 =>
    bo (pI M70 p0 13 1 (v73 + 1)) fun M78 =>
    bn (p5 + 1) fun v81 =>
    k38 ((p0, p1, p3, v52, v81)) M78
  )
def fX13_fill_L38 (p0 : Option Nat) (p1 : Int32) (p3 : Int32) (p4 : Int32) (p5 : Int32) (M : Mem) : Option (Int32 × Mem) :=
  lp (fun k38 (a : Option Nat × Int32 × Int32 × Int32 × Int32) M => fX13_fill_B38 k38 a.1 a.2.1 a.2.2.1 a.2.2.2.1 a.2.2.2.2 M) FU ((p0, p1, p3, p4, p5)) M
def fX13_fill (a0 : Option Nat) (a1 : Int32) (a2 : Int32) (a3 : Int32) (M : Mem) : Option (Int32 × Mem) :=
  if a1 < 0 then (
    fX13_fill_L14 M
  ) else (
    if a3 < 0 then (
      fX13_fill_L14 M
    ) else (
      if a3 ≤ 7 then (
        bo (gI M a0 13 1) fun v22 =>
        if a1 ≤ (8000 - v22) then (
          bn (a2) fun v33 =>
          bn (0) fun v36 =>
          fX13_fill_L38 a0 a1 a3 v33 v36 M
        ) else (
          some ((-4), M)
        )
      ) else (
        fX13_fill_L14 M
      )
    )
  )
def rmX13_fill : Room := { frames := 0, cells := 0, slots := 0, locals := 0 }
set_option maxRecDepth 100000 in
set_option maxHeartbeats 4000000 in
theorem ctX13_fill (l : Launch) (x : Cx) (a0 : Option Nat) (a1 : Int32) (a2 : Int32) (a3 : Int32) (M : Mem) (v : Int32) (N : Mem) (h : fX13_fill a0 a1 a2 a3 M = some (v, N)) : CT l yX13_fill cX13_fill 6 (some (FieldType.int)) rmX13_fill x [rv x a0, .int a1, .int a2, .int a3] M (some (.int v)) N := by
  refine ct_mk (enc := fun v : Int32 => some (.int v)) (li := [(1, a1), (2, a2), (3, a3)]) (ll := []) (lr := [(0, a0)]) (by decide +kernel) (by simp [lg_sl, rv_cat, cat_int, cat_long]) (by simp [flat, lv_args, rv_cat, cat_int, cat_long]) h ?_
  intro p e s m args below meth c E
  have hL14 : ∀ (M : Mem), RT p l e rmX13_fill s m args below meth c x 6 (QM below args s x (fun v : Int32 => some (.int v)) rmX13_fill.cells rmX13_fill.slots) 0 0 (fX13_fill_L14 M) 14 [] [] [] [] M := by
    intro M
    unfold fX13_fill_L14
    refine r_bipush (pc := 14) (v := (-2)) E dX13_fill_14 (by decide) ?_
    exact e_int (pc := 16) E dX13_fill_16
  have hL38 : ∀ (p0 : Option Nat) (p1 : Int32) (p3 : Int32) (p4 : Int32) (p5 : Int32) (M : Mem), RT p l e rmX13_fill s m args below meth c x 6 (QM below args s x (fun v : Int32 => some (.int v)) rmX13_fill.cells rmX13_fill.slots) 0 0 (fX13_fill_L38 p0 p1 p3 p4 p5 M) 38 [(1, p1), (3, p3), (4, p4), (5, p5)] [] [(0, p0)] [] M := by
    intro p0 p1 p3 p4 p5 M
    refine r_lp (fi := fun a : Option Nat × Int32 × Int32 × Int32 × Int32 => [(1, a.2.1), (3, a.2.2.1), (4, a.2.2.2.1), (5, a.2.2.2.2)]) (fl := fun a : Option Nat × Int32 × Int32 × Int32 × Int32 => []) (fr := fun a : Option Nat × Int32 × Int32 × Int32 × Int32 => [(0, a.1)]) (fs := fun a : Option Nat × Int32 × Int32 × Int32 × Int32 => []) ?_ FU ((p0, p1, p3, p4, p5)) M
    intro k38 hk38 a M
    obtain ⟨p0, p1, p3, p4, p5⟩ := a
    show RT p l e rmX13_fill s m args below meth c x 6 (QM below args s x (fun v : Int32 => some (.int v)) rmX13_fill.cells rmX13_fill.slots) 0 0 (fX13_fill_B38 k38 p0 p1 p3 p4 p5 M) 38 [(1, p1), (3, p3), (4, p4), (5, p5)] [] [(0, p0)] [] M
    unfold fX13_fill_B38
    refine r_iload (pc := 38) E dX13_fill_38 3 rfl ?_
    refine r_iload_n (pc := 40) E dX13_fill_40 rfl 0 rfl ?_
    refine r_icmp_ge (pc := 41) (tgt := 87) E dX13_fill_41 (by decide) ?_ ?_
    · refine r_aload_n (pc := 87) E dX13_fill_87 rfl 0 rfl ?_
      refine r_getI (pc := 88) E fd_13_1 wf_RX13_150 dX13_fill_88 (fun v88 => ?_)
      exact e_int (pc := 91) E dX13_fill_91
    · refine r_iload (pc := 44) E dX13_fill_44 2 rfl ?_
      refine r_ldc (pc := 46) E wk_RX13_153 dX13_fill_46 ?_
      refine r_imul (pc := 48) E dX13_fill_48 ?_
      refine r_ldc (pc := 49) E wk_RX13_154 dX13_fill_49 ?_
      refine r_iadd (pc := 51) E dX13_fill_51 ?_
      refine r_istore (pc := 52) (lf := fun v52 => [(4, v52), (1, p1), (3, p3), (5, p5)]) (lg := fun v52 => []) (lk := fun v52 => [(0, p0)]) E dX13_fill_52 (by decide) (fun _ => rfl) (fun _ => rfl) (fun _ => rfl) (fun v52 => ?_)
      refine r_aload_n (pc := 54) E dX13_fill_54 rfl 0 rfl ?_
      refine r_getA (pc := 55) E fd_13_0 wf_RX13_7 dX13_fill_55 (fun v55 => ?_)
      refine r_aload_n (pc := 58) E dX13_fill_58 rfl 0 rfl ?_
      refine r_getI (pc := 59) E fd_13_1 wf_RX13_150 dX13_fill_59 (fun v59 => ?_)
      refine r_iload (pc := 62) E dX13_fill_62 0 rfl ?_
      refine r_bipush (pc := 64) (v := 24) E dX13_fill_64 (by decide) ?_
      refine r_iushr (pc := 66) E dX13_fill_66 ?_
      refine r_iload_n (pc := 67) E dX13_fill_67 rfl 2 rfl ?_
      refine r_iushr (pc := 68) E dX13_fill_68 ?_
      refine r_i2b (pc := 69) E dX13_fill_69 ?_
      refine r_bastore (pc := 70) E dX13_fill_70 (fun M70 => ?_)
      refine r_aload_n (pc := 71) E dX13_fill_71 rfl 0 rfl ?_
      refine r_dup (pc := 72) E dX13_fill_72 (rv_cat _ _) ?_
      refine r_getI (pc := 73) E fd_13_1 wf_RX13_150 dX13_fill_73 (fun v73 => ?_)
      refine r_iconst (pc := 76) (v := 1) E dX13_fill_76 (by decide) ?_
      refine r_iadd (pc := 77) E dX13_fill_77 ?_
      refine r_putI (pc := 78) E fd_13_1 wf_RX13_150 dX13_fill_78 (Or.inl rfl) (fun M78 => ?_)
      refine r_iinc (pc := 81) (w := 1) (lf := fun v81 => [(5, v81), (4, v52), (1, p1), (3, p3)]) (ll' := []) (lr' := [(0, p0)]) E dX13_fill_81 3 rfl (by decide) (by decide) (fun _ => rfl) rfl rfl (fun v81 => ?_)
      refine r_goto (pc := 84) (tgt := 38) E dX13_fill_84 (by decide) ?_
      exact r_sub [2, 3, 1, 0] [] [0] rfl rfl rfl (hk38 ((p0, p1, p3, v52, v81)) _)
  show RT p l e rmX13_fill s m args below meth c x 6 (QM below args s x (fun v : Int32 => some (.int v)) rmX13_fill.cells rmX13_fill.slots) 0 0 (fX13_fill a0 a1 a2 a3 M) 0 [(1, a1), (2, a2), (3, a3)] [] [(0, a0)] [] M
  unfold fX13_fill
  refine r_iload_n (pc := 0) E dX13_fill_0 rfl 0 rfl ?_
  refine r_if_lt (pc := 1) (tgt := 14) E dX13_fill_1 (by decide) ?_ ?_
  · exact r_sub [] [] [] rfl rfl rfl (hL14 _)
  · refine r_iload_n (pc := 4) E dX13_fill_4 rfl 2 rfl ?_
    refine r_if_lt (pc := 5) (tgt := 14) E dX13_fill_5 (by decide) ?_ ?_
    · exact r_sub [] [] [] rfl rfl rfl (hL14 _)
    · refine r_iload_n (pc := 8) E dX13_fill_8 rfl 2 rfl ?_
      refine r_bipush (pc := 9) (v := 7) E dX13_fill_9 (by decide) ?_
      refine r_icmp_le (pc := 11) (tgt := 17) E dX13_fill_11 (by decide) ?_ ?_
      · refine r_iload_n (pc := 17) E dX13_fill_17 rfl 0 rfl ?_
        refine r_sipush (pc := 18) (v := 8000) E dX13_fill_18 (by decide) ?_
        refine r_aload_n (pc := 21) E dX13_fill_21 rfl 0 rfl ?_
        refine r_getI (pc := 22) E fd_13_1 wf_RX13_150 dX13_fill_22 (fun v22 => ?_)
        refine r_isub (pc := 25) E dX13_fill_25 ?_
        refine r_icmp_le (pc := 26) (tgt := 32) E dX13_fill_26 (by decide) ?_ ?_
        · refine r_iload_n (pc := 32) E dX13_fill_32 rfl 1 rfl ?_
          refine r_istore (pc := 33) (lf := fun v33 => [(4, v33), (1, a1), (2, a2), (3, a3)]) (lg := fun v33 => []) (lk := fun v33 => [(0, a0)]) E dX13_fill_33 (by decide) (fun _ => rfl) (fun _ => rfl) (fun _ => rfl) (fun v33 => ?_)
          refine r_iconst (pc := 35) (v := 0) E dX13_fill_35 (by decide) ?_
          refine r_istore (pc := 36) (lf := fun v36 => [(5, v36), (4, v33), (1, a1), (2, a2), (3, a3)]) (lg := fun v36 => []) (lk := fun v36 => [(0, a0)]) E dX13_fill_36 (by decide) (fun _ => rfl) (fun _ => rfl) (fun _ => rfl) (fun v36 => ?_)
          exact r_sub [2, 4, 1, 0] [] [0] rfl rfl rfl (hL38 a0 a1 a3 v33 v36 _)
        · refine r_bipush (pc := 29) (v := (-4)) E dX13_fill_29 (by decide) ?_
          exact e_int (pc := 31) E dX13_fill_31
      · exact r_sub [] [] [] rfl rfl rfl (hL14 _)
def fX13_size (a0 : Option Nat) (M : Mem) : Option (Int32 × Mem) :=
  bo (gI M a0 13 1) fun v1 =>
  some (v1, M)
def rmX13_size : Room := { frames := 0, cells := 0, slots := 0, locals := 0 }
set_option maxRecDepth 100000 in
set_option maxHeartbeats 4000000 in
theorem ctX13_size (l : Launch) (x : Cx) (a0 : Option Nat) (M : Mem) (v : Int32) (N : Mem) (h : fX13_size a0 M = some (v, N)) : CT l yX13_size cX13_size 1 (some (FieldType.int)) rmX13_size x [rv x a0] M (some (.int v)) N := by
  refine ct_mk (enc := fun v : Int32 => some (.int v)) (li := []) (ll := []) (lr := [(0, a0)]) (by decide +kernel) (by simp [lg_sl, rv_cat, cat_int, cat_long]) (by simp [flat, lv_args, rv_cat, cat_int, cat_long]) h ?_
  intro p e s m args below meth c E
  show RT p l e rmX13_size s m args below meth c x 1 (QM below args s x (fun v : Int32 => some (.int v)) rmX13_size.cells rmX13_size.slots) 0 0 (fX13_size a0 M) 0 [] [] [(0, a0)] [] M
  unfold fX13_size
  refine r_aload_n (pc := 0) E dX13_size_0 rfl 0 rfl ?_
  refine r_getI (pc := 1) E fd_13_1 wf_RX13_150 dX13_size_1 (fun v1 => ?_)
  exact e_int (pc := 4) E dX13_size_4
def fX13_set_L23 (M : Mem) : Option (Int32 × Mem) :=
  some ((-2), M)
def fX13_set (a0 : Option Nat) (a1 : Int32) (a2 : Int32) (M : Mem) : Option (Int32 × Mem) :=
  if a1 < 0 then (
    fX13_set_L23 M
  ) else (
    bo (gI M a0 13 1) fun v6 =>
    if v6 ≤ a1 then (
      fX13_set_L23 M
    ) else (
      if a2 < 0 then (
        fX13_set_L23 M
      ) else (
        if a2 ≤ 255 then (
          bo (gR M a0 13 0) fun v27 =>
          bo (aI M v27 14 a1) fun v31 =>
          bn (v31 &&& 255) fun v36 =>
          bo (gR M a0 13 0) fun v38 =>
          bo (wB M v38 a1 (i2b a2)) fun M44 =>
          some (v36, M44)
        ) else (
          fX13_set_L23 M
        )
      )
    )
  )
def rmX13_set : Room := { frames := 0, cells := 0, slots := 0, locals := 0 }
set_option maxRecDepth 100000 in
set_option maxHeartbeats 4000000 in
theorem ctX13_set (l : Launch) (x : Cx) (a0 : Option Nat) (a1 : Int32) (a2 : Int32) (M : Mem) (v : Int32) (N : Mem) (h : fX13_set a0 a1 a2 M = some (v, N)) : CT l yX13_set cX13_set 4 (some (FieldType.int)) rmX13_set x [rv x a0, .int a1, .int a2] M (some (.int v)) N := by
  refine ct_mk (enc := fun v : Int32 => some (.int v)) (li := [(1, a1), (2, a2)]) (ll := []) (lr := [(0, a0)]) (by decide +kernel) (by simp [lg_sl, rv_cat, cat_int, cat_long]) (by simp [flat, lv_args, rv_cat, cat_int, cat_long]) h ?_
  intro p e s m args below meth c E
  have hL23 : ∀ (M : Mem), RT p l e rmX13_set s m args below meth c x 4 (QM below args s x (fun v : Int32 => some (.int v)) rmX13_set.cells rmX13_set.slots) 0 0 (fX13_set_L23 M) 23 [] [] [] [] M := by
    intro M
    unfold fX13_set_L23
    refine r_bipush (pc := 23) (v := (-2)) E dX13_set_23 (by decide) ?_
    exact e_int (pc := 25) E dX13_set_25
  show RT p l e rmX13_set s m args below meth c x 4 (QM below args s x (fun v : Int32 => some (.int v)) rmX13_set.cells rmX13_set.slots) 0 0 (fX13_set a0 a1 a2 M) 0 [(1, a1), (2, a2)] [] [(0, a0)] [] M
  unfold fX13_set
  refine r_iload_n (pc := 0) E dX13_set_0 rfl 0 rfl ?_
  refine r_if_lt (pc := 1) (tgt := 23) E dX13_set_1 (by decide) ?_ ?_
  · exact r_sub [] [] [] rfl rfl rfl (hL23 _)
  · refine r_iload_n (pc := 4) E dX13_set_4 rfl 0 rfl ?_
    refine r_aload_n (pc := 5) E dX13_set_5 rfl 0 rfl ?_
    refine r_getI (pc := 6) E fd_13_1 wf_RX13_150 dX13_set_6 (fun v6 => ?_)
    refine r_icmp_ge (pc := 9) (tgt := 23) E dX13_set_9 (by decide) ?_ ?_
    · exact r_sub [] [] [] rfl rfl rfl (hL23 _)
    · refine r_iload_n (pc := 12) E dX13_set_12 rfl 1 rfl ?_
      refine r_if_lt (pc := 13) (tgt := 23) E dX13_set_13 (by decide) ?_ ?_
      · exact r_sub [] [] [] rfl rfl rfl (hL23 _)
      · refine r_iload_n (pc := 16) E dX13_set_16 rfl 1 rfl ?_
        refine r_sipush (pc := 17) (v := 255) E dX13_set_17 (by decide) ?_
        refine r_icmp_le (pc := 20) (tgt := 26) E dX13_set_20 (by decide) ?_ ?_
        · refine r_aload_n (pc := 26) E dX13_set_26 rfl 0 rfl ?_
          refine r_getA (pc := 27) E fd_13_0 wf_RX13_7 dX13_set_27 (fun v27 => ?_)
          refine r_iload_n (pc := 30) E dX13_set_30 rfl 0 rfl ?_
          refine r_baload (pc := 31) E dX13_set_31 (fun v31 => ?_)
          refine r_sipush (pc := 32) (v := 255) E dX13_set_32 (by decide) ?_
          refine r_iand (pc := 35) E dX13_set_35 ?_
          refine r_istore_n (pc := 36) (lf := fun v36 => [(3, v36), (1, a1), (2, a2)]) (lg := fun v36 => []) (lk := fun v36 => [(0, a0)]) E dX13_set_36 rfl (by decide) (fun _ => rfl) (fun _ => rfl) (fun _ => rfl) (fun v36 => ?_)
          refine r_aload_n (pc := 37) E dX13_set_37 rfl 0 rfl ?_
          refine r_getA (pc := 38) E fd_13_0 wf_RX13_7 dX13_set_38 (fun v38 => ?_)
          refine r_iload_n (pc := 41) E dX13_set_41 rfl 1 rfl ?_
          refine r_iload_n (pc := 42) E dX13_set_42 rfl 2 rfl ?_
          refine r_i2b (pc := 43) E dX13_set_43 ?_
          refine r_bastore (pc := 44) E dX13_set_44 (fun M44 => ?_)
          refine r_iload_n (pc := 45) E dX13_set_45 rfl 0 rfl ?_
          exact e_int (pc := 46) E dX13_set_46
        · exact r_sub [] [] [] rfl rfl rfl (hL23 _)
def fX13_cut_L12 (M : Mem) : Option (Int32 × Mem) :=
  some ((-2), M)
def fX13_cut (a0 : Option Nat) (a1 : Int32) (M : Mem) : Option (Int32 × Mem) :=
  if a1 < 0 then (
    fX13_cut_L12 M
  ) else (
    bo (gI M a0 13 1) fun v6 =>
    if a1 ≤ v6 then (
      bo (gI M a0 13 1) fun v16 =>
      bn (v16) fun v19 =>
      bo (pI M a0 13 1 a1) fun M22 =>
      some (v19, M22)
    ) else (
      fX13_cut_L12 M
    )
  )
def rmX13_cut : Room := { frames := 0, cells := 0, slots := 0, locals := 0 }
set_option maxRecDepth 100000 in
set_option maxHeartbeats 4000000 in
theorem ctX13_cut (l : Launch) (x : Cx) (a0 : Option Nat) (a1 : Int32) (M : Mem) (v : Int32) (N : Mem) (h : fX13_cut a0 a1 M = some (v, N)) : CT l yX13_cut cX13_cut 3 (some (FieldType.int)) rmX13_cut x [rv x a0, .int a1] M (some (.int v)) N := by
  refine ct_mk (enc := fun v : Int32 => some (.int v)) (li := [(1, a1)]) (ll := []) (lr := [(0, a0)]) (by decide +kernel) (by simp [lg_sl, rv_cat, cat_int, cat_long]) (by simp [flat, lv_args, rv_cat, cat_int, cat_long]) h ?_
  intro p e s m args below meth c E
  have hL12 : ∀ (M : Mem), RT p l e rmX13_cut s m args below meth c x 3 (QM below args s x (fun v : Int32 => some (.int v)) rmX13_cut.cells rmX13_cut.slots) 0 0 (fX13_cut_L12 M) 12 [] [] [] [] M := by
    intro M
    unfold fX13_cut_L12
    refine r_bipush (pc := 12) (v := (-2)) E dX13_cut_12 (by decide) ?_
    exact e_int (pc := 14) E dX13_cut_14
  show RT p l e rmX13_cut s m args below meth c x 3 (QM below args s x (fun v : Int32 => some (.int v)) rmX13_cut.cells rmX13_cut.slots) 0 0 (fX13_cut a0 a1 M) 0 [(1, a1)] [] [(0, a0)] [] M
  unfold fX13_cut
  refine r_iload_n (pc := 0) E dX13_cut_0 rfl 0 rfl ?_
  refine r_if_lt (pc := 1) (tgt := 12) E dX13_cut_1 (by decide) ?_ ?_
  · exact r_sub [] [] [] rfl rfl rfl (hL12 _)
  · refine r_iload_n (pc := 4) E dX13_cut_4 rfl 0 rfl ?_
    refine r_aload_n (pc := 5) E dX13_cut_5 rfl 0 rfl ?_
    refine r_getI (pc := 6) E fd_13_1 wf_RX13_150 dX13_cut_6 (fun v6 => ?_)
    refine r_icmp_le (pc := 9) (tgt := 15) E dX13_cut_9 (by decide) ?_ ?_
    · refine r_aload_n (pc := 15) E dX13_cut_15 rfl 0 rfl ?_
      refine r_getI (pc := 16) E fd_13_1 wf_RX13_150 dX13_cut_16 (fun v16 => ?_)
      refine r_istore_n (pc := 19) (lf := fun v19 => [(2, v19), (1, a1)]) (lg := fun v19 => []) (lk := fun v19 => [(0, a0)]) E dX13_cut_19 rfl (by decide) (fun _ => rfl) (fun _ => rfl) (fun _ => rfl) (fun v19 => ?_)
      refine r_aload_n (pc := 20) E dX13_cut_20 rfl 0 rfl ?_
      refine r_iload_n (pc := 21) E dX13_cut_21 rfl 1 rfl ?_
      refine r_putI (pc := 22) E fd_13_1 wf_RX13_150 dX13_cut_22 (Or.inl rfl) (fun M22 => ?_)
      refine r_iload_n (pc := 25) E dX13_cut_25 rfl 0 rfl ?_
      exact e_int (pc := 26) E dX13_cut_26
    · exact r_sub [] [] [] rfl rfl rfl (hL12 _)
def fX13_again_L26 (M : Mem) : Option (Int32 × Mem) :=
  some ((-2), M)
def fX13_again_B46 (k46 : Option Nat × Int32 × Int32 × Int32 → Mem → Option (Int32 × Mem)) (p0 : Option Nat) (p1 : Int32) (p2 : Int32) (p3 : Int32) (M : Mem) : Option (Int32 × Mem) :=
  if p2 ≤ p3 then (
    bo (gI M p0 13 1) fun v85 =>
    some (v85, M)
  ) else (
    bo (gR M p0 13 0) fun v52 =>
    bo (gI M p0 13 1) fun v56 =>
    bo (gR M p0 13 0) fun v60 =>
    bo (aI M v60 14 (p1 + p3)) fun v66 =>
    bo (wB M v52 v56 v66) fun M67 =>
    bo (gI M67 p0 13 1) fun v70 =>
    bo (pI M67 p0 13 1 (v70 + 1)) fun M75 =>
    bn (p3 + 1) fun v78 =>
    k46 ((p0, p1, p2, v78)) M75
  )
def fX13_again_L46 (p0 : Option Nat) (p1 : Int32) (p2 : Int32) (p3 : Int32) (M : Mem) : Option (Int32 × Mem) :=
  lp (fun k46 (a : Option Nat × Int32 × Int32 × Int32) M => fX13_again_B46 k46 a.1 a.2.1 a.2.2.1 a.2.2.2 M) FU ((p0, p1, p2, p3)) M
def fX13_again (a0 : Option Nat) (a1 : Int32) (a2 : Int32) (M : Mem) : Option (Int32 × Mem) :=
  if a1 < 0 then (
    fX13_again_L26 M
  ) else (
    if a2 < 0 then (
      fX13_again_L26 M
    ) else (
      bo (gI M a0 13 1) fun v10 =>
      if v10 < a1 then (
        fX13_again_L26 M
      ) else (
        bo (gI M a0 13 1) fun v18 =>
        if a2 ≤ (v18 - a1) then (
          bo (gI M a0 13 1) fun v34 =>
          if a2 ≤ (8000 - v34) then (
            bn (0) fun v45 =>
            fX13_again_L46 a0 a1 a2 v45 M
          ) else (
            some ((-4), M)
          )
        ) else (
          fX13_again_L26 M
        )
      )
    )
  )
def rmX13_again : Room := { frames := 0, cells := 0, slots := 0, locals := 0 }
set_option maxRecDepth 100000 in
set_option maxHeartbeats 4000000 in
theorem ctX13_again (l : Launch) (x : Cx) (a0 : Option Nat) (a1 : Int32) (a2 : Int32) (M : Mem) (v : Int32) (N : Mem) (h : fX13_again a0 a1 a2 M = some (v, N)) : CT l yX13_again cX13_again 4 (some (FieldType.int)) rmX13_again x [rv x a0, .int a1, .int a2] M (some (.int v)) N := by
  refine ct_mk (enc := fun v : Int32 => some (.int v)) (li := [(1, a1), (2, a2)]) (ll := []) (lr := [(0, a0)]) (by decide +kernel) (by simp [lg_sl, rv_cat, cat_int, cat_long]) (by simp [flat, lv_args, rv_cat, cat_int, cat_long]) h ?_
  intro p e s m args below meth c E
  have hL26 : ∀ (M : Mem), RT p l e rmX13_again s m args below meth c x 4 (QM below args s x (fun v : Int32 => some (.int v)) rmX13_again.cells rmX13_again.slots) 0 0 (fX13_again_L26 M) 26 [] [] [] [] M := by
    intro M
    unfold fX13_again_L26
    refine r_bipush (pc := 26) (v := (-2)) E dX13_again_26 (by decide) ?_
    exact e_int (pc := 28) E dX13_again_28
  have hL46 : ∀ (p0 : Option Nat) (p1 : Int32) (p2 : Int32) (p3 : Int32) (M : Mem), RT p l e rmX13_again s m args below meth c x 4 (QM below args s x (fun v : Int32 => some (.int v)) rmX13_again.cells rmX13_again.slots) 0 0 (fX13_again_L46 p0 p1 p2 p3 M) 46 [(1, p1), (2, p2), (3, p3)] [] [(0, p0)] [] M := by
    intro p0 p1 p2 p3 M
    refine r_lp (fi := fun a : Option Nat × Int32 × Int32 × Int32 => [(1, a.2.1), (2, a.2.2.1), (3, a.2.2.2)]) (fl := fun a : Option Nat × Int32 × Int32 × Int32 => []) (fr := fun a : Option Nat × Int32 × Int32 × Int32 => [(0, a.1)]) (fs := fun a : Option Nat × Int32 × Int32 × Int32 => []) ?_ FU ((p0, p1, p2, p3)) M
    intro k46 hk46 a M
    obtain ⟨p0, p1, p2, p3⟩ := a
    show RT p l e rmX13_again s m args below meth c x 4 (QM below args s x (fun v : Int32 => some (.int v)) rmX13_again.cells rmX13_again.slots) 0 0 (fX13_again_B46 k46 p0 p1 p2 p3 M) 46 [(1, p1), (2, p2), (3, p3)] [] [(0, p0)] [] M
    unfold fX13_again_B46
    refine r_iload_n (pc := 46) E dX13_again_46 rfl 2 rfl ?_
    refine r_iload_n (pc := 47) E dX13_again_47 rfl 1 rfl ?_
    refine r_icmp_ge (pc := 48) (tgt := 84) E dX13_again_48 (by decide) ?_ ?_
    · refine r_aload_n (pc := 84) E dX13_again_84 rfl 0 rfl ?_
      refine r_getI (pc := 85) E fd_13_1 wf_RX13_150 dX13_again_85 (fun v85 => ?_)
      exact e_int (pc := 88) E dX13_again_88
    · refine r_aload_n (pc := 51) E dX13_again_51 rfl 0 rfl ?_
      refine r_getA (pc := 52) E fd_13_0 wf_RX13_7 dX13_again_52 (fun v52 => ?_)
      refine r_aload_n (pc := 55) E dX13_again_55 rfl 0 rfl ?_
      refine r_getI (pc := 56) E fd_13_1 wf_RX13_150 dX13_again_56 (fun v56 => ?_)
      refine r_aload_n (pc := 59) E dX13_again_59 rfl 0 rfl ?_
      refine r_getA (pc := 60) E fd_13_0 wf_RX13_7 dX13_again_60 (fun v60 => ?_)
      refine r_iload_n (pc := 63) E dX13_again_63 rfl 0 rfl ?_
      refine r_iload_n (pc := 64) E dX13_again_64 rfl 2 rfl ?_
      refine r_iadd (pc := 65) E dX13_again_65 ?_
      refine r_baload (pc := 66) E dX13_again_66 (fun v66 => ?_)
      refine r_bastore (pc := 67) E dX13_again_67 (fun M67 => ?_)
      refine r_aload_n (pc := 68) E dX13_again_68 rfl 0 rfl ?_
      refine r_dup (pc := 69) E dX13_again_69 (rv_cat _ _) ?_
      refine r_getI (pc := 70) E fd_13_1 wf_RX13_150 dX13_again_70 (fun v70 => ?_)
      refine r_iconst (pc := 73) (v := 1) E dX13_again_73 (by decide) ?_
      refine r_iadd (pc := 74) E dX13_again_74 ?_
      refine r_putI (pc := 75) E fd_13_1 wf_RX13_150 dX13_again_75 (Or.inl rfl) (fun M75 => ?_)
      refine r_iinc (pc := 78) (w := 1) (lf := fun v78 => [(3, v78), (1, p1), (2, p2)]) (ll' := []) (lr' := [(0, p0)]) E dX13_again_78 2 rfl (by decide) (by decide) (fun _ => rfl) rfl rfl (fun v78 => ?_)
      refine r_goto (pc := 81) (tgt := 46) E dX13_again_81 (by decide) ?_
      exact r_sub [1, 2, 0] [] [0] rfl rfl rfl (hk46 ((p0, p1, p2, v78)) _)
  show RT p l e rmX13_again s m args below meth c x 4 (QM below args s x (fun v : Int32 => some (.int v)) rmX13_again.cells rmX13_again.slots) 0 0 (fX13_again a0 a1 a2 M) 0 [(1, a1), (2, a2)] [] [(0, a0)] [] M
  unfold fX13_again
  refine r_iload_n (pc := 0) E dX13_again_0 rfl 0 rfl ?_
  refine r_if_lt (pc := 1) (tgt := 26) E dX13_again_1 (by decide) ?_ ?_
  · exact r_sub [] [] [] rfl rfl rfl (hL26 _)
  · refine r_iload_n (pc := 4) E dX13_again_4 rfl 1 rfl ?_
    refine r_if_lt (pc := 5) (tgt := 26) E dX13_again_5 (by decide) ?_ ?_
    · exact r_sub [] [] [] rfl rfl rfl (hL26 _)
    · refine r_iload_n (pc := 8) E dX13_again_8 rfl 0 rfl ?_
      refine r_aload_n (pc := 9) E dX13_again_9 rfl 0 rfl ?_
      refine r_getI (pc := 10) E fd_13_1 wf_RX13_150 dX13_again_10 (fun v10 => ?_)
      refine r_icmp_gt (pc := 13) (tgt := 26) E dX13_again_13 (by decide) ?_ ?_
      · exact r_sub [] [] [] rfl rfl rfl (hL26 _)
      · refine r_iload_n (pc := 16) E dX13_again_16 rfl 1 rfl ?_
        refine r_aload_n (pc := 17) E dX13_again_17 rfl 0 rfl ?_
        refine r_getI (pc := 18) E fd_13_1 wf_RX13_150 dX13_again_18 (fun v18 => ?_)
        refine r_iload_n (pc := 21) E dX13_again_21 rfl 0 rfl ?_
        refine r_isub (pc := 22) E dX13_again_22 ?_
        refine r_icmp_le (pc := 23) (tgt := 29) E dX13_again_23 (by decide) ?_ ?_
        · refine r_iload_n (pc := 29) E dX13_again_29 rfl 1 rfl ?_
          refine r_sipush (pc := 30) (v := 8000) E dX13_again_30 (by decide) ?_
          refine r_aload_n (pc := 33) E dX13_again_33 rfl 0 rfl ?_
          refine r_getI (pc := 34) E fd_13_1 wf_RX13_150 dX13_again_34 (fun v34 => ?_)
          refine r_isub (pc := 37) E dX13_again_37 ?_
          refine r_icmp_le (pc := 38) (tgt := 44) E dX13_again_38 (by decide) ?_ ?_
          · refine r_iconst (pc := 44) (v := 0) E dX13_again_44 (by decide) ?_
            refine r_istore_n (pc := 45) (lf := fun v45 => [(3, v45), (1, a1), (2, a2)]) (lg := fun v45 => []) (lk := fun v45 => [(0, a0)]) E dX13_again_45 rfl (by decide) (fun _ => rfl) (fun _ => rfl) (fun _ => rfl) (fun v45 => ?_)
            exact r_sub [1, 2, 0] [] [0] rfl rfl rfl (hL46 a0 a1 a2 v45 _)
          · refine r_bipush (pc := 41) (v := (-4)) E dX13_again_41 (by decide) ?_
            exact e_int (pc := 43) E dX13_again_43
        · exact r_sub [] [] [] rfl rfl rfl (hL26 _)
def fX13_swap_B25 (k25 : Option Nat × Int32 × Int32 → Mem → Option (Int32 × Mem)) (p0 : Option Nat) (p1 : Int32) (p2 : Int32) (M : Mem) : Option (Int32 × Mem) :=
  if p1 ≤ p2 then (
    bo (gI M p0 13 1) fun v63 =>
    bn (v63) fun v66 =>
    bo (gI M p0 13 3) fun v69 =>
    bo (pI M p0 13 1 v69) fun M72 =>
    bo (pI M72 p0 13 3 v66) fun M77 =>
    bo (gI M77 p0 13 1) fun v81 =>
    some (v81, M77)
  ) else (
    bo (gR M p0 13 0) fun v31 =>
    bo (aI M v31 14 p2) fun v35 =>
    bn (v35) fun v36 =>
    bo (gR M p0 13 0) fun v38 =>
    bo (gR M p0 13 2) fun v43 =>
    bo (aI M v43 14 p2) fun v47 =>
    bo (wB M v38 p2 v47) fun M48 =>
    bo (gR M48 p0 13 2) fun v50 =>
    bo (wB M48 v50 p2 v36) fun M55 =>
    bn (p2 + 1) fun v56 =>
    k25 ((p0, p1, v56)) M55
  )
def fX13_swap_L25 (p0 : Option Nat) (p1 : Int32) (p2 : Int32) (M : Mem) : Option (Int32 × Mem) :=
  lp (fun k25 (a : Option Nat × Int32 × Int32) M => fX13_swap_B25 k25 a.1 a.2.1 a.2.2 M) FU ((p0, p1, p2)) M
def fX13_swap_L22 (p0 : Option Nat) (q0 : Int32) (M : Mem) : Option (Int32 × Mem) :=
  bn (q0) fun v22 =>
  bn (0) fun v24 =>
  fX13_swap_L25 p0 v22 v24 M
def fX13_swap (a0 : Option Nat) (M : Mem) : Option (Int32 × Mem) :=
  bo (gI M a0 13 1) fun v1 =>
  bo (gI M a0 13 3) fun v5 =>
  if v1 ≤ v5 then (
    bo (gI M a0 13 3) fun v19 =>
    fX13_swap_L22 a0 v19 M
  ) else (
    bo (gI M a0 13 1) fun v12 =>
    fX13_swap_L22 a0 v12 M
  )
def rmX13_swap : Room := { frames := 0, cells := 0, slots := 0, locals := 0 }
set_option maxRecDepth 100000 in
set_option maxHeartbeats 4000000 in
theorem ctX13_swap (l : Launch) (x : Cx) (a0 : Option Nat) (M : Mem) (v : Int32) (N : Mem) (h : fX13_swap a0 M = some (v, N)) : CT l yX13_swap cX13_swap 4 (some (FieldType.int)) rmX13_swap x [rv x a0] M (some (.int v)) N := by
  refine ct_mk (enc := fun v : Int32 => some (.int v)) (li := []) (ll := []) (lr := [(0, a0)]) (by decide +kernel) (by simp [lg_sl, rv_cat, cat_int, cat_long]) (by simp [flat, lv_args, rv_cat, cat_int, cat_long]) h ?_
  intro p e s m args below meth c E
  have hL25 : ∀ (p0 : Option Nat) (p1 : Int32) (p2 : Int32) (M : Mem), RT p l e rmX13_swap s m args below meth c x 4 (QM below args s x (fun v : Int32 => some (.int v)) rmX13_swap.cells rmX13_swap.slots) 0 0 (fX13_swap_L25 p0 p1 p2 M) 25 [(1, p1), (2, p2)] [] [(0, p0)] [] M := by
    intro p0 p1 p2 M
    refine r_lp (fi := fun a : Option Nat × Int32 × Int32 => [(1, a.2.1), (2, a.2.2)]) (fl := fun a : Option Nat × Int32 × Int32 => []) (fr := fun a : Option Nat × Int32 × Int32 => [(0, a.1)]) (fs := fun a : Option Nat × Int32 × Int32 => []) ?_ FU ((p0, p1, p2)) M
    intro k25 hk25 a M
    obtain ⟨p0, p1, p2⟩ := a
    show RT p l e rmX13_swap s m args below meth c x 4 (QM below args s x (fun v : Int32 => some (.int v)) rmX13_swap.cells rmX13_swap.slots) 0 0 (fX13_swap_B25 k25 p0 p1 p2 M) 25 [(1, p1), (2, p2)] [] [(0, p0)] [] M
    unfold fX13_swap_B25
    refine r_iload_n (pc := 25) E dX13_swap_25 rfl 1 rfl ?_
    refine r_iload_n (pc := 26) E dX13_swap_26 rfl 0 rfl ?_
    refine r_icmp_ge (pc := 27) (tgt := 62) E dX13_swap_27 (by decide) ?_ ?_
    · refine r_aload_n (pc := 62) E dX13_swap_62 rfl 0 rfl ?_
      refine r_getI (pc := 63) E fd_13_1 wf_RX13_150 dX13_swap_63 (fun v63 => ?_)
      refine r_istore_n (pc := 66) (lf := fun v66 => [(2, v66), (1, p1)]) (lg := fun v66 => []) (lk := fun v66 => [(0, p0)]) E dX13_swap_66 rfl (by decide) (fun _ => rfl) (fun _ => rfl) (fun _ => rfl) (fun v66 => ?_)
      refine r_aload_n (pc := 67) E dX13_swap_67 rfl 0 rfl ?_
      refine r_aload_n (pc := 68) E dX13_swap_68 rfl 0 rfl ?_
      refine r_getI (pc := 69) E fd_13_3 wf_RX13_155 dX13_swap_69 (fun v69 => ?_)
      refine r_putI (pc := 72) E fd_13_1 wf_RX13_150 dX13_swap_72 (Or.inl rfl) (fun M72 => ?_)
      refine r_aload_n (pc := 75) E dX13_swap_75 rfl 0 rfl ?_
      refine r_iload_n (pc := 76) E dX13_swap_76 rfl 0 rfl ?_
      refine r_putI (pc := 77) E fd_13_3 wf_RX13_155 dX13_swap_77 (Or.inl rfl) (fun M77 => ?_)
      refine r_aload_n (pc := 80) E dX13_swap_80 rfl 0 rfl ?_
      refine r_getI (pc := 81) E fd_13_1 wf_RX13_150 dX13_swap_81 (fun v81 => ?_)
      exact e_int (pc := 84) E dX13_swap_84
    · refine r_aload_n (pc := 30) E dX13_swap_30 rfl 0 rfl ?_
      refine r_getA (pc := 31) E fd_13_0 wf_RX13_7 dX13_swap_31 (fun v31 => ?_)
      refine r_iload_n (pc := 34) E dX13_swap_34 rfl 1 rfl ?_
      refine r_baload (pc := 35) E dX13_swap_35 (fun v35 => ?_)
      refine r_istore_n (pc := 36) (lf := fun v36 => [(3, v36), (1, p1), (2, p2)]) (lg := fun v36 => []) (lk := fun v36 => [(0, p0)]) E dX13_swap_36 rfl (by decide) (fun _ => rfl) (fun _ => rfl) (fun _ => rfl) (fun v36 => ?_)
      refine r_aload_n (pc := 37) E dX13_swap_37 rfl 0 rfl ?_
      refine r_getA (pc := 38) E fd_13_0 wf_RX13_7 dX13_swap_38 (fun v38 => ?_)
      refine r_iload_n (pc := 41) E dX13_swap_41 rfl 2 rfl ?_
      refine r_aload_n (pc := 42) E dX13_swap_42 rfl 0 rfl ?_
      refine r_getA (pc := 43) E fd_13_2 wf_RX13_13 dX13_swap_43 (fun v43 => ?_)
      refine r_iload_n (pc := 46) E dX13_swap_46 rfl 2 rfl ?_
      refine r_baload (pc := 47) E dX13_swap_47 (fun v47 => ?_)
      refine r_bastore (pc := 48) E dX13_swap_48 (fun M48 => ?_)
      refine r_aload_n (pc := 49) E dX13_swap_49 rfl 0 rfl ?_
      refine r_getA (pc := 50) E fd_13_2 wf_RX13_13 dX13_swap_50 (fun v50 => ?_)
      refine r_iload_n (pc := 53) E dX13_swap_53 rfl 2 rfl ?_
      refine r_iload_n (pc := 54) E dX13_swap_54 rfl 0 rfl ?_
      refine r_bastore (pc := 55) E dX13_swap_55 (fun M55 => ?_)
      refine r_iinc (pc := 56) (w := 1) (lf := fun v56 => [(2, v56), (3, v36), (1, p1)]) (ll' := []) (lr' := [(0, p0)]) E dX13_swap_56 2 rfl (by decide) (by decide) (fun _ => rfl) rfl rfl (fun v56 => ?_)
      refine r_goto (pc := 59) (tgt := 25) E dX13_swap_59 (by decide) ?_
      exact r_sub [2, 0] [] [0] rfl rfl rfl (hk25 ((p0, p1, v56)) _)
  have hL22 : ∀ (p0 : Option Nat) (q0 : Int32) (M : Mem), RT p l e rmX13_swap s m args below meth c x 4 (QM below args s x (fun v : Int32 => some (.int v)) rmX13_swap.cells rmX13_swap.slots) 0 0 (fX13_swap_L22 p0 q0 M) 22 [] [] [(0, p0)] [.int q0] M := by
    intro p0 q0 M
    unfold fX13_swap_L22
    refine r_istore_n (pc := 22) (lf := fun v22 => [(1, v22)]) (lg := fun v22 => []) (lk := fun v22 => [(0, p0)]) E dX13_swap_22 rfl (by decide) (fun _ => rfl) (fun _ => rfl) (fun _ => rfl) (fun v22 => ?_)
    refine r_iconst (pc := 23) (v := 0) E dX13_swap_23 (by decide) ?_
    refine r_istore_n (pc := 24) (lf := fun v24 => [(2, v24), (1, v22)]) (lg := fun v24 => []) (lk := fun v24 => [(0, p0)]) E dX13_swap_24 rfl (by decide) (fun _ => rfl) (fun _ => rfl) (fun _ => rfl) (fun v24 => ?_)
    exact r_sub [1, 0] [] [0] rfl rfl rfl (hL25 p0 v22 v24 _)
  show RT p l e rmX13_swap s m args below meth c x 4 (QM below args s x (fun v : Int32 => some (.int v)) rmX13_swap.cells rmX13_swap.slots) 0 0 (fX13_swap a0 M) 0 [] [] [(0, a0)] [] M
  unfold fX13_swap
  refine r_aload_n (pc := 0) E dX13_swap_0 rfl 0 rfl ?_
  refine r_getI (pc := 1) E fd_13_1 wf_RX13_150 dX13_swap_1 (fun v1 => ?_)
  refine r_aload_n (pc := 4) E dX13_swap_4 rfl 0 rfl ?_
  refine r_getI (pc := 5) E fd_13_3 wf_RX13_155 dX13_swap_5 (fun v5 => ?_)
  refine r_icmp_le (pc := 8) (tgt := 18) E dX13_swap_8 (by decide) ?_ ?_
  · refine r_aload_n (pc := 18) E dX13_swap_18 rfl 0 rfl ?_
    refine r_getI (pc := 19) E fd_13_3 wf_RX13_155 dX13_swap_19 (fun v19 => ?_)
    exact r_sub [] [] [0] rfl rfl rfl (hL22 a0 v19 _)
  · refine r_aload_n (pc := 11) E dX13_swap_11 rfl 0 rfl ?_
    refine r_getI (pc := 12) E fd_13_1 wf_RX13_150 dX13_swap_12 (fun v12 => ?_)
    refine r_goto (pc := 15) (tgt := 22) E dX13_swap_15 (by decide) ?_
    exact r_sub [] [] [0] rfl rfl rfl (hL22 a0 v12 _)
def fX13_differ_L70 (q0 : Int32) (M : Mem) : Option (Int32 × Mem) :=
  some (q0, M)
def fX13_differ_B25 (k25 : Option Nat × Int32 × Int32 → Mem → Option (Int32 × Mem)) (p0 : Option Nat) (p1 : Int32) (p2 : Int32) (M : Mem) : Option (Int32 × Mem) :=
  if p1 ≤ p2 then (
    bo (gI M p0 13 1) fun v54 =>
    bo (gI M p0 13 3) fun v58 =>
    if v54 = v58 then (
      fX13_differ_L70 ((-3)) M
    ) else (
      fX13_differ_L70 p1 M
    )
  ) else (
    bo (gR M p0 13 0) fun v31 =>
    bo (aI M v31 14 p2) fun v35 =>
    bo (gR M p0 13 2) fun v37 =>
    bo (aI M v37 14 p2) fun v41 =>
    if v35 = v41 then (
      bn (p2 + 1) fun v47 =>
      k25 ((p0, p1, v47)) M
    ) else (
      some (p2, M)
    )
  )
def fX13_differ_L25 (p0 : Option Nat) (p1 : Int32) (p2 : Int32) (M : Mem) : Option (Int32 × Mem) :=
  lp (fun k25 (a : Option Nat × Int32 × Int32) M => fX13_differ_B25 k25 a.1 a.2.1 a.2.2 M) FU ((p0, p1, p2)) M
def fX13_differ_L22 (p0 : Option Nat) (q0 : Int32) (M : Mem) : Option (Int32 × Mem) :=
  bn (q0) fun v22 =>
  bn (0) fun v24 =>
  fX13_differ_L25 p0 v22 v24 M
def fX13_differ (a0 : Option Nat) (M : Mem) : Option (Int32 × Mem) :=
  bo (gI M a0 13 1) fun v1 =>
  bo (gI M a0 13 3) fun v5 =>
  if v5 ≤ v1 then (
    bo (gI M a0 13 3) fun v19 =>
    fX13_differ_L22 a0 v19 M
  ) else (
    bo (gI M a0 13 1) fun v12 =>
    fX13_differ_L22 a0 v12 M
  )
def rmX13_differ : Room := { frames := 0, cells := 0, slots := 0, locals := 0 }
set_option maxRecDepth 100000 in
set_option maxHeartbeats 4000000 in
theorem ctX13_differ (l : Launch) (x : Cx) (a0 : Option Nat) (M : Mem) (v : Int32) (N : Mem) (h : fX13_differ a0 M = some (v, N)) : CT l yX13_differ cX13_differ 3 (some (FieldType.int)) rmX13_differ x [rv x a0] M (some (.int v)) N := by
  refine ct_mk (enc := fun v : Int32 => some (.int v)) (li := []) (ll := []) (lr := [(0, a0)]) (by decide +kernel) (by simp [lg_sl, rv_cat, cat_int, cat_long]) (by simp [flat, lv_args, rv_cat, cat_int, cat_long]) h ?_
  intro p e s m args below meth c E
  have hL70 : ∀ (q0 : Int32) (M : Mem), RT p l e rmX13_differ s m args below meth c x 3 (QM below args s x (fun v : Int32 => some (.int v)) rmX13_differ.cells rmX13_differ.slots) 0 0 (fX13_differ_L70 q0 M) 70 [] [] [] [.int q0] M := by
    intro q0 M
    unfold fX13_differ_L70
    exact e_int (pc := 70) E dX13_differ_70
  have hL25 : ∀ (p0 : Option Nat) (p1 : Int32) (p2 : Int32) (M : Mem), RT p l e rmX13_differ s m args below meth c x 3 (QM below args s x (fun v : Int32 => some (.int v)) rmX13_differ.cells rmX13_differ.slots) 0 0 (fX13_differ_L25 p0 p1 p2 M) 25 [(1, p1), (2, p2)] [] [(0, p0)] [] M := by
    intro p0 p1 p2 M
    refine r_lp (fi := fun a : Option Nat × Int32 × Int32 => [(1, a.2.1), (2, a.2.2)]) (fl := fun a : Option Nat × Int32 × Int32 => []) (fr := fun a : Option Nat × Int32 × Int32 => [(0, a.1)]) (fs := fun a : Option Nat × Int32 × Int32 => []) ?_ FU ((p0, p1, p2)) M
    intro k25 hk25 a M
    obtain ⟨p0, p1, p2⟩ := a
    show RT p l e rmX13_differ s m args below meth c x 3 (QM below args s x (fun v : Int32 => some (.int v)) rmX13_differ.cells rmX13_differ.slots) 0 0 (fX13_differ_B25 k25 p0 p1 p2 M) 25 [(1, p1), (2, p2)] [] [(0, p0)] [] M
    unfold fX13_differ_B25
    refine r_iload_n (pc := 25) E dX13_differ_25 rfl 1 rfl ?_
    refine r_iload_n (pc := 26) E dX13_differ_26 rfl 0 rfl ?_
    refine r_icmp_ge (pc := 27) (tgt := 53) E dX13_differ_27 (by decide) ?_ ?_
    · refine r_aload_n (pc := 53) E dX13_differ_53 rfl 0 rfl ?_
      refine r_getI (pc := 54) E fd_13_1 wf_RX13_150 dX13_differ_54 (fun v54 => ?_)
      refine r_aload_n (pc := 57) E dX13_differ_57 rfl 0 rfl ?_
      refine r_getI (pc := 58) E fd_13_3 wf_RX13_155 dX13_differ_58 (fun v58 => ?_)
      refine r_icmp_ne (pc := 61) (tgt := 69) E dX13_differ_61 (by decide) ?_ ?_
      · refine r_iload_n (pc := 69) E dX13_differ_69 rfl 0 rfl ?_
        exact r_sub [] [] [] rfl rfl rfl (hL70 p1 _)
      · refine r_bipush (pc := 64) (v := (-3)) E dX13_differ_64 (by decide) ?_
        refine r_goto (pc := 66) (tgt := 70) E dX13_differ_66 (by decide) ?_
        exact r_sub [] [] [] rfl rfl rfl (hL70 ((-3)) _)
    · refine r_aload_n (pc := 30) E dX13_differ_30 rfl 0 rfl ?_
      refine r_getA (pc := 31) E fd_13_0 wf_RX13_7 dX13_differ_31 (fun v31 => ?_)
      refine r_iload_n (pc := 34) E dX13_differ_34 rfl 1 rfl ?_
      refine r_baload (pc := 35) E dX13_differ_35 (fun v35 => ?_)
      refine r_aload_n (pc := 36) E dX13_differ_36 rfl 0 rfl ?_
      refine r_getA (pc := 37) E fd_13_2 wf_RX13_13 dX13_differ_37 (fun v37 => ?_)
      refine r_iload_n (pc := 40) E dX13_differ_40 rfl 1 rfl ?_
      refine r_baload (pc := 41) E dX13_differ_41 (fun v41 => ?_)
      refine r_icmp_eq (pc := 42) (tgt := 47) E dX13_differ_42 (by decide) ?_ ?_
      · refine r_iinc (pc := 47) (w := 1) (lf := fun v47 => [(2, v47), (1, p1)]) (ll' := []) (lr' := [(0, p0)]) E dX13_differ_47 1 rfl (by decide) (by decide) (fun _ => rfl) rfl rfl (fun v47 => ?_)
        refine r_goto (pc := 50) (tgt := 25) E dX13_differ_50 (by decide) ?_
        exact r_sub [1, 0] [] [0] rfl rfl rfl (hk25 ((p0, p1, v47)) _)
      · refine r_iload_n (pc := 45) E dX13_differ_45 rfl 1 rfl ?_
        exact e_int (pc := 46) E dX13_differ_46
  have hL22 : ∀ (p0 : Option Nat) (q0 : Int32) (M : Mem), RT p l e rmX13_differ s m args below meth c x 3 (QM below args s x (fun v : Int32 => some (.int v)) rmX13_differ.cells rmX13_differ.slots) 0 0 (fX13_differ_L22 p0 q0 M) 22 [] [] [(0, p0)] [.int q0] M := by
    intro p0 q0 M
    unfold fX13_differ_L22
    refine r_istore_n (pc := 22) (lf := fun v22 => [(1, v22)]) (lg := fun v22 => []) (lk := fun v22 => [(0, p0)]) E dX13_differ_22 rfl (by decide) (fun _ => rfl) (fun _ => rfl) (fun _ => rfl) (fun v22 => ?_)
    refine r_iconst (pc := 23) (v := 0) E dX13_differ_23 (by decide) ?_
    refine r_istore_n (pc := 24) (lf := fun v24 => [(2, v24), (1, v22)]) (lg := fun v24 => []) (lk := fun v24 => [(0, p0)]) E dX13_differ_24 rfl (by decide) (fun _ => rfl) (fun _ => rfl) (fun _ => rfl) (fun v24 => ?_)
    exact r_sub [1, 0] [] [0] rfl rfl rfl (hL25 p0 v22 v24 _)
  show RT p l e rmX13_differ s m args below meth c x 3 (QM below args s x (fun v : Int32 => some (.int v)) rmX13_differ.cells rmX13_differ.slots) 0 0 (fX13_differ a0 M) 0 [] [] [(0, a0)] [] M
  unfold fX13_differ
  refine r_aload_n (pc := 0) E dX13_differ_0 rfl 0 rfl ?_
  refine r_getI (pc := 1) E fd_13_1 wf_RX13_150 dX13_differ_1 (fun v1 => ?_)
  refine r_aload_n (pc := 4) E dX13_differ_4 rfl 0 rfl ?_
  refine r_getI (pc := 5) E fd_13_3 wf_RX13_155 dX13_differ_5 (fun v5 => ?_)
  refine r_icmp_ge (pc := 8) (tgt := 18) E dX13_differ_8 (by decide) ?_ ?_
  · refine r_aload_n (pc := 18) E dX13_differ_18 rfl 0 rfl ?_
    refine r_getI (pc := 19) E fd_13_3 wf_RX13_155 dX13_differ_19 (fun v19 => ?_)
    exact r_sub [] [] [0] rfl rfl rfl (hL22 a0 v19 _)
  · refine r_aload_n (pc := 11) E dX13_differ_11 rfl 0 rfl ?_
    refine r_getI (pc := 12) E fd_13_1 wf_RX13_150 dX13_differ_12 (fun v12 => ?_)
    refine r_goto (pc := 15) (tgt := 22) E dX13_differ_15 (by decide) ?_
    exact r_sub [] [] [0] rfl rfl rfl (hL22 a0 v12 _)
def fX13_out_L27 (q0 : Int32) (M : Mem) : Option (Int32 × Mem) :=
  some (q0, M)
def fX13_out_L12 (M : Mem) : Option (Int32 × Mem) :=
  fX13_out_L27 ((-2)) M
def fX13_out (a0 : Option Nat) (a1 : Int32) (M : Mem) : Option (Int32 × Mem) :=
  if a1 < 0 then (
    fX13_out_L12 M
  ) else (
    bo (gI M a0 13 3) fun v6 =>
    if a1 < v6 then (
      bo (gR M a0 13 2) fun v18 =>
      bo (aI M v18 14 a1) fun v22 =>
      fX13_out_L27 (v22 &&& 255) M
    ) else (
      fX13_out_L12 M
    )
  )
def rmX13_out : Room := { frames := 0, cells := 0, slots := 0, locals := 0 }
set_option maxRecDepth 100000 in
set_option maxHeartbeats 4000000 in
theorem ctX13_out (l : Launch) (x : Cx) (a0 : Option Nat) (a1 : Int32) (M : Mem) (v : Int32) (N : Mem) (h : fX13_out a0 a1 M = some (v, N)) : CT l yX13_out cX13_out 2 (some (FieldType.int)) rmX13_out x [rv x a0, .int a1] M (some (.int v)) N := by
  refine ct_mk (enc := fun v : Int32 => some (.int v)) (li := [(1, a1)]) (ll := []) (lr := [(0, a0)]) (by decide +kernel) (by simp [lg_sl, rv_cat, cat_int, cat_long]) (by simp [flat, lv_args, rv_cat, cat_int, cat_long]) h ?_
  intro p e s m args below meth c E
  have hL27 : ∀ (q0 : Int32) (M : Mem), RT p l e rmX13_out s m args below meth c x 2 (QM below args s x (fun v : Int32 => some (.int v)) rmX13_out.cells rmX13_out.slots) 0 0 (fX13_out_L27 q0 M) 27 [] [] [] [.int q0] M := by
    intro q0 M
    unfold fX13_out_L27
    exact e_int (pc := 27) E dX13_out_27
  have hL12 : ∀ (M : Mem), RT p l e rmX13_out s m args below meth c x 2 (QM below args s x (fun v : Int32 => some (.int v)) rmX13_out.cells rmX13_out.slots) 0 0 (fX13_out_L12 M) 12 [] [] [] [] M := by
    intro M
    unfold fX13_out_L12
    refine r_bipush (pc := 12) (v := (-2)) E dX13_out_12 (by decide) ?_
    refine r_goto (pc := 14) (tgt := 27) E dX13_out_14 (by decide) ?_
    exact r_sub [] [] [] rfl rfl rfl (hL27 ((-2)) _)
  show RT p l e rmX13_out s m args below meth c x 2 (QM below args s x (fun v : Int32 => some (.int v)) rmX13_out.cells rmX13_out.slots) 0 0 (fX13_out a0 a1 M) 0 [(1, a1)] [] [(0, a0)] [] M
  unfold fX13_out
  refine r_iload_n (pc := 0) E dX13_out_0 rfl 0 rfl ?_
  refine r_if_lt (pc := 1) (tgt := 12) E dX13_out_1 (by decide) ?_ ?_
  · exact r_sub [] [] [] rfl rfl rfl (hL12 _)
  · refine r_iload_n (pc := 4) E dX13_out_4 rfl 0 rfl ?_
    refine r_aload_n (pc := 5) E dX13_out_5 rfl 0 rfl ?_
    refine r_getI (pc := 6) E fd_13_3 wf_RX13_155 dX13_out_6 (fun v6 => ?_)
    refine r_icmp_lt (pc := 9) (tgt := 17) E dX13_out_9 (by decide) ?_ ?_
    · refine r_aload_n (pc := 17) E dX13_out_17 rfl 0 rfl ?_
      refine r_getA (pc := 18) E fd_13_2 wf_RX13_13 dX13_out_18 (fun v18 => ?_)
      refine r_iload_n (pc := 21) E dX13_out_21 rfl 0 rfl ?_
      refine r_baload (pc := 22) E dX13_out_22 (fun v22 => ?_)
      refine r_sipush (pc := 23) (v := 255) E dX13_out_23 (by decide) ?_
      refine r_iand (pc := 26) E dX13_out_26 ?_
      exact r_sub [] [] [] rfl rfl rfl (hL27 (v22 &&& 255) _)
    · exact r_sub [] [] [] rfl rfl rfl (hL12 _)
def fX13_place (a0 : Option Nat) (M : Mem) : Option (Int32 × Mem) :=
  bo (gI M a0 13 5) fun v1 =>
  some (v1, M)
def rmX13_place : Room := { frames := 0, cells := 0, slots := 0, locals := 0 }
set_option maxRecDepth 100000 in
set_option maxHeartbeats 4000000 in
theorem ctX13_place (l : Launch) (x : Cx) (a0 : Option Nat) (M : Mem) (v : Int32) (N : Mem) (h : fX13_place a0 M = some (v, N)) : CT l yX13_place cX13_place 1 (some (FieldType.int)) rmX13_place x [rv x a0] M (some (.int v)) N := by
  refine ct_mk (enc := fun v : Int32 => some (.int v)) (li := []) (ll := []) (lr := [(0, a0)]) (by decide +kernel) (by simp [lg_sl, rv_cat, cat_int, cat_long]) (by simp [flat, lv_args, rv_cat, cat_int, cat_long]) h ?_
  intro p e s m args below meth c E
  show RT p l e rmX13_place s m args below meth c x 1 (QM below args s x (fun v : Int32 => some (.int v)) rmX13_place.cells rmX13_place.slots) 0 0 (fX13_place a0 M) 0 [] [] [(0, a0)] [] M
  unfold fX13_place
  refine r_aload_n (pc := 0) E dX13_place_0 rfl 0 rfl ?_
  refine r_getI (pc := 1) E fd_13_5 wf_RX13_16 dX13_place_1 (fun v1 => ?_)
  exact e_int (pc := 4) E dX13_place_4
def fX13_fails_L17 (M : Mem) : Option (Int32 × Mem) :=
  rtZ 0 M
def fX13_fails (a0 : Option Nat) (a1 : Int32) (a2 : Int32) (M : Mem) : Option (Int32 × Mem) :=
  bo (gI M a0 13 4) fun v1 =>
  if v1 = 0 then (
    bo (pI M a0 13 4 a1) fun M9 =>
    bo (pI M9 a0 13 5 a2) fun M14 =>
    fX13_fails_L17 M14
  ) else (
    fX13_fails_L17 M
  )
def rmX13_fails : Room := { frames := 0, cells := 0, slots := 0, locals := 0 }
set_option maxRecDepth 100000 in
set_option maxHeartbeats 4000000 in
theorem ctX13_fails (l : Launch) (x : Cx) (a0 : Option Nat) (a1 : Int32) (a2 : Int32) (M : Mem) (v : Int32) (N : Mem) (h : fX13_fails a0 a1 a2 M = some (v, N)) : CT l yX13_fails cX13_fails 3 (some (FieldType.boolean)) rmX13_fails x [rv x a0, .int a1, .int a2] M (some (.int v)) N := by
  refine ct_mk (enc := fun v : Int32 => some (.int v)) (li := [(1, a1), (2, a2)]) (ll := []) (lr := [(0, a0)]) (by decide +kernel) (by simp [lg_sl, rv_cat, cat_int, cat_long]) (by simp [flat, lv_args, rv_cat, cat_int, cat_long]) h ?_
  intro p e s m args below meth c E
  have hL17 : ∀ (M : Mem), RT p l e rmX13_fails s m args below meth c x 3 (QM below args s x (fun v : Int32 => some (.int v)) rmX13_fails.cells rmX13_fails.slots) 0 0 (fX13_fails_L17 M) 17 [] [] [] [] M := by
    intro M
    unfold fX13_fails_L17
    refine r_iconst (pc := 17) (v := 0) E dX13_fails_17 (by decide) ?_
    exact e_bool (pc := 18) E dX13_fails_18
  show RT p l e rmX13_fails s m args below meth c x 3 (QM below args s x (fun v : Int32 => some (.int v)) rmX13_fails.cells rmX13_fails.slots) 0 0 (fX13_fails a0 a1 a2 M) 0 [(1, a1), (2, a2)] [] [(0, a0)] [] M
  unfold fX13_fails
  refine r_aload_n (pc := 0) E dX13_fails_0 rfl 0 rfl ?_
  refine r_getI (pc := 1) E fd_13_4 wf_RX13_158 dX13_fails_1 (fun v1 => ?_)
  refine r_if_ne (pc := 4) (tgt := 17) E dX13_fails_4 (by decide) ?_ ?_
  · exact r_sub [] [] [] rfl rfl rfl (hL17 _)
  · refine r_aload_n (pc := 7) E dX13_fails_7 rfl 0 rfl ?_
    refine r_iload_n (pc := 8) E dX13_fails_8 rfl 0 rfl ?_
    refine r_putI (pc := 9) E fd_13_4 wf_RX13_158 dX13_fails_9 (Or.inl rfl) (fun M9 => ?_)
    refine r_aload_n (pc := 12) E dX13_fails_12 rfl 0 rfl ?_
    refine r_iload_n (pc := 13) E dX13_fails_13 rfl 1 rfl ?_
    refine r_putI (pc := 14) E fd_13_5 wf_RX13_16 dX13_fails_14 (Or.inl rfl) (fun M14 => ?_)
    exact r_sub [] [] [] rfl rfl rfl (hL17 _)
def fX13_turn (a0 : Int64) (a2 : Int32) (M : Mem) : Option (Int64 × Mem) :=
  some ((shlJ a0 a2) ||| (ushJ a0 (64 - a2)), M)
def rmX13_turn : Room := { frames := 0, cells := 0, slots := 0, locals := 0 }
set_option maxRecDepth 100000 in
set_option maxHeartbeats 4000000 in
theorem ctX13_turn (l : Launch) (x : Cx) (a0 : Int64) (a2 : Int32) (M : Mem) (v : Int64) (N : Mem) (h : fX13_turn a0 a2 M = some (v, N)) : CT l yX13_turn cX13_turn 3 (some (FieldType.long)) rmX13_turn x [.long a0, .int a2] M (some (.long v)) N := by
  refine ct_mk (enc := fun v : Int64 => some (.long v)) (li := [(2, a2)]) (ll := [(0, a0)]) (lr := []) (by decide +kernel) (by simp [lg_sl, rv_cat, cat_int, cat_long]) (by simp [flat, lv_args, rv_cat, cat_int, cat_long]) h ?_
  intro p e s m args below meth c E
  show RT p l e rmX13_turn s m args below meth c x 3 (QM below args s x (fun v : Int64 => some (.long v)) rmX13_turn.cells rmX13_turn.slots) 0 0 (fX13_turn a0 a2 M) 0 [(2, a2)] [(0, a0)] [] [] M
  unfold fX13_turn
  refine r_lload_n (pc := 0) E dX13_turn_0 rfl 0 rfl ?_
  refine r_iload_n (pc := 1) E dX13_turn_1 rfl 0 rfl ?_
  refine r_lshl (pc := 2) E dX13_turn_2 ?_
  refine r_lload_n (pc := 3) E dX13_turn_3 rfl 0 rfl ?_
  refine r_bipush (pc := 4) (v := 64) E dX13_turn_4 (by decide) ?_
  refine r_iload_n (pc := 6) E dX13_turn_6 rfl 0 rfl ?_
  refine r_isub (pc := 7) E dX13_turn_7 ?_
  refine r_lushr (pc := 8) E dX13_turn_8 ?_
  refine r_lor (pc := 9) E dX13_turn_9 ?_
  exact e_long (pc := 10) E dX13_turn_10
def fX13_round (a0 : Int64) (a2 : Int64) (M : Mem) : Option (Int64 × Mem) :=
  bd (fX13_turn (a0 + (a2 * ((-4417276706812531889)))) 31 M) fun v9 M9 =>
  some (v9 * ((-7046029288634856825)), M9)
def rmX13_round : Room := { frames := 1, cells := 0, slots := 0, locals := 22 }
set_option maxRecDepth 100000 in
set_option maxHeartbeats 4000000 in
theorem ctX13_round (l : Launch) (x : Cx) (a0 : Int64) (a2 : Int64) (M : Mem) (v : Int64) (N : Mem) (h : fX13_round a0 a2 M = some (v, N)) : CT l yX13_round cX13_round 4 (some (FieldType.long)) rmX13_round x [.long a0, .long a2] M (some (.long v)) N := by
  refine ct_mk (enc := fun v : Int64 => some (.long v)) (li := []) (ll := [(0, a0), (2, a2)]) (lr := []) (by decide +kernel) (by simp [lg_sl, rv_cat, cat_int, cat_long]) (by simp [flat, lv_args, rv_cat, cat_int, cat_long]) h ?_
  intro p e s m args below meth c E
  show RT p l e rmX13_round s m args below meth c x 4 (QM below args s x (fun v : Int64 => some (.long v)) rmX13_round.cells rmX13_round.slots) 0 0 (fX13_round a0 a2 M) 0 [] [(0, a0), (2, a2)] [] [] M
  unfold fX13_round
  refine r_lload_n (pc := 0) E dX13_round_0 rfl 0 rfl ?_
  refine r_lload_n (pc := 1) E dX13_round_1 rfl 1 rfl ?_
  refine r_ldc2 (pc := 2) E wk_RX13_161 dX13_round_2 ?_
  refine r_lmul (pc := 5) E dX13_round_5 ?_
  refine r_ladd (pc := 6) E dX13_round_6 ?_
  refine r_bipush (pc := 7) (v := 31) E dX13_round_7 (by decide) ?_
  refine r_kSl (pc := 9) (As := [.long (a0 + (a2 * ((-4417276706812531889)))), .int 31]) (rest := []) E wc_X13_turn wi_RX13 hd_X13_turn wl_RX13_163 wt_X13_turn dX13_round_9 (by decide) (Nat.le_of_ble_eq_true rfl) ⟨rfl, rfl⟩ (ctX13_turn l x _ _ _) rfl (fun v9 M9 => ?_)
  refine r_ldc2 (pc := 12) E wk_RX13_167 dX13_round_12 ?_
  refine r_lmul (pc := 15) E dX13_round_15 ?_
  exact e_long (pc := 16) E dX13_round_16
def fX13_eight_B7 (k7 : Option Nat × Int32 × Int64 × Int32 → Mem → Option (Int64 × Mem)) (p0 : Option Nat) (p1 : Int32) (p3 : Int64) (p5 : Int32) (M : Mem) : Option (Int64 × Mem) :=
  if p5 < 0 then (
    some (p3, M)
  ) else (
    bo (aI M p0 14 (p1 + p5)) fun v21 =>
    bn ((shlJ p3 8) ||| ((v21 &&& 255).toInt64)) fun v28 =>
    bn (p5 + (-1)) fun v29 =>
    k7 ((p0, p1, v28, v29)) M
  )
def fX13_eight_L7 (p0 : Option Nat) (p1 : Int32) (p3 : Int64) (p5 : Int32) (M : Mem) : Option (Int64 × Mem) :=
  lp (fun k7 (a : Option Nat × Int32 × Int64 × Int32) M => fX13_eight_B7 k7 a.1 a.2.1 a.2.2.1 a.2.2.2 M) FU ((p0, p1, p3, p5)) M
def fX13_eight (a0 : Option Nat) (a1 : Int32) (a2 : Int32) (M : Mem) : Option (Int64 × Mem) :=
  bn (0) fun v1 =>
  bn (a2 - 1) fun v5 =>
  fX13_eight_L7 a0 a1 v1 v5 M
def rmX13_eight : Room := { frames := 0, cells := 0, slots := 0, locals := 0 }
set_option maxRecDepth 100000 in
set_option maxHeartbeats 4000000 in
theorem ctX13_eight (l : Launch) (x : Cx) (a0 : Option Nat) (a1 : Int32) (a2 : Int32) (M : Mem) (v : Int64) (N : Mem) (h : fX13_eight a0 a1 a2 M = some (v, N)) : CT l yX13_eight cX13_eight 6 (some (FieldType.long)) rmX13_eight x [rv x a0, .int a1, .int a2] M (some (.long v)) N := by
  refine ct_mk (enc := fun v : Int64 => some (.long v)) (li := [(1, a1), (2, a2)]) (ll := []) (lr := [(0, a0)]) (by decide +kernel) (by simp [lg_sl, rv_cat, cat_int, cat_long]) (by simp [flat, lv_args, rv_cat, cat_int, cat_long]) h ?_
  intro p e s m args below meth c E
  have hL7 : ∀ (p0 : Option Nat) (p1 : Int32) (p3 : Int64) (p5 : Int32) (M : Mem), RT p l e rmX13_eight s m args below meth c x 6 (QM below args s x (fun v : Int64 => some (.long v)) rmX13_eight.cells rmX13_eight.slots) 0 0 (fX13_eight_L7 p0 p1 p3 p5 M) 7 [(1, p1), (5, p5)] [(3, p3)] [(0, p0)] [] M := by
    intro p0 p1 p3 p5 M
    refine r_lp (fi := fun a : Option Nat × Int32 × Int64 × Int32 => [(1, a.2.1), (5, a.2.2.2)]) (fl := fun a : Option Nat × Int32 × Int64 × Int32 => [(3, a.2.2.1)]) (fr := fun a : Option Nat × Int32 × Int64 × Int32 => [(0, a.1)]) (fs := fun a : Option Nat × Int32 × Int64 × Int32 => []) ?_ FU ((p0, p1, p3, p5)) M
    intro k7 hk7 a M
    obtain ⟨p0, p1, p3, p5⟩ := a
    show RT p l e rmX13_eight s m args below meth c x 6 (QM below args s x (fun v : Int64 => some (.long v)) rmX13_eight.cells rmX13_eight.slots) 0 0 (fX13_eight_B7 k7 p0 p1 p3 p5 M) 7 [(1, p1), (5, p5)] [(3, p3)] [(0, p0)] [] M
    unfold fX13_eight_B7
    refine r_iload (pc := 7) E dX13_eight_7 1 rfl ?_
    refine r_if_lt (pc := 9) (tgt := 35) E dX13_eight_9 (by decide) ?_ ?_
    · refine r_lload_n (pc := 35) E dX13_eight_35 rfl 0 rfl ?_
      exact e_long (pc := 36) E dX13_eight_36
    · refine r_lload_n (pc := 12) E dX13_eight_12 rfl 0 rfl ?_
      refine r_bipush (pc := 13) (v := 8) E dX13_eight_13 (by decide) ?_
      refine r_lshl (pc := 15) E dX13_eight_15 ?_
      refine r_aload_n (pc := 16) E dX13_eight_16 rfl 0 rfl ?_
      refine r_iload_n (pc := 17) E dX13_eight_17 rfl 0 rfl ?_
      refine r_iload (pc := 18) E dX13_eight_18 1 rfl ?_
      refine r_iadd (pc := 20) E dX13_eight_20 ?_
      refine r_baload (pc := 21) E dX13_eight_21 (fun v21 => ?_)
      refine r_sipush (pc := 22) (v := 255) E dX13_eight_22 (by decide) ?_
      refine r_iand (pc := 25) E dX13_eight_25 ?_
      refine r_i2l (pc := 26) E dX13_eight_26 ?_
      refine r_lor (pc := 27) E dX13_eight_27 ?_
      refine r_lstore_n (pc := 28) (lf := fun v28 => [(1, p1), (5, p5)]) (lg := fun v28 => [(3, v28)]) (lk := fun v28 => [(0, p0)]) E dX13_eight_28 rfl (by decide) (fun _ => rfl) (fun _ => rfl) (fun _ => rfl) (fun v28 => ?_)
      refine r_iinc (pc := 29) (w := (-1)) (lf := fun v29 => [(5, v29), (1, p1)]) (ll' := [(3, v28)]) (lr' := [(0, p0)]) E dX13_eight_29 1 rfl (by decide) (by decide) (fun _ => rfl) rfl rfl (fun v29 => ?_)
      refine r_goto (pc := 32) (tgt := 7) E dX13_eight_32 (by decide) ?_
      exact r_sub [1, 0] [0] [0] rfl rfl rfl (hk7 ((p0, p1, v28, v29)) _)
  show RT p l e rmX13_eight s m args below meth c x 6 (QM below args s x (fun v : Int64 => some (.long v)) rmX13_eight.cells rmX13_eight.slots) 0 0 (fX13_eight a0 a1 a2 M) 0 [(1, a1), (2, a2)] [] [(0, a0)] [] M
  unfold fX13_eight
  refine r_lconst (pc := 0) (v := 0) E dX13_eight_0 (by decide) ?_
  refine r_lstore_n (pc := 1) (lf := fun v1 => [(1, a1), (2, a2)]) (lg := fun v1 => [(3, v1)]) (lk := fun v1 => [(0, a0)]) E dX13_eight_1 rfl (by decide) (fun _ => rfl) (fun _ => rfl) (fun _ => rfl) (fun v1 => ?_)
  refine r_iload_n (pc := 2) E dX13_eight_2 rfl 1 rfl ?_
  refine r_iconst (pc := 3) (v := 1) E dX13_eight_3 (by decide) ?_
  refine r_isub (pc := 4) E dX13_eight_4 ?_
  refine r_istore (pc := 5) (lf := fun v5 => [(5, v5), (1, a1), (2, a2)]) (lg := fun v5 => [(3, v1)]) (lk := fun v5 => [(0, a0)]) E dX13_eight_5 (by decide) (fun _ => rfl) (fun _ => rfl) (fun _ => rfl) (fun v5 => ?_)
  exact r_sub [1, 0] [0] [0] rfl rfl rfl (hL7 a0 a1 v1 v5 _)
def fX13_sumOf_B314 (k314 : Option Nat × Int32 × Int32 × Int64 → Mem → Option (Int64 × Mem)) (p0 : Option Nat) (p3 : Int32) (p4 : Int32) (p5 : Int64) (M : Mem) : Option (Int64 × Mem) :=
  if p4 ≤ p3 then (
    bn ((p5 ^^^ (ushJ p5 33)) * ((-4417276706812531889))) fun v364 =>
    bn ((v364 ^^^ (ushJ v364 29)) * 1609587929392839161) fun v378 =>
    some (v378 ^^^ (ushJ v378 32), M)
  ) else (
    bo (aI M p0 14 p3) fun v324 =>
    bd (fX13_turn (p5 ^^^ (((v324 &&& 255).toInt64) * 2870177450012600261)) 11 M) fun v337 M337 =>
    bn (v337 * ((-7046029288634856825))) fun v344 =>
    bn (p3 + 1) fun v346 =>
    k314 ((p0, v346, p4, v344)) M337
  )
def fX13_sumOf_L314 (p0 : Option Nat) (p3 : Int32) (p4 : Int32) (p5 : Int64) (M : Mem) : Option (Int64 × Mem) :=
  lp (fun k314 (a : Option Nat × Int32 × Int32 × Int64) M => fX13_sumOf_B314 k314 a.1 a.2.1 a.2.2.1 a.2.2.2 M) FU ((p0, p3, p4, p5)) M
def fX13_sumOf_B231 (k231 : Option Nat × Int32 × Int32 × Int64 → Mem → Option (Int64 × Mem)) (p0 : Option Nat) (p3 : Int32) (p4 : Int32) (p5 : Int64) (M : Mem) : Option (Int64 × Mem) :=
  if (p4 - p3) < 8 then (
    if (p4 - p3) < 4 then (
      fX13_sumOf_L314 p0 p3 p4 p5 M
    ) else (
      bd (fX13_eight p0 p3 4 M) fun v288 M288 =>
      bd (fX13_turn (p5 ^^^ (v288 * ((-7046029288634856825)))) 23 M288) fun v298 M298 =>
      bn ((v298 * ((-4417276706812531889))) + 1609587929392839161) fun v309 =>
      bn (p3 + 4) fun v311 =>
      fX13_sumOf_L314 p0 v311 p4 v309 M298
    )
  ) else (
    bd (fX13_eight p0 p3 8 M) fun v247 M247 =>
    bd (fX13_round 0 v247 M247) fun v250 M250 =>
    bd (fX13_turn (p5 ^^^ v250) 27 M250) fun v256 M256 =>
    bn ((v256 * ((-7046029288634856825))) + ((-8796714831421723037))) fun v267 =>
    bn (p3 + 8) fun v269 =>
    k231 ((p0, v269, p4, v267)) M256
  )
def fX13_sumOf_L231 (p0 : Option Nat) (p3 : Int32) (p4 : Int32) (p5 : Int64) (M : Mem) : Option (Int64 × Mem) :=
  lp (fun k231 (a : Option Nat × Int32 × Int32 × Int64) M => fX13_sumOf_B231 k231 a.1 a.2.1 a.2.2.1 a.2.2.2 M) FU ((p0, p3, p4, p5)) M
def fX13_sumOf_L224 (p0 : Option Nat) (p2 : Int32) (p3 : Int32) (p4 : Int32) (p5 : Int64) (M : Mem) : Option (Int64 × Mem) :=
  bn (p5 + p2.toInt64) fun v229 =>
  fX13_sumOf_L231 p0 p3 p4 v229 M
def fX13_sumOf_B36 (k36 : Option Nat × Int32 × Int32 × Int32 × Int64 × Int64 × Int64 × Int64 → Mem → Option (Int64 × Mem)) (p0 : Option Nat) (p2 : Int32) (p3 : Int32) (p4 : Int32) (p7 : Int64) (p9 : Int64) (p11 : Int64) (p13 : Int64) (M : Mem) : Option (Int64 × Mem) :=
  if (p4 - p3) < 32 then (
    bd (fX13_turn p7 1 M) fun v119 M119 =>
    bd (fX13_turn p9 7 M119) fun v126 M126 =>
    bd (fX13_turn p11 12 M126) fun v134 M134 =>
    bd (fX13_turn p13 18 M134) fun v142 M142 =>
    bn (((v119 + v126) + v134) + v142) fun v146 =>
    bd (fX13_round 0 p7 M142) fun v153 M153 =>
    bn (((v146 ^^^ v153) * ((-7046029288634856825))) + ((-8796714831421723037))) fun v165 =>
    bd (fX13_round 0 p9 M153) fun v172 M172 =>
    bn (((v165 ^^^ v172) * ((-7046029288634856825))) + ((-8796714831421723037))) fun v184 =>
    bd (fX13_round 0 p11 M172) fun v191 M191 =>
    bn (((v184 ^^^ v191) * ((-7046029288634856825))) + ((-8796714831421723037))) fun v203 =>
    bd (fX13_round 0 p13 M191) fun v210 M210 =>
    bn (((v203 ^^^ v210) * ((-7046029288634856825))) + ((-8796714831421723037))) fun v222 =>
    fX13_sumOf_L224 p0 p2 p3 p4 v222 M210
  ) else (
    bd (fX13_eight p0 p3 8 M) fun v51 M51 =>
    bd (fX13_round p7 v51 M51) fun v54 M54 =>
    bn (v54) fun v57 =>
    bd (fX13_eight p0 (p3 + 8) 8 M54) fun v68 M68 =>
    bd (fX13_round p9 v68 M68) fun v71 M71 =>
    bn (v71) fun v74 =>
    bd (fX13_eight p0 (p3 + 16) 8 M71) fun v85 M85 =>
    bd (fX13_round p11 v85 M85) fun v88 M88 =>
    bn (v88) fun v91 =>
    bd (fX13_eight p0 (p3 + 24) 8 M88) fun v102 M102 =>
    bd (fX13_round p13 v102 M102) fun v105 M105 =>
    bn (v105) fun v108 =>
    bn (p3 + 32) fun v110 =>
    k36 ((p0, p2, v110, p4, v57, v74, v91, v108)) M105
  )
def fX13_sumOf_L36 (p0 : Option Nat) (p2 : Int32) (p3 : Int32) (p4 : Int32) (p7 : Int64) (p9 : Int64) (p11 : Int64) (p13 : Int64) (M : Mem) : Option (Int64 × Mem) :=
  lp (fun k36 (a : Option Nat × Int32 × Int32 × Int32 × Int64 × Int64 × Int64 × Int64) M => fX13_sumOf_B36 k36 a.1 a.2.1 a.2.2.1 a.2.2.2.1 a.2.2.2.2.1 a.2.2.2.2.2.1 a.2.2.2.2.2.2.1 a.2.2.2.2.2.2.2 M) FU ((p0, p2, p3, p4, p7, p9, p11, p13)) M
def fX13_sumOf (a0 : Option Nat) (a1 : Int32) (a2 : Int32) (M : Mem) : Option (Int64 × Mem) :=
  bn (a1) fun v1 =>
  bn (a1 + a2) fun v5 =>
  bn (2870177450012600261) fun v10 =>
  if a2 < 32 then (
    fX13_sumOf_L224 a0 a2 v1 v5 v10 M
  ) else (
    bn (6983438078262162902) fun v21 =>
    bn ((-4417276706812531889)) fun v26 =>
    bn (0) fun v29 =>
    bn (7046029288634856825) fun v34 =>
    fX13_sumOf_L36 a0 a2 v1 v5 v21 v26 v29 v34 M
  )
def rmX13_sumOf : Room := { frames := 2, cells := 0, slots := 0, locals := 45 }
set_option maxRecDepth 100000 in
set_option maxHeartbeats 4000000 in
theorem ctX13_sumOf (l : Launch) (x : Cx) (a0 : Option Nat) (a1 : Int32) (a2 : Int32) (M : Mem) (v : Int64) (N : Mem) (h : fX13_sumOf a0 a1 a2 M = some (v, N)) : CT l yX13_sumOf cX13_sumOf 15 (some (FieldType.long)) rmX13_sumOf x [rv x a0, .int a1, .int a2] M (some (.long v)) N := by
  refine ct_mk (enc := fun v : Int64 => some (.long v)) (li := [(1, a1), (2, a2)]) (ll := []) (lr := [(0, a0)]) (by decide +kernel) (by simp [lg_sl, rv_cat, cat_int, cat_long]) (by simp [flat, lv_args, rv_cat, cat_int, cat_long]) h ?_
  intro p e s m args below meth c E
  have hL314 : ∀ (p0 : Option Nat) (p3 : Int32) (p4 : Int32) (p5 : Int64) (M : Mem), RT p l e rmX13_sumOf s m args below meth c x 15 (QM below args s x (fun v : Int64 => some (.long v)) rmX13_sumOf.cells rmX13_sumOf.slots) 0 0 (fX13_sumOf_L314 p0 p3 p4 p5 M) 314 [(3, p3), (4, p4)] [(5, p5)] [(0, p0)] [] M := by
    intro p0 p3 p4 p5 M
    refine r_lp (fi := fun a : Option Nat × Int32 × Int32 × Int64 => [(3, a.2.1), (4, a.2.2.1)]) (fl := fun a : Option Nat × Int32 × Int32 × Int64 => [(5, a.2.2.2)]) (fr := fun a : Option Nat × Int32 × Int32 × Int64 => [(0, a.1)]) (fs := fun a : Option Nat × Int32 × Int32 × Int64 => []) ?_ FU ((p0, p3, p4, p5)) M
    intro k314 hk314 a M
    obtain ⟨p0, p3, p4, p5⟩ := a
    show RT p l e rmX13_sumOf s m args below meth c x 15 (QM below args s x (fun v : Int64 => some (.long v)) rmX13_sumOf.cells rmX13_sumOf.slots) 0 0 (fX13_sumOf_B314 k314 p0 p3 p4 p5 M) 314 [(3, p3), (4, p4)] [(5, p5)] [(0, p0)] [] M
    unfold fX13_sumOf_B314
    refine r_iload_n (pc := 314) E dX13_sumOf_314 rfl 0 rfl ?_
    refine r_iload (pc := 315) E dX13_sumOf_315 1 rfl ?_
    refine r_icmp_ge (pc := 317) (tgt := 352) E dX13_sumOf_317 (by decide) ?_ ?_
    · refine r_lload (pc := 352) E dX13_sumOf_352 0 rfl ?_
      refine r_lload (pc := 354) E dX13_sumOf_354 0 rfl ?_
      refine r_bipush (pc := 356) (v := 33) E dX13_sumOf_356 (by decide) ?_
      refine r_lushr (pc := 358) E dX13_sumOf_358 ?_
      refine r_lxor (pc := 359) E dX13_sumOf_359 ?_
      refine r_ldc2 (pc := 360) E wk_RX13_161 dX13_sumOf_360 ?_
      refine r_lmul (pc := 363) E dX13_sumOf_363 ?_
      refine r_lstore (pc := 364) (lf := fun v364 => [(3, p3), (4, p4)]) (lg := fun v364 => [(5, v364)]) (lk := fun v364 => [(0, p0)]) E dX13_sumOf_364 (by decide) (fun _ => rfl) (fun _ => rfl) (fun _ => rfl) (fun v364 => ?_)
      refine r_lload (pc := 366) E dX13_sumOf_366 0 rfl ?_
      refine r_lload (pc := 368) E dX13_sumOf_368 0 rfl ?_
      refine r_bipush (pc := 370) (v := 29) E dX13_sumOf_370 (by decide) ?_
      refine r_lushr (pc := 372) E dX13_sumOf_372 ?_
      refine r_lxor (pc := 373) E dX13_sumOf_373 ?_
      refine r_ldc2 (pc := 374) E wk_RX13_185 dX13_sumOf_374 ?_
      refine r_lmul (pc := 377) E dX13_sumOf_377 ?_
      refine r_lstore (pc := 378) (lf := fun v378 => [(3, p3), (4, p4)]) (lg := fun v378 => [(5, v378)]) (lk := fun v378 => [(0, p0)]) E dX13_sumOf_378 (by decide) (fun _ => rfl) (fun _ => rfl) (fun _ => rfl) (fun v378 => ?_)
      refine r_lload (pc := 380) E dX13_sumOf_380 0 rfl ?_
      refine r_lload (pc := 382) E dX13_sumOf_382 0 rfl ?_
      refine r_bipush (pc := 384) (v := 32) E dX13_sumOf_384 (by decide) ?_
      refine r_lushr (pc := 386) E dX13_sumOf_386 ?_
      refine r_lxor (pc := 387) E dX13_sumOf_387 ?_
      exact e_long (pc := 388) E dX13_sumOf_388
    · refine r_lload (pc := 320) E dX13_sumOf_320 0 rfl ?_
      refine r_aload_n (pc := 322) E dX13_sumOf_322 rfl 0 rfl ?_
      refine r_iload_n (pc := 323) E dX13_sumOf_323 rfl 0 rfl ?_
      refine r_baload (pc := 324) E dX13_sumOf_324 (fun v324 => ?_)
      refine r_sipush (pc := 325) (v := 255) E dX13_sumOf_325 (by decide) ?_
      refine r_iand (pc := 328) E dX13_sumOf_328 ?_
      refine r_i2l (pc := 329) E dX13_sumOf_329 ?_
      refine r_ldc2 (pc := 330) E wk_RX13_169 dX13_sumOf_330 ?_
      refine r_lmul (pc := 333) E dX13_sumOf_333 ?_
      refine r_lxor (pc := 334) E dX13_sumOf_334 ?_
      refine r_bipush (pc := 335) (v := 11) E dX13_sumOf_335 (by decide) ?_
      refine r_kSl (pc := 337) (As := [.long (p5 ^^^ (((v324 &&& 255).toInt64) * 2870177450012600261)), .int 11]) (rest := []) E wc_X13_turn wi_RX13 hd_X13_turn wl_RX13_163 wt_X13_turn dX13_sumOf_337 (by decide) (Nat.le_of_ble_eq_true rfl) ⟨rfl, rfl⟩ (ctX13_turn l x _ _ _) rfl (fun v337 M337 => ?_)
      refine r_ldc2 (pc := 340) E wk_RX13_167 dX13_sumOf_340 ?_
      refine r_lmul (pc := 343) E dX13_sumOf_343 ?_
      refine r_lstore (pc := 344) (lf := fun v344 => [(3, p3), (4, p4)]) (lg := fun v344 => [(5, v344)]) (lk := fun v344 => [(0, p0)]) E dX13_sumOf_344 (by decide) (fun _ => rfl) (fun _ => rfl) (fun _ => rfl) (fun v344 => ?_)
      refine r_iinc (pc := 346) (w := 1) (lf := fun v346 => [(3, v346), (4, p4)]) (ll' := [(5, v344)]) (lr' := [(0, p0)]) E dX13_sumOf_346 0 rfl (by decide) (by decide) (fun _ => rfl) rfl rfl (fun v346 => ?_)
      refine r_goto (pc := 349) (tgt := 314) E dX13_sumOf_349 (by decide) ?_
      exact r_sub [0, 1] [0] [0] rfl rfl rfl (hk314 ((p0, v346, p4, v344)) _)
  have hL231 : ∀ (p0 : Option Nat) (p3 : Int32) (p4 : Int32) (p5 : Int64) (M : Mem), RT p l e rmX13_sumOf s m args below meth c x 15 (QM below args s x (fun v : Int64 => some (.long v)) rmX13_sumOf.cells rmX13_sumOf.slots) 0 0 (fX13_sumOf_L231 p0 p3 p4 p5 M) 231 [(3, p3), (4, p4)] [(5, p5)] [(0, p0)] [] M := by
    intro p0 p3 p4 p5 M
    refine r_lp (fi := fun a : Option Nat × Int32 × Int32 × Int64 => [(3, a.2.1), (4, a.2.2.1)]) (fl := fun a : Option Nat × Int32 × Int32 × Int64 => [(5, a.2.2.2)]) (fr := fun a : Option Nat × Int32 × Int32 × Int64 => [(0, a.1)]) (fs := fun a : Option Nat × Int32 × Int32 × Int64 => []) ?_ FU ((p0, p3, p4, p5)) M
    intro k231 hk231 a M
    obtain ⟨p0, p3, p4, p5⟩ := a
    show RT p l e rmX13_sumOf s m args below meth c x 15 (QM below args s x (fun v : Int64 => some (.long v)) rmX13_sumOf.cells rmX13_sumOf.slots) 0 0 (fX13_sumOf_B231 k231 p0 p3 p4 p5 M) 231 [(3, p3), (4, p4)] [(5, p5)] [(0, p0)] [] M
    unfold fX13_sumOf_B231
    refine r_iload (pc := 231) E dX13_sumOf_231 1 rfl ?_
    refine r_iload_n (pc := 233) E dX13_sumOf_233 rfl 0 rfl ?_
    refine r_isub (pc := 234) E dX13_sumOf_234 ?_
    refine r_bipush (pc := 235) (v := 8) E dX13_sumOf_235 (by decide) ?_
    refine r_icmp_lt (pc := 237) (tgt := 275) E dX13_sumOf_237 (by decide) ?_ ?_
    · refine r_iload (pc := 275) E dX13_sumOf_275 1 rfl ?_
      refine r_iload_n (pc := 277) E dX13_sumOf_277 rfl 0 rfl ?_
      refine r_isub (pc := 278) E dX13_sumOf_278 ?_
      refine r_iconst (pc := 279) (v := 4) E dX13_sumOf_279 (by decide) ?_
      refine r_icmp_lt (pc := 280) (tgt := 314) E dX13_sumOf_280 (by decide) ?_ ?_
      · exact r_sub [0, 1] [0] [0] rfl rfl rfl (hL314 p0 p3 p4 p5 _)
      · refine r_lload (pc := 283) E dX13_sumOf_283 0 rfl ?_
        refine r_aload_n (pc := 285) E dX13_sumOf_285 rfl 0 rfl ?_
        refine r_iload_n (pc := 286) E dX13_sumOf_286 rfl 0 rfl ?_
        refine r_iconst (pc := 287) (v := 4) E dX13_sumOf_287 (by decide) ?_
        refine r_kSl (pc := 288) (As := [rv x p0, .int p3, .int 4]) (rest := [.long p5]) E wc_X13_eight wi_RX13 hd_X13_eight wl_RX13_175 wt_X13_eight dX13_sumOf_288 (by decide) (Nat.le_of_ble_eq_true rfl) ⟨rfl, rfl⟩ (ctX13_eight l x _ _ _ _) rfl (fun v288 M288 => ?_)
        refine r_ldc2 (pc := 291) E wk_RX13_167 dX13_sumOf_291 ?_
        refine r_lmul (pc := 294) E dX13_sumOf_294 ?_
        refine r_lxor (pc := 295) E dX13_sumOf_295 ?_
        refine r_bipush (pc := 296) (v := 23) E dX13_sumOf_296 (by decide) ?_
        refine r_kSl (pc := 298) (As := [.long (p5 ^^^ (v288 * ((-7046029288634856825)))), .int 23]) (rest := []) E wc_X13_turn wi_RX13 hd_X13_turn wl_RX13_163 wt_X13_turn dX13_sumOf_298 (by decide) (Nat.le_of_ble_eq_true rfl) ⟨rfl, rfl⟩ (ctX13_turn l x _ _ _) rfl (fun v298 M298 => ?_)
        refine r_ldc2 (pc := 301) E wk_RX13_161 dX13_sumOf_301 ?_
        refine r_lmul (pc := 304) E dX13_sumOf_304 ?_
        refine r_ldc2 (pc := 305) E wk_RX13_185 dX13_sumOf_305 ?_
        refine r_ladd (pc := 308) E dX13_sumOf_308 ?_
        refine r_lstore (pc := 309) (lf := fun v309 => [(3, p3), (4, p4)]) (lg := fun v309 => [(5, v309)]) (lk := fun v309 => [(0, p0)]) E dX13_sumOf_309 (by decide) (fun _ => rfl) (fun _ => rfl) (fun _ => rfl) (fun v309 => ?_)
        refine r_iinc (pc := 311) (w := 4) (lf := fun v311 => [(3, v311), (4, p4)]) (ll' := [(5, v309)]) (lr' := [(0, p0)]) E dX13_sumOf_311 0 rfl (by decide) (by decide) (fun _ => rfl) rfl rfl (fun v311 => ?_)
        exact r_sub [0, 1] [0] [0] rfl rfl rfl (hL314 p0 v311 p4 v309 _)
    · refine r_lload (pc := 240) E dX13_sumOf_240 0 rfl ?_
      refine r_lconst (pc := 242) (v := 0) E dX13_sumOf_242 (by decide) ?_
      refine r_aload_n (pc := 243) E dX13_sumOf_243 rfl 0 rfl ?_
      refine r_iload_n (pc := 244) E dX13_sumOf_244 rfl 0 rfl ?_
      refine r_bipush (pc := 245) (v := 8) E dX13_sumOf_245 (by decide) ?_
      refine r_kSl (pc := 247) (As := [rv x p0, .int p3, .int 8]) (rest := [.long 0, .long p5]) E wc_X13_eight wi_RX13 hd_X13_eight wl_RX13_175 wt_X13_eight dX13_sumOf_247 (by decide) (Nat.le_of_ble_eq_true rfl) ⟨rfl, rfl⟩ (ctX13_eight l x _ _ _ _) rfl (fun v247 M247 => ?_)
      refine r_kSl (pc := 250) (As := [.long 0, .long v247]) (rest := [.long p5]) E wc_X13_round wi_RX13 hd_X13_round wl_RX13_179 wt_X13_round dX13_sumOf_250 (by decide) (Nat.le_of_ble_eq_true rfl) ⟨rfl, rfl⟩ (ctX13_round l x _ _ _) rfl (fun v250 M250 => ?_)
      refine r_lxor (pc := 253) E dX13_sumOf_253 ?_
      refine r_bipush (pc := 254) (v := 27) E dX13_sumOf_254 (by decide) ?_
      refine r_kSl (pc := 256) (As := [.long (p5 ^^^ v250), .int 27]) (rest := []) E wc_X13_turn wi_RX13 hd_X13_turn wl_RX13_163 wt_X13_turn dX13_sumOf_256 (by decide) (Nat.le_of_ble_eq_true rfl) ⟨rfl, rfl⟩ (ctX13_turn l x _ _ _) rfl (fun v256 M256 => ?_)
      refine r_ldc2 (pc := 259) E wk_RX13_167 dX13_sumOf_259 ?_
      refine r_lmul (pc := 262) E dX13_sumOf_262 ?_
      refine r_ldc2 (pc := 263) E wk_RX13_183 dX13_sumOf_263 ?_
      refine r_ladd (pc := 266) E dX13_sumOf_266 ?_
      refine r_lstore (pc := 267) (lf := fun v267 => [(3, p3), (4, p4)]) (lg := fun v267 => [(5, v267)]) (lk := fun v267 => [(0, p0)]) E dX13_sumOf_267 (by decide) (fun _ => rfl) (fun _ => rfl) (fun _ => rfl) (fun v267 => ?_)
      refine r_iinc (pc := 269) (w := 8) (lf := fun v269 => [(3, v269), (4, p4)]) (ll' := [(5, v267)]) (lr' := [(0, p0)]) E dX13_sumOf_269 0 rfl (by decide) (by decide) (fun _ => rfl) rfl rfl (fun v269 => ?_)
      refine r_goto (pc := 272) (tgt := 231) E dX13_sumOf_272 (by decide) ?_
      exact r_sub [0, 1] [0] [0] rfl rfl rfl (hk231 ((p0, v269, p4, v267)) _)
  have hL224 : ∀ (p0 : Option Nat) (p2 : Int32) (p3 : Int32) (p4 : Int32) (p5 : Int64) (M : Mem), RT p l e rmX13_sumOf s m args below meth c x 15 (QM below args s x (fun v : Int64 => some (.long v)) rmX13_sumOf.cells rmX13_sumOf.slots) 0 0 (fX13_sumOf_L224 p0 p2 p3 p4 p5 M) 224 [(2, p2), (3, p3), (4, p4)] [(5, p5)] [(0, p0)] [] M := by
    intro p0 p2 p3 p4 p5 M
    unfold fX13_sumOf_L224
    refine r_lload (pc := 224) E dX13_sumOf_224 0 rfl ?_
    refine r_iload_n (pc := 226) E dX13_sumOf_226 rfl 0 rfl ?_
    refine r_i2l (pc := 227) E dX13_sumOf_227 ?_
    refine r_ladd (pc := 228) E dX13_sumOf_228 ?_
    refine r_lstore (pc := 229) (lf := fun v229 => [(2, p2), (3, p3), (4, p4)]) (lg := fun v229 => [(5, v229)]) (lk := fun v229 => [(0, p0)]) E dX13_sumOf_229 (by decide) (fun _ => rfl) (fun _ => rfl) (fun _ => rfl) (fun v229 => ?_)
    exact r_sub [1, 2] [0] [0] rfl rfl rfl (hL231 p0 p3 p4 v229 _)
  have hL36 : ∀ (p0 : Option Nat) (p2 : Int32) (p3 : Int32) (p4 : Int32) (p7 : Int64) (p9 : Int64) (p11 : Int64) (p13 : Int64) (M : Mem), RT p l e rmX13_sumOf s m args below meth c x 15 (QM below args s x (fun v : Int64 => some (.long v)) rmX13_sumOf.cells rmX13_sumOf.slots) 0 0 (fX13_sumOf_L36 p0 p2 p3 p4 p7 p9 p11 p13 M) 36 [(2, p2), (3, p3), (4, p4)] [(7, p7), (9, p9), (11, p11), (13, p13)] [(0, p0)] [] M := by
    intro p0 p2 p3 p4 p7 p9 p11 p13 M
    refine r_lp (fi := fun a : Option Nat × Int32 × Int32 × Int32 × Int64 × Int64 × Int64 × Int64 => [(2, a.2.1), (3, a.2.2.1), (4, a.2.2.2.1)]) (fl := fun a : Option Nat × Int32 × Int32 × Int32 × Int64 × Int64 × Int64 × Int64 => [(7, a.2.2.2.2.1), (9, a.2.2.2.2.2.1), (11, a.2.2.2.2.2.2.1), (13, a.2.2.2.2.2.2.2)]) (fr := fun a : Option Nat × Int32 × Int32 × Int32 × Int64 × Int64 × Int64 × Int64 => [(0, a.1)]) (fs := fun a : Option Nat × Int32 × Int32 × Int32 × Int64 × Int64 × Int64 × Int64 => []) ?_ FU ((p0, p2, p3, p4, p7, p9, p11, p13)) M
    intro k36 hk36 a M
    obtain ⟨p0, p2, p3, p4, p7, p9, p11, p13⟩ := a
    show RT p l e rmX13_sumOf s m args below meth c x 15 (QM below args s x (fun v : Int64 => some (.long v)) rmX13_sumOf.cells rmX13_sumOf.slots) 0 0 (fX13_sumOf_B36 k36 p0 p2 p3 p4 p7 p9 p11 p13 M) 36 [(2, p2), (3, p3), (4, p4)] [(7, p7), (9, p9), (11, p11), (13, p13)] [(0, p0)] [] M
    unfold fX13_sumOf_B36
    refine r_iload (pc := 36) E dX13_sumOf_36 2 rfl ?_
    refine r_iload_n (pc := 38) E dX13_sumOf_38 rfl 1 rfl ?_
    refine r_isub (pc := 39) E dX13_sumOf_39 ?_
    refine r_bipush (pc := 40) (v := 32) E dX13_sumOf_40 (by decide) ?_
    refine r_icmp_lt (pc := 42) (tgt := 116) E dX13_sumOf_42 (by decide) ?_ ?_
    · refine r_lload (pc := 116) E dX13_sumOf_116 0 rfl ?_
      refine r_iconst (pc := 118) (v := 1) E dX13_sumOf_118 (by decide) ?_
      refine r_kSl (pc := 119) (As := [.long p7, .int 1]) (rest := []) E wc_X13_turn wi_RX13 hd_X13_turn wl_RX13_163 wt_X13_turn dX13_sumOf_119 (by decide) (Nat.le_of_ble_eq_true rfl) ⟨rfl, rfl⟩ (ctX13_turn l x _ _ _) rfl (fun v119 M119 => ?_)
      refine r_lload (pc := 122) E dX13_sumOf_122 1 rfl ?_
      refine r_bipush (pc := 124) (v := 7) E dX13_sumOf_124 (by decide) ?_
      refine r_kSl (pc := 126) (As := [.long p9, .int 7]) (rest := [.long v119]) E wc_X13_turn wi_RX13 hd_X13_turn wl_RX13_163 wt_X13_turn dX13_sumOf_126 (by decide) (Nat.le_of_ble_eq_true rfl) ⟨rfl, rfl⟩ (ctX13_turn l x _ _ _) rfl (fun v126 M126 => ?_)
      refine r_ladd (pc := 129) E dX13_sumOf_129 ?_
      refine r_lload (pc := 130) E dX13_sumOf_130 2 rfl ?_
      refine r_bipush (pc := 132) (v := 12) E dX13_sumOf_132 (by decide) ?_
      refine r_kSl (pc := 134) (As := [.long p11, .int 12]) (rest := [.long (v119 + v126)]) E wc_X13_turn wi_RX13 hd_X13_turn wl_RX13_163 wt_X13_turn dX13_sumOf_134 (by decide) (Nat.le_of_ble_eq_true rfl) ⟨rfl, rfl⟩ (ctX13_turn l x _ _ _) rfl (fun v134 M134 => ?_)
      refine r_ladd (pc := 137) E dX13_sumOf_137 ?_
      refine r_lload (pc := 138) E dX13_sumOf_138 3 rfl ?_
      refine r_bipush (pc := 140) (v := 18) E dX13_sumOf_140 (by decide) ?_
      refine r_kSl (pc := 142) (As := [.long p13, .int 18]) (rest := [.long ((v119 + v126) + v134)]) E wc_X13_turn wi_RX13 hd_X13_turn wl_RX13_163 wt_X13_turn dX13_sumOf_142 (by decide) (Nat.le_of_ble_eq_true rfl) ⟨rfl, rfl⟩ (ctX13_turn l x _ _ _) rfl (fun v142 M142 => ?_)
      refine r_ladd (pc := 145) E dX13_sumOf_145 ?_
      refine r_lstore (pc := 146) (lf := fun v146 => [(2, p2), (3, p3), (4, p4)]) (lg := fun v146 => [(5, v146), (7, p7), (9, p9), (11, p11), (13, p13)]) (lk := fun v146 => [(0, p0)]) E dX13_sumOf_146 (by decide) (fun _ => rfl) (fun _ => rfl) (fun _ => rfl) (fun v146 => ?_)
      refine r_lload (pc := 148) E dX13_sumOf_148 0 rfl ?_
      refine r_lconst (pc := 150) (v := 0) E dX13_sumOf_150 (by decide) ?_
      refine r_lload (pc := 151) E dX13_sumOf_151 1 rfl ?_
      refine r_kSl (pc := 153) (As := [.long 0, .long p7]) (rest := [.long v146]) E wc_X13_round wi_RX13 hd_X13_round wl_RX13_179 wt_X13_round dX13_sumOf_153 (by decide) (Nat.le_of_ble_eq_true rfl) ⟨rfl, rfl⟩ (ctX13_round l x _ _ _) rfl (fun v153 M153 => ?_)
      refine r_lxor (pc := 156) E dX13_sumOf_156 ?_
      refine r_ldc2 (pc := 157) E wk_RX13_167 dX13_sumOf_157 ?_
      refine r_lmul (pc := 160) E dX13_sumOf_160 ?_
      refine r_ldc2 (pc := 161) E wk_RX13_183 dX13_sumOf_161 ?_
      refine r_ladd (pc := 164) E dX13_sumOf_164 ?_
      refine r_lstore (pc := 165) (lf := fun v165 => [(2, p2), (3, p3), (4, p4)]) (lg := fun v165 => [(5, v165), (7, p7), (9, p9), (11, p11), (13, p13)]) (lk := fun v165 => [(0, p0)]) E dX13_sumOf_165 (by decide) (fun _ => rfl) (fun _ => rfl) (fun _ => rfl) (fun v165 => ?_)
      refine r_lload (pc := 167) E dX13_sumOf_167 0 rfl ?_
      refine r_lconst (pc := 169) (v := 0) E dX13_sumOf_169 (by decide) ?_
      refine r_lload (pc := 170) E dX13_sumOf_170 2 rfl ?_
      refine r_kSl (pc := 172) (As := [.long 0, .long p9]) (rest := [.long v165]) E wc_X13_round wi_RX13 hd_X13_round wl_RX13_179 wt_X13_round dX13_sumOf_172 (by decide) (Nat.le_of_ble_eq_true rfl) ⟨rfl, rfl⟩ (ctX13_round l x _ _ _) rfl (fun v172 M172 => ?_)
      refine r_lxor (pc := 175) E dX13_sumOf_175 ?_
      refine r_ldc2 (pc := 176) E wk_RX13_167 dX13_sumOf_176 ?_
      refine r_lmul (pc := 179) E dX13_sumOf_179 ?_
      refine r_ldc2 (pc := 180) E wk_RX13_183 dX13_sumOf_180 ?_
      refine r_ladd (pc := 183) E dX13_sumOf_183 ?_
      refine r_lstore (pc := 184) (lf := fun v184 => [(2, p2), (3, p3), (4, p4)]) (lg := fun v184 => [(5, v184), (7, p7), (9, p9), (11, p11), (13, p13)]) (lk := fun v184 => [(0, p0)]) E dX13_sumOf_184 (by decide) (fun _ => rfl) (fun _ => rfl) (fun _ => rfl) (fun v184 => ?_)
      refine r_lload (pc := 186) E dX13_sumOf_186 0 rfl ?_
      refine r_lconst (pc := 188) (v := 0) E dX13_sumOf_188 (by decide) ?_
      refine r_lload (pc := 189) E dX13_sumOf_189 3 rfl ?_
      refine r_kSl (pc := 191) (As := [.long 0, .long p11]) (rest := [.long v184]) E wc_X13_round wi_RX13 hd_X13_round wl_RX13_179 wt_X13_round dX13_sumOf_191 (by decide) (Nat.le_of_ble_eq_true rfl) ⟨rfl, rfl⟩ (ctX13_round l x _ _ _) rfl (fun v191 M191 => ?_)
      refine r_lxor (pc := 194) E dX13_sumOf_194 ?_
      refine r_ldc2 (pc := 195) E wk_RX13_167 dX13_sumOf_195 ?_
      refine r_lmul (pc := 198) E dX13_sumOf_198 ?_
      refine r_ldc2 (pc := 199) E wk_RX13_183 dX13_sumOf_199 ?_
      refine r_ladd (pc := 202) E dX13_sumOf_202 ?_
      refine r_lstore (pc := 203) (lf := fun v203 => [(2, p2), (3, p3), (4, p4)]) (lg := fun v203 => [(5, v203), (7, p7), (9, p9), (11, p11), (13, p13)]) (lk := fun v203 => [(0, p0)]) E dX13_sumOf_203 (by decide) (fun _ => rfl) (fun _ => rfl) (fun _ => rfl) (fun v203 => ?_)
      refine r_lload (pc := 205) E dX13_sumOf_205 0 rfl ?_
      refine r_lconst (pc := 207) (v := 0) E dX13_sumOf_207 (by decide) ?_
      refine r_lload (pc := 208) E dX13_sumOf_208 4 rfl ?_
      refine r_kSl (pc := 210) (As := [.long 0, .long p13]) (rest := [.long v203]) E wc_X13_round wi_RX13 hd_X13_round wl_RX13_179 wt_X13_round dX13_sumOf_210 (by decide) (Nat.le_of_ble_eq_true rfl) ⟨rfl, rfl⟩ (ctX13_round l x _ _ _) rfl (fun v210 M210 => ?_)
      refine r_lxor (pc := 213) E dX13_sumOf_213 ?_
      refine r_ldc2 (pc := 214) E wk_RX13_167 dX13_sumOf_214 ?_
      refine r_lmul (pc := 217) E dX13_sumOf_217 ?_
      refine r_ldc2 (pc := 218) E wk_RX13_183 dX13_sumOf_218 ?_
      refine r_ladd (pc := 221) E dX13_sumOf_221 ?_
      refine r_lstore (pc := 222) (lf := fun v222 => [(2, p2), (3, p3), (4, p4)]) (lg := fun v222 => [(5, v222), (7, p7), (9, p9), (11, p11), (13, p13)]) (lk := fun v222 => [(0, p0)]) E dX13_sumOf_222 (by decide) (fun _ => rfl) (fun _ => rfl) (fun _ => rfl) (fun v222 => ?_)
      exact r_sub [0, 1, 2] [0] [0] rfl rfl rfl (hL224 p0 p2 p3 p4 v222 _)
    · refine r_lload (pc := 45) E dX13_sumOf_45 0 rfl ?_
      refine r_aload_n (pc := 47) E dX13_sumOf_47 rfl 0 rfl ?_
      refine r_iload_n (pc := 48) E dX13_sumOf_48 rfl 1 rfl ?_
      refine r_bipush (pc := 49) (v := 8) E dX13_sumOf_49 (by decide) ?_
      refine r_kSl (pc := 51) (As := [rv x p0, .int p3, .int 8]) (rest := [.long p7]) E wc_X13_eight wi_RX13 hd_X13_eight wl_RX13_175 wt_X13_eight dX13_sumOf_51 (by decide) (Nat.le_of_ble_eq_true rfl) ⟨rfl, rfl⟩ (ctX13_eight l x _ _ _ _) rfl (fun v51 M51 => ?_)
      refine r_kSl (pc := 54) (As := [.long p7, .long v51]) (rest := []) E wc_X13_round wi_RX13 hd_X13_round wl_RX13_179 wt_X13_round dX13_sumOf_54 (by decide) (Nat.le_of_ble_eq_true rfl) ⟨rfl, rfl⟩ (ctX13_round l x _ _ _) rfl (fun v54 M54 => ?_)
      refine r_lstore (pc := 57) (lf := fun v57 => [(2, p2), (3, p3), (4, p4)]) (lg := fun v57 => [(7, v57), (9, p9), (11, p11), (13, p13)]) (lk := fun v57 => [(0, p0)]) E dX13_sumOf_57 (by decide) (fun _ => rfl) (fun _ => rfl) (fun _ => rfl) (fun v57 => ?_)
      refine r_lload (pc := 59) E dX13_sumOf_59 1 rfl ?_
      refine r_aload_n (pc := 61) E dX13_sumOf_61 rfl 0 rfl ?_
      refine r_iload_n (pc := 62) E dX13_sumOf_62 rfl 1 rfl ?_
      refine r_bipush (pc := 63) (v := 8) E dX13_sumOf_63 (by decide) ?_
      refine r_iadd (pc := 65) E dX13_sumOf_65 ?_
      refine r_bipush (pc := 66) (v := 8) E dX13_sumOf_66 (by decide) ?_
      refine r_kSl (pc := 68) (As := [rv x p0, .int (p3 + 8), .int 8]) (rest := [.long p9]) E wc_X13_eight wi_RX13 hd_X13_eight wl_RX13_175 wt_X13_eight dX13_sumOf_68 (by decide) (Nat.le_of_ble_eq_true rfl) ⟨rfl, rfl⟩ (ctX13_eight l x _ _ _ _) rfl (fun v68 M68 => ?_)
      refine r_kSl (pc := 71) (As := [.long p9, .long v68]) (rest := []) E wc_X13_round wi_RX13 hd_X13_round wl_RX13_179 wt_X13_round dX13_sumOf_71 (by decide) (Nat.le_of_ble_eq_true rfl) ⟨rfl, rfl⟩ (ctX13_round l x _ _ _) rfl (fun v71 M71 => ?_)
      refine r_lstore (pc := 74) (lf := fun v74 => [(2, p2), (3, p3), (4, p4)]) (lg := fun v74 => [(9, v74), (7, v57), (11, p11), (13, p13)]) (lk := fun v74 => [(0, p0)]) E dX13_sumOf_74 (by decide) (fun _ => rfl) (fun _ => rfl) (fun _ => rfl) (fun v74 => ?_)
      refine r_lload (pc := 76) E dX13_sumOf_76 2 rfl ?_
      refine r_aload_n (pc := 78) E dX13_sumOf_78 rfl 0 rfl ?_
      refine r_iload_n (pc := 79) E dX13_sumOf_79 rfl 1 rfl ?_
      refine r_bipush (pc := 80) (v := 16) E dX13_sumOf_80 (by decide) ?_
      refine r_iadd (pc := 82) E dX13_sumOf_82 ?_
      refine r_bipush (pc := 83) (v := 8) E dX13_sumOf_83 (by decide) ?_
      refine r_kSl (pc := 85) (As := [rv x p0, .int (p3 + 16), .int 8]) (rest := [.long p11]) E wc_X13_eight wi_RX13 hd_X13_eight wl_RX13_175 wt_X13_eight dX13_sumOf_85 (by decide) (Nat.le_of_ble_eq_true rfl) ⟨rfl, rfl⟩ (ctX13_eight l x _ _ _ _) rfl (fun v85 M85 => ?_)
      refine r_kSl (pc := 88) (As := [.long p11, .long v85]) (rest := []) E wc_X13_round wi_RX13 hd_X13_round wl_RX13_179 wt_X13_round dX13_sumOf_88 (by decide) (Nat.le_of_ble_eq_true rfl) ⟨rfl, rfl⟩ (ctX13_round l x _ _ _) rfl (fun v88 M88 => ?_)
      refine r_lstore (pc := 91) (lf := fun v91 => [(2, p2), (3, p3), (4, p4)]) (lg := fun v91 => [(11, v91), (9, v74), (7, v57), (13, p13)]) (lk := fun v91 => [(0, p0)]) E dX13_sumOf_91 (by decide) (fun _ => rfl) (fun _ => rfl) (fun _ => rfl) (fun v91 => ?_)
      refine r_lload (pc := 93) E dX13_sumOf_93 3 rfl ?_
      refine r_aload_n (pc := 95) E dX13_sumOf_95 rfl 0 rfl ?_
      refine r_iload_n (pc := 96) E dX13_sumOf_96 rfl 1 rfl ?_
      refine r_bipush (pc := 97) (v := 24) E dX13_sumOf_97 (by decide) ?_
      refine r_iadd (pc := 99) E dX13_sumOf_99 ?_
      refine r_bipush (pc := 100) (v := 8) E dX13_sumOf_100 (by decide) ?_
      refine r_kSl (pc := 102) (As := [rv x p0, .int (p3 + 24), .int 8]) (rest := [.long p13]) E wc_X13_eight wi_RX13 hd_X13_eight wl_RX13_175 wt_X13_eight dX13_sumOf_102 (by decide) (Nat.le_of_ble_eq_true rfl) ⟨rfl, rfl⟩ (ctX13_eight l x _ _ _ _) rfl (fun v102 M102 => ?_)
      refine r_kSl (pc := 105) (As := [.long p13, .long v102]) (rest := []) E wc_X13_round wi_RX13 hd_X13_round wl_RX13_179 wt_X13_round dX13_sumOf_105 (by decide) (Nat.le_of_ble_eq_true rfl) ⟨rfl, rfl⟩ (ctX13_round l x _ _ _) rfl (fun v105 M105 => ?_)
      refine r_lstore (pc := 108) (lf := fun v108 => [(2, p2), (3, p3), (4, p4)]) (lg := fun v108 => [(13, v108), (11, v91), (9, v74), (7, v57)]) (lk := fun v108 => [(0, p0)]) E dX13_sumOf_108 (by decide) (fun _ => rfl) (fun _ => rfl) (fun _ => rfl) (fun v108 => ?_)
      refine r_iinc (pc := 110) (w := 32) (lf := fun v110 => [(3, v110), (2, p2), (4, p4)]) (ll' := [(13, v108), (11, v91), (9, v74), (7, v57)]) (lr' := [(0, p0)]) E dX13_sumOf_110 1 rfl (by decide) (by decide) (fun _ => rfl) rfl rfl (fun v110 => ?_)
      refine r_goto (pc := 113) (tgt := 36) E dX13_sumOf_113 (by decide) ?_
      exact r_sub [1, 0, 2] [3, 2, 1, 0] [0] rfl rfl rfl (hk36 ((p0, p2, v110, p4, v57, v74, v91, v108)) _)
  show RT p l e rmX13_sumOf s m args below meth c x 15 (QM below args s x (fun v : Int64 => some (.long v)) rmX13_sumOf.cells rmX13_sumOf.slots) 0 0 (fX13_sumOf a0 a1 a2 M) 0 [(1, a1), (2, a2)] [] [(0, a0)] [] M
  unfold fX13_sumOf
  refine r_iload_n (pc := 0) E dX13_sumOf_0 rfl 0 rfl ?_
  refine r_istore_n (pc := 1) (lf := fun v1 => [(3, v1), (1, a1), (2, a2)]) (lg := fun v1 => []) (lk := fun v1 => [(0, a0)]) E dX13_sumOf_1 rfl (by decide) (fun _ => rfl) (fun _ => rfl) (fun _ => rfl) (fun v1 => ?_)
  refine r_iload_n (pc := 2) E dX13_sumOf_2 rfl 1 rfl ?_
  refine r_iload_n (pc := 3) E dX13_sumOf_3 rfl 2 rfl ?_
  refine r_iadd (pc := 4) E dX13_sumOf_4 ?_
  refine r_istore (pc := 5) (lf := fun v5 => [(4, v5), (3, v1), (1, a1), (2, a2)]) (lg := fun v5 => []) (lk := fun v5 => [(0, a0)]) E dX13_sumOf_5 (by decide) (fun _ => rfl) (fun _ => rfl) (fun _ => rfl) (fun v5 => ?_)
  refine r_ldc2 (pc := 7) E wk_RX13_169 dX13_sumOf_7 ?_
  refine r_lstore (pc := 10) (lf := fun v10 => [(4, v5), (3, v1), (1, a1), (2, a2)]) (lg := fun v10 => [(5, v10)]) (lk := fun v10 => [(0, a0)]) E dX13_sumOf_10 (by decide) (fun _ => rfl) (fun _ => rfl) (fun _ => rfl) (fun v10 => ?_)
  refine r_iload_n (pc := 12) E dX13_sumOf_12 rfl 3 rfl ?_
  refine r_bipush (pc := 13) (v := 32) E dX13_sumOf_13 (by decide) ?_
  refine r_icmp_lt (pc := 15) (tgt := 224) E dX13_sumOf_15 (by decide) ?_ ?_
  · exact r_sub [3, 1, 0] [0] [0] rfl rfl rfl (hL224 a0 a2 v1 v5 v10 _)
  · refine r_ldc2 (pc := 18) E wk_RX13_171 dX13_sumOf_18 ?_
    refine r_lstore (pc := 21) (lf := fun v21 => [(4, v5), (3, v1), (1, a1), (2, a2)]) (lg := fun v21 => [(7, v21), (5, v10)]) (lk := fun v21 => [(0, a0)]) E dX13_sumOf_21 (by decide) (fun _ => rfl) (fun _ => rfl) (fun _ => rfl) (fun v21 => ?_)
    refine r_ldc2 (pc := 23) E wk_RX13_161 dX13_sumOf_23 ?_
    refine r_lstore (pc := 26) (lf := fun v26 => [(4, v5), (3, v1), (1, a1), (2, a2)]) (lg := fun v26 => [(9, v26), (7, v21), (5, v10)]) (lk := fun v26 => [(0, a0)]) E dX13_sumOf_26 (by decide) (fun _ => rfl) (fun _ => rfl) (fun _ => rfl) (fun v26 => ?_)
    refine r_lconst (pc := 28) (v := 0) E dX13_sumOf_28 (by decide) ?_
    refine r_lstore (pc := 29) (lf := fun v29 => [(4, v5), (3, v1), (1, a1), (2, a2)]) (lg := fun v29 => [(11, v29), (9, v26), (7, v21), (5, v10)]) (lk := fun v29 => [(0, a0)]) E dX13_sumOf_29 (by decide) (fun _ => rfl) (fun _ => rfl) (fun _ => rfl) (fun v29 => ?_)
    refine r_ldc2 (pc := 31) E wk_RX13_173 dX13_sumOf_31 ?_
    refine r_lstore (pc := 34) (lf := fun v34 => [(4, v5), (3, v1), (1, a1), (2, a2)]) (lg := fun v34 => [(13, v34), (11, v29), (9, v26), (7, v21), (5, v10)]) (lk := fun v34 => [(0, a0)]) E dX13_sumOf_34 (by decide) (fun _ => rfl) (fun _ => rfl) (fun _ => rfl) (fun v34 => ?_)
    exact r_sub [3, 1, 0] [3, 2, 1, 0] [0] rfl rfl rfl (hL36 a0 a2 v1 v5 v21 v26 v29 v34 _)
def fX13_sum_L25 (q0 : Int64) (M : Mem) : Option (Int32 × Mem) :=
  some (q0.toInt32, M)
def fX13_sum (a0 : Option Nat) (a1 : Int32) (M : Mem) : Option (Int32 × Mem) :=
  bo (gR M a0 13 0) fun v1 =>
  bo (gI M a0 13 1) fun v6 =>
  bd (fX13_sumOf v1 0 v6 M) fun v9 M9 =>
  bn (v9) fun v12 =>
  if a1 = 0 then (
    fX13_sum_L25 v12 M9
  ) else (
    fX13_sum_L25 (ushJ v12 32) M9
  )
def rmX13_sum : Room := { frames := 3, cells := 0, slots := 0, locals := 79 }
set_option maxRecDepth 100000 in
set_option maxHeartbeats 4000000 in
theorem ctX13_sum (l : Launch) (x : Cx) (a0 : Option Nat) (a1 : Int32) (M : Mem) (v : Int32) (N : Mem) (h : fX13_sum a0 a1 M = some (v, N)) : CT l yX13_sum cX13_sum 4 (some (FieldType.int)) rmX13_sum x [rv x a0, .int a1] M (some (.int v)) N := by
  refine ct_mk (enc := fun v : Int32 => some (.int v)) (li := [(1, a1)]) (ll := []) (lr := [(0, a0)]) (by decide +kernel) (by simp [lg_sl, rv_cat, cat_int, cat_long]) (by simp [flat, lv_args, rv_cat, cat_int, cat_long]) h ?_
  intro p e s m args below meth c E
  have hL25 : ∀ (q0 : Int64) (M : Mem), RT p l e rmX13_sum s m args below meth c x 4 (QM below args s x (fun v : Int32 => some (.int v)) rmX13_sum.cells rmX13_sum.slots) 0 0 (fX13_sum_L25 q0 M) 25 [] [] [] [.long q0] M := by
    intro q0 M
    unfold fX13_sum_L25
    refine r_l2i (pc := 25) E dX13_sum_25 ?_
    exact e_int (pc := 26) E dX13_sum_26
  show RT p l e rmX13_sum s m args below meth c x 4 (QM below args s x (fun v : Int32 => some (.int v)) rmX13_sum.cells rmX13_sum.slots) 0 0 (fX13_sum a0 a1 M) 0 [(1, a1)] [] [(0, a0)] [] M
  unfold fX13_sum
  refine r_aload_n (pc := 0) E dX13_sum_0 rfl 0 rfl ?_
  refine r_getA (pc := 1) E fd_13_0 wf_RX13_7 dX13_sum_1 (fun v1 => ?_)
  refine r_iconst (pc := 4) (v := 0) E dX13_sum_4 (by decide) ?_
  refine r_aload_n (pc := 5) E dX13_sum_5 rfl 0 rfl ?_
  refine r_getI (pc := 6) E fd_13_1 wf_RX13_150 dX13_sum_6 (fun v6 => ?_)
  refine r_kSl (pc := 9) (As := [rv x v1, .int 0, .int v6]) (rest := []) E wc_X13_sumOf wi_RX13 hd_X13_sumOf wl_RX13_187 wt_X13_sumOf dX13_sum_9 (by decide) (Nat.le_of_ble_eq_true rfl) ⟨rfl, rfl⟩ (ctX13_sumOf l x _ _ _ _) rfl (fun v9 M9 => ?_)
  refine r_lstore_n (pc := 12) (lf := fun v12 => [(1, a1)]) (lg := fun v12 => [(2, v12)]) (lk := fun v12 => [(0, a0)]) E dX13_sum_12 rfl (by decide) (fun _ => rfl) (fun _ => rfl) (fun _ => rfl) (fun v12 => ?_)
  refine r_iload_n (pc := 13) E dX13_sum_13 rfl 0 rfl ?_
  refine r_if_eq (pc := 14) (tgt := 24) E dX13_sum_14 (by decide) ?_ ?_
  · refine r_lload_n (pc := 24) E dX13_sum_24 rfl 0 rfl ?_
    exact r_sub [] [] [] rfl rfl rfl (hL25 v12 _)
  · refine r_lload_n (pc := 17) E dX13_sum_17 rfl 0 rfl ?_
    refine r_bipush (pc := 18) (v := 32) E dX13_sum_18 (by decide) ?_
    refine r_lushr (pc := 20) E dX13_sum_20 ?_
    refine r_goto (pc := 21) (tgt := 25) E dX13_sum_21 (by decide) ?_
    exact r_sub [] [] [] rfl rfl rfl (hL25 (ushJ v12 32) _)
def fX13_forward_B24 (k24 : Option Nat × Int32 × Int32 × Int32 → Mem → Option (Int32 × Mem)) (p0 : Option Nat) (p1 : Int32) (p2 : Int32) (p3 : Int32) (M : Mem) : Option (Int32 × Mem) :=
  if p1 ≤ p3 then (
    some (p2, M)
  ) else (
    bo (gR M p0 13 6) fun v31 =>
    bo (gI M p0 13 7) fun v35 =>
    bo (aI M v31 14 (shrI v35 3)) fun v40 =>
    bo (gI M p0 13 7) fun v42 =>
    bn (p2 ||| (shlI ((shrI v40 (v42 &&& 7)) &&& 1) p3)) fun v54 =>
    bo (gI M p0 13 7) fun v57 =>
    bo (pI M p0 13 7 (v57 + 1)) fun M62 =>
    bn (p3 + 1) fun v65 =>
    k24 ((p0, p1, v54, v65)) M62
  )
def fX13_forward_L24 (p0 : Option Nat) (p1 : Int32) (p2 : Int32) (p3 : Int32) (M : Mem) : Option (Int32 × Mem) :=
  lp (fun k24 (a : Option Nat × Int32 × Int32 × Int32) M => fX13_forward_B24 k24 a.1 a.2.1 a.2.2.1 a.2.2.2 M) FU ((p0, p1, p2, p3)) M
def fX13_forward (a0 : Option Nat) (a1 : Int32) (M : Mem) : Option (Int32 × Mem) :=
  bo (gI M a0 13 8) fun v1 =>
  bo (gI M a0 13 7) fun v5 =>
  if a1 ≤ (v1 - v5) then (
    bn (0) fun v21 =>
    bn (0) fun v23 =>
    fX13_forward_L24 a0 a1 v21 v23 M
  ) else (
    bo (pZ M a0 13 9 1) fun M15 =>
    some (0, M15)
  )
def rmX13_forward : Room := { frames := 0, cells := 0, slots := 0, locals := 0 }
set_option maxRecDepth 100000 in
set_option maxHeartbeats 4000000 in
theorem ctX13_forward (l : Launch) (x : Cx) (a0 : Option Nat) (a1 : Int32) (M : Mem) (v : Int32) (N : Mem) (h : fX13_forward a0 a1 M = some (v, N)) : CT l yX13_forward cX13_forward 4 (some (FieldType.int)) rmX13_forward x [rv x a0, .int a1] M (some (.int v)) N := by
  refine ct_mk (enc := fun v : Int32 => some (.int v)) (li := [(1, a1)]) (ll := []) (lr := [(0, a0)]) (by decide +kernel) (by simp [lg_sl, rv_cat, cat_int, cat_long]) (by simp [flat, lv_args, rv_cat, cat_int, cat_long]) h ?_
  intro p e s m args below meth c E
  have hL24 : ∀ (p0 : Option Nat) (p1 : Int32) (p2 : Int32) (p3 : Int32) (M : Mem), RT p l e rmX13_forward s m args below meth c x 4 (QM below args s x (fun v : Int32 => some (.int v)) rmX13_forward.cells rmX13_forward.slots) 0 0 (fX13_forward_L24 p0 p1 p2 p3 M) 24 [(1, p1), (2, p2), (3, p3)] [] [(0, p0)] [] M := by
    intro p0 p1 p2 p3 M
    refine r_lp (fi := fun a : Option Nat × Int32 × Int32 × Int32 => [(1, a.2.1), (2, a.2.2.1), (3, a.2.2.2)]) (fl := fun a : Option Nat × Int32 × Int32 × Int32 => []) (fr := fun a : Option Nat × Int32 × Int32 × Int32 => [(0, a.1)]) (fs := fun a : Option Nat × Int32 × Int32 × Int32 => []) ?_ FU ((p0, p1, p2, p3)) M
    intro k24 hk24 a M
    obtain ⟨p0, p1, p2, p3⟩ := a
    show RT p l e rmX13_forward s m args below meth c x 4 (QM below args s x (fun v : Int32 => some (.int v)) rmX13_forward.cells rmX13_forward.slots) 0 0 (fX13_forward_B24 k24 p0 p1 p2 p3 M) 24 [(1, p1), (2, p2), (3, p3)] [] [(0, p0)] [] M
    unfold fX13_forward_B24
    refine r_iload_n (pc := 24) E dX13_forward_24 rfl 2 rfl ?_
    refine r_iload_n (pc := 25) E dX13_forward_25 rfl 0 rfl ?_
    refine r_icmp_ge (pc := 26) (tgt := 71) E dX13_forward_26 (by decide) ?_ ?_
    · refine r_iload_n (pc := 71) E dX13_forward_71 rfl 1 rfl ?_
      exact e_int (pc := 72) E dX13_forward_72
    · refine r_iload_n (pc := 29) E dX13_forward_29 rfl 1 rfl ?_
      refine r_aload_n (pc := 30) E dX13_forward_30 rfl 0 rfl ?_
      refine r_getA (pc := 31) E fd_13_6 wf_RX13_20 dX13_forward_31 (fun v31 => ?_)
      refine r_aload_n (pc := 34) E dX13_forward_34 rfl 0 rfl ?_
      refine r_getI (pc := 35) E fd_13_7 wf_RX13_193 dX13_forward_35 (fun v35 => ?_)
      refine r_iconst (pc := 38) (v := 3) E dX13_forward_38 (by decide) ?_
      refine r_ishr (pc := 39) E dX13_forward_39 ?_
      refine r_baload (pc := 40) E dX13_forward_40 (fun v40 => ?_)
      refine r_aload_n (pc := 41) E dX13_forward_41 rfl 0 rfl ?_
      refine r_getI (pc := 42) E fd_13_7 wf_RX13_193 dX13_forward_42 (fun v42 => ?_)
      refine r_bipush (pc := 45) (v := 7) E dX13_forward_45 (by decide) ?_
      refine r_iand (pc := 47) E dX13_forward_47 ?_
      refine r_ishr (pc := 48) E dX13_forward_48 ?_
      refine r_iconst (pc := 49) (v := 1) E dX13_forward_49 (by decide) ?_
      refine r_iand (pc := 50) E dX13_forward_50 ?_
      refine r_iload_n (pc := 51) E dX13_forward_51 rfl 2 rfl ?_
      refine r_ishl (pc := 52) E dX13_forward_52 ?_
      refine r_ior (pc := 53) E dX13_forward_53 ?_
      refine r_istore_n (pc := 54) (lf := fun v54 => [(2, v54), (1, p1), (3, p3)]) (lg := fun v54 => []) (lk := fun v54 => [(0, p0)]) E dX13_forward_54 rfl (by decide) (fun _ => rfl) (fun _ => rfl) (fun _ => rfl) (fun v54 => ?_)
      refine r_aload_n (pc := 55) E dX13_forward_55 rfl 0 rfl ?_
      refine r_dup (pc := 56) E dX13_forward_56 (rv_cat _ _) ?_
      refine r_getI (pc := 57) E fd_13_7 wf_RX13_193 dX13_forward_57 (fun v57 => ?_)
      refine r_iconst (pc := 60) (v := 1) E dX13_forward_60 (by decide) ?_
      refine r_iadd (pc := 61) E dX13_forward_61 ?_
      refine r_putI (pc := 62) E fd_13_7 wf_RX13_193 dX13_forward_62 (Or.inl rfl) (fun M62 => ?_)
      refine r_iinc (pc := 65) (w := 1) (lf := fun v65 => [(3, v65), (2, v54), (1, p1)]) (ll' := []) (lr' := [(0, p0)]) E dX13_forward_65 2 rfl (by decide) (by decide) (fun _ => rfl) rfl rfl (fun v65 => ?_)
      refine r_goto (pc := 68) (tgt := 24) E dX13_forward_68 (by decide) ?_
      exact r_sub [2, 1, 0] [] [0] rfl rfl rfl (hk24 ((p0, p1, v54, v65)) _)
  show RT p l e rmX13_forward s m args below meth c x 4 (QM below args s x (fun v : Int32 => some (.int v)) rmX13_forward.cells rmX13_forward.slots) 0 0 (fX13_forward a0 a1 M) 0 [(1, a1)] [] [(0, a0)] [] M
  unfold fX13_forward
  refine r_aload_n (pc := 0) E dX13_forward_0 rfl 0 rfl ?_
  refine r_getI (pc := 1) E fd_13_8 wf_RX13_190 dX13_forward_1 (fun v1 => ?_)
  refine r_aload_n (pc := 4) E dX13_forward_4 rfl 0 rfl ?_
  refine r_getI (pc := 5) E fd_13_7 wf_RX13_193 dX13_forward_5 (fun v5 => ?_)
  refine r_isub (pc := 8) E dX13_forward_8 ?_
  refine r_iload_n (pc := 9) E dX13_forward_9 rfl 0 rfl ?_
  refine r_icmp_ge (pc := 10) (tgt := 20) E dX13_forward_10 (by decide) ?_ ?_
  · refine r_iconst (pc := 20) (v := 0) E dX13_forward_20 (by decide) ?_
    refine r_istore_n (pc := 21) (lf := fun v21 => [(2, v21), (1, a1)]) (lg := fun v21 => []) (lk := fun v21 => [(0, a0)]) E dX13_forward_21 rfl (by decide) (fun _ => rfl) (fun _ => rfl) (fun _ => rfl) (fun v21 => ?_)
    refine r_iconst (pc := 22) (v := 0) E dX13_forward_22 (by decide) ?_
    refine r_istore_n (pc := 23) (lf := fun v23 => [(3, v23), (2, v21), (1, a1)]) (lg := fun v23 => []) (lk := fun v23 => [(0, a0)]) E dX13_forward_23 rfl (by decide) (fun _ => rfl) (fun _ => rfl) (fun _ => rfl) (fun v23 => ?_)
    exact r_sub [2, 1, 0] [] [0] rfl rfl rfl (hL24 a0 a1 v21 v23 _)
  · refine r_aload_n (pc := 13) E dX13_forward_13 rfl 0 rfl ?_
    refine r_iconst (pc := 14) (v := 1) E dX13_forward_14 (by decide) ?_
    refine r_putZ (pc := 15) E fd_13_9 wf_RX13_196 dX13_forward_15 (Or.inl rfl) (fun M15 => ?_)
    refine r_iconst (pc := 18) (v := 0) E dX13_forward_18 (by decide) ?_
    exact e_int (pc := 19) E dX13_forward_19
def fX13_log_B2 (k2 : Int32 × Int32 → Mem → Option (Int32 × Mem)) (p0 : Int32) (p1 : Int32) (M : Mem) : Option (Int32 × Mem) :=
  if (ushI p0 p1) ≤ 1 then (
    some (p1, M)
  ) else (
    bn (p1 + 1) fun v9 =>
    k2 ((p0, v9)) M
  )
def fX13_log_L2 (p0 : Int32) (p1 : Int32) (M : Mem) : Option (Int32 × Mem) :=
  lp (fun k2 (a : Int32 × Int32) M => fX13_log_B2 k2 a.1 a.2 M) FU ((p0, p1)) M
def fX13_log (a0 : Int32) (M : Mem) : Option (Int32 × Mem) :=
  bn (0) fun v1 =>
  fX13_log_L2 a0 v1 M
def rmX13_log : Room := { frames := 0, cells := 0, slots := 0, locals := 0 }
set_option maxRecDepth 100000 in
set_option maxHeartbeats 4000000 in
theorem ctX13_log (l : Launch) (x : Cx) (a0 : Int32) (M : Mem) (v : Int32) (N : Mem) (h : fX13_log a0 M = some (v, N)) : CT l yX13_log cX13_log 2 (some (FieldType.int)) rmX13_log x [.int a0] M (some (.int v)) N := by
  refine ct_mk (enc := fun v : Int32 => some (.int v)) (li := [(0, a0)]) (ll := []) (lr := []) (by decide +kernel) (by simp [lg_sl, rv_cat, cat_int, cat_long]) (by simp [flat, lv_args, rv_cat, cat_int, cat_long]) h ?_
  intro p e s m args below meth c E
  have hL2 : ∀ (p0 : Int32) (p1 : Int32) (M : Mem), RT p l e rmX13_log s m args below meth c x 2 (QM below args s x (fun v : Int32 => some (.int v)) rmX13_log.cells rmX13_log.slots) 0 0 (fX13_log_L2 p0 p1 M) 2 [(0, p0), (1, p1)] [] [] [] M := by
    intro p0 p1 M
    refine r_lp (fi := fun a : Int32 × Int32 => [(0, a.1), (1, a.2)]) (fl := fun a : Int32 × Int32 => []) (fr := fun a : Int32 × Int32 => []) (fs := fun a : Int32 × Int32 => []) ?_ FU ((p0, p1)) M
    intro k2 hk2 a M
    obtain ⟨p0, p1⟩ := a
    show RT p l e rmX13_log s m args below meth c x 2 (QM below args s x (fun v : Int32 => some (.int v)) rmX13_log.cells rmX13_log.slots) 0 0 (fX13_log_B2 k2 p0 p1 M) 2 [(0, p0), (1, p1)] [] [] [] M
    unfold fX13_log_B2
    refine r_iload_n (pc := 2) E dX13_log_2 rfl 0 rfl ?_
    refine r_iload_n (pc := 3) E dX13_log_3 rfl 1 rfl ?_
    refine r_iushr (pc := 4) E dX13_log_4 ?_
    refine r_iconst (pc := 5) (v := 1) E dX13_log_5 (by decide) ?_
    refine r_icmp_le (pc := 6) (tgt := 15) E dX13_log_6 (by decide) ?_ ?_
    · refine r_iload_n (pc := 15) E dX13_log_15 rfl 1 rfl ?_
      exact e_int (pc := 16) E dX13_log_16
    · refine r_iinc (pc := 9) (w := 1) (lf := fun v9 => [(1, v9), (0, p0)]) (ll' := []) (lr' := []) E dX13_log_9 1 rfl (by decide) (by decide) (fun _ => rfl) rfl rfl (fun v9 => ?_)
      refine r_goto (pc := 12) (tgt := 2) E dX13_log_12 (by decide) ?_
      exact r_sub [1, 0] [] [] rfl rfl rfl (hk2 ((p0, v9)) _)
  show RT p l e rmX13_log s m args below meth c x 2 (QM below args s x (fun v : Int32 => some (.int v)) rmX13_log.cells rmX13_log.slots) 0 0 (fX13_log a0 M) 0 [(0, a0)] [] [] [] M
  unfold fX13_log
  refine r_iconst (pc := 0) (v := 0) E dX13_log_0 (by decide) ?_
  refine r_istore_n (pc := 1) (lf := fun v1 => [(1, v1), (0, a0)]) (lg := fun v1 => []) (lk := fun v1 => []) E dX13_log_1 rfl (by decide) (fun _ => rfl) (fun _ => rfl) (fun _ => rfl) (fun v1 => ?_)
  exact r_sub [1, 0] [] [] rfl rfl rfl (hL2 a0 v1 _)
def fX13_reversed_L26 (M : Mem) : Option (Int32 × Mem) :=
  rtZ 0 M
def fX13_reversed (a0 : Option Nat) (a1 : Int32) (a2 : Int32) (M : Mem) : Option (Int32 × Mem) :=
  bo (pI M a0 13 10 a1) fun M2 =>
  bo (pI M2 a0 13 11 0) fun M7 =>
  if a2 ≤ a1 then (
    fX13_reversed_L26 M7
  ) else (
    bo (gR M7 a0 13 6) fun v16 =>
    bo (aI M7 v16 14 (a2 - 1)) fun v22 =>
    if v22 = 0 then (
      fX13_reversed_L26 M7
    ) else (
      bo (gR M7 a0 13 6) fun v38 =>
      bo (aI M7 v38 14 (a2 - 1)) fun v44 =>
      bd (fX13_log (v44 &&& 255) M7) fun v49 M49 =>
      bo (pI M49 a0 13 11 ((8 * ((a2 - a1) - 1)) + v49)) fun M53 =>
      bo (pZ M53 a0 13 9 0) fun M58 =>
      rtZ 1 M58
    )
  )
def rmX13_reversed : Room := { frames := 1, cells := 0, slots := 0, locals := 21 }
set_option maxRecDepth 100000 in
set_option maxHeartbeats 4000000 in
theorem ctX13_reversed (l : Launch) (x : Cx) (a0 : Option Nat) (a1 : Int32) (a2 : Int32) (M : Mem) (v : Int32) (N : Mem) (h : fX13_reversed a0 a1 a2 M = some (v, N)) : CT l yX13_reversed cX13_reversed 3 (some (FieldType.boolean)) rmX13_reversed x [rv x a0, .int a1, .int a2] M (some (.int v)) N := by
  refine ct_mk (enc := fun v : Int32 => some (.int v)) (li := [(1, a1), (2, a2)]) (ll := []) (lr := [(0, a0)]) (by decide +kernel) (by simp [lg_sl, rv_cat, cat_int, cat_long]) (by simp [flat, lv_args, rv_cat, cat_int, cat_long]) h ?_
  intro p e s m args below meth c E
  have hL26 : ∀ (M : Mem), RT p l e rmX13_reversed s m args below meth c x 3 (QM below args s x (fun v : Int32 => some (.int v)) rmX13_reversed.cells rmX13_reversed.slots) 0 0 (fX13_reversed_L26 M) 26 [] [] [] [] M := by
    intro M
    unfold fX13_reversed_L26
    refine r_iconst (pc := 26) (v := 0) E dX13_reversed_26 (by decide) ?_
    exact e_bool (pc := 27) E dX13_reversed_27
  show RT p l e rmX13_reversed s m args below meth c x 3 (QM below args s x (fun v : Int32 => some (.int v)) rmX13_reversed.cells rmX13_reversed.slots) 0 0 (fX13_reversed a0 a1 a2 M) 0 [(1, a1), (2, a2)] [] [(0, a0)] [] M
  unfold fX13_reversed
  refine r_aload_n (pc := 0) E dX13_reversed_0 rfl 0 rfl ?_
  refine r_iload_n (pc := 1) E dX13_reversed_1 rfl 0 rfl ?_
  refine r_putI (pc := 2) E fd_13_10 wf_RX13_200 dX13_reversed_2 (Or.inl rfl) (fun M2 => ?_)
  refine r_aload_n (pc := 5) E dX13_reversed_5 rfl 0 rfl ?_
  refine r_iconst (pc := 6) (v := 0) E dX13_reversed_6 (by decide) ?_
  refine r_putI (pc := 7) E fd_13_11 wf_RX13_203 dX13_reversed_7 (Or.inl rfl) (fun M7 => ?_)
  refine r_iload_n (pc := 10) E dX13_reversed_10 rfl 1 rfl ?_
  refine r_iload_n (pc := 11) E dX13_reversed_11 rfl 0 rfl ?_
  refine r_icmp_le (pc := 12) (tgt := 26) E dX13_reversed_12 (by decide) ?_ ?_
  · exact r_sub [] [] [] rfl rfl rfl (hL26 _)
  · refine r_aload_n (pc := 15) E dX13_reversed_15 rfl 0 rfl ?_
    refine r_getA (pc := 16) E fd_13_6 wf_RX13_20 dX13_reversed_16 (fun v16 => ?_)
    refine r_iload_n (pc := 19) E dX13_reversed_19 rfl 1 rfl ?_
    refine r_iconst (pc := 20) (v := 1) E dX13_reversed_20 (by decide) ?_
    refine r_isub (pc := 21) E dX13_reversed_21 ?_
    refine r_baload (pc := 22) E dX13_reversed_22 (fun v22 => ?_)
    refine r_if_ne (pc := 23) (tgt := 28) E dX13_reversed_23 (by decide) ?_ ?_
    · refine r_aload_n (pc := 28) E dX13_reversed_28 rfl 0 rfl ?_
      refine r_bipush (pc := 29) (v := 8) E dX13_reversed_29 (by decide) ?_
      refine r_iload_n (pc := 31) E dX13_reversed_31 rfl 1 rfl ?_
      refine r_iload_n (pc := 32) E dX13_reversed_32 rfl 0 rfl ?_
      refine r_isub (pc := 33) E dX13_reversed_33 ?_
      refine r_iconst (pc := 34) (v := 1) E dX13_reversed_34 (by decide) ?_
      refine r_isub (pc := 35) E dX13_reversed_35 ?_
      refine r_imul (pc := 36) E dX13_reversed_36 ?_
      refine r_aload_n (pc := 37) E dX13_reversed_37 rfl 0 rfl ?_
      refine r_getA (pc := 38) E fd_13_6 wf_RX13_20 dX13_reversed_38 (fun v38 => ?_)
      refine r_iload_n (pc := 41) E dX13_reversed_41 rfl 1 rfl ?_
      refine r_iconst (pc := 42) (v := 1) E dX13_reversed_42 (by decide) ?_
      refine r_isub (pc := 43) E dX13_reversed_43 ?_
      refine r_baload (pc := 44) E dX13_reversed_44 (fun v44 => ?_)
      refine r_sipush (pc := 45) (v := 255) E dX13_reversed_45 (by decide) ?_
      refine r_iand (pc := 48) E dX13_reversed_48 ?_
      refine r_kSi (pc := 49) (As := [.int (v44 &&& 255)]) (rest := [.int (8 * ((a2 - a1) - 1)), rv x a0]) E wc_X13_log wi_RX13 hd_X13_log wl_RX13_206 wt_X13_log dX13_reversed_49 (by decide) (Nat.le_of_ble_eq_true rfl) ⟨rfl, rfl⟩ (ctX13_log l x _ _) rfl (fun v49 M49 => ?_)
      refine r_iadd (pc := 52) E dX13_reversed_52 ?_
      refine r_putI (pc := 53) E fd_13_11 wf_RX13_203 dX13_reversed_53 (Or.inl rfl) (fun M53 => ?_)
      refine r_aload_n (pc := 56) E dX13_reversed_56 rfl 0 rfl ?_
      refine r_iconst (pc := 57) (v := 0) E dX13_reversed_57 (by decide) ?_
      refine r_putZ (pc := 58) E fd_13_9 wf_RX13_196 dX13_reversed_58 (Or.inl rfl) (fun M58 => ?_)
      refine r_iconst (pc := 61) (v := 1) E dX13_reversed_61 (by decide) ?_
      exact e_bool (pc := 62) E dX13_reversed_62
    · exact r_sub [] [] [] rfl rfl rfl (hL26 _)
def fX13_back_B20 (k20 : Option Nat × Int32 × Int64 × Int32 → Mem → Option (Int64 × Mem)) (p0 : Option Nat) (p1 : Int32) (p2 : Int64) (p4 : Int32) (M : Mem) : Option (Int64 × Mem) :=
  if p1 ≤ p4 then (
    some (p2, M)
  ) else (
    bo (gI M p0 13 11) fun v28 =>
    bo (pI M p0 13 11 (v28 - 1)) fun M33 =>
    bo (gR M33 p0 13 6) fun v40 =>
    bo (gI M33 p0 13 10) fun v44 =>
    bo (gI M33 p0 13 11) fun v48 =>
    bo (aI M33 v40 14 (v44 + (shrI v48 3))) fun v54 =>
    bo (gI M33 p0 13 11) fun v56 =>
    bn ((shlJ p2 1) ||| (((shrI v54 (v56 &&& 7)) &&& 1).toInt64)) fun v67 =>
    bn (p4 + 1) fun v68 =>
    k20 ((p0, p1, v67, v68)) M33
  )
def fX13_back_L20 (p0 : Option Nat) (p1 : Int32) (p2 : Int64) (p4 : Int32) (M : Mem) : Option (Int64 × Mem) :=
  lp (fun k20 (a : Option Nat × Int32 × Int64 × Int32) M => fX13_back_B20 k20 a.1 a.2.1 a.2.2.1 a.2.2.2 M) FU ((p0, p1, p2, p4)) M
def fX13_back (a0 : Option Nat) (a1 : Int32) (M : Mem) : Option (Int64 × Mem) :=
  bo (gI M a0 13 11) fun v1 =>
  if a1 ≤ v1 then (
    bn (0) fun v16 =>
    bn (0) fun v18 =>
    fX13_back_L20 a0 a1 v16 v18 M
  ) else (
    bo (pZ M a0 13 9 1) fun M10 =>
    some (0, M10)
  )
def rmX13_back : Room := { frames := 0, cells := 0, slots := 0, locals := 0 }
set_option maxRecDepth 100000 in
set_option maxHeartbeats 4000000 in
theorem ctX13_back (l : Launch) (x : Cx) (a0 : Option Nat) (a1 : Int32) (M : Mem) (v : Int64) (N : Mem) (h : fX13_back a0 a1 M = some (v, N)) : CT l yX13_back cX13_back 5 (some (FieldType.long)) rmX13_back x [rv x a0, .int a1] M (some (.long v)) N := by
  refine ct_mk (enc := fun v : Int64 => some (.long v)) (li := [(1, a1)]) (ll := []) (lr := [(0, a0)]) (by decide +kernel) (by simp [lg_sl, rv_cat, cat_int, cat_long]) (by simp [flat, lv_args, rv_cat, cat_int, cat_long]) h ?_
  intro p e s m args below meth c E
  have hL20 : ∀ (p0 : Option Nat) (p1 : Int32) (p2 : Int64) (p4 : Int32) (M : Mem), RT p l e rmX13_back s m args below meth c x 5 (QM below args s x (fun v : Int64 => some (.long v)) rmX13_back.cells rmX13_back.slots) 0 0 (fX13_back_L20 p0 p1 p2 p4 M) 20 [(1, p1), (4, p4)] [(2, p2)] [(0, p0)] [] M := by
    intro p0 p1 p2 p4 M
    refine r_lp (fi := fun a : Option Nat × Int32 × Int64 × Int32 => [(1, a.2.1), (4, a.2.2.2)]) (fl := fun a : Option Nat × Int32 × Int64 × Int32 => [(2, a.2.2.1)]) (fr := fun a : Option Nat × Int32 × Int64 × Int32 => [(0, a.1)]) (fs := fun a : Option Nat × Int32 × Int64 × Int32 => []) ?_ FU ((p0, p1, p2, p4)) M
    intro k20 hk20 a M
    obtain ⟨p0, p1, p2, p4⟩ := a
    show RT p l e rmX13_back s m args below meth c x 5 (QM below args s x (fun v : Int64 => some (.long v)) rmX13_back.cells rmX13_back.slots) 0 0 (fX13_back_B20 k20 p0 p1 p2 p4 M) 20 [(1, p1), (4, p4)] [(2, p2)] [(0, p0)] [] M
    unfold fX13_back_B20
    refine r_iload (pc := 20) E dX13_back_20 1 rfl ?_
    refine r_iload_n (pc := 22) E dX13_back_22 rfl 0 rfl ?_
    refine r_icmp_ge (pc := 23) (tgt := 74) E dX13_back_23 (by decide) ?_ ?_
    · refine r_lload_n (pc := 74) E dX13_back_74 rfl 0 rfl ?_
      exact e_long (pc := 75) E dX13_back_75
    · refine r_aload_n (pc := 26) E dX13_back_26 rfl 0 rfl ?_
      refine r_dup (pc := 27) E dX13_back_27 (rv_cat _ _) ?_
      refine r_getI (pc := 28) E fd_13_11 wf_RX13_203 dX13_back_28 (fun v28 => ?_)
      refine r_iconst (pc := 31) (v := 1) E dX13_back_31 (by decide) ?_
      refine r_isub (pc := 32) E dX13_back_32 ?_
      refine r_putI (pc := 33) E fd_13_11 wf_RX13_203 dX13_back_33 (Or.inl rfl) (fun M33 => ?_)
      refine r_lload_n (pc := 36) E dX13_back_36 rfl 0 rfl ?_
      refine r_iconst (pc := 37) (v := 1) E dX13_back_37 (by decide) ?_
      refine r_lshl (pc := 38) E dX13_back_38 ?_
      refine r_aload_n (pc := 39) E dX13_back_39 rfl 0 rfl ?_
      refine r_getA (pc := 40) E fd_13_6 wf_RX13_20 dX13_back_40 (fun v40 => ?_)
      refine r_aload_n (pc := 43) E dX13_back_43 rfl 0 rfl ?_
      refine r_getI (pc := 44) E fd_13_10 wf_RX13_200 dX13_back_44 (fun v44 => ?_)
      refine r_aload_n (pc := 47) E dX13_back_47 rfl 0 rfl ?_
      refine r_getI (pc := 48) E fd_13_11 wf_RX13_203 dX13_back_48 (fun v48 => ?_)
      refine r_iconst (pc := 51) (v := 3) E dX13_back_51 (by decide) ?_
      refine r_ishr (pc := 52) E dX13_back_52 ?_
      refine r_iadd (pc := 53) E dX13_back_53 ?_
      refine r_baload (pc := 54) E dX13_back_54 (fun v54 => ?_)
      refine r_aload_n (pc := 55) E dX13_back_55 rfl 0 rfl ?_
      refine r_getI (pc := 56) E fd_13_11 wf_RX13_203 dX13_back_56 (fun v56 => ?_)
      refine r_bipush (pc := 59) (v := 7) E dX13_back_59 (by decide) ?_
      refine r_iand (pc := 61) E dX13_back_61 ?_
      refine r_ishr (pc := 62) E dX13_back_62 ?_
      refine r_iconst (pc := 63) (v := 1) E dX13_back_63 (by decide) ?_
      refine r_iand (pc := 64) E dX13_back_64 ?_
      refine r_i2l (pc := 65) E dX13_back_65 ?_
      refine r_lor (pc := 66) E dX13_back_66 ?_
      refine r_lstore_n (pc := 67) (lf := fun v67 => [(1, p1), (4, p4)]) (lg := fun v67 => [(2, v67)]) (lk := fun v67 => [(0, p0)]) E dX13_back_67 rfl (by decide) (fun _ => rfl) (fun _ => rfl) (fun _ => rfl) (fun v67 => ?_)
      refine r_iinc (pc := 68) (w := 1) (lf := fun v68 => [(4, v68), (1, p1)]) (ll' := [(2, v67)]) (lr' := [(0, p0)]) E dX13_back_68 1 rfl (by decide) (by decide) (fun _ => rfl) rfl rfl (fun v68 => ?_)
      refine r_goto (pc := 71) (tgt := 20) E dX13_back_71 (by decide) ?_
      exact r_sub [1, 0] [0] [0] rfl rfl rfl (hk20 ((p0, p1, v67, v68)) _)
  show RT p l e rmX13_back s m args below meth c x 5 (QM below args s x (fun v : Int64 => some (.long v)) rmX13_back.cells rmX13_back.slots) 0 0 (fX13_back a0 a1 M) 0 [(1, a1)] [] [(0, a0)] [] M
  unfold fX13_back
  refine r_aload_n (pc := 0) E dX13_back_0 rfl 0 rfl ?_
  refine r_getI (pc := 1) E fd_13_11 wf_RX13_203 dX13_back_1 (fun v1 => ?_)
  refine r_iload_n (pc := 4) E dX13_back_4 rfl 0 rfl ?_
  refine r_icmp_ge (pc := 5) (tgt := 15) E dX13_back_5 (by decide) ?_ ?_
  · refine r_lconst (pc := 15) (v := 0) E dX13_back_15 (by decide) ?_
    refine r_lstore_n (pc := 16) (lf := fun v16 => [(1, a1)]) (lg := fun v16 => [(2, v16)]) (lk := fun v16 => [(0, a0)]) E dX13_back_16 rfl (by decide) (fun _ => rfl) (fun _ => rfl) (fun _ => rfl) (fun v16 => ?_)
    refine r_iconst (pc := 17) (v := 0) E dX13_back_17 (by decide) ?_
    refine r_istore (pc := 18) (lf := fun v18 => [(4, v18), (1, a1)]) (lg := fun v18 => [(2, v16)]) (lk := fun v18 => [(0, a0)]) E dX13_back_18 (by decide) (fun _ => rfl) (fun _ => rfl) (fun _ => rfl) (fun v18 => ?_)
    exact r_sub [1, 0] [0] [0] rfl rfl rfl (hL20 a0 a1 v16 v18 _)
  · refine r_aload_n (pc := 8) E dX13_back_8 rfl 0 rfl ?_
    refine r_iconst (pc := 9) (v := 1) E dX13_back_9 (by decide) ?_
    refine r_putZ (pc := 10) E fd_13_9 wf_RX13_196 dX13_back_10 (Or.inl rfl) (fun M10 => ?_)
    refine r_lconst (pc := 13) (v := 0) E dX13_back_13 (by decide) ?_
    exact e_long (pc := 14) E dX13_back_14
def fX13_table_B188 (k188 : Option Nat × Int32 × Int32 × Int32 × Int32 → Mem → Option (Unit × Mem)) (p0 : Option Nat) (p2 : Int32) (p3 : Int32) (p4 : Int32) (p7 : Int32) (M : Mem) : Option (Unit × Mem) :=
  if p3 ≤ p7 then (
    some ((), M)
  ) else (
    bo (gR M p0 13 19) fun v195 =>
    bo (gR M p0 13 14) fun v199 =>
    bo (aI M v199 17 (p4 + p7)) fun v207 =>
    bo (aI M v195 15 v207) fun v208 =>
    bn (v208) fun v209 =>
    bo (gR M p0 13 19) fun v212 =>
    bo (gR M p0 13 14) fun v216 =>
    bo (aI M v216 17 (p4 + p7)) fun v224 =>
    bo (aI M v212 15 v224) fun v226 =>
    bo (wI M v212 v224 (v226 + 1)) fun M229 =>
    bo (gR M229 p0 13 15) fun v231 =>
    bd (fX13_log v209 M229) fun v242 M242 =>
    bo (wB M242 v231 (p4 + p7) (i2b (p2 - v242))) fun M247 =>
    bo (gR M247 p0 13 16) fun v249 =>
    bo (gR M247 p0 13 15) fun v260 =>
    bo (aI M247 v260 14 (p4 + p7)) fun v268 =>
    bo (wI M247 v249 (p4 + p7) ((shlI v209 v268) - p3)) fun M272 =>
    bn (p7 + 1) fun v273 =>
    k188 ((p0, p2, p3, p4, v273)) M272
  )
def fX13_table_L188 (p0 : Option Nat) (p2 : Int32) (p3 : Int32) (p4 : Int32) (p7 : Int32) (M : Mem) : Option (Unit × Mem) :=
  lp (fun k188 (a : Option Nat × Int32 × Int32 × Int32 × Int32) M => fX13_table_B188 k188 a.1 a.2.1 a.2.2.1 a.2.2.2.1 a.2.2.2.2 M) FU ((p0, p2, p3, p4, p7)) M
def fX13_table_B148 (k112 : Option Nat × Int32 × Int32 × Int32 × Int32 × Int32 × Int32 → Mem → Option (Unit × Mem)) (k123 : Option Nat × Int32 × Int32 × Int32 × Int32 × Int32 × Int32 × Int32 → Mem → Option (Unit × Mem)) (k148 : Option Nat × Int32 × Int32 × Int32 × Int32 × Int32 × Int32 × Int32 → Mem → Option (Unit × Mem)) (p0 : Option Nat) (p2 : Int32) (p3 : Int32) (p4 : Int32) (p5 : Int32) (p6 : Int32) (p7 : Int32) (p8 : Int32) (M : Mem) : Option (Unit × Mem) :=
  bn ((((p6 + (shrI p3 1)) + (shrI p3 3)) + 3) &&& (p3 - 1)) fun v164 =>
  if p5 ≤ v164 then (
    k148 ((p0, p2, p3, p4, p5, v164, p7, p8)) M
  ) else (
    bn (p8 + 1) fun v173 =>
    k123 ((p0, p2, p3, p4, p5, v164, p7, v173)) M
  )
def fX13_table_L148 (k112 : Option Nat × Int32 × Int32 × Int32 × Int32 × Int32 × Int32 → Mem → Option (Unit × Mem)) (k123 : Option Nat × Int32 × Int32 × Int32 × Int32 × Int32 × Int32 × Int32 → Mem → Option (Unit × Mem)) (p0 : Option Nat) (p2 : Int32) (p3 : Int32) (p4 : Int32) (p5 : Int32) (p6 : Int32) (p7 : Int32) (p8 : Int32) (M : Mem) : Option (Unit × Mem) :=
  lp (fun k148 (a : Option Nat × Int32 × Int32 × Int32 × Int32 × Int32 × Int32 × Int32) M => fX13_table_B148 k112 k123 k148 a.1 a.2.1 a.2.2.1 a.2.2.2.1 a.2.2.2.2.1 a.2.2.2.2.2.1 a.2.2.2.2.2.2.1 a.2.2.2.2.2.2.2 M) FU ((p0, p2, p3, p4, p5, p6, p7, p8)) M
def fX13_table_B123 (k112 : Option Nat × Int32 × Int32 × Int32 × Int32 × Int32 × Int32 → Mem → Option (Unit × Mem)) (k123 : Option Nat × Int32 × Int32 × Int32 × Int32 × Int32 × Int32 × Int32 → Mem → Option (Unit × Mem)) (p0 : Option Nat) (p2 : Int32) (p3 : Int32) (p4 : Int32) (p5 : Int32) (p6 : Int32) (p7 : Int32) (p8 : Int32) (M : Mem) : Option (Unit × Mem) :=
  bo (gR M p0 13 12) fun v126 =>
  bo (aI M v126 15 p7) fun v131 =>
  if v131 ≤ p8 then (
    bn (p7 + 1) fun v179 =>
    k112 ((p0, p2, p3, p4, p5, p6, v179)) M
  ) else (
    bo (gR M p0 13 14) fun v136 =>
    bo (wS M v136 (p4 + p6) (i2s p7)) fun M147 =>
    fX13_table_L148 k112 k123 p0 p2 p3 p4 p5 p6 p7 p8 M147
  )
def fX13_table_L123 (k112 : Option Nat × Int32 × Int32 × Int32 × Int32 × Int32 × Int32 → Mem → Option (Unit × Mem)) (p0 : Option Nat) (p2 : Int32) (p3 : Int32) (p4 : Int32) (p5 : Int32) (p6 : Int32) (p7 : Int32) (p8 : Int32) (M : Mem) : Option (Unit × Mem) :=
  lp (fun k123 (a : Option Nat × Int32 × Int32 × Int32 × Int32 × Int32 × Int32 × Int32) M => fX13_table_B123 k112 k123 a.1 a.2.1 a.2.2.1 a.2.2.2.1 a.2.2.2.2.1 a.2.2.2.2.2.1 a.2.2.2.2.2.2.1 a.2.2.2.2.2.2.2 M) FU ((p0, p2, p3, p4, p5, p6, p7, p8)) M
def fX13_table_B112 (k112 : Option Nat × Int32 × Int32 × Int32 × Int32 × Int32 × Int32 → Mem → Option (Unit × Mem)) (p0 : Option Nat) (p2 : Int32) (p3 : Int32) (p4 : Int32) (p5 : Int32) (p6 : Int32) (p7 : Int32) (M : Mem) : Option (Unit × Mem) :=
  if 256 ≤ p7 then (
    bn (0) fun v186 =>
    fX13_table_L188 p0 p2 p3 p4 v186 M
  ) else (
    bn (0) fun v121 =>
    fX13_table_L123 k112 p0 p2 p3 p4 p5 p6 p7 v121 M
  )
def fX13_table_L112 (p0 : Option Nat) (p2 : Int32) (p3 : Int32) (p4 : Int32) (p5 : Int32) (p6 : Int32) (p7 : Int32) (M : Mem) : Option (Unit × Mem) :=
  lp (fun k112 (a : Option Nat × Int32 × Int32 × Int32 × Int32 × Int32 × Int32) M => fX13_table_B112 k112 a.1 a.2.1 a.2.2.1 a.2.2.2.1 a.2.2.2.2.1 a.2.2.2.2.2.1 a.2.2.2.2.2.2 M) FU ((p0, p2, p3, p4, p5, p6, p7)) M
def fX13_table_L99 (k36 : Option Nat × Int32 × Int32 × Int32 × Int32 × Int32 → Mem → Option (Unit × Mem)) (p0 : Option Nat) (p2 : Int32) (p3 : Int32) (p4 : Int32) (p5 : Int32) (p6 : Int32) (q0 : Option Nat) (q1 : Int32) (q2 : Int32) (M : Mem) : Option (Unit × Mem) :=
  bo (wI M q0 q1 q2) fun M99 =>
  bn (p6 + 1) fun v100 =>
  k36 ((p0, p2, p3, p4, p5, v100)) M99
def fX13_table_L71 (k36 : Option Nat × Int32 × Int32 × Int32 × Int32 × Int32 → Mem → Option (Unit × Mem)) (p0 : Option Nat) (p2 : Int32) (p3 : Int32) (p4 : Int32) (p5 : Int32) (p6 : Int32) (M : Mem) : Option (Unit × Mem) :=
  bo (gR M p0 13 19) fun v72 =>
  bo (gR M p0 13 12) fun v78 =>
  bo (aI M v78 15 p6) fun v83 =>
  if v83 = ((-1)) then (
    fX13_table_L99 k36 p0 p2 p3 p4 p5 p6 v72 p6 1 M
  ) else (
    bo (gR M p0 13 12) fun v93 =>
    bo (aI M v93 15 p6) fun v98 =>
    fX13_table_L99 k36 p0 p2 p3 p4 p5 p6 v72 p6 v98 M
  )
def fX13_table_B36 (k36 : Option Nat × Int32 × Int32 × Int32 × Int32 × Int32 → Mem → Option (Unit × Mem)) (p0 : Option Nat) (p2 : Int32) (p3 : Int32) (p4 : Int32) (p5 : Int32) (p6 : Int32) (M : Mem) : Option (Unit × Mem) :=
  if 256 ≤ p6 then (
    bn (0) fun v107 =>
    bn (0) fun v110 =>
    fX13_table_L112 p0 p2 p3 p4 p5 v107 v110 M
  ) else (
    bo (gR M p0 13 12) fun v45 =>
    bo (aI M v45 15 p6) fun v50 =>
    if v50 = ((-1)) then (
      bn (p5 + (-1)) fun v55 =>
      bo (gR M p0 13 14) fun v59 =>
      bo (wS M v59 (p4 + v55) (i2s p6)) fun M70 =>
      fX13_table_L71 k36 p0 p2 p3 p4 v55 p6 M70
    ) else (
      fX13_table_L71 k36 p0 p2 p3 p4 p5 p6 M
    )
  )
def fX13_table_L36 (p0 : Option Nat) (p2 : Int32) (p3 : Int32) (p4 : Int32) (p5 : Int32) (p6 : Int32) (M : Mem) : Option (Unit × Mem) :=
  lp (fun k36 (a : Option Nat × Int32 × Int32 × Int32 × Int32 × Int32) M => fX13_table_B36 k36 a.1 a.2.1 a.2.2.1 a.2.2.2.1 a.2.2.2.2.1 a.2.2.2.2.2 M) FU ((p0, p2, p3, p4, p5, p6)) M
def fX13_table (a0 : Option Nat) (a1 : Int32) (M : Mem) : Option (Unit × Mem) :=
  bo (gI M a0 13 13) fun v1 =>
  bn (v1) fun v4 =>
  bn (shlI 1 v4) fun v8 =>
  bn (512 * a1) fun v14 =>
  bn (v8) fun v17 =>
  bo (gR M a0 13 17) fun v20 =>
  bo (wI M v20 a1 v4) fun M25 =>
  bo (gR M25 a0 13 18) fun v27 =>
  bo (wZ M25 v27 a1 1) fun M32 =>
  bn (0) fun v34 =>
  fX13_table_L36 a0 v4 v8 v14 v17 v34 M32
def rmX13_table : Room := { frames := 1, cells := 0, slots := 0, locals := 21 }
set_option maxRecDepth 100000 in
set_option maxHeartbeats 4000000 in
theorem ctX13_table (l : Launch) (x : Cx) (a0 : Option Nat) (a1 : Int32) (M : Mem) (v : Unit) (N : Mem) (h : fX13_table a0 a1 M = some (v, N)) : CT l yX13_table cX13_table 9 (none) rmX13_table x [rv x a0, .int a1] M none N := by
  refine ct_mk (enc := fun _ : Unit => none) (li := [(1, a1)]) (ll := []) (lr := [(0, a0)]) (by decide +kernel) (by simp [lg_sl, rv_cat, cat_int, cat_long]) (by simp [flat, lv_args, rv_cat, cat_int, cat_long]) h ?_
  intro p e s m args below meth c E
  have hL188 : ∀ (p0 : Option Nat) (p2 : Int32) (p3 : Int32) (p4 : Int32) (p7 : Int32) (M : Mem), RT p l e rmX13_table s m args below meth c x 9 (QM below args s x (fun _ : Unit => none) rmX13_table.cells rmX13_table.slots) 0 0 (fX13_table_L188 p0 p2 p3 p4 p7 M) 188 [(2, p2), (3, p3), (4, p4), (7, p7)] [] [(0, p0)] [] M := by
    intro p0 p2 p3 p4 p7 M
    refine r_lp (fi := fun a : Option Nat × Int32 × Int32 × Int32 × Int32 => [(2, a.2.1), (3, a.2.2.1), (4, a.2.2.2.1), (7, a.2.2.2.2)]) (fl := fun a : Option Nat × Int32 × Int32 × Int32 × Int32 => []) (fr := fun a : Option Nat × Int32 × Int32 × Int32 × Int32 => [(0, a.1)]) (fs := fun a : Option Nat × Int32 × Int32 × Int32 × Int32 => []) ?_ FU ((p0, p2, p3, p4, p7)) M
    intro k188 hk188 a M
    obtain ⟨p0, p2, p3, p4, p7⟩ := a
    show RT p l e rmX13_table s m args below meth c x 9 (QM below args s x (fun _ : Unit => none) rmX13_table.cells rmX13_table.slots) 0 0 (fX13_table_B188 k188 p0 p2 p3 p4 p7 M) 188 [(2, p2), (3, p3), (4, p4), (7, p7)] [] [(0, p0)] [] M
    unfold fX13_table_B188
    refine r_iload (pc := 188) E dX13_table_188 3 rfl ?_
    refine r_iload_n (pc := 190) E dX13_table_190 rfl 1 rfl ?_
    refine r_icmp_ge (pc := 191) (tgt := 279) E dX13_table_191 (by decide) ?_ ?_
    · exact e_void (pc := 279) E dX13_table_279
    · refine r_aload_n (pc := 194) E dX13_table_194 rfl 0 rfl ?_
      refine r_getA (pc := 195) E fd_13_19 wf_RX13_44 dX13_table_195 (fun v195 => ?_)
      refine r_aload_n (pc := 198) E dX13_table_198 rfl 0 rfl ?_
      refine r_getA (pc := 199) E fd_13_14 wf_RX13_27 dX13_table_199 (fun v199 => ?_)
      refine r_iload (pc := 202) E dX13_table_202 2 rfl ?_
      refine r_iload (pc := 204) E dX13_table_204 3 rfl ?_
      refine r_iadd (pc := 206) E dX13_table_206 ?_
      refine r_saload (pc := 207) E dX13_table_207 (fun v207 => ?_)
      refine r_iaload (pc := 208) E dX13_table_208 (fun v208 => ?_)
      refine r_istore (pc := 209) (lf := fun v209 => [(8, v209), (2, p2), (3, p3), (4, p4), (7, p7)]) (lg := fun v209 => []) (lk := fun v209 => [(0, p0)]) E dX13_table_209 (by decide) (fun _ => rfl) (fun _ => rfl) (fun _ => rfl) (fun v209 => ?_)
      refine r_aload_n (pc := 211) E dX13_table_211 rfl 0 rfl ?_
      refine r_getA (pc := 212) E fd_13_19 wf_RX13_44 dX13_table_212 (fun v212 => ?_)
      refine r_aload_n (pc := 215) E dX13_table_215 rfl 0 rfl ?_
      refine r_getA (pc := 216) E fd_13_14 wf_RX13_27 dX13_table_216 (fun v216 => ?_)
      refine r_iload (pc := 219) E dX13_table_219 3 rfl ?_
      refine r_iload (pc := 221) E dX13_table_221 4 rfl ?_
      refine r_iadd (pc := 223) E dX13_table_223 ?_
      refine r_saload (pc := 224) E dX13_table_224 (fun v224 => ?_)
      refine r_dup2 (pc := 225) E dX13_table_225 rfl (rv_cat _ _) ?_
      refine r_iaload (pc := 226) E dX13_table_226 (fun v226 => ?_)
      refine r_iconst (pc := 227) (v := 1) E dX13_table_227 (by decide) ?_
      refine r_iadd (pc := 228) E dX13_table_228 ?_
      refine r_iastore (pc := 229) E dX13_table_229 (fun M229 => ?_)
      refine r_aload_n (pc := 230) E dX13_table_230 rfl 0 rfl ?_
      refine r_getA (pc := 231) E fd_13_15 wf_RX13_31 dX13_table_231 (fun v231 => ?_)
      refine r_iload (pc := 234) E dX13_table_234 3 rfl ?_
      refine r_iload (pc := 236) E dX13_table_236 4 rfl ?_
      refine r_iadd (pc := 238) E dX13_table_238 ?_
      refine r_iload_n (pc := 239) E dX13_table_239 rfl 1 rfl ?_
      refine r_iload (pc := 240) E dX13_table_240 0 rfl ?_
      refine r_kSi (pc := 242) (As := [.int v209]) (rest := [.int p2, .int (p4 + p7), rv x v231]) E wc_X13_log wi_RX13 hd_X13_log wl_RX13_206 wt_X13_log dX13_table_242 (by decide) (Nat.le_of_ble_eq_true rfl) ⟨rfl, rfl⟩ (ctX13_log l x _ _) rfl (fun v242 M242 => ?_)
      refine r_isub (pc := 245) E dX13_table_245 ?_
      refine r_i2b (pc := 246) E dX13_table_246 ?_
      refine r_bastore (pc := 247) E dX13_table_247 (fun M247 => ?_)
      refine r_aload_n (pc := 248) E dX13_table_248 rfl 0 rfl ?_
      refine r_getA (pc := 249) E fd_13_16 wf_RX13_34 dX13_table_249 (fun v249 => ?_)
      refine r_iload (pc := 252) E dX13_table_252 3 rfl ?_
      refine r_iload (pc := 254) E dX13_table_254 4 rfl ?_
      refine r_iadd (pc := 256) E dX13_table_256 ?_
      refine r_iload (pc := 257) E dX13_table_257 0 rfl ?_
      refine r_aload_n (pc := 259) E dX13_table_259 rfl 0 rfl ?_
      refine r_getA (pc := 260) E fd_13_15 wf_RX13_31 dX13_table_260 (fun v260 => ?_)
      refine r_iload (pc := 263) E dX13_table_263 3 rfl ?_
      refine r_iload (pc := 265) E dX13_table_265 4 rfl ?_
      refine r_iadd (pc := 267) E dX13_table_267 ?_
      refine r_baload (pc := 268) E dX13_table_268 (fun v268 => ?_)
      refine r_ishl (pc := 269) E dX13_table_269 ?_
      refine r_iload_n (pc := 270) E dX13_table_270 rfl 2 rfl ?_
      refine r_isub (pc := 271) E dX13_table_271 ?_
      refine r_iastore (pc := 272) E dX13_table_272 (fun M272 => ?_)
      refine r_iinc (pc := 273) (w := 1) (lf := fun v273 => [(7, v273), (8, v209), (2, p2), (3, p3), (4, p4)]) (ll' := []) (lr' := [(0, p0)]) E dX13_table_273 4 rfl (by decide) (by decide) (fun _ => rfl) rfl rfl (fun v273 => ?_)
      refine r_goto (pc := 276) (tgt := 188) E dX13_table_276 (by decide) ?_
      exact r_sub [2, 3, 4, 0] [] [0] rfl rfl rfl (hk188 ((p0, p2, p3, p4, v273)) _)
  have hL148 : ∀ (k112 : Option Nat × Int32 × Int32 × Int32 × Int32 × Int32 × Int32 → Mem → Option (Unit × Mem)) (hk112 : ∀ a M, RT p l e rmX13_table s m args below meth c x 9 (QM below args s x (fun _ : Unit => none) rmX13_table.cells rmX13_table.slots) 0 0 (k112 a M) 112 [(2, a.2.1), (3, a.2.2.1), (4, a.2.2.2.1), (5, a.2.2.2.2.1), (6, a.2.2.2.2.2.1), (7, a.2.2.2.2.2.2)] [] [(0, a.1)] [] M) (k123 : Option Nat × Int32 × Int32 × Int32 × Int32 × Int32 × Int32 × Int32 → Mem → Option (Unit × Mem)) (hk123 : ∀ a M, RT p l e rmX13_table s m args below meth c x 9 (QM below args s x (fun _ : Unit => none) rmX13_table.cells rmX13_table.slots) 0 0 (k123 a M) 123 [(2, a.2.1), (3, a.2.2.1), (4, a.2.2.2.1), (5, a.2.2.2.2.1), (6, a.2.2.2.2.2.1), (7, a.2.2.2.2.2.2.1), (8, a.2.2.2.2.2.2.2)] [] [(0, a.1)] [] M) (p0 : Option Nat) (p2 : Int32) (p3 : Int32) (p4 : Int32) (p5 : Int32) (p6 : Int32) (p7 : Int32) (p8 : Int32) (M : Mem), RT p l e rmX13_table s m args below meth c x 9 (QM below args s x (fun _ : Unit => none) rmX13_table.cells rmX13_table.slots) 0 0 (fX13_table_L148 k112 k123 p0 p2 p3 p4 p5 p6 p7 p8 M) 148 [(2, p2), (3, p3), (4, p4), (5, p5), (6, p6), (7, p7), (8, p8)] [] [(0, p0)] [] M := by
    intro k112 hk112 k123 hk123 p0 p2 p3 p4 p5 p6 p7 p8 M
    refine r_lp (fi := fun a : Option Nat × Int32 × Int32 × Int32 × Int32 × Int32 × Int32 × Int32 => [(2, a.2.1), (3, a.2.2.1), (4, a.2.2.2.1), (5, a.2.2.2.2.1), (6, a.2.2.2.2.2.1), (7, a.2.2.2.2.2.2.1), (8, a.2.2.2.2.2.2.2)]) (fl := fun a : Option Nat × Int32 × Int32 × Int32 × Int32 × Int32 × Int32 × Int32 => []) (fr := fun a : Option Nat × Int32 × Int32 × Int32 × Int32 × Int32 × Int32 × Int32 => [(0, a.1)]) (fs := fun a : Option Nat × Int32 × Int32 × Int32 × Int32 × Int32 × Int32 × Int32 => []) ?_ FU ((p0, p2, p3, p4, p5, p6, p7, p8)) M
    intro k148 hk148 a M
    obtain ⟨p0, p2, p3, p4, p5, p6, p7, p8⟩ := a
    show RT p l e rmX13_table s m args below meth c x 9 (QM below args s x (fun _ : Unit => none) rmX13_table.cells rmX13_table.slots) 0 0 (fX13_table_B148 k112 k123 k148 p0 p2 p3 p4 p5 p6 p7 p8 M) 148 [(2, p2), (3, p3), (4, p4), (5, p5), (6, p6), (7, p7), (8, p8)] [] [(0, p0)] [] M
    unfold fX13_table_B148
    refine r_iload (pc := 148) E dX13_table_148 4 rfl ?_
    refine r_iload_n (pc := 150) E dX13_table_150 rfl 1 rfl ?_
    refine r_iconst (pc := 151) (v := 1) E dX13_table_151 (by decide) ?_
    refine r_ishr (pc := 152) E dX13_table_152 ?_
    refine r_iadd (pc := 153) E dX13_table_153 ?_
    refine r_iload_n (pc := 154) E dX13_table_154 rfl 1 rfl ?_
    refine r_iconst (pc := 155) (v := 3) E dX13_table_155 (by decide) ?_
    refine r_ishr (pc := 156) E dX13_table_156 ?_
    refine r_iadd (pc := 157) E dX13_table_157 ?_
    refine r_iconst (pc := 158) (v := 3) E dX13_table_158 (by decide) ?_
    refine r_iadd (pc := 159) E dX13_table_159 ?_
    refine r_iload_n (pc := 160) E dX13_table_160 rfl 1 rfl ?_
    refine r_iconst (pc := 161) (v := 1) E dX13_table_161 (by decide) ?_
    refine r_isub (pc := 162) E dX13_table_162 ?_
    refine r_iand (pc := 163) E dX13_table_163 ?_
    refine r_istore (pc := 164) (lf := fun v164 => [(6, v164), (2, p2), (3, p3), (4, p4), (5, p5), (7, p7), (8, p8)]) (lg := fun v164 => []) (lk := fun v164 => [(0, p0)]) E dX13_table_164 (by decide) (fun _ => rfl) (fun _ => rfl) (fun _ => rfl) (fun v164 => ?_)
    refine r_iload (pc := 166) E dX13_table_166 0 rfl ?_
    refine r_iload (pc := 168) E dX13_table_168 4 rfl ?_
    refine r_icmp_ge (pc := 170) (tgt := 148) E dX13_table_170 (by decide) ?_ ?_
    · exact r_sub [1, 2, 3, 4, 0, 5, 6] [] [0] rfl rfl rfl (hk148 ((p0, p2, p3, p4, p5, v164, p7, p8)) _)
    · refine r_iinc (pc := 173) (w := 1) (lf := fun v173 => [(8, v173), (6, v164), (2, p2), (3, p3), (4, p4), (5, p5), (7, p7)]) (ll' := []) (lr' := [(0, p0)]) E dX13_table_173 6 rfl (by decide) (by decide) (fun _ => rfl) rfl rfl (fun v173 => ?_)
      refine r_goto (pc := 176) (tgt := 123) E dX13_table_176 (by decide) ?_
      exact r_sub [2, 3, 4, 5, 1, 6, 0] [] [0] rfl rfl rfl (hk123 ((p0, p2, p3, p4, p5, v164, p7, v173)) _)
  have hL123 : ∀ (k112 : Option Nat × Int32 × Int32 × Int32 × Int32 × Int32 × Int32 → Mem → Option (Unit × Mem)) (hk112 : ∀ a M, RT p l e rmX13_table s m args below meth c x 9 (QM below args s x (fun _ : Unit => none) rmX13_table.cells rmX13_table.slots) 0 0 (k112 a M) 112 [(2, a.2.1), (3, a.2.2.1), (4, a.2.2.2.1), (5, a.2.2.2.2.1), (6, a.2.2.2.2.2.1), (7, a.2.2.2.2.2.2)] [] [(0, a.1)] [] M) (p0 : Option Nat) (p2 : Int32) (p3 : Int32) (p4 : Int32) (p5 : Int32) (p6 : Int32) (p7 : Int32) (p8 : Int32) (M : Mem), RT p l e rmX13_table s m args below meth c x 9 (QM below args s x (fun _ : Unit => none) rmX13_table.cells rmX13_table.slots) 0 0 (fX13_table_L123 k112 p0 p2 p3 p4 p5 p6 p7 p8 M) 123 [(2, p2), (3, p3), (4, p4), (5, p5), (6, p6), (7, p7), (8, p8)] [] [(0, p0)] [] M := by
    intro k112 hk112 p0 p2 p3 p4 p5 p6 p7 p8 M
    refine r_lp (fi := fun a : Option Nat × Int32 × Int32 × Int32 × Int32 × Int32 × Int32 × Int32 => [(2, a.2.1), (3, a.2.2.1), (4, a.2.2.2.1), (5, a.2.2.2.2.1), (6, a.2.2.2.2.2.1), (7, a.2.2.2.2.2.2.1), (8, a.2.2.2.2.2.2.2)]) (fl := fun a : Option Nat × Int32 × Int32 × Int32 × Int32 × Int32 × Int32 × Int32 => []) (fr := fun a : Option Nat × Int32 × Int32 × Int32 × Int32 × Int32 × Int32 × Int32 => [(0, a.1)]) (fs := fun a : Option Nat × Int32 × Int32 × Int32 × Int32 × Int32 × Int32 × Int32 => []) ?_ FU ((p0, p2, p3, p4, p5, p6, p7, p8)) M
    intro k123 hk123 a M
    obtain ⟨p0, p2, p3, p4, p5, p6, p7, p8⟩ := a
    show RT p l e rmX13_table s m args below meth c x 9 (QM below args s x (fun _ : Unit => none) rmX13_table.cells rmX13_table.slots) 0 0 (fX13_table_B123 k112 k123 p0 p2 p3 p4 p5 p6 p7 p8 M) 123 [(2, p2), (3, p3), (4, p4), (5, p5), (6, p6), (7, p7), (8, p8)] [] [(0, p0)] [] M
    unfold fX13_table_B123
    refine r_iload (pc := 123) E dX13_table_123 6 rfl ?_
    refine r_aload_n (pc := 125) E dX13_table_125 rfl 0 rfl ?_
    refine r_getA (pc := 126) E fd_13_12 wf_RX13_23 dX13_table_126 (fun v126 => ?_)
    refine r_iload (pc := 129) E dX13_table_129 5 rfl ?_
    refine r_iaload (pc := 131) E dX13_table_131 (fun v131 => ?_)
    refine r_icmp_ge (pc := 132) (tgt := 179) E dX13_table_132 (by decide) ?_ ?_
    · refine r_iinc (pc := 179) (w := 1) (lf := fun v179 => [(7, v179), (2, p2), (3, p3), (4, p4), (5, p5), (6, p6), (8, p8)]) (ll' := []) (lr' := [(0, p0)]) E dX13_table_179 5 rfl (by decide) (by decide) (fun _ => rfl) rfl rfl (fun v179 => ?_)
      refine r_goto (pc := 182) (tgt := 112) E dX13_table_182 (by decide) ?_
      exact r_sub [1, 2, 3, 4, 5, 0] [] [0] rfl rfl rfl (hk112 ((p0, p2, p3, p4, p5, p6, v179)) _)
    · refine r_aload_n (pc := 135) E dX13_table_135 rfl 0 rfl ?_
      refine r_getA (pc := 136) E fd_13_14 wf_RX13_27 dX13_table_136 (fun v136 => ?_)
      refine r_iload (pc := 139) E dX13_table_139 2 rfl ?_
      refine r_iload (pc := 141) E dX13_table_141 4 rfl ?_
      refine r_iadd (pc := 143) E dX13_table_143 ?_
      refine r_iload (pc := 144) E dX13_table_144 5 rfl ?_
      refine r_i2s (pc := 146) E dX13_table_146 ?_
      refine r_sastore (pc := 147) E dX13_table_147 (fun M147 => ?_)
      exact r_sub [0, 1, 2, 3, 4, 5, 6] [] [0] rfl rfl rfl (hL148 k112 hk112 k123 hk123 p0 p2 p3 p4 p5 p6 p7 p8 _)
  have hL112 : ∀ (p0 : Option Nat) (p2 : Int32) (p3 : Int32) (p4 : Int32) (p5 : Int32) (p6 : Int32) (p7 : Int32) (M : Mem), RT p l e rmX13_table s m args below meth c x 9 (QM below args s x (fun _ : Unit => none) rmX13_table.cells rmX13_table.slots) 0 0 (fX13_table_L112 p0 p2 p3 p4 p5 p6 p7 M) 112 [(2, p2), (3, p3), (4, p4), (5, p5), (6, p6), (7, p7)] [] [(0, p0)] [] M := by
    intro p0 p2 p3 p4 p5 p6 p7 M
    refine r_lp (fi := fun a : Option Nat × Int32 × Int32 × Int32 × Int32 × Int32 × Int32 => [(2, a.2.1), (3, a.2.2.1), (4, a.2.2.2.1), (5, a.2.2.2.2.1), (6, a.2.2.2.2.2.1), (7, a.2.2.2.2.2.2)]) (fl := fun a : Option Nat × Int32 × Int32 × Int32 × Int32 × Int32 × Int32 => []) (fr := fun a : Option Nat × Int32 × Int32 × Int32 × Int32 × Int32 × Int32 => [(0, a.1)]) (fs := fun a : Option Nat × Int32 × Int32 × Int32 × Int32 × Int32 × Int32 => []) ?_ FU ((p0, p2, p3, p4, p5, p6, p7)) M
    intro k112 hk112 a M
    obtain ⟨p0, p2, p3, p4, p5, p6, p7⟩ := a
    show RT p l e rmX13_table s m args below meth c x 9 (QM below args s x (fun _ : Unit => none) rmX13_table.cells rmX13_table.slots) 0 0 (fX13_table_B112 k112 p0 p2 p3 p4 p5 p6 p7 M) 112 [(2, p2), (3, p3), (4, p4), (5, p5), (6, p6), (7, p7)] [] [(0, p0)] [] M
    unfold fX13_table_B112
    refine r_iload (pc := 112) E dX13_table_112 5 rfl ?_
    refine r_sipush (pc := 114) (v := 256) E dX13_table_114 (by decide) ?_
    refine r_icmp_ge (pc := 117) (tgt := 185) E dX13_table_117 (by decide) ?_ ?_
    · refine r_iconst (pc := 185) (v := 0) E dX13_table_185 (by decide) ?_
      refine r_istore (pc := 186) (lf := fun v186 => [(7, v186), (2, p2), (3, p3), (4, p4), (5, p5), (6, p6)]) (lg := fun v186 => []) (lk := fun v186 => [(0, p0)]) E dX13_table_186 (by decide) (fun _ => rfl) (fun _ => rfl) (fun _ => rfl) (fun v186 => ?_)
      exact r_sub [1, 2, 3, 0] [] [0] rfl rfl rfl (hL188 p0 p2 p3 p4 v186 _)
    · refine r_iconst (pc := 120) (v := 0) E dX13_table_120 (by decide) ?_
      refine r_istore (pc := 121) (lf := fun v121 => [(8, v121), (2, p2), (3, p3), (4, p4), (5, p5), (6, p6), (7, p7)]) (lg := fun v121 => []) (lk := fun v121 => [(0, p0)]) E dX13_table_121 (by decide) (fun _ => rfl) (fun _ => rfl) (fun _ => rfl) (fun v121 => ?_)
      exact r_sub [1, 2, 3, 4, 5, 6, 0] [] [0] rfl rfl rfl (hL123 k112 hk112 p0 p2 p3 p4 p5 p6 p7 v121 _)
  have hL99 : ∀ (k36 : Option Nat × Int32 × Int32 × Int32 × Int32 × Int32 → Mem → Option (Unit × Mem)) (hk36 : ∀ a M, RT p l e rmX13_table s m args below meth c x 9 (QM below args s x (fun _ : Unit => none) rmX13_table.cells rmX13_table.slots) 0 0 (k36 a M) 36 [(2, a.2.1), (3, a.2.2.1), (4, a.2.2.2.1), (5, a.2.2.2.2.1), (6, a.2.2.2.2.2)] [] [(0, a.1)] [] M) (p0 : Option Nat) (p2 : Int32) (p3 : Int32) (p4 : Int32) (p5 : Int32) (p6 : Int32) (q0 : Option Nat) (q1 : Int32) (q2 : Int32) (M : Mem), RT p l e rmX13_table s m args below meth c x 9 (QM below args s x (fun _ : Unit => none) rmX13_table.cells rmX13_table.slots) 0 0 (fX13_table_L99 k36 p0 p2 p3 p4 p5 p6 q0 q1 q2 M) 99 [(2, p2), (3, p3), (4, p4), (5, p5), (6, p6)] [] [(0, p0)] [.int q2, .int q1, rv x q0] M := by
    intro k36 hk36 p0 p2 p3 p4 p5 p6 q0 q1 q2 M
    unfold fX13_table_L99
    refine r_iastore (pc := 99) E dX13_table_99 (fun M99 => ?_)
    refine r_iinc (pc := 100) (w := 1) (lf := fun v100 => [(6, v100), (2, p2), (3, p3), (4, p4), (5, p5)]) (ll' := []) (lr' := [(0, p0)]) E dX13_table_100 4 rfl (by decide) (by decide) (fun _ => rfl) rfl rfl (fun v100 => ?_)
    refine r_goto (pc := 103) (tgt := 36) E dX13_table_103 (by decide) ?_
    exact r_sub [1, 2, 3, 4, 0] [] [0] rfl rfl rfl (hk36 ((p0, p2, p3, p4, p5, v100)) _)
  have hL71 : ∀ (k36 : Option Nat × Int32 × Int32 × Int32 × Int32 × Int32 → Mem → Option (Unit × Mem)) (hk36 : ∀ a M, RT p l e rmX13_table s m args below meth c x 9 (QM below args s x (fun _ : Unit => none) rmX13_table.cells rmX13_table.slots) 0 0 (k36 a M) 36 [(2, a.2.1), (3, a.2.2.1), (4, a.2.2.2.1), (5, a.2.2.2.2.1), (6, a.2.2.2.2.2)] [] [(0, a.1)] [] M) (p0 : Option Nat) (p2 : Int32) (p3 : Int32) (p4 : Int32) (p5 : Int32) (p6 : Int32) (M : Mem), RT p l e rmX13_table s m args below meth c x 9 (QM below args s x (fun _ : Unit => none) rmX13_table.cells rmX13_table.slots) 0 0 (fX13_table_L71 k36 p0 p2 p3 p4 p5 p6 M) 71 [(2, p2), (3, p3), (4, p4), (5, p5), (6, p6)] [] [(0, p0)] [] M := by
    intro k36 hk36 p0 p2 p3 p4 p5 p6 M
    unfold fX13_table_L71
    refine r_aload_n (pc := 71) E dX13_table_71 rfl 0 rfl ?_
    refine r_getA (pc := 72) E fd_13_19 wf_RX13_44 dX13_table_72 (fun v72 => ?_)
    refine r_iload (pc := 75) E dX13_table_75 4 rfl ?_
    refine r_aload_n (pc := 77) E dX13_table_77 rfl 0 rfl ?_
    refine r_getA (pc := 78) E fd_13_12 wf_RX13_23 dX13_table_78 (fun v78 => ?_)
    refine r_iload (pc := 81) E dX13_table_81 4 rfl ?_
    refine r_iaload (pc := 83) E dX13_table_83 (fun v83 => ?_)
    refine r_iconst (pc := 84) (v := (-1)) E dX13_table_84 (by decide) ?_
    refine r_icmp_ne (pc := 85) (tgt := 92) E dX13_table_85 (by decide) ?_ ?_
    · refine r_aload_n (pc := 92) E dX13_table_92 rfl 0 rfl ?_
      refine r_getA (pc := 93) E fd_13_12 wf_RX13_23 dX13_table_93 (fun v93 => ?_)
      refine r_iload (pc := 96) E dX13_table_96 4 rfl ?_
      refine r_iaload (pc := 98) E dX13_table_98 (fun v98 => ?_)
      exact r_sub [0, 1, 2, 3, 4] [] [0] rfl rfl rfl (hL99 k36 hk36 p0 p2 p3 p4 p5 p6 v72 p6 v98 _)
    · refine r_iconst (pc := 88) (v := 1) E dX13_table_88 (by decide) ?_
      refine r_goto (pc := 89) (tgt := 99) E dX13_table_89 (by decide) ?_
      exact r_sub [0, 1, 2, 3, 4] [] [0] rfl rfl rfl (hL99 k36 hk36 p0 p2 p3 p4 p5 p6 v72 p6 1 _)
  have hL36 : ∀ (p0 : Option Nat) (p2 : Int32) (p3 : Int32) (p4 : Int32) (p5 : Int32) (p6 : Int32) (M : Mem), RT p l e rmX13_table s m args below meth c x 9 (QM below args s x (fun _ : Unit => none) rmX13_table.cells rmX13_table.slots) 0 0 (fX13_table_L36 p0 p2 p3 p4 p5 p6 M) 36 [(2, p2), (3, p3), (4, p4), (5, p5), (6, p6)] [] [(0, p0)] [] M := by
    intro p0 p2 p3 p4 p5 p6 M
    refine r_lp (fi := fun a : Option Nat × Int32 × Int32 × Int32 × Int32 × Int32 => [(2, a.2.1), (3, a.2.2.1), (4, a.2.2.2.1), (5, a.2.2.2.2.1), (6, a.2.2.2.2.2)]) (fl := fun a : Option Nat × Int32 × Int32 × Int32 × Int32 × Int32 => []) (fr := fun a : Option Nat × Int32 × Int32 × Int32 × Int32 × Int32 => [(0, a.1)]) (fs := fun a : Option Nat × Int32 × Int32 × Int32 × Int32 × Int32 => []) ?_ FU ((p0, p2, p3, p4, p5, p6)) M
    intro k36 hk36 a M
    obtain ⟨p0, p2, p3, p4, p5, p6⟩ := a
    show RT p l e rmX13_table s m args below meth c x 9 (QM below args s x (fun _ : Unit => none) rmX13_table.cells rmX13_table.slots) 0 0 (fX13_table_B36 k36 p0 p2 p3 p4 p5 p6 M) 36 [(2, p2), (3, p3), (4, p4), (5, p5), (6, p6)] [] [(0, p0)] [] M
    unfold fX13_table_B36
    refine r_iload (pc := 36) E dX13_table_36 4 rfl ?_
    refine r_sipush (pc := 38) (v := 256) E dX13_table_38 (by decide) ?_
    refine r_icmp_ge (pc := 41) (tgt := 106) E dX13_table_41 (by decide) ?_ ?_
    · refine r_iconst (pc := 106) (v := 0) E dX13_table_106 (by decide) ?_
      refine r_istore (pc := 107) (lf := fun v107 => [(6, v107), (2, p2), (3, p3), (4, p4), (5, p5)]) (lg := fun v107 => []) (lk := fun v107 => [(0, p0)]) E dX13_table_107 (by decide) (fun _ => rfl) (fun _ => rfl) (fun _ => rfl) (fun v107 => ?_)
      refine r_iconst (pc := 109) (v := 0) E dX13_table_109 (by decide) ?_
      refine r_istore (pc := 110) (lf := fun v110 => [(7, v110), (6, v107), (2, p2), (3, p3), (4, p4), (5, p5)]) (lg := fun v110 => []) (lk := fun v110 => [(0, p0)]) E dX13_table_110 (by decide) (fun _ => rfl) (fun _ => rfl) (fun _ => rfl) (fun v110 => ?_)
      exact r_sub [2, 3, 4, 5, 1, 0] [] [0] rfl rfl rfl (hL112 p0 p2 p3 p4 p5 v107 v110 _)
    · refine r_aload_n (pc := 44) E dX13_table_44 rfl 0 rfl ?_
      refine r_getA (pc := 45) E fd_13_12 wf_RX13_23 dX13_table_45 (fun v45 => ?_)
      refine r_iload (pc := 48) E dX13_table_48 4 rfl ?_
      refine r_iaload (pc := 50) E dX13_table_50 (fun v50 => ?_)
      refine r_iconst (pc := 51) (v := (-1)) E dX13_table_51 (by decide) ?_
      refine r_icmp_ne (pc := 52) (tgt := 71) E dX13_table_52 (by decide) ?_ ?_
      · exact r_sub [0, 1, 2, 3, 4] [] [0] rfl rfl rfl (hL71 k36 hk36 p0 p2 p3 p4 p5 p6 _)
      · refine r_iinc (pc := 55) (w := (-1)) (lf := fun v55 => [(5, v55), (2, p2), (3, p3), (4, p4), (6, p6)]) (ll' := []) (lr' := [(0, p0)]) E dX13_table_55 3 rfl (by decide) (by decide) (fun _ => rfl) rfl rfl (fun v55 => ?_)
        refine r_aload_n (pc := 58) E dX13_table_58 rfl 0 rfl ?_
        refine r_getA (pc := 59) E fd_13_14 wf_RX13_27 dX13_table_59 (fun v59 => ?_)
        refine r_iload (pc := 62) E dX13_table_62 3 rfl ?_
        refine r_iload (pc := 64) E dX13_table_64 0 rfl ?_
        refine r_iadd (pc := 66) E dX13_table_66 ?_
        refine r_iload (pc := 67) E dX13_table_67 4 rfl ?_
        refine r_i2s (pc := 69) E dX13_table_69 ?_
        refine r_sastore (pc := 70) E dX13_table_70 (fun M70 => ?_)
        exact r_sub [1, 2, 3, 0, 4] [] [0] rfl rfl rfl (hL71 k36 hk36 p0 p2 p3 p4 v55 p6 _)
  show RT p l e rmX13_table s m args below meth c x 9 (QM below args s x (fun _ : Unit => none) rmX13_table.cells rmX13_table.slots) 0 0 (fX13_table a0 a1 M) 0 [(1, a1)] [] [(0, a0)] [] M
  unfold fX13_table
  refine r_aload_n (pc := 0) E dX13_table_0 rfl 0 rfl ?_
  refine r_getI (pc := 1) E fd_13_13 wf_RX13_210 dX13_table_1 (fun v1 => ?_)
  refine r_istore_n (pc := 4) (lf := fun v4 => [(2, v4), (1, a1)]) (lg := fun v4 => []) (lk := fun v4 => [(0, a0)]) E dX13_table_4 rfl (by decide) (fun _ => rfl) (fun _ => rfl) (fun _ => rfl) (fun v4 => ?_)
  refine r_iconst (pc := 5) (v := 1) E dX13_table_5 (by decide) ?_
  refine r_iload_n (pc := 6) E dX13_table_6 rfl 0 rfl ?_
  refine r_ishl (pc := 7) E dX13_table_7 ?_
  refine r_istore_n (pc := 8) (lf := fun v8 => [(3, v8), (2, v4), (1, a1)]) (lg := fun v8 => []) (lk := fun v8 => [(0, a0)]) E dX13_table_8 rfl (by decide) (fun _ => rfl) (fun _ => rfl) (fun _ => rfl) (fun v8 => ?_)
  refine r_sipush (pc := 9) (v := 512) E dX13_table_9 (by decide) ?_
  refine r_iload_n (pc := 12) E dX13_table_12 rfl 2 rfl ?_
  refine r_imul (pc := 13) E dX13_table_13 ?_
  refine r_istore (pc := 14) (lf := fun v14 => [(4, v14), (3, v8), (2, v4), (1, a1)]) (lg := fun v14 => []) (lk := fun v14 => [(0, a0)]) E dX13_table_14 (by decide) (fun _ => rfl) (fun _ => rfl) (fun _ => rfl) (fun v14 => ?_)
  refine r_iload_n (pc := 16) E dX13_table_16 rfl 1 rfl ?_
  refine r_istore (pc := 17) (lf := fun v17 => [(5, v17), (4, v14), (3, v8), (2, v4), (1, a1)]) (lg := fun v17 => []) (lk := fun v17 => [(0, a0)]) E dX13_table_17 (by decide) (fun _ => rfl) (fun _ => rfl) (fun _ => rfl) (fun v17 => ?_)
  refine r_aload_n (pc := 19) E dX13_table_19 rfl 0 rfl ?_
  refine r_getA (pc := 20) E fd_13_17 wf_RX13_37 dX13_table_20 (fun v20 => ?_)
  refine r_iload_n (pc := 23) E dX13_table_23 rfl 4 rfl ?_
  refine r_iload_n (pc := 24) E dX13_table_24 rfl 3 rfl ?_
  refine r_iastore (pc := 25) E dX13_table_25 (fun M25 => ?_)
  refine r_aload_n (pc := 26) E dX13_table_26 rfl 0 rfl ?_
  refine r_getA (pc := 27) E fd_13_18 wf_RX13_40 dX13_table_27 (fun v27 => ?_)
  refine r_iload_n (pc := 30) E dX13_table_30 rfl 4 rfl ?_
  refine r_iconst (pc := 31) (v := 1) E dX13_table_31 (by decide) ?_
  refine r_zastore (pc := 32) E dX13_table_32 (fun M32 => ?_)
  refine r_iconst (pc := 33) (v := 0) E dX13_table_33 (by decide) ?_
  refine r_istore (pc := 34) (lf := fun v34 => [(6, v34), (5, v17), (4, v14), (3, v8), (2, v4), (1, a1)]) (lg := fun v34 => []) (lk := fun v34 => [(0, a0)]) E dX13_table_34 (by decide) (fun _ => rfl) (fun _ => rfl) (fun _ => rfl) (fun v34 => ?_)
  exact r_sub [4, 3, 2, 1, 0] [] [0] rfl rfl rfl (hL36 a0 v4 v8 v14 v17 v34 _)
