def fX0_init (a0 : Option Nat) (M : Mem) : Option (Unit × Mem) :=
  bo (chk0 a0) fun _ =>
  bd (nwA M 14 0 0) fun v6 M6 =>
  bo (pR M6 a0 0 0 v6) fun M8 =>
  some ((), M8)
def rmX0_init : Room := { frames := 1, cells := 1, slots := 0, locals := 20 }
set_option maxRecDepth 100000 in
set_option maxHeartbeats 4000000 in
theorem ctX0_init (l : Launch) (x : Cx) (a0 : Option Nat) (M : Mem) (v : Unit) (N : Mem) (h : fX0_init a0 M = some (v, N)) : CT l yX0_init cX0_init 1 (none) rmX0_init x [rv x a0] M none N := by
  refine ct_mk (enc := fun _ : Unit => none) (li := []) (ll := []) (lr := [(0, a0)]) (by decide +kernel) (by simp [lg_sl, rv_cat, cat_int, cat_long]) (by simp [flat, lv_args, rv_cat, cat_int, cat_long]) h ?_
  intro p e s m args below meth c E
  show RT p l e rmX0_init s m args below meth c x 1 (QM below args s x (fun _ : Unit => none) rmX0_init.cells rmX0_init.slots) 0 0 (fX0_init a0 M) 0 [] [] [(0, a0)] [] M
  unfold fX0_init
  refine r_aload_n (pc := 0) E dX0_init_0 rfl 0 rfl ?_
  refine r_obj (pc := 1) E wl_RX0_1 wo_inst wo_code dX0_init_1 (by decide) (by decide) (Nat.le_of_ble_eq_true rfl) ?_
  refine r_aload_n (pc := 4) E dX0_init_4 rfl 0 rfl ?_
  refine r_iconst (pc := 5) (v := 0) E dX0_init_5 (by decide) ?_
  refine r_newarrayB (pc := 6) E wa_B dX0_init_6 (by decide) (by decide) (by decide) (fun v6 M6 => ?_)
  refine r_widen (k := 1) (n := 0) (by decide) (by decide) ?_
  refine r_putA (pc := 8) E fd_0_0 wf_RX0_7 dX0_init_8 (Or.inl rfl) (fun M8 => ?_)
  refine r_widen (k := 1) (n := 0) (by decide) (by decide) ?_
  exact e_void (pc := 11) E dX0_init_11
def fX8_get_L27 (q0 : Int32) (M : Mem) : Option (Int32 × Mem) :=
  some (q0, M)
def fX8_get_L26 (M : Mem) : Option (Int32 × Mem) :=
  fX8_get_L27 0 M
def fX8_get (a0 : Option Nat) (a1 : Int32) (M : Mem) : Option (Int32 × Mem) :=
  if a1 < 0 then (
    fX8_get_L26 M
  ) else (
    bo (gR M a0 8 0) fun v6 =>
    bo (aL M v6) fun v9 =>
    if v9 ≤ a1 then (
      fX8_get_L26 M
    ) else (
      bo (gR M a0 8 0) fun v14 =>
      bo (aI M v14 14 a1) fun v18 =>
      fX8_get_L27 (v18 &&& 255) M
    )
  )
def rmX8_get : Room := { frames := 0, cells := 0, slots := 0, locals := 0 }
set_option maxRecDepth 100000 in
set_option maxHeartbeats 4000000 in
theorem ctX8_get (l : Launch) (x : Cx) (a0 : Option Nat) (a1 : Int32) (M : Mem) (v : Int32) (N : Mem) (h : fX8_get a0 a1 M = some (v, N)) : CT l yX8_get cX8_get 2 (some (FieldType.int)) rmX8_get x [rv x a0, .int a1] M (some (.int v)) N := by
  refine ct_mk (enc := fun v : Int32 => some (.int v)) (li := [(1, a1)]) (ll := []) (lr := [(0, a0)]) (by decide +kernel) (by simp [lg_sl, rv_cat, cat_int, cat_long]) (by simp [flat, lv_args, rv_cat, cat_int, cat_long]) h ?_
  intro p e s m args below meth c E
  have hL27 : ∀ (q0 : Int32) (M : Mem), RT p l e rmX8_get s m args below meth c x 2 (QM below args s x (fun v : Int32 => some (.int v)) rmX8_get.cells rmX8_get.slots) 0 0 (fX8_get_L27 q0 M) 27 [] [] [] [.int q0] M := by
    intro q0 M
    unfold fX8_get_L27
    exact e_int (pc := 27) E dX8_get_27
  have hL26 : ∀ (M : Mem), RT p l e rmX8_get s m args below meth c x 2 (QM below args s x (fun v : Int32 => some (.int v)) rmX8_get.cells rmX8_get.slots) 0 0 (fX8_get_L26 M) 26 [] [] [] [] M := by
    intro M
    unfold fX8_get_L26
    refine r_iconst (pc := 26) (v := 0) E dX8_get_26 (by decide) ?_
    exact r_sub [] [] [] rfl rfl rfl (hL27 0 _)
  show RT p l e rmX8_get s m args below meth c x 2 (QM below args s x (fun v : Int32 => some (.int v)) rmX8_get.cells rmX8_get.slots) 0 0 (fX8_get a0 a1 M) 0 [(1, a1)] [] [(0, a0)] [] M
  unfold fX8_get
  refine r_iload_n (pc := 0) E dX8_get_0 rfl 0 rfl ?_
  refine r_if_lt (pc := 1) (tgt := 26) E dX8_get_1 (by decide) ?_ ?_
  · exact r_sub [] [] [] rfl rfl rfl (hL26 _)
  · refine r_iload_n (pc := 4) E dX8_get_4 rfl 0 rfl ?_
    refine r_aload_n (pc := 5) E dX8_get_5 rfl 0 rfl ?_
    refine r_getA (pc := 6) E fd_8_0 wf_RX8_15 dX8_get_6 (fun v6 => ?_)
    refine r_alen (pc := 9) E dX8_get_9 (fun v9 => ?_)
    refine r_icmp_ge (pc := 10) (tgt := 26) E dX8_get_10 (by decide) ?_ ?_
    · exact r_sub [] [] [] rfl rfl rfl (hL26 _)
    · refine r_aload_n (pc := 13) E dX8_get_13 rfl 0 rfl ?_
      refine r_getA (pc := 14) E fd_8_0 wf_RX8_15 dX8_get_14 (fun v14 => ?_)
      refine r_iload_n (pc := 17) E dX8_get_17 rfl 0 rfl ?_
      refine r_baload (pc := 18) E dX8_get_18 (fun v18 => ?_)
      refine r_sipush (pc := 19) (v := 255) E dX8_get_19 (by decide) ?_
      refine r_iand (pc := 22) E dX8_get_22 ?_
      refine r_goto (pc := 23) (tgt := 27) E dX8_get_23 (by decide) ?_
      exact r_sub [] [] [] rfl rfl rfl (hL27 (v18 &&& 255) _)
def fX12_logOf_L29 (p2 : Int32) (M : Mem) : Option (Int32 × Mem) :=
  some (p2, M)
def fX12_logOf_B4 (k4 : Int64 × Int32 × Int32 → Mem → Option (Int32 × Mem)) (p0 : Int64) (p2 : Int32) (p3 : Int32) (M : Mem) : Option (Int32 × Mem) :=
  if 63 ≤ p3 then (
    fX12_logOf_L29 p2 M
  ) else (
    if (lg_cmp (ushJ p0 p3) 0) = 0 then (
      fX12_logOf_L29 p2 M
    ) else (
      bn (p3) fun v22 =>
      bn (p3 + 1) fun v23 =>
      k4 ((p0, v22, v23)) M
    )
  )
def fX12_logOf_L4 (p0 : Int64) (p2 : Int32) (p3 : Int32) (M : Mem) : Option (Int32 × Mem) :=
  lp (fun k4 (a : Int64 × Int32 × Int32) M => fX12_logOf_B4 k4 a.1 a.2.1 a.2.2 M) FU ((p0, p2, p3)) M
def fX12_logOf (a0 : Int64) (M : Mem) : Option (Int32 × Mem) :=
  bn (0) fun v1 =>
  bn (1) fun v3 =>
  fX12_logOf_L4 a0 v1 v3 M
def rmX12_logOf : Room := { frames := 0, cells := 0, slots := 0, locals := 0 }
set_option maxRecDepth 100000 in
set_option maxHeartbeats 4000000 in
theorem ctX12_logOf (l : Launch) (x : Cx) (a0 : Int64) (M : Mem) (v : Int32) (N : Mem) (h : fX12_logOf a0 M = some (v, N)) : CT l yX12_logOf cX12_logOf 4 (some (FieldType.int)) rmX12_logOf x [.long a0] M (some (.int v)) N := by
  refine ct_mk (enc := fun v : Int32 => some (.int v)) (li := []) (ll := [(0, a0)]) (lr := []) (by decide +kernel) (by simp [lg_sl, rv_cat, cat_int, cat_long]) (by simp [flat, lv_args, rv_cat, cat_int, cat_long]) h ?_
  intro p e s m args below meth c E
  have hL29 : ∀ (p2 : Int32) (M : Mem), RT p l e rmX12_logOf s m args below meth c x 4 (QM below args s x (fun v : Int32 => some (.int v)) rmX12_logOf.cells rmX12_logOf.slots) 0 0 (fX12_logOf_L29 p2 M) 29 [(2, p2)] [] [] [] M := by
    intro p2 M
    unfold fX12_logOf_L29
    refine r_iload_n (pc := 29) E dX12_logOf_29 rfl 0 rfl ?_
    exact e_int (pc := 30) E dX12_logOf_30
  have hL4 : ∀ (p0 : Int64) (p2 : Int32) (p3 : Int32) (M : Mem), RT p l e rmX12_logOf s m args below meth c x 4 (QM below args s x (fun v : Int32 => some (.int v)) rmX12_logOf.cells rmX12_logOf.slots) 0 0 (fX12_logOf_L4 p0 p2 p3 M) 4 [(2, p2), (3, p3)] [(0, p0)] [] [] M := by
    intro p0 p2 p3 M
    refine r_lp (fi := fun a : Int64 × Int32 × Int32 => [(2, a.2.1), (3, a.2.2)]) (fl := fun a : Int64 × Int32 × Int32 => [(0, a.1)]) (fr := fun a : Int64 × Int32 × Int32 => []) (fs := fun a : Int64 × Int32 × Int32 => []) ?_ FU ((p0, p2, p3)) M
    intro k4 hk4 a M
    obtain ⟨p0, p2, p3⟩ := a
    show RT p l e rmX12_logOf s m args below meth c x 4 (QM below args s x (fun v : Int32 => some (.int v)) rmX12_logOf.cells rmX12_logOf.slots) 0 0 (fX12_logOf_B4 k4 p0 p2 p3 M) 4 [(2, p2), (3, p3)] [(0, p0)] [] [] M
    unfold fX12_logOf_B4
    refine r_iload_n (pc := 4) E dX12_logOf_4 rfl 1 rfl ?_
    refine r_bipush (pc := 5) (v := 63) E dX12_logOf_5 (by decide) ?_
    refine r_icmp_ge (pc := 7) (tgt := 29) E dX12_logOf_7 (by decide) ?_ ?_
    · exact r_sub [0] [] [] rfl rfl rfl (hL29 p2 _)
    · refine r_lload_n (pc := 10) E dX12_logOf_10 rfl 0 rfl ?_
      refine r_iload_n (pc := 11) E dX12_logOf_11 rfl 1 rfl ?_
      refine r_lushr (pc := 12) E dX12_logOf_12 ?_
      refine r_lconst (pc := 13) (v := 0) E dX12_logOf_13 (by decide) ?_
      refine r_lcmp (pc := 14) E dX12_logOf_14 ?_
      refine r_if_ne (pc := 15) (tgt := 21) E dX12_logOf_15 (by decide) ?_ ?_
      · refine r_iload_n (pc := 21) E dX12_logOf_21 rfl 1 rfl ?_
        refine r_istore_n (pc := 22) (lf := fun v22 => [(2, v22), (3, p3)]) (lg := fun v22 => [(0, p0)]) (lk := fun v22 => []) E dX12_logOf_22 rfl (by decide) (fun _ => rfl) (fun _ => rfl) (fun _ => rfl) (fun v22 => ?_)
        refine r_iinc (pc := 23) (w := 1) (lf := fun v23 => [(3, v23), (2, v22)]) (ll' := [(0, p0)]) (lr' := []) E dX12_logOf_23 1 rfl (by decide) (by decide) (fun _ => rfl) rfl rfl (fun v23 => ?_)
        refine r_goto (pc := 26) (tgt := 4) E dX12_logOf_26 (by decide) ?_
        exact r_sub [1, 0] [0] [] rfl rfl rfl (hk4 ((p0, v22, v23)) _)
      · refine r_goto (pc := 18) (tgt := 29) E dX12_logOf_18 (by decide) ?_
        exact r_sub [0] [] [] rfl rfl rfl (hL29 p2 _)
  show RT p l e rmX12_logOf s m args below meth c x 4 (QM below args s x (fun v : Int32 => some (.int v)) rmX12_logOf.cells rmX12_logOf.slots) 0 0 (fX12_logOf a0 M) 0 [] [(0, a0)] [] [] M
  unfold fX12_logOf
  refine r_iconst (pc := 0) (v := 0) E dX12_logOf_0 (by decide) ?_
  refine r_istore_n (pc := 1) (lf := fun v1 => [(2, v1)]) (lg := fun v1 => [(0, a0)]) (lk := fun v1 => []) E dX12_logOf_1 rfl (by decide) (fun _ => rfl) (fun _ => rfl) (fun _ => rfl) (fun v1 => ?_)
  refine r_iconst (pc := 2) (v := 1) E dX12_logOf_2 (by decide) ?_
  refine r_istore_n (pc := 3) (lf := fun v3 => [(3, v3), (2, v1)]) (lg := fun v3 => [(0, a0)]) (lk := fun v3 => []) E dX12_logOf_3 rfl (by decide) (fun _ => rfl) (fun _ => rfl) (fun _ => rfl) (fun v3 => ?_)
  exact r_sub [1, 0] [0] [] rfl rfl rfl (hL4 a0 v1 v3 _)
def fX0_begin_L38 (M : Mem) : Option (Int32 × Mem) :=
  rtZ 0 M
def fX0_begin (a0 : Option Nat) (a1 : Option Nat) (a2 : Int32) (a3 : Int32) (M : Mem) : Option (Int32 × Mem) :=
  bo (gR M a1 8 0) fun v2 =>
  bo (pR M a0 0 0 v2) fun M5 =>
  bo (pI M5 a0 0 1 a2) fun M10 =>
  bo (pI M10 a0 0 2 0) fun M15 =>
  bo (pZ M15 a0 0 3 0) fun M20 =>
  if a3 ≤ a2 then (
    fX0_begin_L38 M20
  ) else (
    bo (chk M20 a1 8) fun _ => bd (fX8_get a1 (a3 - 1) M20) fun v32 M32 =>
    if v32 = 0 then (
      fX0_begin_L38 M32
    ) else (
      bo (chk M32 a1 8) fun _ => bd (fX8_get a1 (a3 - 1) M32) fun v53 M53 =>
      bd (fX12_logOf v53.toInt64 M53) fun v57 M57 =>
      bo (pI M57 a0 0 2 ((8 * ((a3 - 1) - a2)) + v57)) fun M61 =>
      rtZ 1 M61
    )
  )
def rmX0_begin : Room := { frames := 1, cells := 0, slots := 0, locals := 23 }
set_option maxRecDepth 100000 in
set_option maxHeartbeats 4000000 in
theorem ctX0_begin (l : Launch) (x : Cx) (a0 : Option Nat) (a1 : Option Nat) (a2 : Int32) (a3 : Int32) (M : Mem) (v : Int32) (N : Mem) (h : fX0_begin a0 a1 a2 a3 M = some (v, N)) : CT l yX0_begin cX0_begin 4 (some (FieldType.boolean)) rmX0_begin x [rv x a0, rv x a1, .int a2, .int a3] M (some (.int v)) N := by
  refine ct_mk (enc := fun v : Int32 => some (.int v)) (li := [(2, a2), (3, a3)]) (ll := []) (lr := [(0, a0), (1, a1)]) (by decide +kernel) (by simp [lg_sl, rv_cat, cat_int, cat_long]) (by simp [flat, lv_args, rv_cat, cat_int, cat_long]) h ?_
  intro p e s m args below meth c E
  have hL38 : ∀ (M : Mem), RT p l e rmX0_begin s m args below meth c x 4 (QM below args s x (fun v : Int32 => some (.int v)) rmX0_begin.cells rmX0_begin.slots) 0 0 (fX0_begin_L38 M) 38 [] [] [] [] M := by
    intro M
    unfold fX0_begin_L38
    refine r_iconst (pc := 38) (v := 0) E dX0_begin_38 (by decide) ?_
    exact e_bool (pc := 39) E dX0_begin_39
  show RT p l e rmX0_begin s m args below meth c x 4 (QM below args s x (fun v : Int32 => some (.int v)) rmX0_begin.cells rmX0_begin.slots) 0 0 (fX0_begin a0 a1 a2 a3 M) 0 [(2, a2), (3, a3)] [] [(0, a0), (1, a1)] [] M
  unfold fX0_begin
  refine r_aload_n (pc := 0) E dX0_begin_0 rfl 0 rfl ?_
  refine r_aload_n (pc := 1) E dX0_begin_1 rfl 1 rfl ?_
  refine r_getA (pc := 2) E fd_8_0 wf_RX0_13 dX0_begin_2 (fun v2 => ?_)
  refine r_putA (pc := 5) E fd_0_0 wf_RX0_7 dX0_begin_5 (Or.inl rfl) (fun M5 => ?_)
  refine r_aload_n (pc := 8) E dX0_begin_8 rfl 0 rfl ?_
  refine r_iload_n (pc := 9) E dX0_begin_9 rfl 0 rfl ?_
  refine r_putI (pc := 10) E fd_0_1 wf_RX0_16 dX0_begin_10 (Or.inl rfl) (fun M10 => ?_)
  refine r_aload_n (pc := 13) E dX0_begin_13 rfl 0 rfl ?_
  refine r_iconst (pc := 14) (v := 0) E dX0_begin_14 (by decide) ?_
  refine r_putI (pc := 15) E fd_0_2 wf_RX0_20 dX0_begin_15 (Or.inl rfl) (fun M15 => ?_)
  refine r_aload_n (pc := 18) E dX0_begin_18 rfl 0 rfl ?_
  refine r_iconst (pc := 19) (v := 0) E dX0_begin_19 (by decide) ?_
  refine r_putZ (pc := 20) E fd_0_3 wf_RX0_23 dX0_begin_20 (Or.inl rfl) (fun M20 => ?_)
  refine r_iload_n (pc := 23) E dX0_begin_23 rfl 0 rfl ?_
  refine r_iload_n (pc := 24) E dX0_begin_24 rfl 1 rfl ?_
  refine r_icmp_ge (pc := 25) (tgt := 38) E dX0_begin_25 (by decide) ?_ ?_
  · exact r_sub [] [] [] rfl rfl rfl (hL38 _)
  · refine r_aload_n (pc := 28) E dX0_begin_28 rfl 1 rfl ?_
    refine r_iload_n (pc := 29) E dX0_begin_29 rfl 1 rfl ?_
    refine r_iconst (pc := 30) (v := 1) E dX0_begin_30 (by decide) ?_
    refine r_isub (pc := 31) E dX0_begin_31 ?_
    refine r_kVi (pc := 32) (As := [.int (a3 - 1)]) (rest := []) E wc_X8_get wi_RX8 hd_X8_get (ci := 8) rfl wl_RX0_27 wn_X8_get ws_X8_get dX0_begin_32 (by decide) (Nat.le_of_ble_eq_true rfl) ⟨rfl, rfl⟩ (ctX8_get l x _ _ _) rfl (fun v32 M32 => ?_)
    refine r_if_ne (pc := 35) (tgt := 40) E dX0_begin_35 (by decide) ?_ ?_
    · refine r_aload_n (pc := 40) E dX0_begin_40 rfl 0 rfl ?_
      refine r_bipush (pc := 41) (v := 8) E dX0_begin_41 (by decide) ?_
      refine r_iload_n (pc := 43) E dX0_begin_43 rfl 1 rfl ?_
      refine r_iconst (pc := 44) (v := 1) E dX0_begin_44 (by decide) ?_
      refine r_isub (pc := 45) E dX0_begin_45 ?_
      refine r_iload_n (pc := 46) E dX0_begin_46 rfl 0 rfl ?_
      refine r_isub (pc := 47) E dX0_begin_47 ?_
      refine r_imul (pc := 48) E dX0_begin_48 ?_
      refine r_aload_n (pc := 49) E dX0_begin_49 rfl 1 rfl ?_
      refine r_iload_n (pc := 50) E dX0_begin_50 rfl 1 rfl ?_
      refine r_iconst (pc := 51) (v := 1) E dX0_begin_51 (by decide) ?_
      refine r_isub (pc := 52) E dX0_begin_52 ?_
      refine r_kVi (pc := 53) (As := [.int (a3 - 1)]) (rest := [.int (8 * ((a3 - 1) - a2)), rv x a0]) E wc_X8_get wi_RX8 hd_X8_get (ci := 8) rfl wl_RX0_27 wn_X8_get ws_X8_get dX0_begin_53 (by decide) (Nat.le_of_ble_eq_true rfl) ⟨rfl, rfl⟩ (ctX8_get l x _ _ _) rfl (fun v53 M53 => ?_)
      refine r_i2l (pc := 56) E dX0_begin_56 ?_
      refine r_kSNi (pc := 57) (As := [.long v53.toInt64]) (rest := [.int (8 * ((a3 - 1) - a2)), rv x a0]) E wc_X12_logOf wi_RX12 hd_X12_logOf (host := "TabledFrames") (by decide +kernel) wt_X12_logOf dX0_begin_57 (by decide) (Nat.le_of_ble_eq_true rfl) ⟨rfl, rfl⟩ (ctX12_logOf l x _ _) rfl (fun v57 M57 => ?_)
      refine r_iadd (pc := 60) E dX0_begin_60 ?_
      refine r_putI (pc := 61) E fd_0_2 wf_RX0_20 dX0_begin_61 (Or.inl rfl) (fun M61 => ?_)
      refine r_iconst (pc := 64) (v := 1) E dX0_begin_64 (by decide) ?_
      exact e_bool (pc := 65) E dX0_begin_65
    · exact r_sub [] [] [] rfl rfl rfl (hL38 _)
def fX0_bitsFrom_L58 (k15 : Option Nat × Int32 × Int32 × Int32 × Int64 × Int32 → Mem → Option (Int64 × Mem)) (p0 : Option Nat) (p1 : Int32) (p2 : Int32) (p3 : Int32) (p4 : Int64) (p6 : Int32) (M : Mem) : Option (Int64 × Mem) :=
  bn (p3 + 1) fun v58 =>
  bn (p6 + 8) fun v61 =>
  k15 ((p0, p1, p2, v58, p4, v61)) M
def fX0_bitsFrom_B15 (k15 : Option Nat × Int32 × Int32 × Int32 × Int64 × Int32 → Mem → Option (Int64 × Mem)) (p0 : Option Nat) (p1 : Int32) (p2 : Int32) (p3 : Int32) (p4 : Int64) (p6 : Int32) (M : Mem) : Option (Int64 × Mem) :=
  if ((p1 &&& 7) + p2) ≤ p6 then (
    some ((ushJ p4 (p1 &&& 7)) &&& ((shlJ 1 p2) - 1), M)
  ) else (
    if p3 < 0 then (
      fX0_bitsFrom_L58 k15 p0 p1 p2 p3 p4 p6 M
    ) else (
      bo (gR M p0 0 0) fun v32 =>
      bo (aL M v32) fun v35 =>
      if v35 ≤ p3 then (
        fX0_bitsFrom_L58 k15 p0 p1 p2 p3 p4 p6 M
      ) else (
        bo (gR M p0 0 0) fun v42 =>
        bo (aI M v42 14 p3) fun v46 =>
        bn (p4 ||| (shlJ (v46.toInt64 &&& 255) p6)) fun v56 =>
        fX0_bitsFrom_L58 k15 p0 p1 p2 p3 v56 p6 M
      )
    )
  )
def fX0_bitsFrom_L15 (p0 : Option Nat) (p1 : Int32) (p2 : Int32) (p3 : Int32) (p4 : Int64) (p6 : Int32) (M : Mem) : Option (Int64 × Mem) :=
  lp (fun k15 (a : Option Nat × Int32 × Int32 × Int32 × Int64 × Int32) M => fX0_bitsFrom_B15 k15 a.1 a.2.1 a.2.2.1 a.2.2.2.1 a.2.2.2.2.1 a.2.2.2.2.2 M) FU ((p0, p1, p2, p3, p4, p6)) M
def fX0_bitsFrom (a0 : Option Nat) (a1 : Int32) (a2 : Int32) (M : Mem) : Option (Int64 × Mem) :=
  bo (gI M a0 0 1) fun v1 =>
  bn (v1 + (shrI a1 3)) fun v8 =>
  bn (0) fun v10 =>
  bn (0) fun v13 =>
  fX0_bitsFrom_L15 a0 a1 a2 v8 v10 v13 M
def rmX0_bitsFrom : Room := { frames := 0, cells := 0, slots := 0, locals := 0 }
set_option maxRecDepth 100000 in
set_option maxHeartbeats 4000000 in
theorem ctX0_bitsFrom (l : Launch) (x : Cx) (a0 : Option Nat) (a1 : Int32) (a2 : Int32) (M : Mem) (v : Int64) (N : Mem) (h : fX0_bitsFrom a0 a1 a2 M = some (v, N)) : CT l yX0_bitsFrom cX0_bitsFrom 7 (some (FieldType.long)) rmX0_bitsFrom x [rv x a0, .int a1, .int a2] M (some (.long v)) N := by
  refine ct_mk (enc := fun v : Int64 => some (.long v)) (li := [(1, a1), (2, a2)]) (ll := []) (lr := [(0, a0)]) (by decide +kernel) (by simp [lg_sl, rv_cat, cat_int, cat_long]) (by simp [flat, lv_args, rv_cat, cat_int, cat_long]) h ?_
  intro p e s m args below meth c E
  have hL58 : ∀ (k15 : Option Nat × Int32 × Int32 × Int32 × Int64 × Int32 → Mem → Option (Int64 × Mem)) (hk15 : ∀ a M, RT p l e rmX0_bitsFrom s m args below meth c x 7 (QM below args s x (fun v : Int64 => some (.long v)) rmX0_bitsFrom.cells rmX0_bitsFrom.slots) 0 0 (k15 a M) 15 [(1, a.2.1), (2, a.2.2.1), (3, a.2.2.2.1), (6, a.2.2.2.2.2)] [(4, a.2.2.2.2.1)] [(0, a.1)] [] M) (p0 : Option Nat) (p1 : Int32) (p2 : Int32) (p3 : Int32) (p4 : Int64) (p6 : Int32) (M : Mem), RT p l e rmX0_bitsFrom s m args below meth c x 7 (QM below args s x (fun v : Int64 => some (.long v)) rmX0_bitsFrom.cells rmX0_bitsFrom.slots) 0 0 (fX0_bitsFrom_L58 k15 p0 p1 p2 p3 p4 p6 M) 58 [(1, p1), (2, p2), (3, p3), (6, p6)] [(4, p4)] [(0, p0)] [] M := by
    intro k15 hk15 p0 p1 p2 p3 p4 p6 M
    unfold fX0_bitsFrom_L58
    refine r_iinc (pc := 58) (w := 1) (lf := fun v58 => [(3, v58), (1, p1), (2, p2), (6, p6)]) (ll' := [(4, p4)]) (lr' := [(0, p0)]) E dX0_bitsFrom_58 2 rfl (by decide) (by decide) (fun _ => rfl) rfl rfl (fun v58 => ?_)
    refine r_iinc (pc := 61) (w := 8) (lf := fun v61 => [(6, v61), (3, v58), (1, p1), (2, p2)]) (ll' := [(4, p4)]) (lr' := [(0, p0)]) E dX0_bitsFrom_61 3 rfl (by decide) (by decide) (fun _ => rfl) rfl rfl (fun v61 => ?_)
    refine r_goto (pc := 64) (tgt := 15) E dX0_bitsFrom_64 (by decide) ?_
    exact r_sub [2, 3, 1, 0] [0] [0] rfl rfl rfl (hk15 ((p0, p1, p2, v58, p4, v61)) _)
  have hL15 : ∀ (p0 : Option Nat) (p1 : Int32) (p2 : Int32) (p3 : Int32) (p4 : Int64) (p6 : Int32) (M : Mem), RT p l e rmX0_bitsFrom s m args below meth c x 7 (QM below args s x (fun v : Int64 => some (.long v)) rmX0_bitsFrom.cells rmX0_bitsFrom.slots) 0 0 (fX0_bitsFrom_L15 p0 p1 p2 p3 p4 p6 M) 15 [(1, p1), (2, p2), (3, p3), (6, p6)] [(4, p4)] [(0, p0)] [] M := by
    intro p0 p1 p2 p3 p4 p6 M
    refine r_lp (fi := fun a : Option Nat × Int32 × Int32 × Int32 × Int64 × Int32 => [(1, a.2.1), (2, a.2.2.1), (3, a.2.2.2.1), (6, a.2.2.2.2.2)]) (fl := fun a : Option Nat × Int32 × Int32 × Int32 × Int64 × Int32 => [(4, a.2.2.2.2.1)]) (fr := fun a : Option Nat × Int32 × Int32 × Int32 × Int64 × Int32 => [(0, a.1)]) (fs := fun a : Option Nat × Int32 × Int32 × Int32 × Int64 × Int32 => []) ?_ FU ((p0, p1, p2, p3, p4, p6)) M
    intro k15 hk15 a M
    obtain ⟨p0, p1, p2, p3, p4, p6⟩ := a
    show RT p l e rmX0_bitsFrom s m args below meth c x 7 (QM below args s x (fun v : Int64 => some (.long v)) rmX0_bitsFrom.cells rmX0_bitsFrom.slots) 0 0 (fX0_bitsFrom_B15 k15 p0 p1 p2 p3 p4 p6 M) 15 [(1, p1), (2, p2), (3, p3), (6, p6)] [(4, p4)] [(0, p0)] [] M
    unfold fX0_bitsFrom_B15
    refine r_iload (pc := 15) E dX0_bitsFrom_15 3 rfl ?_
    refine r_iload_n (pc := 17) E dX0_bitsFrom_17 rfl 0 rfl ?_
    refine r_bipush (pc := 18) (v := 7) E dX0_bitsFrom_18 (by decide) ?_
    refine r_iand (pc := 20) E dX0_bitsFrom_20 ?_
    refine r_iload_n (pc := 21) E dX0_bitsFrom_21 rfl 1 rfl ?_
    refine r_iadd (pc := 22) E dX0_bitsFrom_22 ?_
    refine r_icmp_ge (pc := 23) (tgt := 67) E dX0_bitsFrom_23 (by decide) ?_ ?_
    · refine r_lload (pc := 67) E dX0_bitsFrom_67 0 rfl ?_
      refine r_iload_n (pc := 69) E dX0_bitsFrom_69 rfl 0 rfl ?_
      refine r_bipush (pc := 70) (v := 7) E dX0_bitsFrom_70 (by decide) ?_
      refine r_iand (pc := 72) E dX0_bitsFrom_72 ?_
      refine r_lushr (pc := 73) E dX0_bitsFrom_73 ?_
      refine r_lconst (pc := 74) (v := 1) E dX0_bitsFrom_74 (by decide) ?_
      refine r_iload_n (pc := 75) E dX0_bitsFrom_75 rfl 1 rfl ?_
      refine r_lshl (pc := 76) E dX0_bitsFrom_76 ?_
      refine r_lconst (pc := 77) (v := 1) E dX0_bitsFrom_77 (by decide) ?_
      refine r_lsub (pc := 78) E dX0_bitsFrom_78 ?_
      refine r_land (pc := 79) E dX0_bitsFrom_79 ?_
      exact e_long (pc := 80) E dX0_bitsFrom_80
    · refine r_iload_n (pc := 26) E dX0_bitsFrom_26 rfl 2 rfl ?_
      refine r_if_lt (pc := 27) (tgt := 58) E dX0_bitsFrom_27 (by decide) ?_ ?_
      · exact r_sub [0, 1, 2, 3] [0] [0] rfl rfl rfl (hL58 k15 hk15 p0 p1 p2 p3 p4 p6 _)
      · refine r_iload_n (pc := 30) E dX0_bitsFrom_30 rfl 2 rfl ?_
        refine r_aload_n (pc := 31) E dX0_bitsFrom_31 rfl 0 rfl ?_
        refine r_getA (pc := 32) E fd_0_0 wf_RX0_7 dX0_bitsFrom_32 (fun v32 => ?_)
        refine r_alen (pc := 35) E dX0_bitsFrom_35 (fun v35 => ?_)
        refine r_icmp_ge (pc := 36) (tgt := 58) E dX0_bitsFrom_36 (by decide) ?_ ?_
        · exact r_sub [0, 1, 2, 3] [0] [0] rfl rfl rfl (hL58 k15 hk15 p0 p1 p2 p3 p4 p6 _)
        · refine r_lload (pc := 39) E dX0_bitsFrom_39 0 rfl ?_
          refine r_aload_n (pc := 41) E dX0_bitsFrom_41 rfl 0 rfl ?_
          refine r_getA (pc := 42) E fd_0_0 wf_RX0_7 dX0_bitsFrom_42 (fun v42 => ?_)
          refine r_iload_n (pc := 45) E dX0_bitsFrom_45 rfl 2 rfl ?_
          refine r_baload (pc := 46) E dX0_bitsFrom_46 (fun v46 => ?_)
          refine r_i2l (pc := 47) E dX0_bitsFrom_47 ?_
          refine r_ldc2 (pc := 48) E wk_RX0_47 dX0_bitsFrom_48 ?_
          refine r_land (pc := 51) E dX0_bitsFrom_51 ?_
          refine r_iload (pc := 52) E dX0_bitsFrom_52 3 rfl ?_
          refine r_lshl (pc := 54) E dX0_bitsFrom_54 ?_
          refine r_lor (pc := 55) E dX0_bitsFrom_55 ?_
          refine r_lstore (pc := 56) (lf := fun v56 => [(1, p1), (2, p2), (3, p3), (6, p6)]) (lg := fun v56 => [(4, v56)]) (lk := fun v56 => [(0, p0)]) E dX0_bitsFrom_56 (by decide) (fun _ => rfl) (fun _ => rfl) (fun _ => rfl) (fun v56 => ?_)
          exact r_sub [0, 1, 2, 3] [0] [0] rfl rfl rfl (hL58 k15 hk15 p0 p1 p2 p3 v56 p6 _)
  show RT p l e rmX0_bitsFrom s m args below meth c x 7 (QM below args s x (fun v : Int64 => some (.long v)) rmX0_bitsFrom.cells rmX0_bitsFrom.slots) 0 0 (fX0_bitsFrom a0 a1 a2 M) 0 [(1, a1), (2, a2)] [] [(0, a0)] [] M
  unfold fX0_bitsFrom
  refine r_aload_n (pc := 0) E dX0_bitsFrom_0 rfl 0 rfl ?_
  refine r_getI (pc := 1) E fd_0_1 wf_RX0_16 dX0_bitsFrom_1 (fun v1 => ?_)
  refine r_iload_n (pc := 4) E dX0_bitsFrom_4 rfl 0 rfl ?_
  refine r_iconst (pc := 5) (v := 3) E dX0_bitsFrom_5 (by decide) ?_
  refine r_ishr (pc := 6) E dX0_bitsFrom_6 ?_
  refine r_iadd (pc := 7) E dX0_bitsFrom_7 ?_
  refine r_istore_n (pc := 8) (lf := fun v8 => [(3, v8), (1, a1), (2, a2)]) (lg := fun v8 => []) (lk := fun v8 => [(0, a0)]) E dX0_bitsFrom_8 rfl (by decide) (fun _ => rfl) (fun _ => rfl) (fun _ => rfl) (fun v8 => ?_)
  refine r_lconst (pc := 9) (v := 0) E dX0_bitsFrom_9 (by decide) ?_
  refine r_lstore (pc := 10) (lf := fun v10 => [(3, v8), (1, a1), (2, a2)]) (lg := fun v10 => [(4, v10)]) (lk := fun v10 => [(0, a0)]) E dX0_bitsFrom_10 (by decide) (fun _ => rfl) (fun _ => rfl) (fun _ => rfl) (fun v10 => ?_)
  refine r_iconst (pc := 12) (v := 0) E dX0_bitsFrom_12 (by decide) ?_
  refine r_istore (pc := 13) (lf := fun v13 => [(6, v13), (3, v8), (1, a1), (2, a2)]) (lg := fun v13 => [(4, v10)]) (lk := fun v13 => [(0, a0)]) E dX0_bitsFrom_13 (by decide) (fun _ => rfl) (fun _ => rfl) (fun _ => rfl) (fun v13 => ?_)
  exact r_sub [2, 3, 1, 0] [0] [0] rfl rfl rfl (hL15 a0 a1 a2 v8 v10 v13 _)
def fX0_take (a0 : Option Nat) (a1 : Int32) (M : Mem) : Option (Int64 × Mem) :=
  bo (gI M a0 0 2) fun v2 =>
  if a1 ≤ v2 then (
    bo (gI M a0 0 2) fun v17 =>
    bo (pI M a0 0 2 (v17 - a1)) fun M22 =>
    bo (gI M22 a0 0 2) fun v27 =>
    bo (chk M22 a0 0) fun _ => bd (fX0_bitsFrom a0 v27 a1 M22) fun v31 M31 =>
    some (v31, M31)
  ) else (
    bo (pZ M a0 0 3 1) fun M10 =>
    some (0, M10)
  )
def rmX0_take : Room := { frames := 1, cells := 0, slots := 0, locals := 26 }
set_option maxRecDepth 100000 in
set_option maxHeartbeats 4000000 in
theorem ctX0_take (l : Launch) (x : Cx) (a0 : Option Nat) (a1 : Int32) (M : Mem) (v : Int64) (N : Mem) (h : fX0_take a0 a1 M = some (v, N)) : CT l yX0_take cX0_take 2 (some (FieldType.long)) rmX0_take x [rv x a0, .int a1] M (some (.long v)) N := by
  refine ct_mk (enc := fun v : Int64 => some (.long v)) (li := [(1, a1)]) (ll := []) (lr := [(0, a0)]) (by decide +kernel) (by simp [lg_sl, rv_cat, cat_int, cat_long]) (by simp [flat, lv_args, rv_cat, cat_int, cat_long]) h ?_
  intro p e s m args below meth c E
  show RT p l e rmX0_take s m args below meth c x 2 (QM below args s x (fun v : Int64 => some (.long v)) rmX0_take.cells rmX0_take.slots) 0 0 (fX0_take a0 a1 M) 0 [(1, a1)] [] [(0, a0)] [] M
  unfold fX0_take
  refine r_iload_n (pc := 0) E dX0_take_0 rfl 0 rfl ?_
  refine r_aload_n (pc := 1) E dX0_take_1 rfl 0 rfl ?_
  refine r_getI (pc := 2) E fd_0_2 wf_RX0_20 dX0_take_2 (fun v2 => ?_)
  refine r_icmp_le (pc := 5) (tgt := 15) E dX0_take_5 (by decide) ?_ ?_
  · refine r_aload_n (pc := 15) E dX0_take_15 rfl 0 rfl ?_
    refine r_dup (pc := 16) E dX0_take_16 (rv_cat _ _) ?_
    refine r_getI (pc := 17) E fd_0_2 wf_RX0_20 dX0_take_17 (fun v17 => ?_)
    refine r_iload_n (pc := 20) E dX0_take_20 rfl 0 rfl ?_
    refine r_isub (pc := 21) E dX0_take_21 ?_
    refine r_putI (pc := 22) E fd_0_2 wf_RX0_20 dX0_take_22 (Or.inl rfl) (fun M22 => ?_)
    refine r_aload_n (pc := 25) E dX0_take_25 rfl 0 rfl ?_
    refine r_aload_n (pc := 26) E dX0_take_26 rfl 0 rfl ?_
    refine r_getI (pc := 27) E fd_0_2 wf_RX0_20 dX0_take_27 (fun v27 => ?_)
    refine r_iload_n (pc := 30) E dX0_take_30 rfl 0 rfl ?_
    refine r_kVl (pc := 31) (As := [.int v27, .int a1]) (rest := []) E wc_X0_bitsFrom wi_RX0 hd_X0_bitsFrom (ci := 0) rfl wl_RX0_37 wn_X0_bitsFrom ws_X0_bitsFrom dX0_take_31 (by decide) (Nat.le_of_ble_eq_true rfl) ⟨rfl, rfl⟩ (ctX0_bitsFrom l x _ _ _ _) rfl (fun v31 M31 => ?_)
    exact e_long (pc := 34) E dX0_take_34
  · refine r_aload_n (pc := 8) E dX0_take_8 rfl 0 rfl ?_
    refine r_iconst (pc := 9) (v := 1) E dX0_take_9 (by decide) ?_
    refine r_putZ (pc := 10) E fd_0_3 wf_RX0_23 dX0_take_10 (Or.inl rfl) (fun M10 => ?_)
    refine r_lconst (pc := 13) (v := 0) E dX0_take_13 (by decide) ?_
    exact e_long (pc := 14) E dX0_take_14
def fX0_look (a0 : Option Nat) (a1 : Int32) (M : Mem) : Option (Int32 × Mem) :=
  bo (gI M a0 0 2) fun v2 =>
  bn (minI a1 v2) fun v8 =>
  bo (gI M a0 0 2) fun v11 =>
  bo (chk M a0 0) fun _ => bd (fX0_bitsFrom a0 (v11 - v8) v8 M) fun v17 M17 =>
  some ((shlJ v17 (a1 - v8)).toInt32, M17)
def rmX0_look : Room := { frames := 1, cells := 0, slots := 0, locals := 26 }
set_option maxRecDepth 100000 in
set_option maxHeartbeats 4000000 in
theorem ctX0_look (l : Launch) (x : Cx) (a0 : Option Nat) (a1 : Int32) (M : Mem) (v : Int32) (N : Mem) (h : fX0_look a0 a1 M = some (v, N)) : CT l yX0_look cX0_look 3 (some (FieldType.int)) rmX0_look x [rv x a0, .int a1] M (some (.int v)) N := by
  refine ct_mk (enc := fun v : Int32 => some (.int v)) (li := [(1, a1)]) (ll := []) (lr := [(0, a0)]) (by decide +kernel) (by simp [lg_sl, rv_cat, cat_int, cat_long]) (by simp [flat, lv_args, rv_cat, cat_int, cat_long]) h ?_
  intro p e s m args below meth c E
  show RT p l e rmX0_look s m args below meth c x 3 (QM below args s x (fun v : Int32 => some (.int v)) rmX0_look.cells rmX0_look.slots) 0 0 (fX0_look a0 a1 M) 0 [(1, a1)] [] [(0, a0)] [] M
  unfold fX0_look
  refine r_iload_n (pc := 0) E dX0_look_0 rfl 0 rfl ?_
  refine r_aload_n (pc := 1) E dX0_look_1 rfl 0 rfl ?_
  refine r_getI (pc := 2) E fd_0_2 wf_RX0_20 dX0_look_2 (fun v2 => ?_)
  refine r_mmin (pc := 5) E wl_RX0_41 wm_smin wi_math wm_cmin dX0_look_5 (by decide) (Nat.le_of_ble_eq_true rfl) ?_
  refine r_istore_n (pc := 8) (lf := fun v8 => [(2, v8), (1, a1)]) (lg := fun v8 => []) (lk := fun v8 => [(0, a0)]) E dX0_look_8 rfl (by decide) (fun _ => rfl) (fun _ => rfl) (fun _ => rfl) (fun v8 => ?_)
  refine r_aload_n (pc := 9) E dX0_look_9 rfl 0 rfl ?_
  refine r_aload_n (pc := 10) E dX0_look_10 rfl 0 rfl ?_
  refine r_getI (pc := 11) E fd_0_2 wf_RX0_20 dX0_look_11 (fun v11 => ?_)
  refine r_iload_n (pc := 14) E dX0_look_14 rfl 0 rfl ?_
  refine r_isub (pc := 15) E dX0_look_15 ?_
  refine r_iload_n (pc := 16) E dX0_look_16 rfl 0 rfl ?_
  refine r_kVl (pc := 17) (As := [.int (v11 - v8), .int v8]) (rest := []) E wc_X0_bitsFrom wi_RX0 hd_X0_bitsFrom (ci := 0) rfl wl_RX0_37 wn_X0_bitsFrom ws_X0_bitsFrom dX0_look_17 (by decide) (Nat.le_of_ble_eq_true rfl) ⟨rfl, rfl⟩ (ctX0_bitsFrom l x _ _ _ _) rfl (fun v17 M17 => ?_)
  refine r_iload_n (pc := 20) E dX0_look_20 rfl 1 rfl ?_
  refine r_iload_n (pc := 21) E dX0_look_21 rfl 0 rfl ?_
  refine r_isub (pc := 22) E dX0_look_22 ?_
  refine r_lshl (pc := 23) E dX0_look_23 ?_
  refine r_l2i (pc := 24) E dX0_look_24 ?_
  exact e_int (pc := 25) E dX0_look_25
def fX1_init (a0 : Option Nat) (M : Mem) : Option (Unit × Mem) :=
  bo (chk0 a0) fun _ =>
  bd (nwA M 15 256 256) fun v8 M8 =>
  bo (pR M8 a0 1 1 v8) fun M10 =>
  bd (nwA M10 15 256 256) fun v17 M17 =>
  bo (pR M17 a0 1 2 v17) fun M19 =>
  bd (nwA M19 15 2048 2048) fun v26 M26 =>
  bo (pR M26 a0 1 3 v26) fun M28 =>
  some ((), M28)
def rmX1_init : Room := { frames := 1, cells := 3, slots := 2560, locals := 20 }
set_option maxRecDepth 100000 in
set_option maxHeartbeats 4000000 in
theorem ctX1_init (l : Launch) (x : Cx) (a0 : Option Nat) (M : Mem) (v : Unit) (N : Mem) (h : fX1_init a0 M = some (v, N)) : CT l yX1_init cX1_init 1 (none) rmX1_init x [rv x a0] M none N := by
  refine ct_mk (enc := fun _ : Unit => none) (li := []) (ll := []) (lr := [(0, a0)]) (by decide +kernel) (by simp [lg_sl, rv_cat, cat_int, cat_long]) (by simp [flat, lv_args, rv_cat, cat_int, cat_long]) h ?_
  intro p e s m args below meth c E
  show RT p l e rmX1_init s m args below meth c x 1 (QM below args s x (fun _ : Unit => none) rmX1_init.cells rmX1_init.slots) 0 0 (fX1_init a0 M) 0 [] [] [(0, a0)] [] M
  unfold fX1_init
  refine r_aload_n (pc := 0) E dX1_init_0 rfl 0 rfl ?_
  refine r_obj (pc := 1) E wl_RX1_3 wo_inst wo_code dX1_init_1 (by decide) (by decide) (Nat.le_of_ble_eq_true rfl) ?_
  refine r_aload_n (pc := 4) E dX1_init_4 rfl 0 rfl ?_
  refine r_sipush (pc := 5) (v := 256) E dX1_init_5 (by decide) ?_
  refine r_newarrayI (pc := 8) E wa_I dX1_init_8 (by decide) (by decide) (by decide) (fun v8 M8 => ?_)
  refine r_widen (k := 1) (n := 256) (by decide) (by decide) ?_
  refine r_putA (pc := 10) E fd_1_1 wf_RX1_9 dX1_init_10 (Or.inr ⟨rfl, rfl⟩) (fun M10 => ?_)
  refine r_aload_n (pc := 13) E dX1_init_13 rfl 0 rfl ?_
  refine r_sipush (pc := 14) (v := 256) E dX1_init_14 (by decide) ?_
  refine r_newarrayI (pc := 17) E wa_I dX1_init_17 (by decide) (by decide) (by decide) (fun v17 M17 => ?_)
  refine r_widen (k := 2) (n := 512) (by decide) (by decide) ?_
  refine r_putA (pc := 19) E fd_1_2 wf_RX1_15 dX1_init_19 (Or.inr ⟨rfl, rfl⟩) (fun M19 => ?_)
  refine r_aload_n (pc := 22) E dX1_init_22 rfl 0 rfl ?_
  refine r_sipush (pc := 23) (v := 2048) E dX1_init_23 (by decide) ?_
  refine r_newarrayI (pc := 26) E wa_I dX1_init_26 (by decide) (by decide) (by decide) (fun v26 M26 => ?_)
  refine r_widen (k := 3) (n := 2560) (by decide) (by decide) ?_
  refine r_putA (pc := 28) E fd_1_3 wf_RX1_18 dX1_init_28 (Or.inr ⟨rfl, rfl⟩) (fun M28 => ?_)
  refine r_widen (k := 3) (n := 2560) (by decide) (by decide) ?_
  exact e_void (pc := 31) E dX1_init_31
def fJ7_fill_53178_B5 (k5 : Option Nat × Int32 × Int32 × Int32 → Mem → Option (Unit × Mem)) (p0 : Option Nat) (p1 : Int32) (p2 : Int32) (p3 : Int32) (M : Mem) : Option (Unit × Mem) :=
  if p3 ≤ p2 then (
    some ((), M)
  ) else (
    bo (wI M p0 p2 p1) fun M13 =>
    bn (p2 + 1) fun v14 =>
    k5 ((p0, p1, v14, p3)) M13
  )
def fJ7_fill_53178_L5 (p0 : Option Nat) (p1 : Int32) (p2 : Int32) (p3 : Int32) (M : Mem) : Option (Unit × Mem) :=
  lp (fun k5 (a : Option Nat × Int32 × Int32 × Int32) M => fJ7_fill_53178_B5 k5 a.1 a.2.1 a.2.2.1 a.2.2.2 M) FU ((p0, p1, p2, p3)) M
def fJ7_fill_53178 (a0 : Option Nat) (a1 : Int32) (M : Mem) : Option (Unit × Mem) :=
  bn (0) fun v1 =>
  bo (aL M a0) fun v3 =>
  bn (v3) fun v4 =>
  fJ7_fill_53178_L5 a0 a1 v1 v4 M
def rmJ7_fill_53178 : Room := { frames := 0, cells := 0, slots := 0, locals := 0 }
set_option maxRecDepth 100000 in
set_option maxHeartbeats 4000000 in
theorem ctJ7_fill_53178 (l : Launch) (x : Cx) (a0 : Option Nat) (a1 : Int32) (M : Mem) (v : Unit) (N : Mem) (h : fJ7_fill_53178 a0 a1 M = some (v, N)) : CT l yJ7_fill_53178 cJ7_fill_53178 4 (none) rmJ7_fill_53178 x [rv x a0, .int a1] M none N := by
  refine ct_mk (enc := fun _ : Unit => none) (li := [(1, a1)]) (ll := []) (lr := [(0, a0)]) (by decide +kernel) (by simp [lg_sl, rv_cat, cat_int, cat_long]) (by simp [flat, lv_args, rv_cat, cat_int, cat_long]) h ?_
  intro p e s m args below meth c E
  have hL5 : ∀ (p0 : Option Nat) (p1 : Int32) (p2 : Int32) (p3 : Int32) (M : Mem), RT p l e rmJ7_fill_53178 s m args below meth c x 4 (QM below args s x (fun _ : Unit => none) rmJ7_fill_53178.cells rmJ7_fill_53178.slots) 0 0 (fJ7_fill_53178_L5 p0 p1 p2 p3 M) 5 [(1, p1), (2, p2), (3, p3)] [] [(0, p0)] [] M := by
    intro p0 p1 p2 p3 M
    refine r_lp (fi := fun a : Option Nat × Int32 × Int32 × Int32 => [(1, a.2.1), (2, a.2.2.1), (3, a.2.2.2)]) (fl := fun a : Option Nat × Int32 × Int32 × Int32 => []) (fr := fun a : Option Nat × Int32 × Int32 × Int32 => [(0, a.1)]) (fs := fun a : Option Nat × Int32 × Int32 × Int32 => []) ?_ FU ((p0, p1, p2, p3)) M
    intro k5 hk5 a M
    obtain ⟨p0, p1, p2, p3⟩ := a
    show RT p l e rmJ7_fill_53178 s m args below meth c x 4 (QM below args s x (fun _ : Unit => none) rmJ7_fill_53178.cells rmJ7_fill_53178.slots) 0 0 (fJ7_fill_53178_B5 k5 p0 p1 p2 p3 M) 5 [(1, p1), (2, p2), (3, p3)] [] [(0, p0)] [] M
    unfold fJ7_fill_53178_B5
    refine r_iload_n (pc := 5) E dJ7_fill_53178_5 rfl 1 rfl ?_
    refine r_iload_n (pc := 6) E dJ7_fill_53178_6 rfl 2 rfl ?_
    refine r_icmp_ge (pc := 7) (tgt := 20) E dJ7_fill_53178_7 (by decide) ?_ ?_
    · exact e_void (pc := 20) E dJ7_fill_53178_20
    · refine r_aload_n (pc := 10) E dJ7_fill_53178_10 rfl 0 rfl ?_
      refine r_iload_n (pc := 11) E dJ7_fill_53178_11 rfl 1 rfl ?_
      refine r_iload_n (pc := 12) E dJ7_fill_53178_12 rfl 0 rfl ?_
      refine r_iastore (pc := 13) E dJ7_fill_53178_13 (fun M13 => ?_)
      refine r_iinc (pc := 14) (w := 1) (lf := fun v14 => [(2, v14), (1, p1), (3, p3)]) (ll' := []) (lr' := [(0, p0)]) E dJ7_fill_53178_14 1 rfl (by decide) (by decide) (fun _ => rfl) rfl rfl (fun v14 => ?_)
      refine r_goto (pc := 17) (tgt := 5) E dJ7_fill_53178_17 (by decide) ?_
      exact r_sub [1, 0, 2] [] [0] rfl rfl rfl (hk5 ((p0, p1, v14, p3)) _)
  show RT p l e rmJ7_fill_53178 s m args below meth c x 4 (QM below args s x (fun _ : Unit => none) rmJ7_fill_53178.cells rmJ7_fill_53178.slots) 0 0 (fJ7_fill_53178 a0 a1 M) 0 [(1, a1)] [] [(0, a0)] [] M
  unfold fJ7_fill_53178
  refine r_iconst (pc := 0) (v := 0) E dJ7_fill_53178_0 (by decide) ?_
  refine r_istore_n (pc := 1) (lf := fun v1 => [(2, v1), (1, a1)]) (lg := fun v1 => []) (lk := fun v1 => [(0, a0)]) E dJ7_fill_53178_1 rfl (by decide) (fun _ => rfl) (fun _ => rfl) (fun _ => rfl) (fun v1 => ?_)
  refine r_aload_n (pc := 2) E dJ7_fill_53178_2 rfl 0 rfl ?_
  refine r_alen (pc := 3) E dJ7_fill_53178_3 (fun v3 => ?_)
  refine r_istore_n (pc := 4) (lf := fun v4 => [(3, v4), (2, v1), (1, a1)]) (lg := fun v4 => []) (lk := fun v4 => [(0, a0)]) E dJ7_fill_53178_4 rfl (by decide) (fun _ => rfl) (fun _ => rfl) (fun _ => rfl) (fun v4 => ?_)
  exact r_sub [2, 1, 0] [] [0] rfl rfl rfl (hL5 a0 a1 v1 v4 _)
def fX1_build_L127 (k20 : Option Nat × Option Nat × Int32 × Int32 → Mem → Option (Unit × Mem)) (p0 : Option Nat) (p1 : Option Nat) (p2 : Int32) (p3 : Int32) (M : Mem) : Option (Unit × Mem) :=
  bn (p3 + 1) fun v127 =>
  k20 ((p0, p1, p2, v127)) M
def fX1_build_L121 (k20 : Option Nat × Option Nat × Int32 × Int32 → Mem → Option (Unit × Mem)) (k31 : Option Nat × Option Nat × Int32 × Int32 × Int32 → Mem → Option (Unit × Mem)) (p0 : Option Nat) (p1 : Option Nat) (p2 : Int32) (p3 : Int32) (p4 : Int32) (M : Mem) : Option (Unit × Mem) :=
  bn (p4 + 1) fun v121 =>
  k31 ((p0, p1, p2, p3, v121)) M
def fX1_build_B101 (k20 : Option Nat × Option Nat × Int32 × Int32 → Mem → Option (Unit × Mem)) (k31 : Option Nat × Option Nat × Int32 × Int32 × Int32 → Mem → Option (Unit × Mem)) (k101 : Option Nat × Option Nat × Int32 × Int32 × Int32 × Int32 → Mem → Option (Unit × Mem)) (p0 : Option Nat) (p1 : Option Nat) (p2 : Int32) (p3 : Int32) (p4 : Int32) (p5 : Int32) (M : Mem) : Option (Unit × Mem) :=
  if p5 ≤ p2 then (
    fX1_build_L121 k20 k31 p0 p1 p2 p3 p4 M
  ) else (
    bo (gR M p0 1 3) fun v108 =>
    bo (wI M v108 p2 p4) fun M114 =>
    bn (p2 + 1) fun v115 =>
    k101 ((p0, p1, v115, p3, p4, p5)) M114
  )
def fX1_build_L101 (k20 : Option Nat × Option Nat × Int32 × Int32 → Mem → Option (Unit × Mem)) (k31 : Option Nat × Option Nat × Int32 × Int32 × Int32 → Mem → Option (Unit × Mem)) (p0 : Option Nat) (p1 : Option Nat) (p2 : Int32) (p3 : Int32) (p4 : Int32) (p5 : Int32) (M : Mem) : Option (Unit × Mem) :=
  lp (fun k101 (a : Option Nat × Option Nat × Int32 × Int32 × Int32 × Int32) M => fX1_build_B101 k20 k31 k101 a.1 a.2.1 a.2.2.1 a.2.2.2.1 a.2.2.2.2.1 a.2.2.2.2.2 M) FU ((p0, p1, p2, p3, p4, p5)) M
def fX1_build_B31 (k20 : Option Nat × Option Nat × Int32 × Int32 → Mem → Option (Unit × Mem)) (k31 : Option Nat × Option Nat × Int32 × Int32 × Int32 → Mem → Option (Unit × Mem)) (p0 : Option Nat) (p1 : Option Nat) (p2 : Int32) (p3 : Int32) (p4 : Int32) (M : Mem) : Option (Unit × Mem) :=
  bo (gI M p1 11 1) fun v34 =>
  if v34 ≤ p4 then (
    fX1_build_L127 k20 p0 p1 p2 p3 M
  ) else (
    if 256 ≤ p4 then (
      fX1_build_L127 k20 p0 p1 p2 p3 M
    ) else (
      bo (gR M p1 11 0) fun v49 =>
      bo (aI M v49 15 p4) fun v54 =>
      if v54 = p3 then (
        bo (gR M p0 1 1) fun v60 =>
        bo (gI M p0 1 0) fun v66 =>
        bo (wI M v60 p4 ((v66 + 1) - p3)) fun M73 =>
        bo (gR M73 p0 1 2) fun v75 =>
        bo (wI M73 v75 p4 (shrI p2 (p3 - 1))) fun M85 =>
        bn (minI (p2 + (shlI 1 (p3 - 1))) 2048) fun v99 =>
        fX1_build_L101 k20 k31 p0 p1 p2 p3 p4 v99 M85
      ) else (
        fX1_build_L121 k20 k31 p0 p1 p2 p3 p4 M
      )
    )
  )
def fX1_build_L31 (k20 : Option Nat × Option Nat × Int32 × Int32 → Mem → Option (Unit × Mem)) (p0 : Option Nat) (p1 : Option Nat) (p2 : Int32) (p3 : Int32) (p4 : Int32) (M : Mem) : Option (Unit × Mem) :=
  lp (fun k31 (a : Option Nat × Option Nat × Int32 × Int32 × Int32) M => fX1_build_B31 k20 k31 a.1 a.2.1 a.2.2.1 a.2.2.2.1 a.2.2.2.2 M) FU ((p0, p1, p2, p3, p4)) M
def fX1_build_B20 (k20 : Option Nat × Option Nat × Int32 × Int32 → Mem → Option (Unit × Mem)) (p0 : Option Nat) (p1 : Option Nat) (p2 : Int32) (p3 : Int32) (M : Mem) : Option (Unit × Mem) :=
  bo (gI M p0 1 0) fun v22 =>
  if v22 < p3 then (
    some ((), M)
  ) else (
    bn (0) fun v29 =>
    fX1_build_L31 k20 p0 p1 p2 p3 v29 M
  )
def fX1_build_L20 (p0 : Option Nat) (p1 : Option Nat) (p2 : Int32) (p3 : Int32) (M : Mem) : Option (Unit × Mem) :=
  lp (fun k20 (a : Option Nat × Option Nat × Int32 × Int32) M => fX1_build_B20 k20 a.1 a.2.1 a.2.2.1 a.2.2.2 M) FU ((p0, p1, p2, p3)) M
def fX1_build (a0 : Option Nat) (a1 : Option Nat) (M : Mem) : Option (Unit × Mem) :=
  bo (gI M a1 11 2) fun v2 =>
  bo (pI M a0 1 0 v2) fun M5 =>
  bo (gR M5 a0 1 1) fun v9 =>
  bd (fJ7_fill_53178 v9 0 M5) fun v13 M13 =>
  bn (0) fun v17 =>
  bn (1) fun v19 =>
  fX1_build_L20 a0 a1 v17 v19 M13
def rmX1_build : Room := { frames := 1, cells := 0, slots := 0, locals := 23 }
set_option maxRecDepth 100000 in
set_option maxHeartbeats 4000000 in
theorem ctX1_build (l : Launch) (x : Cx) (a0 : Option Nat) (a1 : Option Nat) (M : Mem) (v : Unit) (N : Mem) (h : fX1_build a0 a1 M = some (v, N)) : CT l yX1_build cX1_build 6 (none) rmX1_build x [rv x a0, rv x a1] M none N := by
  refine ct_mk (enc := fun _ : Unit => none) (li := []) (ll := []) (lr := [(0, a0), (1, a1)]) (by decide +kernel) (by simp [lg_sl, rv_cat, cat_int, cat_long]) (by simp [flat, lv_args, rv_cat, cat_int, cat_long]) h ?_
  intro p e s m args below meth c E
  have hL127 : ∀ (k20 : Option Nat × Option Nat × Int32 × Int32 → Mem → Option (Unit × Mem)) (hk20 : ∀ a M, RT p l e rmX1_build s m args below meth c x 6 (QM below args s x (fun _ : Unit => none) rmX1_build.cells rmX1_build.slots) 0 0 (k20 a M) 20 [(2, a.2.2.1), (3, a.2.2.2)] [] [(0, a.1), (1, a.2.1)] [] M) (p0 : Option Nat) (p1 : Option Nat) (p2 : Int32) (p3 : Int32) (M : Mem), RT p l e rmX1_build s m args below meth c x 6 (QM below args s x (fun _ : Unit => none) rmX1_build.cells rmX1_build.slots) 0 0 (fX1_build_L127 k20 p0 p1 p2 p3 M) 127 [(2, p2), (3, p3)] [] [(0, p0), (1, p1)] [] M := by
    intro k20 hk20 p0 p1 p2 p3 M
    unfold fX1_build_L127
    refine r_iinc (pc := 127) (w := 1) (lf := fun v127 => [(3, v127), (2, p2)]) (ll' := []) (lr' := [(0, p0), (1, p1)]) E dX1_build_127 1 rfl (by decide) (by decide) (fun _ => rfl) rfl rfl (fun v127 => ?_)
    refine r_goto (pc := 130) (tgt := 20) E dX1_build_130 (by decide) ?_
    exact r_sub [1, 0] [] [0, 1] rfl rfl rfl (hk20 ((p0, p1, p2, v127)) _)
  have hL121 : ∀ (k20 : Option Nat × Option Nat × Int32 × Int32 → Mem → Option (Unit × Mem)) (hk20 : ∀ a M, RT p l e rmX1_build s m args below meth c x 6 (QM below args s x (fun _ : Unit => none) rmX1_build.cells rmX1_build.slots) 0 0 (k20 a M) 20 [(2, a.2.2.1), (3, a.2.2.2)] [] [(0, a.1), (1, a.2.1)] [] M) (k31 : Option Nat × Option Nat × Int32 × Int32 × Int32 → Mem → Option (Unit × Mem)) (hk31 : ∀ a M, RT p l e rmX1_build s m args below meth c x 6 (QM below args s x (fun _ : Unit => none) rmX1_build.cells rmX1_build.slots) 0 0 (k31 a M) 31 [(2, a.2.2.1), (3, a.2.2.2.1), (4, a.2.2.2.2)] [] [(0, a.1), (1, a.2.1)] [] M) (p0 : Option Nat) (p1 : Option Nat) (p2 : Int32) (p3 : Int32) (p4 : Int32) (M : Mem), RT p l e rmX1_build s m args below meth c x 6 (QM below args s x (fun _ : Unit => none) rmX1_build.cells rmX1_build.slots) 0 0 (fX1_build_L121 k20 k31 p0 p1 p2 p3 p4 M) 121 [(2, p2), (3, p3), (4, p4)] [] [(0, p0), (1, p1)] [] M := by
    intro k20 hk20 k31 hk31 p0 p1 p2 p3 p4 M
    unfold fX1_build_L121
    refine r_iinc (pc := 121) (w := 1) (lf := fun v121 => [(4, v121), (2, p2), (3, p3)]) (ll' := []) (lr' := [(0, p0), (1, p1)]) E dX1_build_121 2 rfl (by decide) (by decide) (fun _ => rfl) rfl rfl (fun v121 => ?_)
    refine r_goto (pc := 124) (tgt := 31) E dX1_build_124 (by decide) ?_
    exact r_sub [1, 2, 0] [] [0, 1] rfl rfl rfl (hk31 ((p0, p1, p2, p3, v121)) _)
  have hL101 : ∀ (k20 : Option Nat × Option Nat × Int32 × Int32 → Mem → Option (Unit × Mem)) (hk20 : ∀ a M, RT p l e rmX1_build s m args below meth c x 6 (QM below args s x (fun _ : Unit => none) rmX1_build.cells rmX1_build.slots) 0 0 (k20 a M) 20 [(2, a.2.2.1), (3, a.2.2.2)] [] [(0, a.1), (1, a.2.1)] [] M) (k31 : Option Nat × Option Nat × Int32 × Int32 × Int32 → Mem → Option (Unit × Mem)) (hk31 : ∀ a M, RT p l e rmX1_build s m args below meth c x 6 (QM below args s x (fun _ : Unit => none) rmX1_build.cells rmX1_build.slots) 0 0 (k31 a M) 31 [(2, a.2.2.1), (3, a.2.2.2.1), (4, a.2.2.2.2)] [] [(0, a.1), (1, a.2.1)] [] M) (p0 : Option Nat) (p1 : Option Nat) (p2 : Int32) (p3 : Int32) (p4 : Int32) (p5 : Int32) (M : Mem), RT p l e rmX1_build s m args below meth c x 6 (QM below args s x (fun _ : Unit => none) rmX1_build.cells rmX1_build.slots) 0 0 (fX1_build_L101 k20 k31 p0 p1 p2 p3 p4 p5 M) 101 [(2, p2), (3, p3), (4, p4), (5, p5)] [] [(0, p0), (1, p1)] [] M := by
    intro k20 hk20 k31 hk31 p0 p1 p2 p3 p4 p5 M
    refine r_lp (fi := fun a : Option Nat × Option Nat × Int32 × Int32 × Int32 × Int32 => [(2, a.2.2.1), (3, a.2.2.2.1), (4, a.2.2.2.2.1), (5, a.2.2.2.2.2)]) (fl := fun a : Option Nat × Option Nat × Int32 × Int32 × Int32 × Int32 => []) (fr := fun a : Option Nat × Option Nat × Int32 × Int32 × Int32 × Int32 => [(0, a.1), (1, a.2.1)]) (fs := fun a : Option Nat × Option Nat × Int32 × Int32 × Int32 × Int32 => []) ?_ FU ((p0, p1, p2, p3, p4, p5)) M
    intro k101 hk101 a M
    obtain ⟨p0, p1, p2, p3, p4, p5⟩ := a
    show RT p l e rmX1_build s m args below meth c x 6 (QM below args s x (fun _ : Unit => none) rmX1_build.cells rmX1_build.slots) 0 0 (fX1_build_B101 k20 k31 k101 p0 p1 p2 p3 p4 p5 M) 101 [(2, p2), (3, p3), (4, p4), (5, p5)] [] [(0, p0), (1, p1)] [] M
    unfold fX1_build_B101
    refine r_iload_n (pc := 101) E dX1_build_101 rfl 0 rfl ?_
    refine r_iload (pc := 102) E dX1_build_102 3 rfl ?_
    refine r_icmp_ge (pc := 104) (tgt := 121) E dX1_build_104 (by decide) ?_ ?_
    · exact r_sub [0, 1, 2] [] [0, 1] rfl rfl rfl (hL121 k20 hk20 k31 hk31 p0 p1 p2 p3 p4 _)
    · refine r_aload_n (pc := 107) E dX1_build_107 rfl 0 rfl ?_
      refine r_getA (pc := 108) E fd_1_3 wf_RX1_18 dX1_build_108 (fun v108 => ?_)
      refine r_iload_n (pc := 111) E dX1_build_111 rfl 0 rfl ?_
      refine r_iload (pc := 112) E dX1_build_112 2 rfl ?_
      refine r_iastore (pc := 114) E dX1_build_114 (fun M114 => ?_)
      refine r_iinc (pc := 115) (w := 1) (lf := fun v115 => [(2, v115), (3, p3), (4, p4), (5, p5)]) (ll' := []) (lr' := [(0, p0), (1, p1)]) E dX1_build_115 0 rfl (by decide) (by decide) (fun _ => rfl) rfl rfl (fun v115 => ?_)
      refine r_goto (pc := 118) (tgt := 101) E dX1_build_118 (by decide) ?_
      exact r_sub [0, 1, 2, 3] [] [0, 1] rfl rfl rfl (hk101 ((p0, p1, v115, p3, p4, p5)) _)
  have hL31 : ∀ (k20 : Option Nat × Option Nat × Int32 × Int32 → Mem → Option (Unit × Mem)) (hk20 : ∀ a M, RT p l e rmX1_build s m args below meth c x 6 (QM below args s x (fun _ : Unit => none) rmX1_build.cells rmX1_build.slots) 0 0 (k20 a M) 20 [(2, a.2.2.1), (3, a.2.2.2)] [] [(0, a.1), (1, a.2.1)] [] M) (p0 : Option Nat) (p1 : Option Nat) (p2 : Int32) (p3 : Int32) (p4 : Int32) (M : Mem), RT p l e rmX1_build s m args below meth c x 6 (QM below args s x (fun _ : Unit => none) rmX1_build.cells rmX1_build.slots) 0 0 (fX1_build_L31 k20 p0 p1 p2 p3 p4 M) 31 [(2, p2), (3, p3), (4, p4)] [] [(0, p0), (1, p1)] [] M := by
    intro k20 hk20 p0 p1 p2 p3 p4 M
    refine r_lp (fi := fun a : Option Nat × Option Nat × Int32 × Int32 × Int32 => [(2, a.2.2.1), (3, a.2.2.2.1), (4, a.2.2.2.2)]) (fl := fun a : Option Nat × Option Nat × Int32 × Int32 × Int32 => []) (fr := fun a : Option Nat × Option Nat × Int32 × Int32 × Int32 => [(0, a.1), (1, a.2.1)]) (fs := fun a : Option Nat × Option Nat × Int32 × Int32 × Int32 => []) ?_ FU ((p0, p1, p2, p3, p4)) M
    intro k31 hk31 a M
    obtain ⟨p0, p1, p2, p3, p4⟩ := a
    show RT p l e rmX1_build s m args below meth c x 6 (QM below args s x (fun _ : Unit => none) rmX1_build.cells rmX1_build.slots) 0 0 (fX1_build_B31 k20 k31 p0 p1 p2 p3 p4 M) 31 [(2, p2), (3, p3), (4, p4)] [] [(0, p0), (1, p1)] [] M
    unfold fX1_build_B31
    refine r_iload (pc := 31) E dX1_build_31 2 rfl ?_
    refine r_aload_n (pc := 33) E dX1_build_33 rfl 1 rfl ?_
    refine r_getI (pc := 34) E fd_11_1 wf_RX1_34 dX1_build_34 (fun v34 => ?_)
    refine r_icmp_ge (pc := 37) (tgt := 127) E dX1_build_37 (by decide) ?_ ?_
    · exact r_sub [0, 1] [] [0, 1] rfl rfl rfl (hL127 k20 hk20 p0 p1 p2 p3 _)
    · refine r_iload (pc := 40) E dX1_build_40 2 rfl ?_
      refine r_sipush (pc := 42) (v := 256) E dX1_build_42 (by decide) ?_
      refine r_icmp_ge (pc := 45) (tgt := 127) E dX1_build_45 (by decide) ?_ ?_
      · exact r_sub [0, 1] [] [0, 1] rfl rfl rfl (hL127 k20 hk20 p0 p1 p2 p3 _)
      · refine r_aload_n (pc := 48) E dX1_build_48 rfl 1 rfl ?_
        refine r_getA (pc := 49) E fd_11_0 wf_RX1_37 dX1_build_49 (fun v49 => ?_)
        refine r_iload (pc := 52) E dX1_build_52 2 rfl ?_
        refine r_iaload (pc := 54) E dX1_build_54 (fun v54 => ?_)
        refine r_iload_n (pc := 55) E dX1_build_55 rfl 1 rfl ?_
        refine r_icmp_ne (pc := 56) (tgt := 121) E dX1_build_56 (by decide) ?_ ?_
        · exact r_sub [0, 1, 2] [] [0, 1] rfl rfl rfl (hL121 k20 hk20 k31 hk31 p0 p1 p2 p3 p4 _)
        · refine r_aload_n (pc := 59) E dX1_build_59 rfl 0 rfl ?_
          refine r_getA (pc := 60) E fd_1_1 wf_RX1_9 dX1_build_60 (fun v60 => ?_)
          refine r_iload (pc := 63) E dX1_build_63 2 rfl ?_
          refine r_aload_n (pc := 65) E dX1_build_65 rfl 0 rfl ?_
          refine r_getI (pc := 66) E fd_1_0 wf_RX1_27 dX1_build_66 (fun v66 => ?_)
          refine r_iconst (pc := 69) (v := 1) E dX1_build_69 (by decide) ?_
          refine r_iadd (pc := 70) E dX1_build_70 ?_
          refine r_iload_n (pc := 71) E dX1_build_71 rfl 1 rfl ?_
          refine r_isub (pc := 72) E dX1_build_72 ?_
          refine r_iastore (pc := 73) E dX1_build_73 (fun M73 => ?_)
          refine r_aload_n (pc := 74) E dX1_build_74 rfl 0 rfl ?_
          refine r_getA (pc := 75) E fd_1_2 wf_RX1_15 dX1_build_75 (fun v75 => ?_)
          refine r_iload (pc := 78) E dX1_build_78 2 rfl ?_
          refine r_iload_n (pc := 80) E dX1_build_80 rfl 0 rfl ?_
          refine r_iload_n (pc := 81) E dX1_build_81 rfl 1 rfl ?_
          refine r_iconst (pc := 82) (v := 1) E dX1_build_82 (by decide) ?_
          refine r_isub (pc := 83) E dX1_build_83 ?_
          refine r_ishr (pc := 84) E dX1_build_84 ?_
          refine r_iastore (pc := 85) E dX1_build_85 (fun M85 => ?_)
          refine r_iload_n (pc := 86) E dX1_build_86 rfl 0 rfl ?_
          refine r_iconst (pc := 87) (v := 1) E dX1_build_87 (by decide) ?_
          refine r_iload_n (pc := 88) E dX1_build_88 rfl 1 rfl ?_
          refine r_iconst (pc := 89) (v := 1) E dX1_build_89 (by decide) ?_
          refine r_isub (pc := 90) E dX1_build_90 ?_
          refine r_ishl (pc := 91) E dX1_build_91 ?_
          refine r_iadd (pc := 92) E dX1_build_92 ?_
          refine r_sipush (pc := 93) (v := 2048) E dX1_build_93 (by decide) ?_
          refine r_mmin (pc := 96) E wl_RX1_40 wm_smin wi_math wm_cmin dX1_build_96 (by decide) (Nat.le_of_ble_eq_true rfl) ?_
          refine r_istore (pc := 99) (lf := fun v99 => [(5, v99), (2, p2), (3, p3), (4, p4)]) (lg := fun v99 => []) (lk := fun v99 => [(0, p0), (1, p1)]) E dX1_build_99 (by decide) (fun _ => rfl) (fun _ => rfl) (fun _ => rfl) (fun v99 => ?_)
          exact r_sub [1, 2, 3, 0] [] [0, 1] rfl rfl rfl (hL101 k20 hk20 k31 hk31 p0 p1 p2 p3 p4 v99 _)
  have hL20 : ∀ (p0 : Option Nat) (p1 : Option Nat) (p2 : Int32) (p3 : Int32) (M : Mem), RT p l e rmX1_build s m args below meth c x 6 (QM below args s x (fun _ : Unit => none) rmX1_build.cells rmX1_build.slots) 0 0 (fX1_build_L20 p0 p1 p2 p3 M) 20 [(2, p2), (3, p3)] [] [(0, p0), (1, p1)] [] M := by
    intro p0 p1 p2 p3 M
    refine r_lp (fi := fun a : Option Nat × Option Nat × Int32 × Int32 => [(2, a.2.2.1), (3, a.2.2.2)]) (fl := fun a : Option Nat × Option Nat × Int32 × Int32 => []) (fr := fun a : Option Nat × Option Nat × Int32 × Int32 => [(0, a.1), (1, a.2.1)]) (fs := fun a : Option Nat × Option Nat × Int32 × Int32 => []) ?_ FU ((p0, p1, p2, p3)) M
    intro k20 hk20 a M
    obtain ⟨p0, p1, p2, p3⟩ := a
    show RT p l e rmX1_build s m args below meth c x 6 (QM below args s x (fun _ : Unit => none) rmX1_build.cells rmX1_build.slots) 0 0 (fX1_build_B20 k20 p0 p1 p2 p3 M) 20 [(2, p2), (3, p3)] [] [(0, p0), (1, p1)] [] M
    unfold fX1_build_B20
    refine r_iload_n (pc := 20) E dX1_build_20 rfl 1 rfl ?_
    refine r_aload_n (pc := 21) E dX1_build_21 rfl 0 rfl ?_
    refine r_getI (pc := 22) E fd_1_0 wf_RX1_27 dX1_build_22 (fun v22 => ?_)
    refine r_icmp_gt (pc := 25) (tgt := 133) E dX1_build_25 (by decide) ?_ ?_
    · exact e_void (pc := 133) E dX1_build_133
    · refine r_iconst (pc := 28) (v := 0) E dX1_build_28 (by decide) ?_
      refine r_istore (pc := 29) (lf := fun v29 => [(4, v29), (2, p2), (3, p3)]) (lg := fun v29 => []) (lk := fun v29 => [(0, p0), (1, p1)]) E dX1_build_29 (by decide) (fun _ => rfl) (fun _ => rfl) (fun _ => rfl) (fun v29 => ?_)
      exact r_sub [1, 2, 0] [] [0, 1] rfl rfl rfl (hL31 k20 hk20 p0 p1 p2 p3 v29 _)
  show RT p l e rmX1_build s m args below meth c x 6 (QM below args s x (fun _ : Unit => none) rmX1_build.cells rmX1_build.slots) 0 0 (fX1_build a0 a1 M) 0 [] [] [(0, a0), (1, a1)] [] M
  unfold fX1_build
  refine r_aload_n (pc := 0) E dX1_build_0 rfl 0 rfl ?_
  refine r_aload_n (pc := 1) E dX1_build_1 rfl 1 rfl ?_
  refine r_getI (pc := 2) E fd_11_2 wf_RX1_21 dX1_build_2 (fun v2 => ?_)
  refine r_putI (pc := 5) E fd_1_0 wf_RX1_27 dX1_build_5 (Or.inl rfl) (fun M5 => ?_)
  refine r_aload_n (pc := 8) E dX1_build_8 rfl 0 rfl ?_
  refine r_getA (pc := 9) E fd_1_1 wf_RX1_9 dX1_build_9 (fun v9 => ?_)
  refine r_iconst (pc := 12) (v := 0) E dX1_build_12 (by decide) ?_
  refine r_kSv (pc := 13) (As := [rv x v9, .int 0]) (rest := []) E wc_J7_fill_53178 wi_RJ7 hd_J7_fill_53178 wl_RX1_28 wt_J7_fill_53178 dX1_build_13 (by decide) (Nat.le_of_ble_eq_true rfl) ⟨rfl, rfl⟩ (ctJ7_fill_53178 l x _ _ _) rfl (fun v13 M13 => ?_)
  refine r_iconst (pc := 16) (v := 0) E dX1_build_16 (by decide) ?_
  refine r_istore_n (pc := 17) (lf := fun v17 => [(2, v17)]) (lg := fun v17 => []) (lk := fun v17 => [(0, a0), (1, a1)]) E dX1_build_17 rfl (by decide) (fun _ => rfl) (fun _ => rfl) (fun _ => rfl) (fun v17 => ?_)
  refine r_iconst (pc := 18) (v := 1) E dX1_build_18 (by decide) ?_
  refine r_istore_n (pc := 19) (lf := fun v19 => [(3, v19), (2, v17)]) (lg := fun v19 => []) (lk := fun v19 => [(0, a0), (1, a1)]) E dX1_build_19 rfl (by decide) (fun _ => rfl) (fun _ => rfl) (fun _ => rfl) (fun v19 => ?_)
  exact r_sub [1, 0] [] [0, 1] rfl rfl rfl (hL20 a0 a1 v17 v19 _)
def fX1_symbolOf_L21 (q0 : Int32) (M : Mem) : Option (Int32 × Mem) :=
  some (q0, M)
def fX1_symbolOf_L20 (M : Mem) : Option (Int32 × Mem) :=
  fX1_symbolOf_L21 0 M
def fX1_symbolOf (a0 : Option Nat) (a1 : Int32) (M : Mem) : Option (Int32 × Mem) :=
  if a1 < 0 then (
    fX1_symbolOf_L20 M
  ) else (
    if 2048 ≤ a1 then (
      fX1_symbolOf_L20 M
    ) else (
      bo (gR M a0 1 3) fun v12 =>
      bo (aI M v12 15 a1) fun v16 =>
      fX1_symbolOf_L21 v16 M
    )
  )
def rmX1_symbolOf : Room := { frames := 0, cells := 0, slots := 0, locals := 0 }
set_option maxRecDepth 100000 in
set_option maxHeartbeats 4000000 in
theorem ctX1_symbolOf (l : Launch) (x : Cx) (a0 : Option Nat) (a1 : Int32) (M : Mem) (v : Int32) (N : Mem) (h : fX1_symbolOf a0 a1 M = some (v, N)) : CT l yX1_symbolOf cX1_symbolOf 2 (some (FieldType.int)) rmX1_symbolOf x [rv x a0, .int a1] M (some (.int v)) N := by
  refine ct_mk (enc := fun v : Int32 => some (.int v)) (li := [(1, a1)]) (ll := []) (lr := [(0, a0)]) (by decide +kernel) (by simp [lg_sl, rv_cat, cat_int, cat_long]) (by simp [flat, lv_args, rv_cat, cat_int, cat_long]) h ?_
  intro p e s m args below meth c E
  have hL21 : ∀ (q0 : Int32) (M : Mem), RT p l e rmX1_symbolOf s m args below meth c x 2 (QM below args s x (fun v : Int32 => some (.int v)) rmX1_symbolOf.cells rmX1_symbolOf.slots) 0 0 (fX1_symbolOf_L21 q0 M) 21 [] [] [] [.int q0] M := by
    intro q0 M
    unfold fX1_symbolOf_L21
    exact e_int (pc := 21) E dX1_symbolOf_21
  have hL20 : ∀ (M : Mem), RT p l e rmX1_symbolOf s m args below meth c x 2 (QM below args s x (fun v : Int32 => some (.int v)) rmX1_symbolOf.cells rmX1_symbolOf.slots) 0 0 (fX1_symbolOf_L20 M) 20 [] [] [] [] M := by
    intro M
    unfold fX1_symbolOf_L20
    refine r_iconst (pc := 20) (v := 0) E dX1_symbolOf_20 (by decide) ?_
    exact r_sub [] [] [] rfl rfl rfl (hL21 0 _)
  show RT p l e rmX1_symbolOf s m args below meth c x 2 (QM below args s x (fun v : Int32 => some (.int v)) rmX1_symbolOf.cells rmX1_symbolOf.slots) 0 0 (fX1_symbolOf a0 a1 M) 0 [(1, a1)] [] [(0, a0)] [] M
  unfold fX1_symbolOf
  refine r_iload_n (pc := 0) E dX1_symbolOf_0 rfl 0 rfl ?_
  refine r_if_lt (pc := 1) (tgt := 20) E dX1_symbolOf_1 (by decide) ?_ ?_
  · exact r_sub [] [] [] rfl rfl rfl (hL20 _)
  · refine r_iload_n (pc := 4) E dX1_symbolOf_4 rfl 0 rfl ?_
    refine r_sipush (pc := 5) (v := 2048) E dX1_symbolOf_5 (by decide) ?_
    refine r_icmp_ge (pc := 8) (tgt := 20) E dX1_symbolOf_8 (by decide) ?_ ?_
    · exact r_sub [] [] [] rfl rfl rfl (hL20 _)
    · refine r_aload_n (pc := 11) E dX1_symbolOf_11 rfl 0 rfl ?_
      refine r_getA (pc := 12) E fd_1_3 wf_RX1_18 dX1_symbolOf_12 (fun v12 => ?_)
      refine r_iload_n (pc := 15) E dX1_symbolOf_15 rfl 0 rfl ?_
      refine r_iaload (pc := 16) E dX1_symbolOf_16 (fun v16 => ?_)
      refine r_goto (pc := 17) (tgt := 21) E dX1_symbolOf_17 (by decide) ?_
      exact r_sub [] [] [] rfl rfl rfl (hL21 v16 _)
def fX1_lengthOf_B6 (k6 : Option Nat × Option Nat × Int32 × Int32 × Int32 → Mem → Option (Int32 × Mem)) (p0 : Option Nat) (p1 : Option Nat) (p3 : Int32) (p4 : Int32) (p5 : Int32) (M : Mem) : Option (Int32 × Mem) :=
  if p3 ≤ p5 then (
    bo (dv p4 8) fun v38 =>
    some (v38 + 1, M)
  ) else (
    bo (gR M p0 1 1) fun v15 =>
    bo (chk M p1 8) fun _ => bd (fX8_get p1 p5 M) fun v21 M21 =>
    bo (aI M21 v15 15 v21) fun v24 =>
    bn (p4 + v24) fun v26 =>
    bn (p5 + 1) fun v28 =>
    k6 ((p0, p1, p3, v26, v28)) M21
  )
def fX1_lengthOf_L6 (p0 : Option Nat) (p1 : Option Nat) (p3 : Int32) (p4 : Int32) (p5 : Int32) (M : Mem) : Option (Int32 × Mem) :=
  lp (fun k6 (a : Option Nat × Option Nat × Int32 × Int32 × Int32) M => fX1_lengthOf_B6 k6 a.1 a.2.1 a.2.2.1 a.2.2.2.1 a.2.2.2.2 M) FU ((p0, p1, p3, p4, p5)) M
def fX1_lengthOf (a0 : Option Nat) (a1 : Option Nat) (a2 : Int32) (a3 : Int32) (M : Mem) : Option (Int32 × Mem) :=
  bn (0) fun v1 =>
  bn (a2) fun v4 =>
  fX1_lengthOf_L6 a0 a1 a3 v1 v4 M
def rmX1_lengthOf : Room := { frames := 1, cells := 0, slots := 0, locals := 21 }
set_option maxRecDepth 100000 in
set_option maxHeartbeats 4000000 in
theorem ctX1_lengthOf (l : Launch) (x : Cx) (a0 : Option Nat) (a1 : Option Nat) (a2 : Int32) (a3 : Int32) (M : Mem) (v : Int32) (N : Mem) (h : fX1_lengthOf a0 a1 a2 a3 M = some (v, N)) : CT l yX1_lengthOf cX1_lengthOf 6 (some (FieldType.int)) rmX1_lengthOf x [rv x a0, rv x a1, .int a2, .int a3] M (some (.int v)) N := by
  refine ct_mk (enc := fun v : Int32 => some (.int v)) (li := [(2, a2), (3, a3)]) (ll := []) (lr := [(0, a0), (1, a1)]) (by decide +kernel) (by simp [lg_sl, rv_cat, cat_int, cat_long]) (by simp [flat, lv_args, rv_cat, cat_int, cat_long]) h ?_
  intro p e s m args below meth c E
  have hL6 : ∀ (p0 : Option Nat) (p1 : Option Nat) (p3 : Int32) (p4 : Int32) (p5 : Int32) (M : Mem), RT p l e rmX1_lengthOf s m args below meth c x 6 (QM below args s x (fun v : Int32 => some (.int v)) rmX1_lengthOf.cells rmX1_lengthOf.slots) 0 0 (fX1_lengthOf_L6 p0 p1 p3 p4 p5 M) 6 [(3, p3), (4, p4), (5, p5)] [] [(0, p0), (1, p1)] [] M := by
    intro p0 p1 p3 p4 p5 M
    refine r_lp (fi := fun a : Option Nat × Option Nat × Int32 × Int32 × Int32 => [(3, a.2.2.1), (4, a.2.2.2.1), (5, a.2.2.2.2)]) (fl := fun a : Option Nat × Option Nat × Int32 × Int32 × Int32 => []) (fr := fun a : Option Nat × Option Nat × Int32 × Int32 × Int32 => [(0, a.1), (1, a.2.1)]) (fs := fun a : Option Nat × Option Nat × Int32 × Int32 × Int32 => []) ?_ FU ((p0, p1, p3, p4, p5)) M
    intro k6 hk6 a M
    obtain ⟨p0, p1, p3, p4, p5⟩ := a
    show RT p l e rmX1_lengthOf s m args below meth c x 6 (QM below args s x (fun v : Int32 => some (.int v)) rmX1_lengthOf.cells rmX1_lengthOf.slots) 0 0 (fX1_lengthOf_B6 k6 p0 p1 p3 p4 p5 M) 6 [(3, p3), (4, p4), (5, p5)] [] [(0, p0), (1, p1)] [] M
    unfold fX1_lengthOf_B6
    refine r_iload (pc := 6) E dX1_lengthOf_6 2 rfl ?_
    refine r_iload_n (pc := 8) E dX1_lengthOf_8 rfl 0 rfl ?_
    refine r_icmp_ge (pc := 9) (tgt := 34) E dX1_lengthOf_9 (by decide) ?_ ?_
    · refine r_iload (pc := 34) E dX1_lengthOf_34 1 rfl ?_
      refine r_bipush (pc := 36) (v := 8) E dX1_lengthOf_36 (by decide) ?_
      refine r_idiv (pc := 38) E dX1_lengthOf_38 (fun v38 => ?_)
      refine r_iconst (pc := 39) (v := 1) E dX1_lengthOf_39 (by decide) ?_
      refine r_iadd (pc := 40) E dX1_lengthOf_40 ?_
      exact e_int (pc := 41) E dX1_lengthOf_41
    · refine r_iload (pc := 12) E dX1_lengthOf_12 1 rfl ?_
      refine r_aload_n (pc := 14) E dX1_lengthOf_14 rfl 0 rfl ?_
      refine r_getA (pc := 15) E fd_1_1 wf_RX1_9 dX1_lengthOf_15 (fun v15 => ?_)
      refine r_aload_n (pc := 18) E dX1_lengthOf_18 rfl 1 rfl ?_
      refine r_iload (pc := 19) E dX1_lengthOf_19 2 rfl ?_
      refine r_kVi (pc := 21) (As := [.int p5]) (rest := [rv x v15, .int p4]) E wc_X8_get wi_RX8 hd_X8_get (ci := 8) rfl wl_RX1_46 wn_X8_get ws_X8_get dX1_lengthOf_21 (by decide) (Nat.le_of_ble_eq_true rfl) ⟨rfl, rfl⟩ (ctX8_get l x _ _ _) rfl (fun v21 M21 => ?_)
      refine r_iaload (pc := 24) E dX1_lengthOf_24 (fun v24 => ?_)
      refine r_iadd (pc := 25) E dX1_lengthOf_25 ?_
      refine r_istore (pc := 26) (lf := fun v26 => [(4, v26), (3, p3), (5, p5)]) (lg := fun v26 => []) (lk := fun v26 => [(0, p0), (1, p1)]) E dX1_lengthOf_26 (by decide) (fun _ => rfl) (fun _ => rfl) (fun _ => rfl) (fun v26 => ?_)
      refine r_iinc (pc := 28) (w := 1) (lf := fun v28 => [(5, v28), (4, v26), (3, p3)]) (ll' := []) (lr' := [(0, p0), (1, p1)]) E dX1_lengthOf_28 2 rfl (by decide) (by decide) (fun _ => rfl) rfl rfl (fun v28 => ?_)
      refine r_goto (pc := 31) (tgt := 6) E dX1_lengthOf_31 (by decide) ?_
      exact r_sub [2, 1, 0] [] [0, 1] rfl rfl rfl (hk6 ((p0, p1, p3, v26, v28)) _)
  show RT p l e rmX1_lengthOf s m args below meth c x 6 (QM below args s x (fun v : Int32 => some (.int v)) rmX1_lengthOf.cells rmX1_lengthOf.slots) 0 0 (fX1_lengthOf a0 a1 a2 a3 M) 0 [(2, a2), (3, a3)] [] [(0, a0), (1, a1)] [] M
  unfold fX1_lengthOf
  refine r_iconst (pc := 0) (v := 0) E dX1_lengthOf_0 (by decide) ?_
  refine r_istore (pc := 1) (lf := fun v1 => [(4, v1), (2, a2), (3, a3)]) (lg := fun v1 => []) (lk := fun v1 => [(0, a0), (1, a1)]) E dX1_lengthOf_1 (by decide) (fun _ => rfl) (fun _ => rfl) (fun _ => rfl) (fun v1 => ?_)
  refine r_iload_n (pc := 3) E dX1_lengthOf_3 rfl 1 rfl ?_
  refine r_istore (pc := 4) (lf := fun v4 => [(5, v4), (4, v1), (2, a2), (3, a3)]) (lg := fun v4 => []) (lk := fun v4 => [(0, a0), (1, a1)]) E dX1_lengthOf_4 (by decide) (fun _ => rfl) (fun _ => rfl) (fun _ => rfl) (fun v4 => ?_)
  exact r_sub [3, 1, 0] [] [0, 1] rfl rfl rfl (hL6 a0 a1 a3 v1 v4 _)
def fX8_init (a0 : Option Nat) (a1 : Int32) (M : Mem) : Option (Unit × Mem) :=
  bo (chk0 a0) fun _ =>
  bd (nwA M 14 (maxI a1 0) 9000) fun v10 M10 =>
  bo (pR M10 a0 8 0 v10) fun M12 =>
  some ((), M12)
def rmX8_init : Room := { frames := 1, cells := 1, slots := 9000, locals := 23 }
set_option maxRecDepth 100000 in
set_option maxHeartbeats 4000000 in
theorem ctX8_init (l : Launch) (x : Cx) (a0 : Option Nat) (a1 : Int32) (M : Mem) (v : Unit) (N : Mem) (h : fX8_init a0 a1 M = some (v, N)) : CT l yX8_init cX8_init 2 (none) rmX8_init x [rv x a0, .int a1] M none N := by
  refine ct_mk (enc := fun _ : Unit => none) (li := [(1, a1)]) (ll := []) (lr := [(0, a0)]) (by decide +kernel) (by simp [lg_sl, rv_cat, cat_int, cat_long]) (by simp [flat, lv_args, rv_cat, cat_int, cat_long]) h ?_
  intro p e s m args below meth c E
  show RT p l e rmX8_init s m args below meth c x 2 (QM below args s x (fun _ : Unit => none) rmX8_init.cells rmX8_init.slots) 0 0 (fX8_init a0 a1 M) 0 [(1, a1)] [] [(0, a0)] [] M
  unfold fX8_init
  refine r_aload_n (pc := 0) E dX8_init_0 rfl 0 rfl ?_
  refine r_obj (pc := 1) E wl_RX8_3 wo_inst wo_code dX8_init_1 (by decide) (by decide) (Nat.le_of_ble_eq_true rfl) ?_
  refine r_aload_n (pc := 4) E dX8_init_4 rfl 0 rfl ?_
  refine r_iload_n (pc := 5) E dX8_init_5 rfl 0 rfl ?_
  refine r_iconst (pc := 6) (v := 0) E dX8_init_6 (by decide) ?_
  refine r_mmax (pc := 7) E wl_RX8_9 wm_smax wi_math wm_cmax dX8_init_7 (by decide) (Nat.le_of_ble_eq_true rfl) ?_
  refine r_newarrayB (pc := 10) E wa_B dX8_init_10 (by decide) (by decide) (by decide) (fun v10 M10 => ?_)
  refine r_widen (k := 1) (n := 9000) (by decide) (by decide) ?_
  refine r_putA (pc := 12) E fd_8_0 wf_RX8_15 dX8_init_12 (Or.inr ⟨rfl, rfl⟩) (fun M12 => ?_)
  refine r_widen (k := 1) (n := 9000) (by decide) (by decide) ?_
  exact e_void (pc := 15) E dX8_init_15
def fX10_init (a0 : Option Nat) (M : Mem) : Option (Unit × Mem) :=
  bo (chk0 a0) fun _ =>
  bd (nwA M 15 512 512) fun v8 M8 =>
  bo (pR M8 a0 10 1 v8) fun M10 =>
  bd (nwA M10 15 256 256) fun v17 M17 =>
  bo (pR M17 a0 10 2 v17) fun M19 =>
  bd (nwA M19 15 256 256) fun v26 M26 =>
  bo (pR M26 a0 10 3 v26) fun M28 =>
  bd (nwA M28 14 0 0) fun v33 M33 =>
  bo (pR M33 a0 10 5 v33) fun M35 =>
  some ((), M35)
def rmX10_init : Room := { frames := 1, cells := 4, slots := 1024, locals := 20 }
set_option maxRecDepth 100000 in
set_option maxHeartbeats 4000000 in
theorem ctX10_init (l : Launch) (x : Cx) (a0 : Option Nat) (M : Mem) (v : Unit) (N : Mem) (h : fX10_init a0 M = some (v, N)) : CT l yX10_init cX10_init 1 (none) rmX10_init x [rv x a0] M none N := by
  refine ct_mk (enc := fun _ : Unit => none) (li := []) (ll := []) (lr := [(0, a0)]) (by decide +kernel) (by simp [lg_sl, rv_cat, cat_int, cat_long]) (by simp [flat, lv_args, rv_cat, cat_int, cat_long]) h ?_
  intro p e s m args below meth c E
  show RT p l e rmX10_init s m args below meth c x 1 (QM below args s x (fun _ : Unit => none) rmX10_init.cells rmX10_init.slots) 0 0 (fX10_init a0 M) 0 [] [] [(0, a0)] [] M
  unfold fX10_init
  refine r_aload_n (pc := 0) E dX10_init_0 rfl 0 rfl ?_
  refine r_obj (pc := 1) E wl_RX10_3 wo_inst wo_code dX10_init_1 (by decide) (by decide) (Nat.le_of_ble_eq_true rfl) ?_
  refine r_aload_n (pc := 4) E dX10_init_4 rfl 0 rfl ?_
  refine r_sipush (pc := 5) (v := 512) E dX10_init_5 (by decide) ?_
  refine r_newarrayI (pc := 8) E wa_I dX10_init_8 (by decide) (by decide) (by decide) (fun v8 M8 => ?_)
  refine r_widen (k := 1) (n := 512) (by decide) (by decide) ?_
  refine r_putA (pc := 10) E fd_10_1 wf_RX10_9 dX10_init_10 (Or.inr ⟨rfl, rfl⟩) (fun M10 => ?_)
  refine r_aload_n (pc := 13) E dX10_init_13 rfl 0 rfl ?_
  refine r_sipush (pc := 14) (v := 256) E dX10_init_14 (by decide) ?_
  refine r_newarrayI (pc := 17) E wa_I dX10_init_17 (by decide) (by decide) (by decide) (fun v17 M17 => ?_)
  refine r_widen (k := 2) (n := 768) (by decide) (by decide) ?_
  refine r_putA (pc := 19) E fd_10_2 wf_RX10_15 dX10_init_19 (Or.inr ⟨rfl, rfl⟩) (fun M19 => ?_)
  refine r_aload_n (pc := 22) E dX10_init_22 rfl 0 rfl ?_
  refine r_sipush (pc := 23) (v := 256) E dX10_init_23 (by decide) ?_
  refine r_newarrayI (pc := 26) E wa_I dX10_init_26 (by decide) (by decide) (by decide) (fun v26 M26 => ?_)
  refine r_widen (k := 3) (n := 1024) (by decide) (by decide) ?_
  refine r_putA (pc := 28) E fd_10_3 wf_RX10_18 dX10_init_28 (Or.inr ⟨rfl, rfl⟩) (fun M28 => ?_)
  refine r_aload_n (pc := 31) E dX10_init_31 rfl 0 rfl ?_
  refine r_iconst (pc := 32) (v := 0) E dX10_init_32 (by decide) ?_
  refine r_newarrayB (pc := 33) E wa_B dX10_init_33 (by decide) (by decide) (by decide) (fun v33 M33 => ?_)
  refine r_widen (k := 4) (n := 1024) (by decide) (by decide) ?_
  refine r_putA (pc := 35) E fd_10_5 wf_RX10_21 dX10_init_35 (Or.inl rfl) (fun M35 => ?_)
  refine r_widen (k := 4) (n := 1024) (by decide) (by decide) ?_
  exact e_void (pc := 38) E dX10_init_38
def fX2_init (a0 : Option Nat) (M : Mem) : Option (Unit × Mem) :=
  bo (chk0 a0) fun _ =>
  bd (nwA M 15 3 3) fun v6 M6 =>
  bo (pR M6 a0 2 2 v6) fun M8 =>
  bd (nwA M8 20 3 3) fun v13 M13 =>
  bo (pR M13 a0 2 3 v13) fun M16 =>
  bd (nw M16 1) fun v20 M20 =>
  bo (chk0 v20) fun _ => bd (fX1_init v20 M20) fun v24 M24 =>
  bo (pR M24 a0 2 4 v20) fun M27 =>
  bd (nw M27 8) fun v31 M31 =>
  bo (chk0 v31) fun _ => bd (fX8_init v31 3000 M31) fun v38 M38 =>
  bo (pR M38 a0 2 5 v31) fun M41 =>
  bn (0) fun v45 =>
  if 3 ≤ v45 then (
    none
  ) else (
    bo (gR M41 a0 2 3) fun v52_1 =>
    bd (nw M41 10) fun v56_1 M56_1 =>
    bo (chk0 v56_1) fun _ => bd (fX10_init v56_1 M56_1) fun v60_1 M60_1 =>
    bo (wR M60_1 v52_1 20 10 v45 v56_1) fun M63_1 =>
    bn (v45 + 1) fun v64_1 =>
    if 3 ≤ v64_1 then (
      none
    ) else (
      bo (gR M63_1 a0 2 3) fun v52_2 =>
      bd (nw M63_1 10) fun v56_2 M56_2 =>
      bo (chk0 v56_2) fun _ => bd (fX10_init v56_2 M56_2) fun v60_2 M60_2 =>
      bo (wR M60_2 v52_2 20 10 v64_1 v56_2) fun M63_2 =>
      bn (v64_1 + 1) fun v64_2 =>
      if 3 ≤ v64_2 then (
        none
      ) else (
        bo (gR M63_2 a0 2 3) fun v52_3 =>
        bd (nw M63_2 10) fun v56_3 M56_3 =>
        bo (chk0 v56_3) fun _ => bd (fX10_init v56_3 M56_3) fun v60_3 M60_3 =>
        bo (wR M60_3 v52_3 20 10 v64_2 v56_3) fun M63_3 =>
        bn (v64_2 + 1) fun v64_3 =>
        if 3 ≤ v64_3 then (
          some ((), M63_3)
        ) else (
          none
        )
      )
    )
  )
def rmX2_init : Room := { frames := 2, cells := 23, slots := 14673, locals := 44 }
set_option maxRecDepth 100000 in
set_option maxHeartbeats 4000000 in
theorem ctX2_init (l : Launch) (x : Cx) (a0 : Option Nat) (M : Mem) (v : Unit) (N : Mem) (h : fX2_init a0 M = some (v, N)) : CT l yX2_init cX2_init 2 (none) rmX2_init x [rv x a0] M none N := by
  refine ct_mk (enc := fun _ : Unit => none) (li := []) (ll := []) (lr := [(0, a0)]) (by decide +kernel) (by simp [lg_sl, rv_cat, cat_int, cat_long]) (by simp [flat, lv_args, rv_cat, cat_int, cat_long]) h ?_
  intro p e s m args below meth c E
  show RT p l e rmX2_init s m args below meth c x 2 (QM below args s x (fun _ : Unit => none) rmX2_init.cells rmX2_init.slots) 0 0 (fX2_init a0 M) 0 [] [] [(0, a0)] [] M
  unfold fX2_init
  refine r_aload_n (pc := 0) E dX2_init_0 rfl 0 rfl ?_
  refine r_obj (pc := 1) E wl_RX2_3 wo_inst wo_code dX2_init_1 (by decide) (by decide) (Nat.le_of_ble_eq_true rfl) ?_
  refine r_aload_n (pc := 4) E dX2_init_4 rfl 0 rfl ?_
  refine r_iconst (pc := 5) (v := 3) E dX2_init_5 (by decide) ?_
  refine r_newarrayI (pc := 6) E wa_I dX2_init_6 (by decide) (by decide) (by decide) (fun v6 M6 => ?_)
  refine r_widen (k := 1) (n := 3) (by decide) (by decide) ?_
  refine r_putA (pc := 8) E fd_2_2 wf_RX2_9 dX2_init_8 (Or.inr ⟨rfl, rfl⟩) (fun M8 => ?_)
  refine r_aload_n (pc := 11) E dX2_init_11 rfl 0 rfl ?_
  refine r_iconst (pc := 12) (v := 3) E dX2_init_12 (by decide) ?_
  refine r_anew20 (pc := 13) E wx_RX2_15 dX2_init_13 (by decide) (by decide) (by decide) (fun v13 M13 => ?_)
  refine r_widen (k := 2) (n := 6) (by decide) (by decide) ?_
  refine r_putA (pc := 16) E fd_2_3 wf_RX2_17 dX2_init_16 (Or.inr ⟨rfl, rfl⟩) (fun M16 => ?_)
  refine r_aload_n (pc := 19) E dX2_init_19 rfl 0 rfl ?_
  refine r_new (pc := 20) E cd_1 (by decide) wx_RX2_21 dX2_init_20 (by decide) (by decide) (fun v20 M20 => ?_)
  refine r_widen (k := 3) (n := 10) (by decide) (by decide) ?_
  refine r_dup (pc := 23) E dX2_init_23 (rv_cat _ _) ?_
  refine r_callI (pc := 24) (As := []) (rest := [rv x v20, rv x a0]) E wc_X1_init wi_RX1 hd_X1_init wl_RX2_23 rfl wn_X1_init dX2_init_24 (by decide) (Nat.le_of_ble_eq_true rfl) (ctX1_init l x _ _) rfl (fun v24 M24 => ?_)
  refine r_widen (k := 6) (n := 2570) (by decide) (by decide) ?_
  refine r_putR (pc := 27) E fd_2_4 wf_RX2_24 dX2_init_27 (Or.inr ⟨rfl, rfl⟩) (fun M27 => ?_)
  refine r_aload_n (pc := 30) E dX2_init_30 rfl 0 rfl ?_
  refine r_new (pc := 31) E cd_8 (by decide) wx_RX2_28 dX2_init_31 (by decide) (by decide) (fun v31 M31 => ?_)
  refine r_widen (k := 7) (n := 2574) (by decide) (by decide) ?_
  refine r_dup (pc := 34) E dX2_init_34 (rv_cat _ _) ?_
  refine r_sipush (pc := 35) (v := 3000) E dX2_init_35 (by decide) ?_
  refine r_callI (pc := 38) (As := [.int 3000]) (rest := [rv x v31, rv x a0]) E wc_X8_init wi_RX8 hd_X8_init wl_RX2_30 rfl wn_X8_init dX2_init_38 (by decide) (Nat.le_of_ble_eq_true rfl) (ctX8_init l x _ _ _) rfl (fun v38 M38 => ?_)
  refine r_widen (k := 8) (n := 11574) (by decide) (by decide) ?_
  refine r_putR (pc := 41) E fd_2_5 wf_RX2_33 dX2_init_41 (Or.inr ⟨rfl, rfl⟩) (fun M41 => ?_)
  refine r_iconst (pc := 44) (v := 0) E dX2_init_44 (by decide) ?_
  refine r_istore_n (pc := 45) (lf := fun v45 => [(1, v45)]) (lg := fun v45 => []) (lk := fun v45 => [(0, a0)]) E dX2_init_45 rfl (by decide) (fun _ => rfl) (fun _ => rfl) (fun _ => rfl) (fun v45 => ?_)
  refine r_iload_n (pc := 46) E dX2_init_46 rfl 0 rfl ?_
  refine r_iconst (pc := 47) (v := 3) E dX2_init_47 (by decide) ?_
  refine r_icmp_ge (pc := 48) (tgt := 70) E dX2_init_48 (by decide) ?_ ?_
  · exact r_none
  · refine r_aload_n (pc := 51) E dX2_init_51 rfl 0 rfl ?_
    refine r_getA (pc := 52) E fd_2_3 wf_RX2_17 dX2_init_52 (fun v52_1 => ?_)
    refine r_iload_n (pc := 55) E dX2_init_55 rfl 0 rfl ?_
    refine r_new (pc := 56) E cd_10 (by decide) wx_RX2_15 dX2_init_56 (by decide) (by decide) (fun v56_1 M56_1 => ?_)
    refine r_widen (k := 9) (n := 11583) (by decide) (by decide) ?_
    refine r_dup (pc := 59) E dX2_init_59 (rv_cat _ _) ?_
    refine r_callI (pc := 60) (As := []) (rest := [rv x v56_1, .int v45, rv x v52_1]) E wc_X10_init wi_RX10 hd_X10_init wl_RX2_37 rfl wn_X10_init dX2_init_60 (by decide) (Nat.le_of_ble_eq_true rfl) (ctX10_init l x _ _) rfl (fun v60_1 M60_1 => ?_)
    refine r_widen (k := 13) (n := 12607) (by decide) (by decide) ?_
    refine r_aastore20 (pc := 63) E dX2_init_63 (fun M63_1 => ?_)
    refine r_iinc (pc := 64) (w := 1) (lf := fun v64_1 => [(1, v64_1)]) (ll' := []) (lr' := [(0, a0)]) E dX2_init_64 0 rfl (by decide) (by decide) (fun _ => rfl) rfl rfl (fun v64_1 => ?_)
    refine r_goto (pc := 67) (tgt := 46) E dX2_init_67 (by decide) ?_
    refine r_iload_n (pc := 46) E dX2_init_46 rfl 0 rfl ?_
    refine r_iconst (pc := 47) (v := 3) E dX2_init_47 (by decide) ?_
    refine r_icmp_ge (pc := 48) (tgt := 70) E dX2_init_48 (by decide) ?_ ?_
    · exact r_none
    · refine r_aload_n (pc := 51) E dX2_init_51 rfl 0 rfl ?_
      refine r_getA (pc := 52) E fd_2_3 wf_RX2_17 dX2_init_52 (fun v52_2 => ?_)
      refine r_iload_n (pc := 55) E dX2_init_55 rfl 0 rfl ?_
      refine r_new (pc := 56) E cd_10 (by decide) wx_RX2_15 dX2_init_56 (by decide) (by decide) (fun v56_2 M56_2 => ?_)
      refine r_widen (k := 14) (n := 12616) (by decide) (by decide) ?_
      refine r_dup (pc := 59) E dX2_init_59 (rv_cat _ _) ?_
      refine r_callI (pc := 60) (As := []) (rest := [rv x v56_2, .int v64_1, rv x v52_2]) E wc_X10_init wi_RX10 hd_X10_init wl_RX2_37 rfl wn_X10_init dX2_init_60 (by decide) (Nat.le_of_ble_eq_true rfl) (ctX10_init l x _ _) rfl (fun v60_2 M60_2 => ?_)
      refine r_widen (k := 18) (n := 13640) (by decide) (by decide) ?_
      refine r_aastore20 (pc := 63) E dX2_init_63 (fun M63_2 => ?_)
      refine r_iinc (pc := 64) (w := 1) (lf := fun v64_2 => [(1, v64_2)]) (ll' := []) (lr' := [(0, a0)]) E dX2_init_64 0 rfl (by decide) (by decide) (fun _ => rfl) rfl rfl (fun v64_2 => ?_)
      refine r_goto (pc := 67) (tgt := 46) E dX2_init_67 (by decide) ?_
      refine r_iload_n (pc := 46) E dX2_init_46 rfl 0 rfl ?_
      refine r_iconst (pc := 47) (v := 3) E dX2_init_47 (by decide) ?_
      refine r_icmp_ge (pc := 48) (tgt := 70) E dX2_init_48 (by decide) ?_ ?_
      · exact r_none
      · refine r_aload_n (pc := 51) E dX2_init_51 rfl 0 rfl ?_
        refine r_getA (pc := 52) E fd_2_3 wf_RX2_17 dX2_init_52 (fun v52_3 => ?_)
        refine r_iload_n (pc := 55) E dX2_init_55 rfl 0 rfl ?_
        refine r_new (pc := 56) E cd_10 (by decide) wx_RX2_15 dX2_init_56 (by decide) (by decide) (fun v56_3 M56_3 => ?_)
        refine r_widen (k := 19) (n := 13649) (by decide) (by decide) ?_
        refine r_dup (pc := 59) E dX2_init_59 (rv_cat _ _) ?_
        refine r_callI (pc := 60) (As := []) (rest := [rv x v56_3, .int v64_2, rv x v52_3]) E wc_X10_init wi_RX10 hd_X10_init wl_RX2_37 rfl wn_X10_init dX2_init_60 (by decide) (Nat.le_of_ble_eq_true rfl) (ctX10_init l x _ _) rfl (fun v60_3 M60_3 => ?_)
        refine r_widen (k := 23) (n := 14673) (by decide) (by decide) ?_
        refine r_aastore20 (pc := 63) E dX2_init_63 (fun M63_3 => ?_)
        refine r_iinc (pc := 64) (w := 1) (lf := fun v64_3 => [(1, v64_3)]) (ll' := []) (lr' := [(0, a0)]) E dX2_init_64 0 rfl (by decide) (by decide) (fun _ => rfl) rfl rfl (fun v64_3 => ?_)
        refine r_goto (pc := 67) (tgt := 46) E dX2_init_67 (by decide) ?_
        refine r_iload_n (pc := 46) E dX2_init_46 rfl 0 rfl ?_
        refine r_iconst (pc := 47) (v := 3) E dX2_init_47 (by decide) ?_
        refine r_icmp_ge (pc := 48) (tgt := 70) E dX2_init_48 (by decide) ?_ ?_
        · refine r_widen (k := 23) (n := 14673) (by decide) (by decide) ?_
          exact e_void (pc := 70) E dX2_init_70
        · exact r_none
def fX12_rememberFirst_L51 (q0 : Option Nat) (q1 : Int32) (q2 : Int32) (M : Mem) : Option (Unit × Mem) :=
  bo (wI M q0 q1 q2) fun M51 =>
  some ((), M51)
def fX12_rememberFirst_L33 (p0 : Option Nat) (p1 : Option Nat) (q0 : Option Nat) (q1 : Int32) (q2 : Int32) (M : Mem) : Option (Unit × Mem) :=
  bo (wI M q0 q1 q2) fun M33 =>
  if p1 = none then (
    fX12_rememberFirst_L51 p0 2 8 M33
  ) else (
    bo (gR M33 p1 2 2) fun v46 =>
    bo (aI M33 v46 15 2) fun v50 =>
    fX12_rememberFirst_L51 p0 2 v50 M33
  )
def fX12_rememberFirst_L16 (p0 : Option Nat) (p1 : Option Nat) (q0 : Option Nat) (q1 : Int32) (q2 : Int32) (M : Mem) : Option (Unit × Mem) :=
  bo (wI M q0 q1 q2) fun M16 =>
  if p1 = none then (
    fX12_rememberFirst_L33 p0 p1 p0 1 4 M16
  ) else (
    bo (gR M16 p1 2 2) fun v28 =>
    bo (aI M16 v28 15 1) fun v32 =>
    fX12_rememberFirst_L33 p0 p1 p0 1 v32 M16
  )
def fX12_rememberFirst (a0 : Option Nat) (a1 : Option Nat) (M : Mem) : Option (Unit × Mem) :=
  if a1 = none then (
    fX12_rememberFirst_L16 a0 a1 a0 0 1 M
  ) else (
    bo (gR M a1 2 2) fun v11 =>
    bo (aI M v11 15 0) fun v15 =>
    fX12_rememberFirst_L16 a0 a1 a0 0 v15 M
  )
def rmX12_rememberFirst : Room := { frames := 0, cells := 0, slots := 0, locals := 0 }
set_option maxRecDepth 100000 in
set_option maxHeartbeats 4000000 in
theorem ctX12_rememberFirst (l : Launch) (x : Cx) (a0 : Option Nat) (a1 : Option Nat) (M : Mem) (v : Unit) (N : Mem) (h : fX12_rememberFirst a0 a1 M = some (v, N)) : CT l yX12_rememberFirst cX12_rememberFirst 2 (none) rmX12_rememberFirst x [rv x a0, rv x a1] M none N := by
  refine ct_mk (enc := fun _ : Unit => none) (li := []) (ll := []) (lr := [(0, a0), (1, a1)]) (by decide +kernel) (by simp [lg_sl, rv_cat, cat_int, cat_long]) (by simp [flat, lv_args, rv_cat, cat_int, cat_long]) h ?_
  intro p e s m args below meth c E
  have hL51 : ∀ (q0 : Option Nat) (q1 : Int32) (q2 : Int32) (M : Mem), RT p l e rmX12_rememberFirst s m args below meth c x 2 (QM below args s x (fun _ : Unit => none) rmX12_rememberFirst.cells rmX12_rememberFirst.slots) 0 0 (fX12_rememberFirst_L51 q0 q1 q2 M) 51 [] [] [] [.int q2, .int q1, rv x q0] M := by
    intro q0 q1 q2 M
    unfold fX12_rememberFirst_L51
    refine r_iastore (pc := 51) E dX12_rememberFirst_51 (fun M51 => ?_)
    exact e_void (pc := 52) E dX12_rememberFirst_52
  have hL33 : ∀ (p0 : Option Nat) (p1 : Option Nat) (q0 : Option Nat) (q1 : Int32) (q2 : Int32) (M : Mem), RT p l e rmX12_rememberFirst s m args below meth c x 2 (QM below args s x (fun _ : Unit => none) rmX12_rememberFirst.cells rmX12_rememberFirst.slots) 0 0 (fX12_rememberFirst_L33 p0 p1 q0 q1 q2 M) 33 [] [] [(0, p0), (1, p1)] [.int q2, .int q1, rv x q0] M := by
    intro p0 p1 q0 q1 q2 M
    unfold fX12_rememberFirst_L33
    refine r_iastore (pc := 33) E dX12_rememberFirst_33 (fun M33 => ?_)
    refine r_aload_n (pc := 34) E dX12_rememberFirst_34 rfl 0 rfl ?_
    refine r_iconst (pc := 35) (v := 2) E dX12_rememberFirst_35 (by decide) ?_
    refine r_aload_n (pc := 36) E dX12_rememberFirst_36 rfl 1 rfl ?_
    refine r_ifnonnull (pc := 37) (tgt := 45) E dX12_rememberFirst_37 (by decide) ?_ ?_
    · refine r_aload_n (pc := 45) E dX12_rememberFirst_45 rfl 1 rfl ?_
      refine r_getA (pc := 46) E fd_2_2 wf_RX12_216 dX12_rememberFirst_46 (fun v46 => ?_)
      refine r_iconst (pc := 49) (v := 2) E dX12_rememberFirst_49 (by decide) ?_
      refine r_iaload (pc := 50) E dX12_rememberFirst_50 (fun v50 => ?_)
      exact r_sub [] [] [] rfl rfl rfl (hL51 p0 2 v50 _)
    · refine r_bipush (pc := 40) (v := 8) E dX12_rememberFirst_40 (by decide) ?_
      refine r_goto (pc := 42) (tgt := 51) E dX12_rememberFirst_42 (by decide) ?_
      exact r_sub [] [] [] rfl rfl rfl (hL51 p0 2 8 _)
  have hL16 : ∀ (p0 : Option Nat) (p1 : Option Nat) (q0 : Option Nat) (q1 : Int32) (q2 : Int32) (M : Mem), RT p l e rmX12_rememberFirst s m args below meth c x 2 (QM below args s x (fun _ : Unit => none) rmX12_rememberFirst.cells rmX12_rememberFirst.slots) 0 0 (fX12_rememberFirst_L16 p0 p1 q0 q1 q2 M) 16 [] [] [(0, p0), (1, p1)] [.int q2, .int q1, rv x q0] M := by
    intro p0 p1 q0 q1 q2 M
    unfold fX12_rememberFirst_L16
    refine r_iastore (pc := 16) E dX12_rememberFirst_16 (fun M16 => ?_)
    refine r_aload_n (pc := 17) E dX12_rememberFirst_17 rfl 0 rfl ?_
    refine r_iconst (pc := 18) (v := 1) E dX12_rememberFirst_18 (by decide) ?_
    refine r_aload_n (pc := 19) E dX12_rememberFirst_19 rfl 1 rfl ?_
    refine r_ifnonnull (pc := 20) (tgt := 27) E dX12_rememberFirst_20 (by decide) ?_ ?_
    · refine r_aload_n (pc := 27) E dX12_rememberFirst_27 rfl 1 rfl ?_
      refine r_getA (pc := 28) E fd_2_2 wf_RX12_216 dX12_rememberFirst_28 (fun v28 => ?_)
      refine r_iconst (pc := 31) (v := 1) E dX12_rememberFirst_31 (by decide) ?_
      refine r_iaload (pc := 32) E dX12_rememberFirst_32 (fun v32 => ?_)
      exact r_sub [] [] [0, 1] rfl rfl rfl (hL33 p0 p1 p0 1 v32 _)
    · refine r_iconst (pc := 23) (v := 4) E dX12_rememberFirst_23 (by decide) ?_
      refine r_goto (pc := 24) (tgt := 33) E dX12_rememberFirst_24 (by decide) ?_
      exact r_sub [] [] [0, 1] rfl rfl rfl (hL33 p0 p1 p0 1 4 _)
  show RT p l e rmX12_rememberFirst s m args below meth c x 2 (QM below args s x (fun _ : Unit => none) rmX12_rememberFirst.cells rmX12_rememberFirst.slots) 0 0 (fX12_rememberFirst a0 a1 M) 0 [] [] [(0, a0), (1, a1)] [] M
  unfold fX12_rememberFirst
  refine r_aload_n (pc := 0) E dX12_rememberFirst_0 rfl 0 rfl ?_
  refine r_iconst (pc := 1) (v := 0) E dX12_rememberFirst_1 (by decide) ?_
  refine r_aload_n (pc := 2) E dX12_rememberFirst_2 rfl 1 rfl ?_
  refine r_ifnonnull (pc := 3) (tgt := 10) E dX12_rememberFirst_3 (by decide) ?_ ?_
  · refine r_aload_n (pc := 10) E dX12_rememberFirst_10 rfl 1 rfl ?_
    refine r_getA (pc := 11) E fd_2_2 wf_RX12_216 dX12_rememberFirst_11 (fun v11 => ?_)
    refine r_iconst (pc := 14) (v := 0) E dX12_rememberFirst_14 (by decide) ?_
    refine r_iaload (pc := 15) E dX12_rememberFirst_15 (fun v15 => ?_)
    exact r_sub [] [] [0, 1] rfl rfl rfl (hL16 a0 a1 a0 0 v15 _)
  · refine r_iconst (pc := 6) (v := 1) E dX12_rememberFirst_6 (by decide) ?_
    refine r_goto (pc := 7) (tgt := 16) E dX12_rememberFirst_7 (by decide) ?_
    exact r_sub [] [] [0, 1] rfl rfl rfl (hL16 a0 a1 a0 0 1 _)
def fX8_number_B7 (k7 : Option Nat × Int32 × Int64 × Int32 → Mem → Option (Int64 × Mem)) (p0 : Option Nat) (p1 : Int32) (p3 : Int64) (p5 : Int32) (M : Mem) : Option (Int64 × Mem) :=
  if p5 < 0 then (
    some (p3, M)
  ) else (
    bo (chk M p0 8) fun _ => bd (fX8_get p0 (p1 + p5) M) fun v21 M21 =>
    bn ((shlJ p3 8) ||| v21.toInt64) fun v26 =>
    bn (p5 + (-1)) fun v27 =>
    k7 ((p0, p1, v26, v27)) M21
  )
def fX8_number_L7 (p0 : Option Nat) (p1 : Int32) (p3 : Int64) (p5 : Int32) (M : Mem) : Option (Int64 × Mem) :=
  lp (fun k7 (a : Option Nat × Int32 × Int64 × Int32) M => fX8_number_B7 k7 a.1 a.2.1 a.2.2.1 a.2.2.2 M) FU ((p0, p1, p3, p5)) M
def fX8_number (a0 : Option Nat) (a1 : Int32) (a2 : Int32) (M : Mem) : Option (Int64 × Mem) :=
  bn (0) fun v1 =>
  bn (a2 - 1) fun v5 =>
  fX8_number_L7 a0 a1 v1 v5 M
def rmX8_number : Room := { frames := 1, cells := 0, slots := 0, locals := 21 }
set_option maxRecDepth 100000 in
set_option maxHeartbeats 4000000 in
theorem ctX8_number (l : Launch) (x : Cx) (a0 : Option Nat) (a1 : Int32) (a2 : Int32) (M : Mem) (v : Int64) (N : Mem) (h : fX8_number a0 a1 a2 M = some (v, N)) : CT l yX8_number cX8_number 6 (some (FieldType.long)) rmX8_number x [rv x a0, .int a1, .int a2] M (some (.long v)) N := by
  refine ct_mk (enc := fun v : Int64 => some (.long v)) (li := [(1, a1), (2, a2)]) (ll := []) (lr := [(0, a0)]) (by decide +kernel) (by simp [lg_sl, rv_cat, cat_int, cat_long]) (by simp [flat, lv_args, rv_cat, cat_int, cat_long]) h ?_
  intro p e s m args below meth c E
  have hL7 : ∀ (p0 : Option Nat) (p1 : Int32) (p3 : Int64) (p5 : Int32) (M : Mem), RT p l e rmX8_number s m args below meth c x 6 (QM below args s x (fun v : Int64 => some (.long v)) rmX8_number.cells rmX8_number.slots) 0 0 (fX8_number_L7 p0 p1 p3 p5 M) 7 [(1, p1), (5, p5)] [(3, p3)] [(0, p0)] [] M := by
    intro p0 p1 p3 p5 M
    refine r_lp (fi := fun a : Option Nat × Int32 × Int64 × Int32 => [(1, a.2.1), (5, a.2.2.2)]) (fl := fun a : Option Nat × Int32 × Int64 × Int32 => [(3, a.2.2.1)]) (fr := fun a : Option Nat × Int32 × Int64 × Int32 => [(0, a.1)]) (fs := fun a : Option Nat × Int32 × Int64 × Int32 => []) ?_ FU ((p0, p1, p3, p5)) M
    intro k7 hk7 a M
    obtain ⟨p0, p1, p3, p5⟩ := a
    show RT p l e rmX8_number s m args below meth c x 6 (QM below args s x (fun v : Int64 => some (.long v)) rmX8_number.cells rmX8_number.slots) 0 0 (fX8_number_B7 k7 p0 p1 p3 p5 M) 7 [(1, p1), (5, p5)] [(3, p3)] [(0, p0)] [] M
    unfold fX8_number_B7
    refine r_iload (pc := 7) E dX8_number_7 1 rfl ?_
    refine r_if_lt (pc := 9) (tgt := 33) E dX8_number_9 (by decide) ?_ ?_
    · refine r_lload_n (pc := 33) E dX8_number_33 rfl 0 rfl ?_
      exact e_long (pc := 34) E dX8_number_34
    · refine r_lload_n (pc := 12) E dX8_number_12 rfl 0 rfl ?_
      refine r_bipush (pc := 13) (v := 8) E dX8_number_13 (by decide) ?_
      refine r_lshl (pc := 15) E dX8_number_15 ?_
      refine r_aload_n (pc := 16) E dX8_number_16 rfl 0 rfl ?_
      refine r_iload_n (pc := 17) E dX8_number_17 rfl 0 rfl ?_
      refine r_iload (pc := 18) E dX8_number_18 1 rfl ?_
      refine r_iadd (pc := 20) E dX8_number_20 ?_
      refine r_kVi (pc := 21) (As := [.int (p1 + p5)]) (rest := [.long (shlJ p3 8)]) E wc_X8_get wi_RX8 hd_X8_get (ci := 8) rfl wl_RX8_28 wn_X8_get ws_X8_get dX8_number_21 (by decide) (Nat.le_of_ble_eq_true rfl) ⟨rfl, rfl⟩ (ctX8_get l x _ _ _) rfl (fun v21 M21 => ?_)
      refine r_i2l (pc := 24) E dX8_number_24 ?_
      refine r_lor (pc := 25) E dX8_number_25 ?_
      refine r_lstore_n (pc := 26) (lf := fun v26 => [(1, p1), (5, p5)]) (lg := fun v26 => [(3, v26)]) (lk := fun v26 => [(0, p0)]) E dX8_number_26 rfl (by decide) (fun _ => rfl) (fun _ => rfl) (fun _ => rfl) (fun v26 => ?_)
      refine r_iinc (pc := 27) (w := (-1)) (lf := fun v27 => [(5, v27), (1, p1)]) (ll' := [(3, v26)]) (lr' := [(0, p0)]) E dX8_number_27 1 rfl (by decide) (by decide) (fun _ => rfl) rfl rfl (fun v27 => ?_)
      refine r_goto (pc := 30) (tgt := 7) E dX8_number_30 (by decide) ?_
      exact r_sub [1, 0] [0] [0] rfl rfl rfl (hk7 ((p0, p1, v26, v27)) _)
  show RT p l e rmX8_number s m args below meth c x 6 (QM below args s x (fun v : Int64 => some (.long v)) rmX8_number.cells rmX8_number.slots) 0 0 (fX8_number a0 a1 a2 M) 0 [(1, a1), (2, a2)] [] [(0, a0)] [] M
  unfold fX8_number
  refine r_lconst (pc := 0) (v := 0) E dX8_number_0 (by decide) ?_
  refine r_lstore_n (pc := 1) (lf := fun v1 => [(1, a1), (2, a2)]) (lg := fun v1 => [(3, v1)]) (lk := fun v1 => [(0, a0)]) E dX8_number_1 rfl (by decide) (fun _ => rfl) (fun _ => rfl) (fun _ => rfl) (fun v1 => ?_)
  refine r_iload_n (pc := 2) E dX8_number_2 rfl 1 rfl ?_
  refine r_iconst (pc := 3) (v := 1) E dX8_number_3 (by decide) ?_
  refine r_isub (pc := 4) E dX8_number_4 ?_
  refine r_istore (pc := 5) (lf := fun v5 => [(5, v5), (1, a1), (2, a2)]) (lg := fun v5 => [(3, v1)]) (lk := fun v5 => [(0, a0)]) E dX8_number_5 (by decide) (fun _ => rfl) (fun _ => rfl) (fun _ => rfl) (fun v5 => ?_)
  exact r_sub [1, 0] [0] [0] rfl rfl rfl (hL7 a0 a1 v1 v5 _)
def fX11_readHalves_L51 (k14 : Option Nat × Option Nat × Int32 × Int32 → Mem → Option (Unit × Mem)) (p0 : Option Nat) (p1 : Option Nat) (p2 : Int32) (p4 : Int32) (q0 : Option Nat) (q1 : Int32) (q2 : Int32) (q3 : Int32) (M : Mem) : Option (Unit × Mem) :=
  bo (wI M q0 q1 ((shrI q2 q3) &&& 15)) fun M55 =>
  bn (p4 + 1) fun v56 =>
  k14 ((p0, p1, p2, v56)) M55
def fX11_readHalves_B14 (k14 : Option Nat × Option Nat × Int32 × Int32 → Mem → Option (Unit × Mem)) (p0 : Option Nat) (p1 : Option Nat) (p2 : Int32) (p4 : Int32) (M : Mem) : Option (Unit × Mem) :=
  bo (gI M p0 11 1) fun v17 =>
  if v17 ≤ p4 then (
    some ((), M)
  ) else (
    bo (gR M p0 11 0) fun v24 =>
    bo (dv p4 2) fun v34 =>
    bo (chk M p1 8) fun _ => bd (fX8_get p1 (p2 + v34) M) fun v36 M36 =>
    bo (rm p4 2) fun v42 =>
    if v42 = 0 then (
      fX11_readHalves_L51 k14 p0 p1 p2 p4 v24 p4 v36 4 M36
    ) else (
      fX11_readHalves_L51 k14 p0 p1 p2 p4 v24 p4 v36 0 M36
    )
  )
def fX11_readHalves_L14 (p0 : Option Nat) (p1 : Option Nat) (p2 : Int32) (p4 : Int32) (M : Mem) : Option (Unit × Mem) :=
  lp (fun k14 (a : Option Nat × Option Nat × Int32 × Int32) M => fX11_readHalves_B14 k14 a.1 a.2.1 a.2.2.1 a.2.2.2 M) FU ((p0, p1, p2, p4)) M
def fX11_readHalves (a0 : Option Nat) (a1 : Option Nat) (a2 : Int32) (a3 : Int32) (M : Mem) : Option (Unit × Mem) :=
  bo (pI M a0 11 1 (minI a3 255)) fun M8 =>
  bn (0) fun v12 =>
  fX11_readHalves_L14 a0 a1 a2 v12 M8
def rmX11_readHalves : Room := { frames := 1, cells := 0, slots := 0, locals := 23 }
set_option maxRecDepth 100000 in
set_option maxHeartbeats 4000000 in
theorem ctX11_readHalves (l : Launch) (x : Cx) (a0 : Option Nat) (a1 : Option Nat) (a2 : Int32) (a3 : Int32) (M : Mem) (v : Unit) (N : Mem) (h : fX11_readHalves a0 a1 a2 a3 M = some (v, N)) : CT l yX11_readHalves cX11_readHalves 5 (none) rmX11_readHalves x [rv x a0, rv x a1, .int a2, .int a3] M none N := by
  refine ct_mk (enc := fun _ : Unit => none) (li := [(2, a2), (3, a3)]) (ll := []) (lr := [(0, a0), (1, a1)]) (by decide +kernel) (by simp [lg_sl, rv_cat, cat_int, cat_long]) (by simp [flat, lv_args, rv_cat, cat_int, cat_long]) h ?_
  intro p e s m args below meth c E
  have hL51 : ∀ (k14 : Option Nat × Option Nat × Int32 × Int32 → Mem → Option (Unit × Mem)) (hk14 : ∀ a M, RT p l e rmX11_readHalves s m args below meth c x 5 (QM below args s x (fun _ : Unit => none) rmX11_readHalves.cells rmX11_readHalves.slots) 0 0 (k14 a M) 14 [(2, a.2.2.1), (4, a.2.2.2)] [] [(0, a.1), (1, a.2.1)] [] M) (p0 : Option Nat) (p1 : Option Nat) (p2 : Int32) (p4 : Int32) (q0 : Option Nat) (q1 : Int32) (q2 : Int32) (q3 : Int32) (M : Mem), RT p l e rmX11_readHalves s m args below meth c x 5 (QM below args s x (fun _ : Unit => none) rmX11_readHalves.cells rmX11_readHalves.slots) 0 0 (fX11_readHalves_L51 k14 p0 p1 p2 p4 q0 q1 q2 q3 M) 51 [(2, p2), (4, p4)] [] [(0, p0), (1, p1)] [.int q3, .int q2, .int q1, rv x q0] M := by
    intro k14 hk14 p0 p1 p2 p4 q0 q1 q2 q3 M
    unfold fX11_readHalves_L51
    refine r_ishr (pc := 51) E dX11_readHalves_51 ?_
    refine r_bipush (pc := 52) (v := 15) E dX11_readHalves_52 (by decide) ?_
    refine r_iand (pc := 54) E dX11_readHalves_54 ?_
    refine r_iastore (pc := 55) E dX11_readHalves_55 (fun M55 => ?_)
    refine r_iinc (pc := 56) (w := 1) (lf := fun v56 => [(4, v56), (2, p2)]) (ll' := []) (lr' := [(0, p0), (1, p1)]) E dX11_readHalves_56 1 rfl (by decide) (by decide) (fun _ => rfl) rfl rfl (fun v56 => ?_)
    refine r_goto (pc := 59) (tgt := 14) E dX11_readHalves_59 (by decide) ?_
    exact r_sub [1, 0] [] [0, 1] rfl rfl rfl (hk14 ((p0, p1, p2, v56)) _)
  have hL14 : ∀ (p0 : Option Nat) (p1 : Option Nat) (p2 : Int32) (p4 : Int32) (M : Mem), RT p l e rmX11_readHalves s m args below meth c x 5 (QM below args s x (fun _ : Unit => none) rmX11_readHalves.cells rmX11_readHalves.slots) 0 0 (fX11_readHalves_L14 p0 p1 p2 p4 M) 14 [(2, p2), (4, p4)] [] [(0, p0), (1, p1)] [] M := by
    intro p0 p1 p2 p4 M
    refine r_lp (fi := fun a : Option Nat × Option Nat × Int32 × Int32 => [(2, a.2.2.1), (4, a.2.2.2)]) (fl := fun a : Option Nat × Option Nat × Int32 × Int32 => []) (fr := fun a : Option Nat × Option Nat × Int32 × Int32 => [(0, a.1), (1, a.2.1)]) (fs := fun a : Option Nat × Option Nat × Int32 × Int32 => []) ?_ FU ((p0, p1, p2, p4)) M
    intro k14 hk14 a M
    obtain ⟨p0, p1, p2, p4⟩ := a
    show RT p l e rmX11_readHalves s m args below meth c x 5 (QM below args s x (fun _ : Unit => none) rmX11_readHalves.cells rmX11_readHalves.slots) 0 0 (fX11_readHalves_B14 k14 p0 p1 p2 p4 M) 14 [(2, p2), (4, p4)] [] [(0, p0), (1, p1)] [] M
    unfold fX11_readHalves_B14
    refine r_iload (pc := 14) E dX11_readHalves_14 1 rfl ?_
    refine r_aload_n (pc := 16) E dX11_readHalves_16 rfl 0 rfl ?_
    refine r_getI (pc := 17) E fd_11_1 wf_RX11_69 dX11_readHalves_17 (fun v17 => ?_)
    refine r_icmp_ge (pc := 20) (tgt := 62) E dX11_readHalves_20 (by decide) ?_ ?_
    · exact e_void (pc := 62) E dX11_readHalves_62
    · refine r_aload_n (pc := 23) E dX11_readHalves_23 rfl 0 rfl ?_
      refine r_getA (pc := 24) E fd_11_0 wf_RX11_9 dX11_readHalves_24 (fun v24 => ?_)
      refine r_iload (pc := 27) E dX11_readHalves_27 1 rfl ?_
      refine r_aload_n (pc := 29) E dX11_readHalves_29 rfl 1 rfl ?_
      refine r_iload_n (pc := 30) E dX11_readHalves_30 rfl 0 rfl ?_
      refine r_iload (pc := 31) E dX11_readHalves_31 1 rfl ?_
      refine r_iconst (pc := 33) (v := 2) E dX11_readHalves_33 (by decide) ?_
      refine r_idiv (pc := 34) E dX11_readHalves_34 (fun v34 => ?_)
      refine r_iadd (pc := 35) E dX11_readHalves_35 ?_
      refine r_kVi (pc := 36) (As := [.int (p2 + v34)]) (rest := [.int p4, rv x v24]) E wc_X8_get wi_RX8 hd_X8_get (ci := 8) rfl wl_RX11_38 wn_X8_get ws_X8_get dX11_readHalves_36 (by decide) (Nat.le_of_ble_eq_true rfl) ⟨rfl, rfl⟩ (ctX8_get l x _ _ _) rfl (fun v36 M36 => ?_)
      refine r_iload (pc := 39) E dX11_readHalves_39 1 rfl ?_
      refine r_iconst (pc := 41) (v := 2) E dX11_readHalves_41 (by decide) ?_
      refine r_irem (pc := 42) E dX11_readHalves_42 (fun v42 => ?_)
      refine r_if_ne (pc := 43) (tgt := 50) E dX11_readHalves_43 (by decide) ?_ ?_
      · refine r_iconst (pc := 50) (v := 0) E dX11_readHalves_50 (by decide) ?_
        exact r_sub [0, 1] [] [0, 1] rfl rfl rfl (hL51 k14 hk14 p0 p1 p2 p4 v24 p4 v36 0 _)
      · refine r_iconst (pc := 46) (v := 4) E dX11_readHalves_46 (by decide) ?_
        refine r_goto (pc := 47) (tgt := 51) E dX11_readHalves_47 (by decide) ?_
        exact r_sub [0, 1] [] [0, 1] rfl rfl rfl (hL51 k14 hk14 p0 p1 p2 p4 v24 p4 v36 4 _)
  show RT p l e rmX11_readHalves s m args below meth c x 5 (QM below args s x (fun _ : Unit => none) rmX11_readHalves.cells rmX11_readHalves.slots) 0 0 (fX11_readHalves a0 a1 a2 a3 M) 0 [(2, a2), (3, a3)] [] [(0, a0), (1, a1)] [] M
  unfold fX11_readHalves
  refine r_aload_n (pc := 0) E dX11_readHalves_0 rfl 0 rfl ?_
  refine r_iload_n (pc := 1) E dX11_readHalves_1 rfl 1 rfl ?_
  refine r_sipush (pc := 2) (v := 255) E dX11_readHalves_2 (by decide) ?_
  refine r_mmin (pc := 5) E wl_RX11_63 wm_smin wi_math wm_cmin dX11_readHalves_5 (by decide) (Nat.le_of_ble_eq_true rfl) ?_
  refine r_putI (pc := 8) E fd_11_1 wf_RX11_69 dX11_readHalves_8 (Or.inl rfl) (fun M8 => ?_)
  refine r_iconst (pc := 11) (v := 0) E dX11_readHalves_11 (by decide) ?_
  refine r_istore (pc := 12) (lf := fun v12 => [(4, v12), (2, a2), (3, a3)]) (lg := fun v12 => []) (lk := fun v12 => [(0, a0), (1, a1)]) E dX11_readHalves_12 (by decide) (fun _ => rfl) (fun _ => rfl) (fun _ => rfl) (fun v12 => ?_)
  exact r_sub [1, 0] [] [0, 1] rfl rfl rfl (hL14 a0 a1 a2 v12 _)
def fX10_takeBits_L78 (k24 : Option Nat × Int32 × Int32 × Int32 → Mem → Option (Int32 × Mem)) (p0 : Option Nat) (p1 : Int32) (p2 : Int32) (p3 : Int32) (M : Mem) : Option (Int32 × Mem) :=
  bn (p3 + 1) fun v78 =>
  k24 ((p0, p1, p2, v78)) M
def fX10_takeBits_B24 (k24 : Option Nat × Int32 × Int32 × Int32 → Mem → Option (Int32 × Mem)) (p0 : Option Nat) (p1 : Int32) (p2 : Int32) (p3 : Int32) (M : Mem) : Option (Int32 × Mem) :=
  if p1 ≤ p3 then (
    bo (gI M p0 10 6) fun v86 =>
    bo (pI M p0 10 6 (v86 + p1)) fun M91 =>
    some (p2, M91)
  ) else (
    bo (gI M p0 10 6) fun v30 =>
    bn (shrI (v30 + p3) 3) fun v37 =>
    if v37 < 0 then (
      fX10_takeBits_L78 k24 p0 p1 p2 p3 M
    ) else (
      bo (gR M p0 10 5) fun v47 =>
      bo (aL M v47) fun v50 =>
      if v50 ≤ v37 then (
        fX10_takeBits_L78 k24 p0 p1 p2 p3 M
      ) else (
        bo (gR M p0 10 5) fun v56 =>
        bo (aI M v56 14 v37) fun v61 =>
        bo (gI M p0 10 6) fun v63 =>
        bn (p2 ||| (shlI ((shrI v61 ((v63 + p3) &&& 7)) &&& 1) p3)) fun v77 =>
        fX10_takeBits_L78 k24 p0 p1 v77 p3 M
      )
    )
  )
def fX10_takeBits_L24 (p0 : Option Nat) (p1 : Int32) (p2 : Int32) (p3 : Int32) (M : Mem) : Option (Int32 × Mem) :=
  lp (fun k24 (a : Option Nat × Int32 × Int32 × Int32) M => fX10_takeBits_B24 k24 a.1 a.2.1 a.2.2.1 a.2.2.2 M) FU ((p0, p1, p2, p3)) M
def fX10_takeBits (a0 : Option Nat) (a1 : Int32) (M : Mem) : Option (Int32 × Mem) :=
  bo (gI M a0 10 6) fun v1 =>
  bo (gI M a0 10 7) fun v7 =>
  if (v1 + a1) ≤ v7 then (
    bn (0) fun v21 =>
    bn (0) fun v23 =>
    fX10_takeBits_L24 a0 a1 v21 v23 M
  ) else (
    bo (pZ M a0 10 8 1) fun M15 =>
    some (0, M15)
  )
def rmX10_takeBits : Room := { frames := 0, cells := 0, slots := 0, locals := 0 }
set_option maxRecDepth 100000 in
set_option maxHeartbeats 4000000 in
theorem ctX10_takeBits (l : Launch) (x : Cx) (a0 : Option Nat) (a1 : Int32) (M : Mem) (v : Int32) (N : Mem) (h : fX10_takeBits a0 a1 M = some (v, N)) : CT l yX10_takeBits cX10_takeBits 5 (some (FieldType.int)) rmX10_takeBits x [rv x a0, .int a1] M (some (.int v)) N := by
  refine ct_mk (enc := fun v : Int32 => some (.int v)) (li := [(1, a1)]) (ll := []) (lr := [(0, a0)]) (by decide +kernel) (by simp [lg_sl, rv_cat, cat_int, cat_long]) (by simp [flat, lv_args, rv_cat, cat_int, cat_long]) h ?_
  intro p e s m args below meth c E
  have hL78 : ∀ (k24 : Option Nat × Int32 × Int32 × Int32 → Mem → Option (Int32 × Mem)) (hk24 : ∀ a M, RT p l e rmX10_takeBits s m args below meth c x 5 (QM below args s x (fun v : Int32 => some (.int v)) rmX10_takeBits.cells rmX10_takeBits.slots) 0 0 (k24 a M) 24 [(1, a.2.1), (2, a.2.2.1), (3, a.2.2.2)] [] [(0, a.1)] [] M) (p0 : Option Nat) (p1 : Int32) (p2 : Int32) (p3 : Int32) (M : Mem), RT p l e rmX10_takeBits s m args below meth c x 5 (QM below args s x (fun v : Int32 => some (.int v)) rmX10_takeBits.cells rmX10_takeBits.slots) 0 0 (fX10_takeBits_L78 k24 p0 p1 p2 p3 M) 78 [(1, p1), (2, p2), (3, p3)] [] [(0, p0)] [] M := by
    intro k24 hk24 p0 p1 p2 p3 M
    unfold fX10_takeBits_L78
    refine r_iinc (pc := 78) (w := 1) (lf := fun v78 => [(3, v78), (1, p1), (2, p2)]) (ll' := []) (lr' := [(0, p0)]) E dX10_takeBits_78 2 rfl (by decide) (by decide) (fun _ => rfl) rfl rfl (fun v78 => ?_)
    refine r_goto (pc := 81) (tgt := 24) E dX10_takeBits_81 (by decide) ?_
    exact r_sub [1, 2, 0] [] [0] rfl rfl rfl (hk24 ((p0, p1, p2, v78)) _)
  have hL24 : ∀ (p0 : Option Nat) (p1 : Int32) (p2 : Int32) (p3 : Int32) (M : Mem), RT p l e rmX10_takeBits s m args below meth c x 5 (QM below args s x (fun v : Int32 => some (.int v)) rmX10_takeBits.cells rmX10_takeBits.slots) 0 0 (fX10_takeBits_L24 p0 p1 p2 p3 M) 24 [(1, p1), (2, p2), (3, p3)] [] [(0, p0)] [] M := by
    intro p0 p1 p2 p3 M
    refine r_lp (fi := fun a : Option Nat × Int32 × Int32 × Int32 => [(1, a.2.1), (2, a.2.2.1), (3, a.2.2.2)]) (fl := fun a : Option Nat × Int32 × Int32 × Int32 => []) (fr := fun a : Option Nat × Int32 × Int32 × Int32 => [(0, a.1)]) (fs := fun a : Option Nat × Int32 × Int32 × Int32 => []) ?_ FU ((p0, p1, p2, p3)) M
    intro k24 hk24 a M
    obtain ⟨p0, p1, p2, p3⟩ := a
    show RT p l e rmX10_takeBits s m args below meth c x 5 (QM below args s x (fun v : Int32 => some (.int v)) rmX10_takeBits.cells rmX10_takeBits.slots) 0 0 (fX10_takeBits_B24 k24 p0 p1 p2 p3 M) 24 [(1, p1), (2, p2), (3, p3)] [] [(0, p0)] [] M
    unfold fX10_takeBits_B24
    refine r_iload_n (pc := 24) E dX10_takeBits_24 rfl 2 rfl ?_
    refine r_iload_n (pc := 25) E dX10_takeBits_25 rfl 0 rfl ?_
    refine r_icmp_ge (pc := 26) (tgt := 84) E dX10_takeBits_26 (by decide) ?_ ?_
    · refine r_aload_n (pc := 84) E dX10_takeBits_84 rfl 0 rfl ?_
      refine r_dup (pc := 85) E dX10_takeBits_85 (rv_cat _ _) ?_
      refine r_getI (pc := 86) E fd_10_6 wf_RX10_65 dX10_takeBits_86 (fun v86 => ?_)
      refine r_iload_n (pc := 89) E dX10_takeBits_89 rfl 0 rfl ?_
      refine r_iadd (pc := 90) E dX10_takeBits_90 ?_
      refine r_putI (pc := 91) E fd_10_6 wf_RX10_65 dX10_takeBits_91 (Or.inl rfl) (fun M91 => ?_)
      refine r_iload_n (pc := 94) E dX10_takeBits_94 rfl 1 rfl ?_
      exact e_int (pc := 95) E dX10_takeBits_95
    · refine r_aload_n (pc := 29) E dX10_takeBits_29 rfl 0 rfl ?_
      refine r_getI (pc := 30) E fd_10_6 wf_RX10_65 dX10_takeBits_30 (fun v30 => ?_)
      refine r_iload_n (pc := 33) E dX10_takeBits_33 rfl 2 rfl ?_
      refine r_iadd (pc := 34) E dX10_takeBits_34 ?_
      refine r_iconst (pc := 35) (v := 3) E dX10_takeBits_35 (by decide) ?_
      refine r_ishr (pc := 36) E dX10_takeBits_36 ?_
      refine r_istore (pc := 37) (lf := fun v37 => [(4, v37), (1, p1), (2, p2), (3, p3)]) (lg := fun v37 => []) (lk := fun v37 => [(0, p0)]) E dX10_takeBits_37 (by decide) (fun _ => rfl) (fun _ => rfl) (fun _ => rfl) (fun v37 => ?_)
      refine r_iload (pc := 39) E dX10_takeBits_39 0 rfl ?_
      refine r_if_lt (pc := 41) (tgt := 78) E dX10_takeBits_41 (by decide) ?_ ?_
      · exact r_sub [1, 2, 3] [] [0] rfl rfl rfl (hL78 k24 hk24 p0 p1 p2 p3 _)
      · refine r_iload (pc := 44) E dX10_takeBits_44 0 rfl ?_
        refine r_aload_n (pc := 46) E dX10_takeBits_46 rfl 0 rfl ?_
        refine r_getA (pc := 47) E fd_10_5 wf_RX10_21 dX10_takeBits_47 (fun v47 => ?_)
        refine r_alen (pc := 50) E dX10_takeBits_50 (fun v50 => ?_)
        refine r_icmp_ge (pc := 51) (tgt := 78) E dX10_takeBits_51 (by decide) ?_ ?_
        · exact r_sub [1, 2, 3] [] [0] rfl rfl rfl (hL78 k24 hk24 p0 p1 p2 p3 _)
        · refine r_iload_n (pc := 54) E dX10_takeBits_54 rfl 2 rfl ?_
          refine r_aload_n (pc := 55) E dX10_takeBits_55 rfl 0 rfl ?_
          refine r_getA (pc := 56) E fd_10_5 wf_RX10_21 dX10_takeBits_56 (fun v56 => ?_)
          refine r_iload (pc := 59) E dX10_takeBits_59 0 rfl ?_
          refine r_baload (pc := 61) E dX10_takeBits_61 (fun v61 => ?_)
          refine r_aload_n (pc := 62) E dX10_takeBits_62 rfl 0 rfl ?_
          refine r_getI (pc := 63) E fd_10_6 wf_RX10_65 dX10_takeBits_63 (fun v63 => ?_)
          refine r_iload_n (pc := 66) E dX10_takeBits_66 rfl 3 rfl ?_
          refine r_iadd (pc := 67) E dX10_takeBits_67 ?_
          refine r_bipush (pc := 68) (v := 7) E dX10_takeBits_68 (by decide) ?_
          refine r_iand (pc := 70) E dX10_takeBits_70 ?_
          refine r_ishr (pc := 71) E dX10_takeBits_71 ?_
          refine r_iconst (pc := 72) (v := 1) E dX10_takeBits_72 (by decide) ?_
          refine r_iand (pc := 73) E dX10_takeBits_73 ?_
          refine r_iload_n (pc := 74) E dX10_takeBits_74 rfl 3 rfl ?_
          refine r_ishl (pc := 75) E dX10_takeBits_75 ?_
          refine r_ior (pc := 76) E dX10_takeBits_76 ?_
          refine r_istore_n (pc := 77) (lf := fun v77 => [(2, v77), (4, v37), (1, p1), (3, p3)]) (lg := fun v77 => []) (lk := fun v77 => [(0, p0)]) E dX10_takeBits_77 rfl (by decide) (fun _ => rfl) (fun _ => rfl) (fun _ => rfl) (fun v77 => ?_)
          exact r_sub [2, 0, 3] [] [0] rfl rfl rfl (hL78 k24 hk24 p0 p1 v77 p3 _)
  show RT p l e rmX10_takeBits s m args below meth c x 5 (QM below args s x (fun v : Int32 => some (.int v)) rmX10_takeBits.cells rmX10_takeBits.slots) 0 0 (fX10_takeBits a0 a1 M) 0 [(1, a1)] [] [(0, a0)] [] M
  unfold fX10_takeBits
  refine r_aload_n (pc := 0) E dX10_takeBits_0 rfl 0 rfl ?_
  refine r_getI (pc := 1) E fd_10_6 wf_RX10_65 dX10_takeBits_1 (fun v1 => ?_)
  refine r_iload_n (pc := 4) E dX10_takeBits_4 rfl 0 rfl ?_
  refine r_iadd (pc := 5) E dX10_takeBits_5 ?_
  refine r_aload_n (pc := 6) E dX10_takeBits_6 rfl 0 rfl ?_
  refine r_getI (pc := 7) E fd_10_7 wf_RX10_68 dX10_takeBits_7 (fun v7 => ?_)
  refine r_icmp_le (pc := 10) (tgt := 20) E dX10_takeBits_10 (by decide) ?_ ?_
  · refine r_iconst (pc := 20) (v := 0) E dX10_takeBits_20 (by decide) ?_
    refine r_istore_n (pc := 21) (lf := fun v21 => [(2, v21), (1, a1)]) (lg := fun v21 => []) (lk := fun v21 => [(0, a0)]) E dX10_takeBits_21 rfl (by decide) (fun _ => rfl) (fun _ => rfl) (fun _ => rfl) (fun v21 => ?_)
    refine r_iconst (pc := 22) (v := 0) E dX10_takeBits_22 (by decide) ?_
    refine r_istore_n (pc := 23) (lf := fun v23 => [(3, v23), (2, v21), (1, a1)]) (lg := fun v23 => []) (lk := fun v23 => [(0, a0)]) E dX10_takeBits_23 rfl (by decide) (fun _ => rfl) (fun _ => rfl) (fun _ => rfl) (fun v23 => ?_)
    exact r_sub [2, 1, 0] [] [0] rfl rfl rfl (hL24 a0 a1 v21 v23 _)
  · refine r_aload_n (pc := 13) E dX10_takeBits_13 rfl 0 rfl ?_
    refine r_iconst (pc := 14) (v := 1) E dX10_takeBits_14 (by decide) ?_
    refine r_putZ (pc := 15) E fd_10_8 wf_RX10_71 dX10_takeBits_15 (Or.inl rfl) (fun M15 => ?_)
    refine r_iconst (pc := 18) (v := 0) E dX10_takeBits_18 (by decide) ?_
    exact e_int (pc := 19) E dX10_takeBits_19
def fX10_takeCount_L54 (p4 : Int32) (M : Mem) : Option (Int32 × Mem) :=
  some (p4 - 1, M)
def fX10_takeCount (a0 : Option Nat) (a1 : Int32) (M : Mem) : Option (Int32 × Mem) :=
  bd (fX12_logOf ((a1 + 1).toInt64) M) fun v4 M4 =>
  bn (v4 + 1) fun v9 =>
  bn (((shlI 1 v9) - 2) - a1) fun v17 =>
  bo (chk M4 a0 10) fun _ => bd (fX10_takeBits a0 (v9 - 1) M4) fun v22 M22 =>
  bn (v22) fun v25 =>
  if v25 < v17 then (
    fX10_takeCount_L54 v25 M22
  ) else (
    bo (chk M22 a0 10) fun _ => bd (fX10_takeBits a0 1 M22) fun v35 M35 =>
    if v35 = 1 then (
      bn (v25 + ((shlI 1 (v9 - 1)) - v17)) fun v52 =>
      fX10_takeCount_L54 v52 M35
    ) else (
      fX10_takeCount_L54 v25 M35
    )
  )
def rmX10_takeCount : Room := { frames := 1, cells := 0, slots := 0, locals := 24 }
set_option maxRecDepth 100000 in
set_option maxHeartbeats 4000000 in
theorem ctX10_takeCount (l : Launch) (x : Cx) (a0 : Option Nat) (a1 : Int32) (M : Mem) (v : Int32) (N : Mem) (h : fX10_takeCount a0 a1 M = some (v, N)) : CT l yX10_takeCount cX10_takeCount 5 (some (FieldType.int)) rmX10_takeCount x [rv x a0, .int a1] M (some (.int v)) N := by
  refine ct_mk (enc := fun v : Int32 => some (.int v)) (li := [(1, a1)]) (ll := []) (lr := [(0, a0)]) (by decide +kernel) (by simp [lg_sl, rv_cat, cat_int, cat_long]) (by simp [flat, lv_args, rv_cat, cat_int, cat_long]) h ?_
  intro p e s m args below meth c E
  have hL54 : ∀ (p4 : Int32) (M : Mem), RT p l e rmX10_takeCount s m args below meth c x 5 (QM below args s x (fun v : Int32 => some (.int v)) rmX10_takeCount.cells rmX10_takeCount.slots) 0 0 (fX10_takeCount_L54 p4 M) 54 [(4, p4)] [] [] [] M := by
    intro p4 M
    unfold fX10_takeCount_L54
    refine r_iload (pc := 54) E dX10_takeCount_54 0 rfl ?_
    refine r_iconst (pc := 56) (v := 1) E dX10_takeCount_56 (by decide) ?_
    refine r_isub (pc := 57) E dX10_takeCount_57 ?_
    exact e_int (pc := 58) E dX10_takeCount_58
  show RT p l e rmX10_takeCount s m args below meth c x 5 (QM below args s x (fun v : Int32 => some (.int v)) rmX10_takeCount.cells rmX10_takeCount.slots) 0 0 (fX10_takeCount a0 a1 M) 0 [(1, a1)] [] [(0, a0)] [] M
  unfold fX10_takeCount
  refine r_iload_n (pc := 0) E dX10_takeCount_0 rfl 0 rfl ?_
  refine r_iconst (pc := 1) (v := 1) E dX10_takeCount_1 (by decide) ?_
  refine r_iadd (pc := 2) E dX10_takeCount_2 ?_
  refine r_i2l (pc := 3) E dX10_takeCount_3 ?_
  refine r_kSNi (pc := 4) (As := [.long ((a1 + 1).toInt64)]) (rest := []) E wc_X12_logOf wi_RX12 hd_X12_logOf (host := "TabledFrames") (by decide +kernel) wt_X12_logOf dX10_takeCount_4 (by decide) (Nat.le_of_ble_eq_true rfl) ⟨rfl, rfl⟩ (ctX12_logOf l x _ _) rfl (fun v4 M4 => ?_)
  refine r_iconst (pc := 7) (v := 1) E dX10_takeCount_7 (by decide) ?_
  refine r_iadd (pc := 8) E dX10_takeCount_8 ?_
  refine r_istore_n (pc := 9) (lf := fun v9 => [(2, v9), (1, a1)]) (lg := fun v9 => []) (lk := fun v9 => [(0, a0)]) E dX10_takeCount_9 rfl (by decide) (fun _ => rfl) (fun _ => rfl) (fun _ => rfl) (fun v9 => ?_)
  refine r_iconst (pc := 10) (v := 1) E dX10_takeCount_10 (by decide) ?_
  refine r_iload_n (pc := 11) E dX10_takeCount_11 rfl 0 rfl ?_
  refine r_ishl (pc := 12) E dX10_takeCount_12 ?_
  refine r_iconst (pc := 13) (v := 2) E dX10_takeCount_13 (by decide) ?_
  refine r_isub (pc := 14) E dX10_takeCount_14 ?_
  refine r_iload_n (pc := 15) E dX10_takeCount_15 rfl 1 rfl ?_
  refine r_isub (pc := 16) E dX10_takeCount_16 ?_
  refine r_istore_n (pc := 17) (lf := fun v17 => [(3, v17), (2, v9), (1, a1)]) (lg := fun v17 => []) (lk := fun v17 => [(0, a0)]) E dX10_takeCount_17 rfl (by decide) (fun _ => rfl) (fun _ => rfl) (fun _ => rfl) (fun v17 => ?_)
  refine r_aload_n (pc := 18) E dX10_takeCount_18 rfl 0 rfl ?_
  refine r_iload_n (pc := 19) E dX10_takeCount_19 rfl 1 rfl ?_
  refine r_iconst (pc := 20) (v := 1) E dX10_takeCount_20 (by decide) ?_
  refine r_isub (pc := 21) E dX10_takeCount_21 ?_
  refine r_kVi (pc := 22) (As := [.int (v9 - 1)]) (rest := []) E wc_X10_takeBits wi_RX10 hd_X10_takeBits (ci := 10) rfl wl_RX10_75 wn_X10_takeBits ws_X10_takeBits dX10_takeCount_22 (by decide) (Nat.le_of_ble_eq_true rfl) ⟨rfl, rfl⟩ (ctX10_takeBits l x _ _ _) rfl (fun v22 M22 => ?_)
  refine r_istore (pc := 25) (lf := fun v25 => [(4, v25), (3, v17), (2, v9), (1, a1)]) (lg := fun v25 => []) (lk := fun v25 => [(0, a0)]) E dX10_takeCount_25 (by decide) (fun _ => rfl) (fun _ => rfl) (fun _ => rfl) (fun v25 => ?_)
  refine r_iload (pc := 27) E dX10_takeCount_27 0 rfl ?_
  refine r_iload_n (pc := 29) E dX10_takeCount_29 rfl 1 rfl ?_
  refine r_icmp_lt (pc := 30) (tgt := 54) E dX10_takeCount_30 (by decide) ?_ ?_
  · exact r_sub [0] [] [] rfl rfl rfl (hL54 v25 _)
  · refine r_aload_n (pc := 33) E dX10_takeCount_33 rfl 0 rfl ?_
    refine r_iconst (pc := 34) (v := 1) E dX10_takeCount_34 (by decide) ?_
    refine r_kVi (pc := 35) (As := [.int 1]) (rest := []) E wc_X10_takeBits wi_RX10 hd_X10_takeBits (ci := 10) rfl wl_RX10_75 wn_X10_takeBits ws_X10_takeBits dX10_takeCount_35 (by decide) (Nat.le_of_ble_eq_true rfl) ⟨rfl, rfl⟩ (ctX10_takeBits l x _ _ _) rfl (fun v35 M35 => ?_)
    refine r_iconst (pc := 38) (v := 1) E dX10_takeCount_38 (by decide) ?_
    refine r_icmp_ne (pc := 39) (tgt := 54) E dX10_takeCount_39 (by decide) ?_ ?_
    · exact r_sub [0] [] [] rfl rfl rfl (hL54 v25 _)
    · refine r_iload (pc := 42) E dX10_takeCount_42 0 rfl ?_
      refine r_iconst (pc := 44) (v := 1) E dX10_takeCount_44 (by decide) ?_
      refine r_iload_n (pc := 45) E dX10_takeCount_45 rfl 2 rfl ?_
      refine r_iconst (pc := 46) (v := 1) E dX10_takeCount_46 (by decide) ?_
      refine r_isub (pc := 47) E dX10_takeCount_47 ?_
      refine r_ishl (pc := 48) E dX10_takeCount_48 ?_
      refine r_iload_n (pc := 49) E dX10_takeCount_49 rfl 1 rfl ?_
      refine r_isub (pc := 50) E dX10_takeCount_50 ?_
      refine r_iadd (pc := 51) E dX10_takeCount_51 ?_
      refine r_istore (pc := 52) (lf := fun v52 => [(4, v52), (3, v17), (2, v9), (1, a1)]) (lg := fun v52 => []) (lk := fun v52 => [(0, a0)]) E dX10_takeCount_52 (by decide) (fun _ => rfl) (fun _ => rfl) (fun _ => rfl) (fun v52 => ?_)
      exact r_sub [0] [] [] rfl rfl rfl (hL54 v52 _)
def fX10_spread_L91 (k17 : Option Nat × Int32 × Int32 × Int32 × Int32 × Int32 → Mem → Option (Unit × Mem)) (k29 : Option Nat × Int32 × Int32 × Int32 × Int32 × Int32 × Int32 → Mem → Option (Unit × Mem)) (p0 : Option Nat) (p1 : Int32) (p2 : Int32) (p3 : Int32) (p4 : Int32) (p5 : Int32) (p6 : Int32) (M : Mem) : Option (Unit × Mem) :=
  bn (p6 + 1) fun v91 =>
  k29 ((p0, p1, p2, p3, p4, p5, v91)) M
def fX10_spread_B63 (k17 : Option Nat × Int32 × Int32 × Int32 × Int32 × Int32 → Mem → Option (Unit × Mem)) (k29 : Option Nat × Int32 × Int32 × Int32 × Int32 × Int32 × Int32 → Mem → Option (Unit × Mem)) (k63 : Option Nat × Int32 × Int32 × Int32 × Int32 × Int32 × Int32 × Int32 → Mem → Option (Unit × Mem)) (p0 : Option Nat) (p1 : Int32) (p2 : Int32) (p3 : Int32) (p4 : Int32) (p5 : Int32) (p6 : Int32) (p7 : Int32) (M : Mem) : Option (Unit × Mem) :=
  if p1 ≤ p7 then (
    fX10_spread_L91 k17 k29 p0 p1 p2 p3 p4 p5 p6 M
  ) else (
    if p4 ≤ p2 then (
      fX10_spread_L91 k17 k29 p0 p1 p2 p3 p4 p5 p6 M
    ) else (
      bn ((p4 + p3) &&& (p1 - 1)) fun v83 =>
      bn (p7 + 1) fun v85 =>
      k63 ((p0, p1, p2, p3, v83, p5, p6, v85)) M
    )
  )
def fX10_spread_L63 (k17 : Option Nat × Int32 × Int32 × Int32 × Int32 × Int32 → Mem → Option (Unit × Mem)) (k29 : Option Nat × Int32 × Int32 × Int32 × Int32 × Int32 × Int32 → Mem → Option (Unit × Mem)) (p0 : Option Nat) (p1 : Int32) (p2 : Int32) (p3 : Int32) (p4 : Int32) (p5 : Int32) (p6 : Int32) (p7 : Int32) (M : Mem) : Option (Unit × Mem) :=
  lp (fun k63 (a : Option Nat × Int32 × Int32 × Int32 × Int32 × Int32 × Int32 × Int32) M => fX10_spread_B63 k17 k29 k63 a.1 a.2.1 a.2.2.1 a.2.2.2.1 a.2.2.2.2.1 a.2.2.2.2.2.1 a.2.2.2.2.2.2.1 a.2.2.2.2.2.2.2 M) FU ((p0, p1, p2, p3, p4, p5, p6, p7)) M
def fX10_spread_B29 (k17 : Option Nat × Int32 × Int32 × Int32 × Int32 × Int32 → Mem → Option (Unit × Mem)) (k29 : Option Nat × Int32 × Int32 × Int32 × Int32 × Int32 × Int32 → Mem → Option (Unit × Mem)) (p0 : Option Nat) (p1 : Int32) (p2 : Int32) (p3 : Int32) (p4 : Int32) (p5 : Int32) (p6 : Int32) (M : Mem) : Option (Unit × Mem) :=
  bo (gR M p0 10 2) fun v32 =>
  bo (aI M v32 15 p5) fun v37 =>
  if v37 ≤ p6 then (
    bn (p5 + 1) fun v97 =>
    k17 ((p0, p1, p2, p3, p4, v97)) M
  ) else (
    bo (gR M p0 10 1) fun v42 =>
    bo (wI M v42 p4 p5) fun M49 =>
    bn ((p4 + p3) &&& (p1 - 1)) fun v58 =>
    bn (0) fun v61 =>
    fX10_spread_L63 k17 k29 p0 p1 p2 p3 v58 p5 p6 v61 M49
  )
def fX10_spread_L29 (k17 : Option Nat × Int32 × Int32 × Int32 × Int32 × Int32 → Mem → Option (Unit × Mem)) (p0 : Option Nat) (p1 : Int32) (p2 : Int32) (p3 : Int32) (p4 : Int32) (p5 : Int32) (p6 : Int32) (M : Mem) : Option (Unit × Mem) :=
  lp (fun k29 (a : Option Nat × Int32 × Int32 × Int32 × Int32 × Int32 × Int32) M => fX10_spread_B29 k17 k29 a.1 a.2.1 a.2.2.1 a.2.2.2.1 a.2.2.2.2.1 a.2.2.2.2.2.1 a.2.2.2.2.2.2 M) FU ((p0, p1, p2, p3, p4, p5, p6)) M
def fX10_spread_B17 (k17 : Option Nat × Int32 × Int32 × Int32 × Int32 × Int32 → Mem → Option (Unit × Mem)) (p0 : Option Nat) (p1 : Int32) (p2 : Int32) (p3 : Int32) (p4 : Int32) (p5 : Int32) (M : Mem) : Option (Unit × Mem) :=
  bo (gI M p0 10 4) fun v20 =>
  if v20 ≤ p5 then (
    some ((), M)
  ) else (
    bn (0) fun v27 =>
    fX10_spread_L29 k17 p0 p1 p2 p3 p4 p5 v27 M
  )
def fX10_spread_L17 (p0 : Option Nat) (p1 : Int32) (p2 : Int32) (p3 : Int32) (p4 : Int32) (p5 : Int32) (M : Mem) : Option (Unit × Mem) :=
  lp (fun k17 (a : Option Nat × Int32 × Int32 × Int32 × Int32 × Int32) M => fX10_spread_B17 k17 a.1 a.2.1 a.2.2.1 a.2.2.2.1 a.2.2.2.2.1 a.2.2.2.2.2 M) FU ((p0, p1, p2, p3, p4, p5)) M
def fX10_spread (a0 : Option Nat) (a1 : Int32) (a2 : Int32) (M : Mem) : Option (Unit × Mem) :=
  bo (dv a1 2) fun v2 =>
  bo (dv a1 8) fun v6 =>
  bn ((v2 + v6) + 3) fun v10 =>
  bn (0) fun v12 =>
  bn (0) fun v15 =>
  fX10_spread_L17 a0 a1 a2 v10 v12 v15 M
def rmX10_spread : Room := { frames := 0, cells := 0, slots := 0, locals := 0 }
set_option maxRecDepth 100000 in
set_option maxHeartbeats 4000000 in
theorem ctX10_spread (l : Launch) (x : Cx) (a0 : Option Nat) (a1 : Int32) (a2 : Int32) (M : Mem) (v : Unit) (N : Mem) (h : fX10_spread a0 a1 a2 M = some (v, N)) : CT l yX10_spread cX10_spread 8 (none) rmX10_spread x [rv x a0, .int a1, .int a2] M none N := by
  refine ct_mk (enc := fun _ : Unit => none) (li := [(1, a1), (2, a2)]) (ll := []) (lr := [(0, a0)]) (by decide +kernel) (by simp [lg_sl, rv_cat, cat_int, cat_long]) (by simp [flat, lv_args, rv_cat, cat_int, cat_long]) h ?_
  intro p e s m args below meth c E
  have hL91 : ∀ (k17 : Option Nat × Int32 × Int32 × Int32 × Int32 × Int32 → Mem → Option (Unit × Mem)) (hk17 : ∀ a M, RT p l e rmX10_spread s m args below meth c x 8 (QM below args s x (fun _ : Unit => none) rmX10_spread.cells rmX10_spread.slots) 0 0 (k17 a M) 17 [(1, a.2.1), (2, a.2.2.1), (3, a.2.2.2.1), (4, a.2.2.2.2.1), (5, a.2.2.2.2.2)] [] [(0, a.1)] [] M) (k29 : Option Nat × Int32 × Int32 × Int32 × Int32 × Int32 × Int32 → Mem → Option (Unit × Mem)) (hk29 : ∀ a M, RT p l e rmX10_spread s m args below meth c x 8 (QM below args s x (fun _ : Unit => none) rmX10_spread.cells rmX10_spread.slots) 0 0 (k29 a M) 29 [(1, a.2.1), (2, a.2.2.1), (3, a.2.2.2.1), (4, a.2.2.2.2.1), (5, a.2.2.2.2.2.1), (6, a.2.2.2.2.2.2)] [] [(0, a.1)] [] M) (p0 : Option Nat) (p1 : Int32) (p2 : Int32) (p3 : Int32) (p4 : Int32) (p5 : Int32) (p6 : Int32) (M : Mem), RT p l e rmX10_spread s m args below meth c x 8 (QM below args s x (fun _ : Unit => none) rmX10_spread.cells rmX10_spread.slots) 0 0 (fX10_spread_L91 k17 k29 p0 p1 p2 p3 p4 p5 p6 M) 91 [(1, p1), (2, p2), (3, p3), (4, p4), (5, p5), (6, p6)] [] [(0, p0)] [] M := by
    intro k17 hk17 k29 hk29 p0 p1 p2 p3 p4 p5 p6 M
    unfold fX10_spread_L91
    refine r_iinc (pc := 91) (w := 1) (lf := fun v91 => [(6, v91), (1, p1), (2, p2), (3, p3), (4, p4), (5, p5)]) (ll' := []) (lr' := [(0, p0)]) E dX10_spread_91 5 rfl (by decide) (by decide) (fun _ => rfl) rfl rfl (fun v91 => ?_)
    refine r_goto (pc := 94) (tgt := 29) E dX10_spread_94 (by decide) ?_
    exact r_sub [1, 2, 3, 4, 5, 0] [] [0] rfl rfl rfl (hk29 ((p0, p1, p2, p3, p4, p5, v91)) _)
  have hL63 : ∀ (k17 : Option Nat × Int32 × Int32 × Int32 × Int32 × Int32 → Mem → Option (Unit × Mem)) (hk17 : ∀ a M, RT p l e rmX10_spread s m args below meth c x 8 (QM below args s x (fun _ : Unit => none) rmX10_spread.cells rmX10_spread.slots) 0 0 (k17 a M) 17 [(1, a.2.1), (2, a.2.2.1), (3, a.2.2.2.1), (4, a.2.2.2.2.1), (5, a.2.2.2.2.2)] [] [(0, a.1)] [] M) (k29 : Option Nat × Int32 × Int32 × Int32 × Int32 × Int32 × Int32 → Mem → Option (Unit × Mem)) (hk29 : ∀ a M, RT p l e rmX10_spread s m args below meth c x 8 (QM below args s x (fun _ : Unit => none) rmX10_spread.cells rmX10_spread.slots) 0 0 (k29 a M) 29 [(1, a.2.1), (2, a.2.2.1), (3, a.2.2.2.1), (4, a.2.2.2.2.1), (5, a.2.2.2.2.2.1), (6, a.2.2.2.2.2.2)] [] [(0, a.1)] [] M) (p0 : Option Nat) (p1 : Int32) (p2 : Int32) (p3 : Int32) (p4 : Int32) (p5 : Int32) (p6 : Int32) (p7 : Int32) (M : Mem), RT p l e rmX10_spread s m args below meth c x 8 (QM below args s x (fun _ : Unit => none) rmX10_spread.cells rmX10_spread.slots) 0 0 (fX10_spread_L63 k17 k29 p0 p1 p2 p3 p4 p5 p6 p7 M) 63 [(1, p1), (2, p2), (3, p3), (4, p4), (5, p5), (6, p6), (7, p7)] [] [(0, p0)] [] M := by
    intro k17 hk17 k29 hk29 p0 p1 p2 p3 p4 p5 p6 p7 M
    refine r_lp (fi := fun a : Option Nat × Int32 × Int32 × Int32 × Int32 × Int32 × Int32 × Int32 => [(1, a.2.1), (2, a.2.2.1), (3, a.2.2.2.1), (4, a.2.2.2.2.1), (5, a.2.2.2.2.2.1), (6, a.2.2.2.2.2.2.1), (7, a.2.2.2.2.2.2.2)]) (fl := fun a : Option Nat × Int32 × Int32 × Int32 × Int32 × Int32 × Int32 × Int32 => []) (fr := fun a : Option Nat × Int32 × Int32 × Int32 × Int32 × Int32 × Int32 × Int32 => [(0, a.1)]) (fs := fun a : Option Nat × Int32 × Int32 × Int32 × Int32 × Int32 × Int32 × Int32 => []) ?_ FU ((p0, p1, p2, p3, p4, p5, p6, p7)) M
    intro k63 hk63 a M
    obtain ⟨p0, p1, p2, p3, p4, p5, p6, p7⟩ := a
    show RT p l e rmX10_spread s m args below meth c x 8 (QM below args s x (fun _ : Unit => none) rmX10_spread.cells rmX10_spread.slots) 0 0 (fX10_spread_B63 k17 k29 k63 p0 p1 p2 p3 p4 p5 p6 p7 M) 63 [(1, p1), (2, p2), (3, p3), (4, p4), (5, p5), (6, p6), (7, p7)] [] [(0, p0)] [] M
    unfold fX10_spread_B63
    refine r_iload (pc := 63) E dX10_spread_63 6 rfl ?_
    refine r_iload_n (pc := 65) E dX10_spread_65 rfl 0 rfl ?_
    refine r_icmp_ge (pc := 66) (tgt := 91) E dX10_spread_66 (by decide) ?_ ?_
    · exact r_sub [0, 1, 2, 3, 4, 5] [] [0] rfl rfl rfl (hL91 k17 hk17 k29 hk29 p0 p1 p2 p3 p4 p5 p6 _)
    · refine r_iload (pc := 69) E dX10_spread_69 3 rfl ?_
      refine r_iload_n (pc := 71) E dX10_spread_71 rfl 1 rfl ?_
      refine r_icmp_le (pc := 72) (tgt := 91) E dX10_spread_72 (by decide) ?_ ?_
      · exact r_sub [0, 1, 2, 3, 4, 5] [] [0] rfl rfl rfl (hL91 k17 hk17 k29 hk29 p0 p1 p2 p3 p4 p5 p6 _)
      · refine r_iload (pc := 75) E dX10_spread_75 3 rfl ?_
        refine r_iload_n (pc := 77) E dX10_spread_77 rfl 2 rfl ?_
        refine r_iadd (pc := 78) E dX10_spread_78 ?_
        refine r_iload_n (pc := 79) E dX10_spread_79 rfl 0 rfl ?_
        refine r_iconst (pc := 80) (v := 1) E dX10_spread_80 (by decide) ?_
        refine r_isub (pc := 81) E dX10_spread_81 ?_
        refine r_iand (pc := 82) E dX10_spread_82 ?_
        refine r_istore (pc := 83) (lf := fun v83 => [(4, v83), (1, p1), (2, p2), (3, p3), (5, p5), (6, p6), (7, p7)]) (lg := fun v83 => []) (lk := fun v83 => [(0, p0)]) E dX10_spread_83 (by decide) (fun _ => rfl) (fun _ => rfl) (fun _ => rfl) (fun v83 => ?_)
        refine r_iinc (pc := 85) (w := 1) (lf := fun v85 => [(7, v85), (4, v83), (1, p1), (2, p2), (3, p3), (5, p5), (6, p6)]) (ll' := []) (lr' := [(0, p0)]) E dX10_spread_85 6 rfl (by decide) (by decide) (fun _ => rfl) rfl rfl (fun v85 => ?_)
        refine r_goto (pc := 88) (tgt := 63) E dX10_spread_88 (by decide) ?_
        exact r_sub [2, 3, 4, 1, 5, 6, 0] [] [0] rfl rfl rfl (hk63 ((p0, p1, p2, p3, v83, p5, p6, v85)) _)
  have hL29 : ∀ (k17 : Option Nat × Int32 × Int32 × Int32 × Int32 × Int32 → Mem → Option (Unit × Mem)) (hk17 : ∀ a M, RT p l e rmX10_spread s m args below meth c x 8 (QM below args s x (fun _ : Unit => none) rmX10_spread.cells rmX10_spread.slots) 0 0 (k17 a M) 17 [(1, a.2.1), (2, a.2.2.1), (3, a.2.2.2.1), (4, a.2.2.2.2.1), (5, a.2.2.2.2.2)] [] [(0, a.1)] [] M) (p0 : Option Nat) (p1 : Int32) (p2 : Int32) (p3 : Int32) (p4 : Int32) (p5 : Int32) (p6 : Int32) (M : Mem), RT p l e rmX10_spread s m args below meth c x 8 (QM below args s x (fun _ : Unit => none) rmX10_spread.cells rmX10_spread.slots) 0 0 (fX10_spread_L29 k17 p0 p1 p2 p3 p4 p5 p6 M) 29 [(1, p1), (2, p2), (3, p3), (4, p4), (5, p5), (6, p6)] [] [(0, p0)] [] M := by
    intro k17 hk17 p0 p1 p2 p3 p4 p5 p6 M
    refine r_lp (fi := fun a : Option Nat × Int32 × Int32 × Int32 × Int32 × Int32 × Int32 => [(1, a.2.1), (2, a.2.2.1), (3, a.2.2.2.1), (4, a.2.2.2.2.1), (5, a.2.2.2.2.2.1), (6, a.2.2.2.2.2.2)]) (fl := fun a : Option Nat × Int32 × Int32 × Int32 × Int32 × Int32 × Int32 => []) (fr := fun a : Option Nat × Int32 × Int32 × Int32 × Int32 × Int32 × Int32 => [(0, a.1)]) (fs := fun a : Option Nat × Int32 × Int32 × Int32 × Int32 × Int32 × Int32 => []) ?_ FU ((p0, p1, p2, p3, p4, p5, p6)) M
    intro k29 hk29 a M
    obtain ⟨p0, p1, p2, p3, p4, p5, p6⟩ := a
    show RT p l e rmX10_spread s m args below meth c x 8 (QM below args s x (fun _ : Unit => none) rmX10_spread.cells rmX10_spread.slots) 0 0 (fX10_spread_B29 k17 k29 p0 p1 p2 p3 p4 p5 p6 M) 29 [(1, p1), (2, p2), (3, p3), (4, p4), (5, p5), (6, p6)] [] [(0, p0)] [] M
    unfold fX10_spread_B29
    refine r_iload (pc := 29) E dX10_spread_29 5 rfl ?_
    refine r_aload_n (pc := 31) E dX10_spread_31 rfl 0 rfl ?_
    refine r_getA (pc := 32) E fd_10_2 wf_RX10_15 dX10_spread_32 (fun v32 => ?_)
    refine r_iload (pc := 35) E dX10_spread_35 4 rfl ?_
    refine r_iaload (pc := 37) E dX10_spread_37 (fun v37 => ?_)
    refine r_icmp_ge (pc := 38) (tgt := 97) E dX10_spread_38 (by decide) ?_ ?_
    · refine r_iinc (pc := 97) (w := 1) (lf := fun v97 => [(5, v97), (1, p1), (2, p2), (3, p3), (4, p4), (6, p6)]) (ll' := []) (lr' := [(0, p0)]) E dX10_spread_97 4 rfl (by decide) (by decide) (fun _ => rfl) rfl rfl (fun v97 => ?_)
      refine r_goto (pc := 100) (tgt := 17) E dX10_spread_100 (by decide) ?_
      exact r_sub [1, 2, 3, 4, 0] [] [0] rfl rfl rfl (hk17 ((p0, p1, p2, p3, p4, v97)) _)
    · refine r_aload_n (pc := 41) E dX10_spread_41 rfl 0 rfl ?_
      refine r_getA (pc := 42) E fd_10_1 wf_RX10_9 dX10_spread_42 (fun v42 => ?_)
      refine r_iload (pc := 45) E dX10_spread_45 3 rfl ?_
      refine r_iload (pc := 47) E dX10_spread_47 4 rfl ?_
      refine r_iastore (pc := 49) E dX10_spread_49 (fun M49 => ?_)
      refine r_iload (pc := 50) E dX10_spread_50 3 rfl ?_
      refine r_iload_n (pc := 52) E dX10_spread_52 rfl 2 rfl ?_
      refine r_iadd (pc := 53) E dX10_spread_53 ?_
      refine r_iload_n (pc := 54) E dX10_spread_54 rfl 0 rfl ?_
      refine r_iconst (pc := 55) (v := 1) E dX10_spread_55 (by decide) ?_
      refine r_isub (pc := 56) E dX10_spread_56 ?_
      refine r_iand (pc := 57) E dX10_spread_57 ?_
      refine r_istore (pc := 58) (lf := fun v58 => [(4, v58), (1, p1), (2, p2), (3, p3), (5, p5), (6, p6)]) (lg := fun v58 => []) (lk := fun v58 => [(0, p0)]) E dX10_spread_58 (by decide) (fun _ => rfl) (fun _ => rfl) (fun _ => rfl) (fun v58 => ?_)
      refine r_iconst (pc := 60) (v := 0) E dX10_spread_60 (by decide) ?_
      refine r_istore (pc := 61) (lf := fun v61 => [(7, v61), (4, v58), (1, p1), (2, p2), (3, p3), (5, p5), (6, p6)]) (lg := fun v61 => []) (lk := fun v61 => [(0, p0)]) E dX10_spread_61 (by decide) (fun _ => rfl) (fun _ => rfl) (fun _ => rfl) (fun v61 => ?_)
      exact r_sub [2, 3, 4, 1, 5, 6, 0] [] [0] rfl rfl rfl (hL63 k17 hk17 k29 hk29 p0 p1 p2 p3 v58 p5 p6 v61 _)
  have hL17 : ∀ (p0 : Option Nat) (p1 : Int32) (p2 : Int32) (p3 : Int32) (p4 : Int32) (p5 : Int32) (M : Mem), RT p l e rmX10_spread s m args below meth c x 8 (QM below args s x (fun _ : Unit => none) rmX10_spread.cells rmX10_spread.slots) 0 0 (fX10_spread_L17 p0 p1 p2 p3 p4 p5 M) 17 [(1, p1), (2, p2), (3, p3), (4, p4), (5, p5)] [] [(0, p0)] [] M := by
    intro p0 p1 p2 p3 p4 p5 M
    refine r_lp (fi := fun a : Option Nat × Int32 × Int32 × Int32 × Int32 × Int32 => [(1, a.2.1), (2, a.2.2.1), (3, a.2.2.2.1), (4, a.2.2.2.2.1), (5, a.2.2.2.2.2)]) (fl := fun a : Option Nat × Int32 × Int32 × Int32 × Int32 × Int32 => []) (fr := fun a : Option Nat × Int32 × Int32 × Int32 × Int32 × Int32 => [(0, a.1)]) (fs := fun a : Option Nat × Int32 × Int32 × Int32 × Int32 × Int32 => []) ?_ FU ((p0, p1, p2, p3, p4, p5)) M
    intro k17 hk17 a M
    obtain ⟨p0, p1, p2, p3, p4, p5⟩ := a
    show RT p l e rmX10_spread s m args below meth c x 8 (QM below args s x (fun _ : Unit => none) rmX10_spread.cells rmX10_spread.slots) 0 0 (fX10_spread_B17 k17 p0 p1 p2 p3 p4 p5 M) 17 [(1, p1), (2, p2), (3, p3), (4, p4), (5, p5)] [] [(0, p0)] [] M
    unfold fX10_spread_B17
    refine r_iload (pc := 17) E dX10_spread_17 4 rfl ?_
    refine r_aload_n (pc := 19) E dX10_spread_19 rfl 0 rfl ?_
    refine r_getI (pc := 20) E fd_10_4 wf_RX10_40 dX10_spread_20 (fun v20 => ?_)
    refine r_icmp_ge (pc := 23) (tgt := 103) E dX10_spread_23 (by decide) ?_ ?_
    · exact e_void (pc := 103) E dX10_spread_103
    · refine r_iconst (pc := 26) (v := 0) E dX10_spread_26 (by decide) ?_
      refine r_istore (pc := 27) (lf := fun v27 => [(6, v27), (1, p1), (2, p2), (3, p3), (4, p4), (5, p5)]) (lg := fun v27 => []) (lk := fun v27 => [(0, p0)]) E dX10_spread_27 (by decide) (fun _ => rfl) (fun _ => rfl) (fun _ => rfl) (fun v27 => ?_)
      exact r_sub [1, 2, 3, 4, 5, 0] [] [0] rfl rfl rfl (hL29 k17 hk17 p0 p1 p2 p3 p4 p5 v27 _)
  show RT p l e rmX10_spread s m args below meth c x 8 (QM below args s x (fun _ : Unit => none) rmX10_spread.cells rmX10_spread.slots) 0 0 (fX10_spread a0 a1 a2 M) 0 [(1, a1), (2, a2)] [] [(0, a0)] [] M
  unfold fX10_spread
  refine r_iload_n (pc := 0) E dX10_spread_0 rfl 0 rfl ?_
  refine r_iconst (pc := 1) (v := 2) E dX10_spread_1 (by decide) ?_
  refine r_idiv (pc := 2) E dX10_spread_2 (fun v2 => ?_)
  refine r_iload_n (pc := 3) E dX10_spread_3 rfl 0 rfl ?_
  refine r_bipush (pc := 4) (v := 8) E dX10_spread_4 (by decide) ?_
  refine r_idiv (pc := 6) E dX10_spread_6 (fun v6 => ?_)
  refine r_iadd (pc := 7) E dX10_spread_7 ?_
  refine r_iconst (pc := 8) (v := 3) E dX10_spread_8 (by decide) ?_
  refine r_iadd (pc := 9) E dX10_spread_9 ?_
  refine r_istore_n (pc := 10) (lf := fun v10 => [(3, v10), (1, a1), (2, a2)]) (lg := fun v10 => []) (lk := fun v10 => [(0, a0)]) E dX10_spread_10 rfl (by decide) (fun _ => rfl) (fun _ => rfl) (fun _ => rfl) (fun v10 => ?_)
  refine r_iconst (pc := 11) (v := 0) E dX10_spread_11 (by decide) ?_
  refine r_istore (pc := 12) (lf := fun v12 => [(4, v12), (3, v10), (1, a1), (2, a2)]) (lg := fun v12 => []) (lk := fun v12 => [(0, a0)]) E dX10_spread_12 (by decide) (fun _ => rfl) (fun _ => rfl) (fun _ => rfl) (fun v12 => ?_)
  refine r_iconst (pc := 14) (v := 0) E dX10_spread_14 (by decide) ?_
  refine r_istore (pc := 15) (lf := fun v15 => [(5, v15), (4, v12), (3, v10), (1, a1), (2, a2)]) (lg := fun v15 => []) (lk := fun v15 => [(0, a0)]) E dX10_spread_15 (by decide) (fun _ => rfl) (fun _ => rfl) (fun _ => rfl) (fun v15 => ?_)
  exact r_sub [3, 4, 2, 1, 0] [] [0] rfl rfl rfl (hL17 a0 a1 a2 v10 v12 v15 _)
def fX10_symbolAt_L25 (q0 : Int32) (M : Mem) : Option (Int32 × Mem) :=
  some (q0, M)
def fX10_symbolAt_L24 (M : Mem) : Option (Int32 × Mem) :=
  fX10_symbolAt_L25 0 M
def fX10_symbolAt (a0 : Option Nat) (a1 : Int32) (M : Mem) : Option (Int32 × Mem) :=
  if a1 < 0 then (
    fX10_symbolAt_L24 M
  ) else (
    if 512 ≤ a1 then (
      fX10_symbolAt_L24 M
    ) else (
      bo (gR M a0 10 1) fun v12 =>
      bo (aI M v12 15 a1) fun v16 =>
      fX10_symbolAt_L25 (v16 &&& 255) M
    )
  )
def rmX10_symbolAt : Room := { frames := 0, cells := 0, slots := 0, locals := 0 }
set_option maxRecDepth 100000 in
set_option maxHeartbeats 4000000 in
theorem ctX10_symbolAt (l : Launch) (x : Cx) (a0 : Option Nat) (a1 : Int32) (M : Mem) (v : Int32) (N : Mem) (h : fX10_symbolAt a0 a1 M = some (v, N)) : CT l yX10_symbolAt cX10_symbolAt 2 (some (FieldType.int)) rmX10_symbolAt x [rv x a0, .int a1] M (some (.int v)) N := by
  refine ct_mk (enc := fun v : Int32 => some (.int v)) (li := [(1, a1)]) (ll := []) (lr := [(0, a0)]) (by decide +kernel) (by simp [lg_sl, rv_cat, cat_int, cat_long]) (by simp [flat, lv_args, rv_cat, cat_int, cat_long]) h ?_
  intro p e s m args below meth c E
  have hL25 : ∀ (q0 : Int32) (M : Mem), RT p l e rmX10_symbolAt s m args below meth c x 2 (QM below args s x (fun v : Int32 => some (.int v)) rmX10_symbolAt.cells rmX10_symbolAt.slots) 0 0 (fX10_symbolAt_L25 q0 M) 25 [] [] [] [.int q0] M := by
    intro q0 M
    unfold fX10_symbolAt_L25
    exact e_int (pc := 25) E dX10_symbolAt_25
  have hL24 : ∀ (M : Mem), RT p l e rmX10_symbolAt s m args below meth c x 2 (QM below args s x (fun v : Int32 => some (.int v)) rmX10_symbolAt.cells rmX10_symbolAt.slots) 0 0 (fX10_symbolAt_L24 M) 24 [] [] [] [] M := by
    intro M
    unfold fX10_symbolAt_L24
    refine r_iconst (pc := 24) (v := 0) E dX10_symbolAt_24 (by decide) ?_
    exact r_sub [] [] [] rfl rfl rfl (hL25 0 _)
  show RT p l e rmX10_symbolAt s m args below meth c x 2 (QM below args s x (fun v : Int32 => some (.int v)) rmX10_symbolAt.cells rmX10_symbolAt.slots) 0 0 (fX10_symbolAt a0 a1 M) 0 [(1, a1)] [] [(0, a0)] [] M
  unfold fX10_symbolAt
  refine r_iload_n (pc := 0) E dX10_symbolAt_0 rfl 0 rfl ?_
  refine r_if_lt (pc := 1) (tgt := 24) E dX10_symbolAt_1 (by decide) ?_ ?_
  · exact r_sub [] [] [] rfl rfl rfl (hL24 _)
  · refine r_iload_n (pc := 4) E dX10_symbolAt_4 rfl 0 rfl ?_
    refine r_sipush (pc := 5) (v := 512) E dX10_symbolAt_5 (by decide) ?_
    refine r_icmp_ge (pc := 8) (tgt := 24) E dX10_symbolAt_8 (by decide) ?_ ?_
    · exact r_sub [] [] [] rfl rfl rfl (hL24 _)
    · refine r_aload_n (pc := 11) E dX10_symbolAt_11 rfl 0 rfl ?_
      refine r_getA (pc := 12) E fd_10_1 wf_RX10_9 dX10_symbolAt_12 (fun v12 => ?_)
      refine r_iload_n (pc := 15) E dX10_symbolAt_15 rfl 0 rfl ?_
      refine r_iaload (pc := 16) E dX10_symbolAt_16 (fun v16 => ?_)
      refine r_sipush (pc := 17) (v := 255) E dX10_symbolAt_17 (by decide) ?_
      refine r_iand (pc := 20) E dX10_symbolAt_20 ?_
      refine r_goto (pc := 21) (tgt := 25) E dX10_symbolAt_21 (by decide) ?_
      exact r_sub [] [] [] rfl rfl rfl (hL25 (v16 &&& 255) _)
def fX10_build_B91 (k91 : Option Nat × Int32 × Int32 → Mem → Option (Unit × Mem)) (p0 : Option Nat) (p2 : Int32) (p4 : Int32) (M : Mem) : Option (Unit × Mem) :=
  if p2 ≤ p4 then (
    some ((), M)
  ) else (
    bo (chk M p0 10) fun _ => bd (fX10_symbolAt p0 p4 M) fun v100 M100 =>
    bn (v100) fun v103 =>
    bo (gR M100 p0 10 3) fun v106 =>
    bo (aI M100 v106 15 v103) fun v111 =>
    bn (v111) fun v112 =>
    bo (gR M100 p0 10 3) fun v115 =>
    bo (aI M100 v115 15 v103) fun v121 =>
    bo (wI M100 v115 v103 (v121 + 1)) fun M124 =>
    bo (gI M124 p0 10 0) fun v126 =>
    bd (fX12_logOf v112.toInt64 M124) fun v132 M132 =>
    bn (v126 - v132) fun v136 =>
    bo (gR M132 p0 10 1) fun v139 =>
    bo (wI M132 v139 p4 (((shlI ((shlI v112 v136) - p2) 16) ||| (shlI v136 8)) ||| v103)) fun M163 =>
    bn (p4 + 1) fun v164 =>
    k91 ((p0, p2, v164)) M163
  )
def fX10_build_L91 (p0 : Option Nat) (p2 : Int32) (p4 : Int32) (M : Mem) : Option (Unit × Mem) :=
  lp (fun k91 (a : Option Nat × Int32 × Int32) M => fX10_build_B91 k91 a.1 a.2.1 a.2.2 M) FU ((p0, p2, p4)) M
def fX10_build_L76 (k25 : Option Nat × Int32 × Int32 × Int32 → Mem → Option (Unit × Mem)) (p0 : Option Nat) (p2 : Int32) (p3 : Int32) (p4 : Int32) (M : Mem) : Option (Unit × Mem) :=
  bn (p4 + 1) fun v76 =>
  k25 ((p0, p2, p3, v76)) M
def fX10_build_B25 (k25 : Option Nat × Int32 × Int32 × Int32 → Mem → Option (Unit × Mem)) (p0 : Option Nat) (p2 : Int32) (p3 : Int32) (p4 : Int32) (M : Mem) : Option (Unit × Mem) :=
  bo (gI M p0 10 4) fun v28 =>
  if v28 ≤ p4 then (
    bo (chk M p0 10) fun _ => bd (fX10_spread p0 p2 p3 M) fun v85 M85 =>
    bn (0) fun v89 =>
    fX10_build_L91 p0 p2 v89 M85
  ) else (
    bo (gR M p0 10 3) fun v35 =>
    bo (gR M p0 10 2) fun v41 =>
    bo (aI M v41 15 p4) fun v46 =>
    bo (wI M v35 p4 (absI v46)) fun M50 =>
    bo (gR M50 p0 10 2) fun v52 =>
    bo (aI M50 v52 15 p4) fun v57 =>
    if 0 ≤ v57 then (
      fX10_build_L76 k25 p0 p2 p3 p4 M50
    ) else (
      if p3 < 0 then (
        fX10_build_L76 k25 p0 p2 p3 p4 M50
      ) else (
        bo (gR M50 p0 10 1) fun v66 =>
        bo (wI M50 v66 p3 p4) fun M72 =>
        bn (p3 + (-1)) fun v73 =>
        fX10_build_L76 k25 p0 p2 v73 p4 M72
      )
    )
  )
def fX10_build_L25 (p0 : Option Nat) (p2 : Int32) (p3 : Int32) (p4 : Int32) (M : Mem) : Option (Unit × Mem) :=
  lp (fun k25 (a : Option Nat × Int32 × Int32 × Int32) M => fX10_build_B25 k25 a.1 a.2.1 a.2.2.1 a.2.2.2 M) FU ((p0, p2, p3, p4)) M
def fX10_build (a0 : Option Nat) (a1 : Int32) (M : Mem) : Option (Unit × Mem) :=
  bo (pI M a0 10 0 a1) fun M2 =>
  bo (gI M2 a0 10 0) fun v7 =>
  bn (minI (shlI 1 v7) 512) fun v17 =>
  bn (v17 - 1) fun v21 =>
  bn (0) fun v23 =>
  fX10_build_L25 a0 v17 v21 v23 M2
def rmX10_build : Room := { frames := 1, cells := 0, slots := 0, locals := 27 }
set_option maxRecDepth 100000 in
set_option maxHeartbeats 4000000 in
theorem ctX10_build (l : Launch) (x : Cx) (a0 : Option Nat) (a1 : Int32) (M : Mem) (v : Unit) (N : Mem) (h : fX10_build a0 a1 M = some (v, N)) : CT l yX10_build cX10_build 8 (none) rmX10_build x [rv x a0, .int a1] M none N := by
  refine ct_mk (enc := fun _ : Unit => none) (li := [(1, a1)]) (ll := []) (lr := [(0, a0)]) (by decide +kernel) (by simp [lg_sl, rv_cat, cat_int, cat_long]) (by simp [flat, lv_args, rv_cat, cat_int, cat_long]) h ?_
  intro p e s m args below meth c E
  have hL91 : ∀ (p0 : Option Nat) (p2 : Int32) (p4 : Int32) (M : Mem), RT p l e rmX10_build s m args below meth c x 8 (QM below args s x (fun _ : Unit => none) rmX10_build.cells rmX10_build.slots) 0 0 (fX10_build_L91 p0 p2 p4 M) 91 [(2, p2), (4, p4)] [] [(0, p0)] [] M := by
    intro p0 p2 p4 M
    refine r_lp (fi := fun a : Option Nat × Int32 × Int32 => [(2, a.2.1), (4, a.2.2)]) (fl := fun a : Option Nat × Int32 × Int32 => []) (fr := fun a : Option Nat × Int32 × Int32 => [(0, a.1)]) (fs := fun a : Option Nat × Int32 × Int32 => []) ?_ FU ((p0, p2, p4)) M
    intro k91 hk91 a M
    obtain ⟨p0, p2, p4⟩ := a
    show RT p l e rmX10_build s m args below meth c x 8 (QM below args s x (fun _ : Unit => none) rmX10_build.cells rmX10_build.slots) 0 0 (fX10_build_B91 k91 p0 p2 p4 M) 91 [(2, p2), (4, p4)] [] [(0, p0)] [] M
    unfold fX10_build_B91
    refine r_iload (pc := 91) E dX10_build_91 1 rfl ?_
    refine r_iload_n (pc := 93) E dX10_build_93 rfl 0 rfl ?_
    refine r_icmp_ge (pc := 94) (tgt := 170) E dX10_build_94 (by decide) ?_ ?_
    · exact e_void (pc := 170) E dX10_build_170
    · refine r_aload_n (pc := 97) E dX10_build_97 rfl 0 rfl ?_
      refine r_iload (pc := 98) E dX10_build_98 1 rfl ?_
      refine r_kVi (pc := 100) (As := [.int p4]) (rest := []) E wc_X10_symbolAt wi_RX10 hd_X10_symbolAt (ci := 10) rfl wl_RX10_93 wn_X10_symbolAt ws_X10_symbolAt dX10_build_100 (by decide) (Nat.le_of_ble_eq_true rfl) ⟨rfl, rfl⟩ (ctX10_symbolAt l x _ _ _) rfl (fun v100 M100 => ?_)
      refine r_istore (pc := 103) (lf := fun v103 => [(5, v103), (2, p2), (4, p4)]) (lg := fun v103 => []) (lk := fun v103 => [(0, p0)]) E dX10_build_103 (by decide) (fun _ => rfl) (fun _ => rfl) (fun _ => rfl) (fun v103 => ?_)
      refine r_aload_n (pc := 105) E dX10_build_105 rfl 0 rfl ?_
      refine r_getA (pc := 106) E fd_10_3 wf_RX10_18 dX10_build_106 (fun v106 => ?_)
      refine r_iload (pc := 109) E dX10_build_109 0 rfl ?_
      refine r_iaload (pc := 111) E dX10_build_111 (fun v111 => ?_)
      refine r_istore (pc := 112) (lf := fun v112 => [(6, v112), (5, v103), (2, p2), (4, p4)]) (lg := fun v112 => []) (lk := fun v112 => [(0, p0)]) E dX10_build_112 (by decide) (fun _ => rfl) (fun _ => rfl) (fun _ => rfl) (fun v112 => ?_)
      refine r_aload_n (pc := 114) E dX10_build_114 rfl 0 rfl ?_
      refine r_getA (pc := 115) E fd_10_3 wf_RX10_18 dX10_build_115 (fun v115 => ?_)
      refine r_iload (pc := 118) E dX10_build_118 1 rfl ?_
      refine r_dup2 (pc := 120) E dX10_build_120 rfl (rv_cat _ _) ?_
      refine r_iaload (pc := 121) E dX10_build_121 (fun v121 => ?_)
      refine r_iconst (pc := 122) (v := 1) E dX10_build_122 (by decide) ?_
      refine r_iadd (pc := 123) E dX10_build_123 ?_
      refine r_iastore (pc := 124) E dX10_build_124 (fun M124 => ?_)
      refine r_aload_n (pc := 125) E dX10_build_125 rfl 0 rfl ?_
      refine r_getI (pc := 126) E fd_10_0 wf_RX10_57 dX10_build_126 (fun v126 => ?_)
      refine r_iload (pc := 129) E dX10_build_129 0 rfl ?_
      refine r_i2l (pc := 131) E dX10_build_131 ?_
      refine r_kSNi (pc := 132) (As := [.long v112.toInt64]) (rest := [.int v126]) E wc_X12_logOf wi_RX12 hd_X12_logOf (host := "TabledFrames") (by decide +kernel) wt_X12_logOf dX10_build_132 (by decide) (Nat.le_of_ble_eq_true rfl) ⟨rfl, rfl⟩ (ctX12_logOf l x _ _) rfl (fun v132 M132 => ?_)
      refine r_isub (pc := 135) E dX10_build_135 ?_
      refine r_istore (pc := 136) (lf := fun v136 => [(7, v136), (6, v112), (5, v103), (2, p2), (4, p4)]) (lg := fun v136 => []) (lk := fun v136 => [(0, p0)]) E dX10_build_136 (by decide) (fun _ => rfl) (fun _ => rfl) (fun _ => rfl) (fun v136 => ?_)
      refine r_aload_n (pc := 138) E dX10_build_138 rfl 0 rfl ?_
      refine r_getA (pc := 139) E fd_10_1 wf_RX10_9 dX10_build_139 (fun v139 => ?_)
      refine r_iload (pc := 142) E dX10_build_142 4 rfl ?_
      refine r_iload (pc := 144) E dX10_build_144 1 rfl ?_
      refine r_iload (pc := 146) E dX10_build_146 0 rfl ?_
      refine r_ishl (pc := 148) E dX10_build_148 ?_
      refine r_iload_n (pc := 149) E dX10_build_149 rfl 3 rfl ?_
      refine r_isub (pc := 150) E dX10_build_150 ?_
      refine r_bipush (pc := 151) (v := 16) E dX10_build_151 (by decide) ?_
      refine r_ishl (pc := 153) E dX10_build_153 ?_
      refine r_iload (pc := 154) E dX10_build_154 0 rfl ?_
      refine r_bipush (pc := 156) (v := 8) E dX10_build_156 (by decide) ?_
      refine r_ishl (pc := 158) E dX10_build_158 ?_
      refine r_ior (pc := 159) E dX10_build_159 ?_
      refine r_iload (pc := 160) E dX10_build_160 2 rfl ?_
      refine r_ior (pc := 162) E dX10_build_162 ?_
      refine r_iastore (pc := 163) E dX10_build_163 (fun M163 => ?_)
      refine r_iinc (pc := 164) (w := 1) (lf := fun v164 => [(4, v164), (7, v136), (6, v112), (5, v103), (2, p2)]) (ll' := []) (lr' := [(0, p0)]) E dX10_build_164 4 rfl (by decide) (by decide) (fun _ => rfl) rfl rfl (fun v164 => ?_)
      refine r_goto (pc := 167) (tgt := 91) E dX10_build_167 (by decide) ?_
      exact r_sub [4, 0] [] [0] rfl rfl rfl (hk91 ((p0, p2, v164)) _)
  have hL76 : ∀ (k25 : Option Nat × Int32 × Int32 × Int32 → Mem → Option (Unit × Mem)) (hk25 : ∀ a M, RT p l e rmX10_build s m args below meth c x 8 (QM below args s x (fun _ : Unit => none) rmX10_build.cells rmX10_build.slots) 0 0 (k25 a M) 25 [(2, a.2.1), (3, a.2.2.1), (4, a.2.2.2)] [] [(0, a.1)] [] M) (p0 : Option Nat) (p2 : Int32) (p3 : Int32) (p4 : Int32) (M : Mem), RT p l e rmX10_build s m args below meth c x 8 (QM below args s x (fun _ : Unit => none) rmX10_build.cells rmX10_build.slots) 0 0 (fX10_build_L76 k25 p0 p2 p3 p4 M) 76 [(2, p2), (3, p3), (4, p4)] [] [(0, p0)] [] M := by
    intro k25 hk25 p0 p2 p3 p4 M
    unfold fX10_build_L76
    refine r_iinc (pc := 76) (w := 1) (lf := fun v76 => [(4, v76), (2, p2), (3, p3)]) (ll' := []) (lr' := [(0, p0)]) E dX10_build_76 2 rfl (by decide) (by decide) (fun _ => rfl) rfl rfl (fun v76 => ?_)
    refine r_goto (pc := 79) (tgt := 25) E dX10_build_79 (by decide) ?_
    exact r_sub [1, 2, 0] [] [0] rfl rfl rfl (hk25 ((p0, p2, p3, v76)) _)
  have hL25 : ∀ (p0 : Option Nat) (p2 : Int32) (p3 : Int32) (p4 : Int32) (M : Mem), RT p l e rmX10_build s m args below meth c x 8 (QM below args s x (fun _ : Unit => none) rmX10_build.cells rmX10_build.slots) 0 0 (fX10_build_L25 p0 p2 p3 p4 M) 25 [(2, p2), (3, p3), (4, p4)] [] [(0, p0)] [] M := by
    intro p0 p2 p3 p4 M
    refine r_lp (fi := fun a : Option Nat × Int32 × Int32 × Int32 => [(2, a.2.1), (3, a.2.2.1), (4, a.2.2.2)]) (fl := fun a : Option Nat × Int32 × Int32 × Int32 => []) (fr := fun a : Option Nat × Int32 × Int32 × Int32 => [(0, a.1)]) (fs := fun a : Option Nat × Int32 × Int32 × Int32 => []) ?_ FU ((p0, p2, p3, p4)) M
    intro k25 hk25 a M
    obtain ⟨p0, p2, p3, p4⟩ := a
    show RT p l e rmX10_build s m args below meth c x 8 (QM below args s x (fun _ : Unit => none) rmX10_build.cells rmX10_build.slots) 0 0 (fX10_build_B25 k25 p0 p2 p3 p4 M) 25 [(2, p2), (3, p3), (4, p4)] [] [(0, p0)] [] M
    unfold fX10_build_B25
    refine r_iload (pc := 25) E dX10_build_25 2 rfl ?_
    refine r_aload_n (pc := 27) E dX10_build_27 rfl 0 rfl ?_
    refine r_getI (pc := 28) E fd_10_4 wf_RX10_40 dX10_build_28 (fun v28 => ?_)
    refine r_icmp_ge (pc := 31) (tgt := 82) E dX10_build_31 (by decide) ?_ ?_
    · refine r_aload_n (pc := 82) E dX10_build_82 rfl 0 rfl ?_
      refine r_iload_n (pc := 83) E dX10_build_83 rfl 0 rfl ?_
      refine r_iload_n (pc := 84) E dX10_build_84 rfl 1 rfl ?_
      refine r_kVv (pc := 85) (As := [.int p2, .int p3]) (rest := []) E wc_X10_spread wi_RX10 hd_X10_spread (ci := 10) rfl wl_RX10_89 wn_X10_spread ws_X10_spread dX10_build_85 (by decide) (Nat.le_of_ble_eq_true rfl) ⟨rfl, rfl⟩ (ctX10_spread l x _ _ _ _) rfl (fun v85 M85 => ?_)
      refine r_iconst (pc := 88) (v := 0) E dX10_build_88 (by decide) ?_
      refine r_istore (pc := 89) (lf := fun v89 => [(4, v89), (2, p2), (3, p3)]) (lg := fun v89 => []) (lk := fun v89 => [(0, p0)]) E dX10_build_89 (by decide) (fun _ => rfl) (fun _ => rfl) (fun _ => rfl) (fun v89 => ?_)
      exact r_sub [1, 0] [] [0] rfl rfl rfl (hL91 p0 p2 v89 _)
    · refine r_aload_n (pc := 34) E dX10_build_34 rfl 0 rfl ?_
      refine r_getA (pc := 35) E fd_10_3 wf_RX10_18 dX10_build_35 (fun v35 => ?_)
      refine r_iload (pc := 38) E dX10_build_38 2 rfl ?_
      refine r_aload_n (pc := 40) E dX10_build_40 rfl 0 rfl ?_
      refine r_getA (pc := 41) E fd_10_2 wf_RX10_15 dX10_build_41 (fun v41 => ?_)
      refine r_iload (pc := 44) E dX10_build_44 2 rfl ?_
      refine r_iaload (pc := 46) E dX10_build_46 (fun v46 => ?_)
      refine r_mabs (pc := 47) E wl_RX10_82 wm_sabs wi_math wm_cabs dX10_build_47 (by decide) (Nat.le_of_ble_eq_true rfl) ?_
      refine r_iastore (pc := 50) E dX10_build_50 (fun M50 => ?_)
      refine r_aload_n (pc := 51) E dX10_build_51 rfl 0 rfl ?_
      refine r_getA (pc := 52) E fd_10_2 wf_RX10_15 dX10_build_52 (fun v52 => ?_)
      refine r_iload (pc := 55) E dX10_build_55 2 rfl ?_
      refine r_iaload (pc := 57) E dX10_build_57 (fun v57 => ?_)
      refine r_if_ge (pc := 58) (tgt := 76) E dX10_build_58 (by decide) ?_ ?_
      · exact r_sub [0, 1, 2] [] [0] rfl rfl rfl (hL76 k25 hk25 p0 p2 p3 p4 _)
      · refine r_iload_n (pc := 61) E dX10_build_61 rfl 1 rfl ?_
        refine r_if_lt (pc := 62) (tgt := 76) E dX10_build_62 (by decide) ?_ ?_
        · exact r_sub [0, 1, 2] [] [0] rfl rfl rfl (hL76 k25 hk25 p0 p2 p3 p4 _)
        · refine r_aload_n (pc := 65) E dX10_build_65 rfl 0 rfl ?_
          refine r_getA (pc := 66) E fd_10_1 wf_RX10_9 dX10_build_66 (fun v66 => ?_)
          refine r_iload_n (pc := 69) E dX10_build_69 rfl 1 rfl ?_
          refine r_iload (pc := 70) E dX10_build_70 2 rfl ?_
          refine r_iastore (pc := 72) E dX10_build_72 (fun M72 => ?_)
          refine r_iinc (pc := 73) (w := (-1)) (lf := fun v73 => [(3, v73), (2, p2), (4, p4)]) (ll' := []) (lr' := [(0, p0)]) E dX10_build_73 1 rfl (by decide) (by decide) (fun _ => rfl) rfl rfl (fun v73 => ?_)
          exact r_sub [1, 0, 2] [] [0] rfl rfl rfl (hL76 k25 hk25 p0 p2 v73 p4 _)
  show RT p l e rmX10_build s m args below meth c x 8 (QM below args s x (fun _ : Unit => none) rmX10_build.cells rmX10_build.slots) 0 0 (fX10_build a0 a1 M) 0 [(1, a1)] [] [(0, a0)] [] M
  unfold fX10_build
  refine r_aload_n (pc := 0) E dX10_build_0 rfl 0 rfl ?_
  refine r_iload_n (pc := 1) E dX10_build_1 rfl 0 rfl ?_
  refine r_putI (pc := 2) E fd_10_0 wf_RX10_57 dX10_build_2 (Or.inl rfl) (fun M2 => ?_)
  refine r_iconst (pc := 5) (v := 1) E dX10_build_5 (by decide) ?_
  refine r_aload_n (pc := 6) E dX10_build_6 rfl 0 rfl ?_
  refine r_getI (pc := 7) E fd_10_0 wf_RX10_57 dX10_build_7 (fun v7 => ?_)
  refine r_ishl (pc := 10) E dX10_build_10 ?_
  refine r_sipush (pc := 11) (v := 512) E dX10_build_11 (by decide) ?_
  refine r_mmin (pc := 14) E wl_RX10_34 wm_smin wi_math wm_cmin dX10_build_14 (by decide) (Nat.le_of_ble_eq_true rfl) ?_
  refine r_istore_n (pc := 17) (lf := fun v17 => [(2, v17), (1, a1)]) (lg := fun v17 => []) (lk := fun v17 => [(0, a0)]) E dX10_build_17 rfl (by decide) (fun _ => rfl) (fun _ => rfl) (fun _ => rfl) (fun v17 => ?_)
  refine r_iload_n (pc := 18) E dX10_build_18 rfl 0 rfl ?_
  refine r_iconst (pc := 19) (v := 1) E dX10_build_19 (by decide) ?_
  refine r_isub (pc := 20) E dX10_build_20 ?_
  refine r_istore_n (pc := 21) (lf := fun v21 => [(3, v21), (2, v17), (1, a1)]) (lg := fun v21 => []) (lk := fun v21 => [(0, a0)]) E dX10_build_21 rfl (by decide) (fun _ => rfl) (fun _ => rfl) (fun _ => rfl) (fun v21 => ?_)
  refine r_iconst (pc := 22) (v := 0) E dX10_build_22 (by decide) ?_
  refine r_istore (pc := 23) (lf := fun v23 => [(4, v23), (3, v21), (2, v17), (1, a1)]) (lg := fun v23 => []) (lk := fun v23 => [(0, a0)]) E dX10_build_23 (by decide) (fun _ => rfl) (fun _ => rfl) (fun _ => rfl) (fun v23 => ?_)
  exact r_sub [2, 1, 0] [] [0] rfl rfl rfl (hL25 a0 v17 v21 v23 _)
def fX10_read_L72 (M : Mem) : Option (Int32 × Mem) :=
  some ((-1), M)
def fX10_read_L257 (M : Mem) : Option (Int32 × Mem) :=
  some ((-1), M)
def fX10_read_L245 (p0 : Option Nat) (p6 : Int32) (p7 : Int32) (M : Mem) : Option (Int32 × Mem) :=
  bo (gI M p0 10 8) fun v246 =>
  if v246 = 0 then (
    if p7 = 0 then (
      bo (chk M p0 10) fun _ => bd (fX10_build p0 p6 M) fun v262 M262 =>
      bo (gI M262 p0 10 6) fun v266 =>
      bo (dv (v266 + 7) 8) fun v274 =>
      some (v274, M262)
    ) else (
      fX10_read_L257 M
    )
  ) else (
    fX10_read_L257 M
  )
def fX10_read_L239 (k86 : Option Nat × Int32 × Int32 × Int32 × Int32 × Int32 → Mem → Option (Int32 × Mem)) (p0 : Option Nat) (p4 : Int32) (p6 : Int32) (p7 : Int32) (p8 : Int32) (p9 : Int32) (M : Mem) : Option (Int32 × Mem) :=
  bn (p9 + 1) fun v239 =>
  k86 ((p0, p4, p6, p7, p8, v239)) M
def fX10_read_L237 (k86 : Option Nat × Int32 × Int32 × Int32 × Int32 × Int32 → Mem → Option (Int32 × Mem)) (p0 : Option Nat) (p4 : Int32) (p6 : Int32) (p7 : Int32) (p9 : Int32) (q0 : Int32) (M : Mem) : Option (Int32 × Mem) :=
  bn (q0) fun v237 =>
  fX10_read_L239 k86 p0 p4 p6 p7 v237 p9 M
def fX10_read_L183 (k86 : Option Nat × Int32 × Int32 × Int32 × Int32 × Int32 → Mem → Option (Int32 × Mem)) (p0 : Option Nat) (p4 : Int32) (p6 : Int32) (p7 : Int32) (p9 : Int32) (q0 : Int32) (M : Mem) : Option (Int32 × Mem) :=
  bn (q0) fun v183 =>
  fX10_read_L239 k86 p0 p4 p6 p7 v183 p9 M
def fX10_read_L172 (k86 : Option Nat × Int32 × Int32 × Int32 × Int32 × Int32 → Mem → Option (Int32 × Mem)) (p0 : Option Nat) (p4 : Int32) (p6 : Int32) (p7 : Int32) (p9 : Int32) (p10 : Int32) (M : Mem) : Option (Int32 × Mem) :=
  if p10 = 3 then (
    fX10_read_L183 k86 p0 p4 p6 p7 p9 1 M
  ) else (
    fX10_read_L183 k86 p0 p4 p6 p7 p9 0 M
  )
def fX10_read_B130 (k86 : Option Nat × Int32 × Int32 × Int32 × Int32 × Int32 → Mem → Option (Int32 × Mem)) (k130 : Option Nat × Int32 × Int32 × Int32 × Int32 × Int32 × Int32 → Mem → Option (Int32 × Mem)) (p0 : Option Nat) (p4 : Int32) (p6 : Int32) (p7 : Int32) (p9 : Int32) (p10 : Int32) (p11 : Int32) (M : Mem) : Option (Int32 × Mem) :=
  if p10 ≤ p11 then (
    fX10_read_L172 k86 p0 p4 p6 p7 p9 p10 M
  ) else (
    bo (gI M p0 10 4) fun v138 =>
    if p4 < v138 then (
      fX10_read_L172 k86 p0 p4 p6 p7 p9 p10 M
    ) else (
      bo (gR M p0 10 2) fun v147 =>
      bo (gI M p0 10 4) fun v151 =>
      bo (wI M v147 v151 0) fun M155 =>
      bo (gI M155 p0 10 4) fun v158 =>
      bo (pI M155 p0 10 4 (v158 + 1)) fun M163 =>
      bn (p11 + 1) fun v166 =>
      k130 ((p0, p4, p6, p7, p9, p10, v166)) M163
    )
  )
def fX10_read_L130 (k86 : Option Nat × Int32 × Int32 × Int32 × Int32 × Int32 → Mem → Option (Int32 × Mem)) (p0 : Option Nat) (p4 : Int32) (p6 : Int32) (p7 : Int32) (p9 : Int32) (p10 : Int32) (p11 : Int32) (M : Mem) : Option (Int32 × Mem) :=
  lp (fun k130 (a : Option Nat × Int32 × Int32 × Int32 × Int32 × Int32 × Int32) M => fX10_read_B130 k86 k130 a.1 a.2.1 a.2.2.1 a.2.2.2.1 a.2.2.2.2.1 a.2.2.2.2.2.1 a.2.2.2.2.2.2 M) FU ((p0, p4, p6, p7, p9, p10, p11)) M
def fX10_read_B86 (k86 : Option Nat × Int32 × Int32 × Int32 × Int32 × Int32 → Mem → Option (Int32 × Mem)) (p0 : Option Nat) (p4 : Int32) (p6 : Int32) (p7 : Int32) (p8 : Int32) (p9 : Int32) (M : Mem) : Option (Int32 × Mem) :=
  if 8000 ≤ p9 then (
    fX10_read_L245 p0 p6 p7 M
  ) else (
    if p7 ≤ 0 then (
      fX10_read_L245 p0 p6 p7 M
    ) else (
      bo (gI M p0 10 4) fun v100 =>
      if p4 < v100 then (
        fX10_read_L245 p0 p6 p7 M
      ) else (
        bo (gI M p0 10 8) fun v109 =>
        if v109 = 0 then (
          if p8 = 0 then (
            bo (chk M p0 10) fun _ => bd (fX10_takeCount p0 p7 M) fun v191 M191 =>
            bn (v191) fun v194 =>
            bo (gR M191 p0 10 2) fun v197 =>
            bo (gI M191 p0 10 4) fun v201 =>
            bo (wI M191 v197 v201 v194) fun M206 =>
            bo (gI M206 p0 10 4) fun v209 =>
            bo (pI M206 p0 10 4 (v209 + 1)) fun M214 =>
            bn (p7 - (absI v194)) fun v225 =>
            if v194 = 0 then (
              fX10_read_L237 k86 p0 p4 p6 v225 p9 1 M214
            ) else (
              fX10_read_L237 k86 p0 p4 p6 v225 p9 0 M214
            )
          ) else (
            bo (chk M p0 10) fun _ => bd (fX10_takeBits p0 2 M) fun v122 M122 =>
            bn (v122) fun v125 =>
            bn (0) fun v128 =>
            fX10_read_L130 k86 p0 p4 p6 p7 p9 v125 v128 M122
          )
        ) else (
          fX10_read_L245 p0 p6 p7 M
        )
      )
    )
  )
def fX10_read_L86 (p0 : Option Nat) (p4 : Int32) (p6 : Int32) (p7 : Int32) (p8 : Int32) (p9 : Int32) (M : Mem) : Option (Int32 × Mem) :=
  lp (fun k86 (a : Option Nat × Int32 × Int32 × Int32 × Int32 × Int32) M => fX10_read_B86 k86 a.1 a.2.1 a.2.2.1 a.2.2.2.1 a.2.2.2.2.1 a.2.2.2.2.2 M) FU ((p0, p4, p6, p7, p8, p9)) M
def fX10_read (a0 : Option Nat) (a1 : Option Nat) (a2 : Int32) (a3 : Int32) (a4 : Int32) (a5 : Int32) (M : Mem) : Option (Int32 × Mem) :=
  bo (gR M a1 8 0) fun v2 =>
  bo (pR M a0 10 5 v2) fun M5 =>
  bo (pI M5 a0 10 6 (8 * a2)) fun M13 =>
  bo (pI M13 a0 10 7 (8 * a3)) fun M21 =>
  bo (pZ M21 a0 10 8 0) fun M26 =>
  bo (pI M26 a0 10 4 0) fun M31 =>
  bo (chk M31 a0 10) fun _ => bd (fX10_takeBits a0 4 M31) fun v37 M37 =>
  bn (5 + v37) fun v41 =>
  bo (gI M37 a0 10 8) fun v44 =>
  if v44 = 0 then (
    if a5 < v41 then (
      fX10_read_L72 M37
    ) else (
      if 9 < v41 then (
        fX10_read_L72 M37
      ) else (
        if a4 < 256 then (
          bn (shlI 1 v41) fun v78 =>
          bn (0) fun v81 =>
          bn (0) fun v84 =>
          fX10_read_L86 a0 a4 v41 v78 v81 v84 M37
        ) else (
          fX10_read_L72 M37
        )
      )
    )
  ) else (
    fX10_read_L72 M37
  )
def rmX10_read : Room := { frames := 2, cells := 0, slots := 0, locals := 54 }
set_option maxRecDepth 100000 in
set_option maxHeartbeats 4000000 in
theorem ctX10_read (l : Launch) (x : Cx) (a0 : Option Nat) (a1 : Option Nat) (a2 : Int32) (a3 : Int32) (a4 : Int32) (a5 : Int32) (M : Mem) (v : Int32) (N : Mem) (h : fX10_read a0 a1 a2 a3 a4 a5 M = some (v, N)) : CT l yX10_read cX10_read 12 (some (FieldType.int)) rmX10_read x [rv x a0, rv x a1, .int a2, .int a3, .int a4, .int a5] M (some (.int v)) N := by
  refine ct_mk (enc := fun v : Int32 => some (.int v)) (li := [(2, a2), (3, a3), (4, a4), (5, a5)]) (ll := []) (lr := [(0, a0), (1, a1)]) (by decide +kernel) (by simp [lg_sl, rv_cat, cat_int, cat_long]) (by simp [flat, lv_args, rv_cat, cat_int, cat_long]) h ?_
  intro p e s m args below meth c E
  have hL72 : ∀ (M : Mem), RT p l e rmX10_read s m args below meth c x 12 (QM below args s x (fun v : Int32 => some (.int v)) rmX10_read.cells rmX10_read.slots) 0 0 (fX10_read_L72 M) 72 [] [] [] [] M := by
    intro M
    unfold fX10_read_L72
    refine r_iconst (pc := 72) (v := (-1)) E dX10_read_72 (by decide) ?_
    exact e_int (pc := 73) E dX10_read_73
  have hL257 : ∀ (M : Mem), RT p l e rmX10_read s m args below meth c x 12 (QM below args s x (fun v : Int32 => some (.int v)) rmX10_read.cells rmX10_read.slots) 0 0 (fX10_read_L257 M) 257 [] [] [] [] M := by
    intro M
    unfold fX10_read_L257
    refine r_iconst (pc := 257) (v := (-1)) E dX10_read_257 (by decide) ?_
    exact e_int (pc := 258) E dX10_read_258
  have hL245 : ∀ (p0 : Option Nat) (p6 : Int32) (p7 : Int32) (M : Mem), RT p l e rmX10_read s m args below meth c x 12 (QM below args s x (fun v : Int32 => some (.int v)) rmX10_read.cells rmX10_read.slots) 0 0 (fX10_read_L245 p0 p6 p7 M) 245 [(6, p6), (7, p7)] [] [(0, p0)] [] M := by
    intro p0 p6 p7 M
    unfold fX10_read_L245
    refine r_aload_n (pc := 245) E dX10_read_245 rfl 0 rfl ?_
    refine r_getZ (pc := 246) E fd_10_8 wf_RX10_71 dX10_read_246 (fun v246 => ?_)
    refine r_if_ne (pc := 249) (tgt := 257) E dX10_read_249 (by decide) ?_ ?_
    · exact r_sub [] [] [] rfl rfl rfl (hL257 _)
    · refine r_iload (pc := 252) E dX10_read_252 1 rfl ?_
      refine r_if_eq (pc := 254) (tgt := 259) E dX10_read_254 (by decide) ?_ ?_
      · refine r_aload_n (pc := 259) E dX10_read_259 rfl 0 rfl ?_
        refine r_iload (pc := 260) E dX10_read_260 0 rfl ?_
        refine r_kVv (pc := 262) (As := [.int p6]) (rest := []) E wc_X10_build wi_RX10 hd_X10_build (ci := 10) rfl wl_RX10_53 wn_X10_build ws_X10_build dX10_read_262 (by decide) (Nat.le_of_ble_eq_true rfl) ⟨rfl, rfl⟩ (ctX10_build l x _ _ _) rfl (fun v262 M262 => ?_)
        refine r_aload_n (pc := 265) E dX10_read_265 rfl 0 rfl ?_
        refine r_getI (pc := 266) E fd_10_6 wf_RX10_65 dX10_read_266 (fun v266 => ?_)
        refine r_bipush (pc := 269) (v := 7) E dX10_read_269 (by decide) ?_
        refine r_iadd (pc := 271) E dX10_read_271 ?_
        refine r_bipush (pc := 272) (v := 8) E dX10_read_272 (by decide) ?_
        refine r_idiv (pc := 274) E dX10_read_274 (fun v274 => ?_)
        exact e_int (pc := 275) E dX10_read_275
      · exact r_sub [] [] [] rfl rfl rfl (hL257 _)
  have hL239 : ∀ (k86 : Option Nat × Int32 × Int32 × Int32 × Int32 × Int32 → Mem → Option (Int32 × Mem)) (hk86 : ∀ a M, RT p l e rmX10_read s m args below meth c x 12 (QM below args s x (fun v : Int32 => some (.int v)) rmX10_read.cells rmX10_read.slots) 0 0 (k86 a M) 86 [(4, a.2.1), (6, a.2.2.1), (7, a.2.2.2.1), (8, a.2.2.2.2.1), (9, a.2.2.2.2.2)] [] [(0, a.1)] [] M) (p0 : Option Nat) (p4 : Int32) (p6 : Int32) (p7 : Int32) (p8 : Int32) (p9 : Int32) (M : Mem), RT p l e rmX10_read s m args below meth c x 12 (QM below args s x (fun v : Int32 => some (.int v)) rmX10_read.cells rmX10_read.slots) 0 0 (fX10_read_L239 k86 p0 p4 p6 p7 p8 p9 M) 239 [(4, p4), (6, p6), (7, p7), (8, p8), (9, p9)] [] [(0, p0)] [] M := by
    intro k86 hk86 p0 p4 p6 p7 p8 p9 M
    unfold fX10_read_L239
    refine r_iinc (pc := 239) (w := 1) (lf := fun v239 => [(9, v239), (4, p4), (6, p6), (7, p7), (8, p8)]) (ll' := []) (lr' := [(0, p0)]) E dX10_read_239 4 rfl (by decide) (by decide) (fun _ => rfl) rfl rfl (fun v239 => ?_)
    refine r_goto (pc := 242) (tgt := 86) E dX10_read_242 (by decide) ?_
    exact r_sub [1, 2, 3, 4, 0] [] [0] rfl rfl rfl (hk86 ((p0, p4, p6, p7, p8, v239)) _)
  have hL237 : ∀ (k86 : Option Nat × Int32 × Int32 × Int32 × Int32 × Int32 → Mem → Option (Int32 × Mem)) (hk86 : ∀ a M, RT p l e rmX10_read s m args below meth c x 12 (QM below args s x (fun v : Int32 => some (.int v)) rmX10_read.cells rmX10_read.slots) 0 0 (k86 a M) 86 [(4, a.2.1), (6, a.2.2.1), (7, a.2.2.2.1), (8, a.2.2.2.2.1), (9, a.2.2.2.2.2)] [] [(0, a.1)] [] M) (p0 : Option Nat) (p4 : Int32) (p6 : Int32) (p7 : Int32) (p9 : Int32) (q0 : Int32) (M : Mem), RT p l e rmX10_read s m args below meth c x 12 (QM below args s x (fun v : Int32 => some (.int v)) rmX10_read.cells rmX10_read.slots) 0 0 (fX10_read_L237 k86 p0 p4 p6 p7 p9 q0 M) 237 [(4, p4), (6, p6), (7, p7), (9, p9)] [] [(0, p0)] [.int q0] M := by
    intro k86 hk86 p0 p4 p6 p7 p9 q0 M
    unfold fX10_read_L237
    refine r_istore (pc := 237) (lf := fun v237 => [(8, v237), (4, p4), (6, p6), (7, p7), (9, p9)]) (lg := fun v237 => []) (lk := fun v237 => [(0, p0)]) E dX10_read_237 (by decide) (fun _ => rfl) (fun _ => rfl) (fun _ => rfl) (fun v237 => ?_)
    exact r_sub [1, 2, 3, 0, 4] [] [0] rfl rfl rfl (hL239 k86 hk86 p0 p4 p6 p7 v237 p9 _)
  have hL183 : ∀ (k86 : Option Nat × Int32 × Int32 × Int32 × Int32 × Int32 → Mem → Option (Int32 × Mem)) (hk86 : ∀ a M, RT p l e rmX10_read s m args below meth c x 12 (QM below args s x (fun v : Int32 => some (.int v)) rmX10_read.cells rmX10_read.slots) 0 0 (k86 a M) 86 [(4, a.2.1), (6, a.2.2.1), (7, a.2.2.2.1), (8, a.2.2.2.2.1), (9, a.2.2.2.2.2)] [] [(0, a.1)] [] M) (p0 : Option Nat) (p4 : Int32) (p6 : Int32) (p7 : Int32) (p9 : Int32) (q0 : Int32) (M : Mem), RT p l e rmX10_read s m args below meth c x 12 (QM below args s x (fun v : Int32 => some (.int v)) rmX10_read.cells rmX10_read.slots) 0 0 (fX10_read_L183 k86 p0 p4 p6 p7 p9 q0 M) 183 [(4, p4), (6, p6), (7, p7), (9, p9)] [] [(0, p0)] [.int q0] M := by
    intro k86 hk86 p0 p4 p6 p7 p9 q0 M
    unfold fX10_read_L183
    refine r_istore (pc := 183) (lf := fun v183 => [(8, v183), (4, p4), (6, p6), (7, p7), (9, p9)]) (lg := fun v183 => []) (lk := fun v183 => [(0, p0)]) E dX10_read_183 (by decide) (fun _ => rfl) (fun _ => rfl) (fun _ => rfl) (fun v183 => ?_)
    refine r_goto (pc := 185) (tgt := 239) E dX10_read_185 (by decide) ?_
    exact r_sub [1, 2, 3, 0, 4] [] [0] rfl rfl rfl (hL239 k86 hk86 p0 p4 p6 p7 v183 p9 _)
  have hL172 : ∀ (k86 : Option Nat × Int32 × Int32 × Int32 × Int32 × Int32 → Mem → Option (Int32 × Mem)) (hk86 : ∀ a M, RT p l e rmX10_read s m args below meth c x 12 (QM below args s x (fun v : Int32 => some (.int v)) rmX10_read.cells rmX10_read.slots) 0 0 (k86 a M) 86 [(4, a.2.1), (6, a.2.2.1), (7, a.2.2.2.1), (8, a.2.2.2.2.1), (9, a.2.2.2.2.2)] [] [(0, a.1)] [] M) (p0 : Option Nat) (p4 : Int32) (p6 : Int32) (p7 : Int32) (p9 : Int32) (p10 : Int32) (M : Mem), RT p l e rmX10_read s m args below meth c x 12 (QM below args s x (fun v : Int32 => some (.int v)) rmX10_read.cells rmX10_read.slots) 0 0 (fX10_read_L172 k86 p0 p4 p6 p7 p9 p10 M) 172 [(4, p4), (6, p6), (7, p7), (9, p9), (10, p10)] [] [(0, p0)] [] M := by
    intro k86 hk86 p0 p4 p6 p7 p9 p10 M
    unfold fX10_read_L172
    refine r_iload (pc := 172) E dX10_read_172 4 rfl ?_
    refine r_iconst (pc := 174) (v := 3) E dX10_read_174 (by decide) ?_
    refine r_icmp_ne (pc := 175) (tgt := 182) E dX10_read_175 (by decide) ?_ ?_
    · refine r_iconst (pc := 182) (v := 0) E dX10_read_182 (by decide) ?_
      exact r_sub [0, 1, 2, 3] [] [0] rfl rfl rfl (hL183 k86 hk86 p0 p4 p6 p7 p9 0 _)
    · refine r_iconst (pc := 178) (v := 1) E dX10_read_178 (by decide) ?_
      refine r_goto (pc := 179) (tgt := 183) E dX10_read_179 (by decide) ?_
      exact r_sub [0, 1, 2, 3] [] [0] rfl rfl rfl (hL183 k86 hk86 p0 p4 p6 p7 p9 1 _)
  have hL130 : ∀ (k86 : Option Nat × Int32 × Int32 × Int32 × Int32 × Int32 → Mem → Option (Int32 × Mem)) (hk86 : ∀ a M, RT p l e rmX10_read s m args below meth c x 12 (QM below args s x (fun v : Int32 => some (.int v)) rmX10_read.cells rmX10_read.slots) 0 0 (k86 a M) 86 [(4, a.2.1), (6, a.2.2.1), (7, a.2.2.2.1), (8, a.2.2.2.2.1), (9, a.2.2.2.2.2)] [] [(0, a.1)] [] M) (p0 : Option Nat) (p4 : Int32) (p6 : Int32) (p7 : Int32) (p9 : Int32) (p10 : Int32) (p11 : Int32) (M : Mem), RT p l e rmX10_read s m args below meth c x 12 (QM below args s x (fun v : Int32 => some (.int v)) rmX10_read.cells rmX10_read.slots) 0 0 (fX10_read_L130 k86 p0 p4 p6 p7 p9 p10 p11 M) 130 [(4, p4), (6, p6), (7, p7), (9, p9), (10, p10), (11, p11)] [] [(0, p0)] [] M := by
    intro k86 hk86 p0 p4 p6 p7 p9 p10 p11 M
    refine r_lp (fi := fun a : Option Nat × Int32 × Int32 × Int32 × Int32 × Int32 × Int32 => [(4, a.2.1), (6, a.2.2.1), (7, a.2.2.2.1), (9, a.2.2.2.2.1), (10, a.2.2.2.2.2.1), (11, a.2.2.2.2.2.2)]) (fl := fun a : Option Nat × Int32 × Int32 × Int32 × Int32 × Int32 × Int32 => []) (fr := fun a : Option Nat × Int32 × Int32 × Int32 × Int32 × Int32 × Int32 => [(0, a.1)]) (fs := fun a : Option Nat × Int32 × Int32 × Int32 × Int32 × Int32 × Int32 => []) ?_ FU ((p0, p4, p6, p7, p9, p10, p11)) M
    intro k130 hk130 a M
    obtain ⟨p0, p4, p6, p7, p9, p10, p11⟩ := a
    show RT p l e rmX10_read s m args below meth c x 12 (QM below args s x (fun v : Int32 => some (.int v)) rmX10_read.cells rmX10_read.slots) 0 0 (fX10_read_B130 k86 k130 p0 p4 p6 p7 p9 p10 p11 M) 130 [(4, p4), (6, p6), (7, p7), (9, p9), (10, p10), (11, p11)] [] [(0, p0)] [] M
    unfold fX10_read_B130
    refine r_iload (pc := 130) E dX10_read_130 5 rfl ?_
    refine r_iload (pc := 132) E dX10_read_132 4 rfl ?_
    refine r_icmp_ge (pc := 134) (tgt := 172) E dX10_read_134 (by decide) ?_ ?_
    · exact r_sub [0, 1, 2, 3, 4] [] [0] rfl rfl rfl (hL172 k86 hk86 p0 p4 p6 p7 p9 p10 _)
    · refine r_aload_n (pc := 137) E dX10_read_137 rfl 0 rfl ?_
      refine r_getI (pc := 138) E fd_10_4 wf_RX10_40 dX10_read_138 (fun v138 => ?_)
      refine r_iload (pc := 141) E dX10_read_141 0 rfl ?_
      refine r_icmp_gt (pc := 143) (tgt := 172) E dX10_read_143 (by decide) ?_ ?_
      · exact r_sub [0, 1, 2, 3, 4] [] [0] rfl rfl rfl (hL172 k86 hk86 p0 p4 p6 p7 p9 p10 _)
      · refine r_aload_n (pc := 146) E dX10_read_146 rfl 0 rfl ?_
        refine r_getA (pc := 147) E fd_10_2 wf_RX10_15 dX10_read_147 (fun v147 => ?_)
        refine r_aload_n (pc := 150) E dX10_read_150 rfl 0 rfl ?_
        refine r_getI (pc := 151) E fd_10_4 wf_RX10_40 dX10_read_151 (fun v151 => ?_)
        refine r_iconst (pc := 154) (v := 0) E dX10_read_154 (by decide) ?_
        refine r_iastore (pc := 155) E dX10_read_155 (fun M155 => ?_)
        refine r_aload_n (pc := 156) E dX10_read_156 rfl 0 rfl ?_
        refine r_dup (pc := 157) E dX10_read_157 (rv_cat _ _) ?_
        refine r_getI (pc := 158) E fd_10_4 wf_RX10_40 dX10_read_158 (fun v158 => ?_)
        refine r_iconst (pc := 161) (v := 1) E dX10_read_161 (by decide) ?_
        refine r_iadd (pc := 162) E dX10_read_162 ?_
        refine r_putI (pc := 163) E fd_10_4 wf_RX10_40 dX10_read_163 (Or.inl rfl) (fun M163 => ?_)
        refine r_iinc (pc := 166) (w := 1) (lf := fun v166 => [(11, v166), (4, p4), (6, p6), (7, p7), (9, p9), (10, p10)]) (ll' := []) (lr' := [(0, p0)]) E dX10_read_166 5 rfl (by decide) (by decide) (fun _ => rfl) rfl rfl (fun v166 => ?_)
        refine r_goto (pc := 169) (tgt := 130) E dX10_read_169 (by decide) ?_
        exact r_sub [1, 2, 3, 4, 5, 0] [] [0] rfl rfl rfl (hk130 ((p0, p4, p6, p7, p9, p10, v166)) _)
  have hL86 : ∀ (p0 : Option Nat) (p4 : Int32) (p6 : Int32) (p7 : Int32) (p8 : Int32) (p9 : Int32) (M : Mem), RT p l e rmX10_read s m args below meth c x 12 (QM below args s x (fun v : Int32 => some (.int v)) rmX10_read.cells rmX10_read.slots) 0 0 (fX10_read_L86 p0 p4 p6 p7 p8 p9 M) 86 [(4, p4), (6, p6), (7, p7), (8, p8), (9, p9)] [] [(0, p0)] [] M := by
    intro p0 p4 p6 p7 p8 p9 M
    refine r_lp (fi := fun a : Option Nat × Int32 × Int32 × Int32 × Int32 × Int32 => [(4, a.2.1), (6, a.2.2.1), (7, a.2.2.2.1), (8, a.2.2.2.2.1), (9, a.2.2.2.2.2)]) (fl := fun a : Option Nat × Int32 × Int32 × Int32 × Int32 × Int32 => []) (fr := fun a : Option Nat × Int32 × Int32 × Int32 × Int32 × Int32 => [(0, a.1)]) (fs := fun a : Option Nat × Int32 × Int32 × Int32 × Int32 × Int32 => []) ?_ FU ((p0, p4, p6, p7, p8, p9)) M
    intro k86 hk86 a M
    obtain ⟨p0, p4, p6, p7, p8, p9⟩ := a
    show RT p l e rmX10_read s m args below meth c x 12 (QM below args s x (fun v : Int32 => some (.int v)) rmX10_read.cells rmX10_read.slots) 0 0 (fX10_read_B86 k86 p0 p4 p6 p7 p8 p9 M) 86 [(4, p4), (6, p6), (7, p7), (8, p8), (9, p9)] [] [(0, p0)] [] M
    unfold fX10_read_B86
    refine r_iload (pc := 86) E dX10_read_86 4 rfl ?_
    refine r_sipush (pc := 88) (v := 8000) E dX10_read_88 (by decide) ?_
    refine r_icmp_ge (pc := 91) (tgt := 245) E dX10_read_91 (by decide) ?_ ?_
    · exact r_sub [1, 2] [] [0] rfl rfl rfl (hL245 p0 p6 p7 _)
    · refine r_iload (pc := 94) E dX10_read_94 2 rfl ?_
      refine r_if_le (pc := 96) (tgt := 245) E dX10_read_96 (by decide) ?_ ?_
      · exact r_sub [1, 2] [] [0] rfl rfl rfl (hL245 p0 p6 p7 _)
      · refine r_aload_n (pc := 99) E dX10_read_99 rfl 0 rfl ?_
        refine r_getI (pc := 100) E fd_10_4 wf_RX10_40 dX10_read_100 (fun v100 => ?_)
        refine r_iload (pc := 103) E dX10_read_103 0 rfl ?_
        refine r_icmp_gt (pc := 105) (tgt := 245) E dX10_read_105 (by decide) ?_ ?_
        · exact r_sub [1, 2] [] [0] rfl rfl rfl (hL245 p0 p6 p7 _)
        · refine r_aload_n (pc := 108) E dX10_read_108 rfl 0 rfl ?_
          refine r_getZ (pc := 109) E fd_10_8 wf_RX10_71 dX10_read_109 (fun v109 => ?_)
          refine r_if_ne (pc := 112) (tgt := 245) E dX10_read_112 (by decide) ?_ ?_
          · exact r_sub [1, 2] [] [0] rfl rfl rfl (hL245 p0 p6 p7 _)
          · refine r_iload (pc := 115) E dX10_read_115 3 rfl ?_
            refine r_if_eq (pc := 117) (tgt := 188) E dX10_read_117 (by decide) ?_ ?_
            · refine r_aload_n (pc := 188) E dX10_read_188 rfl 0 rfl ?_
              refine r_iload (pc := 189) E dX10_read_189 2 rfl ?_
              refine r_kVi (pc := 191) (As := [.int p7]) (rest := []) E wc_X10_takeCount wi_RX10 hd_X10_takeCount (ci := 10) rfl wl_RX10_79 wn_X10_takeCount ws_X10_takeCount dX10_read_191 (by decide) (Nat.le_of_ble_eq_true rfl) ⟨rfl, rfl⟩ (ctX10_takeCount l x _ _ _) rfl (fun v191 M191 => ?_)
              refine r_istore (pc := 194) (lf := fun v194 => [(10, v194), (4, p4), (6, p6), (7, p7), (8, p8), (9, p9)]) (lg := fun v194 => []) (lk := fun v194 => [(0, p0)]) E dX10_read_194 (by decide) (fun _ => rfl) (fun _ => rfl) (fun _ => rfl) (fun v194 => ?_)
              refine r_aload_n (pc := 196) E dX10_read_196 rfl 0 rfl ?_
              refine r_getA (pc := 197) E fd_10_2 wf_RX10_15 dX10_read_197 (fun v197 => ?_)
              refine r_aload_n (pc := 200) E dX10_read_200 rfl 0 rfl ?_
              refine r_getI (pc := 201) E fd_10_4 wf_RX10_40 dX10_read_201 (fun v201 => ?_)
              refine r_iload (pc := 204) E dX10_read_204 0 rfl ?_
              refine r_iastore (pc := 206) E dX10_read_206 (fun M206 => ?_)
              refine r_aload_n (pc := 207) E dX10_read_207 rfl 0 rfl ?_
              refine r_dup (pc := 208) E dX10_read_208 (rv_cat _ _) ?_
              refine r_getI (pc := 209) E fd_10_4 wf_RX10_40 dX10_read_209 (fun v209 => ?_)
              refine r_iconst (pc := 212) (v := 1) E dX10_read_212 (by decide) ?_
              refine r_iadd (pc := 213) E dX10_read_213 ?_
              refine r_putI (pc := 214) E fd_10_4 wf_RX10_40 dX10_read_214 (Or.inl rfl) (fun M214 => ?_)
              refine r_iload (pc := 217) E dX10_read_217 3 rfl ?_
              refine r_iload (pc := 219) E dX10_read_219 0 rfl ?_
              refine r_mabs (pc := 221) E wl_RX10_82 wm_sabs wi_math wm_cabs dX10_read_221 (by decide) (Nat.le_of_ble_eq_true rfl) ?_
              refine r_isub (pc := 224) E dX10_read_224 ?_
              refine r_istore (pc := 225) (lf := fun v225 => [(7, v225), (10, v194), (4, p4), (6, p6), (8, p8), (9, p9)]) (lg := fun v225 => []) (lk := fun v225 => [(0, p0)]) E dX10_read_225 (by decide) (fun _ => rfl) (fun _ => rfl) (fun _ => rfl) (fun v225 => ?_)
              refine r_iload (pc := 227) E dX10_read_227 1 rfl ?_
              refine r_if_ne (pc := 229) (tgt := 236) E dX10_read_229 (by decide) ?_ ?_
              · refine r_iconst (pc := 236) (v := 0) E dX10_read_236 (by decide) ?_
                exact r_sub [2, 3, 0, 5] [] [0] rfl rfl rfl (hL237 k86 hk86 p0 p4 p6 v225 p9 0 _)
              · refine r_iconst (pc := 232) (v := 1) E dX10_read_232 (by decide) ?_
                refine r_goto (pc := 233) (tgt := 237) E dX10_read_233 (by decide) ?_
                exact r_sub [2, 3, 0, 5] [] [0] rfl rfl rfl (hL237 k86 hk86 p0 p4 p6 v225 p9 1 _)
            · refine r_aload_n (pc := 120) E dX10_read_120 rfl 0 rfl ?_
              refine r_iconst (pc := 121) (v := 2) E dX10_read_121 (by decide) ?_
              refine r_kVi (pc := 122) (As := [.int 2]) (rest := []) E wc_X10_takeBits wi_RX10 hd_X10_takeBits (ci := 10) rfl wl_RX10_75 wn_X10_takeBits ws_X10_takeBits dX10_read_122 (by decide) (Nat.le_of_ble_eq_true rfl) ⟨rfl, rfl⟩ (ctX10_takeBits l x _ _ _) rfl (fun v122 M122 => ?_)
              refine r_istore (pc := 125) (lf := fun v125 => [(10, v125), (4, p4), (6, p6), (7, p7), (8, p8), (9, p9)]) (lg := fun v125 => []) (lk := fun v125 => [(0, p0)]) E dX10_read_125 (by decide) (fun _ => rfl) (fun _ => rfl) (fun _ => rfl) (fun v125 => ?_)
              refine r_iconst (pc := 127) (v := 0) E dX10_read_127 (by decide) ?_
              refine r_istore (pc := 128) (lf := fun v128 => [(11, v128), (10, v125), (4, p4), (6, p6), (7, p7), (8, p8), (9, p9)]) (lg := fun v128 => []) (lk := fun v128 => [(0, p0)]) E dX10_read_128 (by decide) (fun _ => rfl) (fun _ => rfl) (fun _ => rfl) (fun v128 => ?_)
              exact r_sub [2, 3, 4, 6, 1, 0] [] [0] rfl rfl rfl (hL130 k86 hk86 p0 p4 p6 p7 p9 v125 v128 _)
  show RT p l e rmX10_read s m args below meth c x 12 (QM below args s x (fun v : Int32 => some (.int v)) rmX10_read.cells rmX10_read.slots) 0 0 (fX10_read a0 a1 a2 a3 a4 a5 M) 0 [(2, a2), (3, a3), (4, a4), (5, a5)] [] [(0, a0), (1, a1)] [] M
  unfold fX10_read
  refine r_aload_n (pc := 0) E dX10_read_0 rfl 0 rfl ?_
  refine r_aload_n (pc := 1) E dX10_read_1 rfl 1 rfl ?_
  refine r_getA (pc := 2) E fd_8_0 wf_RX10_60 dX10_read_2 (fun v2 => ?_)
  refine r_putA (pc := 5) E fd_10_5 wf_RX10_21 dX10_read_5 (Or.inl rfl) (fun M5 => ?_)
  refine r_aload_n (pc := 8) E dX10_read_8 rfl 0 rfl ?_
  refine r_bipush (pc := 9) (v := 8) E dX10_read_9 (by decide) ?_
  refine r_iload_n (pc := 11) E dX10_read_11 rfl 0 rfl ?_
  refine r_imul (pc := 12) E dX10_read_12 ?_
  refine r_putI (pc := 13) E fd_10_6 wf_RX10_65 dX10_read_13 (Or.inl rfl) (fun M13 => ?_)
  refine r_aload_n (pc := 16) E dX10_read_16 rfl 0 rfl ?_
  refine r_bipush (pc := 17) (v := 8) E dX10_read_17 (by decide) ?_
  refine r_iload_n (pc := 19) E dX10_read_19 rfl 1 rfl ?_
  refine r_imul (pc := 20) E dX10_read_20 ?_
  refine r_putI (pc := 21) E fd_10_7 wf_RX10_68 dX10_read_21 (Or.inl rfl) (fun M21 => ?_)
  refine r_aload_n (pc := 24) E dX10_read_24 rfl 0 rfl ?_
  refine r_iconst (pc := 25) (v := 0) E dX10_read_25 (by decide) ?_
  refine r_putZ (pc := 26) E fd_10_8 wf_RX10_71 dX10_read_26 (Or.inl rfl) (fun M26 => ?_)
  refine r_aload_n (pc := 29) E dX10_read_29 rfl 0 rfl ?_
  refine r_iconst (pc := 30) (v := 0) E dX10_read_30 (by decide) ?_
  refine r_putI (pc := 31) E fd_10_4 wf_RX10_40 dX10_read_31 (Or.inl rfl) (fun M31 => ?_)
  refine r_iconst (pc := 34) (v := 5) E dX10_read_34 (by decide) ?_
  refine r_aload_n (pc := 35) E dX10_read_35 rfl 0 rfl ?_
  refine r_iconst (pc := 36) (v := 4) E dX10_read_36 (by decide) ?_
  refine r_kVi (pc := 37) (As := [.int 4]) (rest := [.int 5]) E wc_X10_takeBits wi_RX10 hd_X10_takeBits (ci := 10) rfl wl_RX10_75 wn_X10_takeBits ws_X10_takeBits dX10_read_37 (by decide) (Nat.le_of_ble_eq_true rfl) ⟨rfl, rfl⟩ (ctX10_takeBits l x _ _ _) rfl (fun v37 M37 => ?_)
  refine r_iadd (pc := 40) E dX10_read_40 ?_
  refine r_istore (pc := 41) (lf := fun v41 => [(6, v41), (2, a2), (3, a3), (4, a4), (5, a5)]) (lg := fun v41 => []) (lk := fun v41 => [(0, a0), (1, a1)]) E dX10_read_41 (by decide) (fun _ => rfl) (fun _ => rfl) (fun _ => rfl) (fun v41 => ?_)
  refine r_aload_n (pc := 43) E dX10_read_43 rfl 0 rfl ?_
  refine r_getZ (pc := 44) E fd_10_8 wf_RX10_71 dX10_read_44 (fun v44 => ?_)
  refine r_if_ne (pc := 47) (tgt := 72) E dX10_read_47 (by decide) ?_ ?_
  · exact r_sub [] [] [] rfl rfl rfl (hL72 _)
  · refine r_iload (pc := 50) E dX10_read_50 0 rfl ?_
    refine r_iload (pc := 52) E dX10_read_52 4 rfl ?_
    refine r_icmp_gt (pc := 54) (tgt := 72) E dX10_read_54 (by decide) ?_ ?_
    · exact r_sub [] [] [] rfl rfl rfl (hL72 _)
    · refine r_iload (pc := 57) E dX10_read_57 0 rfl ?_
      refine r_bipush (pc := 59) (v := 9) E dX10_read_59 (by decide) ?_
      refine r_icmp_gt (pc := 61) (tgt := 72) E dX10_read_61 (by decide) ?_ ?_
      · exact r_sub [] [] [] rfl rfl rfl (hL72 _)
      · refine r_iload (pc := 64) E dX10_read_64 3 rfl ?_
        refine r_sipush (pc := 66) (v := 256) E dX10_read_66 (by decide) ?_
        refine r_icmp_lt (pc := 69) (tgt := 74) E dX10_read_69 (by decide) ?_ ?_
        · refine r_iconst (pc := 74) (v := 1) E dX10_read_74 (by decide) ?_
          refine r_iload (pc := 75) E dX10_read_75 0 rfl ?_
          refine r_ishl (pc := 77) E dX10_read_77 ?_
          refine r_istore (pc := 78) (lf := fun v78 => [(7, v78), (6, v41), (2, a2), (3, a3), (4, a4), (5, a5)]) (lg := fun v78 => []) (lk := fun v78 => [(0, a0), (1, a1)]) E dX10_read_78 (by decide) (fun _ => rfl) (fun _ => rfl) (fun _ => rfl) (fun v78 => ?_)
          refine r_iconst (pc := 80) (v := 0) E dX10_read_80 (by decide) ?_
          refine r_istore (pc := 81) (lf := fun v81 => [(8, v81), (7, v78), (6, v41), (2, a2), (3, a3), (4, a4), (5, a5)]) (lg := fun v81 => []) (lk := fun v81 => [(0, a0), (1, a1)]) E dX10_read_81 (by decide) (fun _ => rfl) (fun _ => rfl) (fun _ => rfl) (fun v81 => ?_)
          refine r_iconst (pc := 83) (v := 0) E dX10_read_83 (by decide) ?_
          refine r_istore (pc := 84) (lf := fun v84 => [(9, v84), (8, v81), (7, v78), (6, v41), (2, a2), (3, a3), (4, a4), (5, a5)]) (lg := fun v84 => []) (lk := fun v84 => [(0, a0), (1, a1)]) E dX10_read_84 (by decide) (fun _ => rfl) (fun _ => rfl) (fun _ => rfl) (fun v84 => ?_)
          exact r_sub [6, 3, 2, 1, 0] [] [0] rfl rfl rfl (hL86 a0 a4 v41 v78 v81 v84 _)
        · exact r_sub [] [] [] rfl rfl rfl (hL72 _)
def fX10_bitsAt_L28 (q0 : Int32) (M : Mem) : Option (Int32 × Mem) :=
  some (q0, M)
def fX10_bitsAt_L27 (M : Mem) : Option (Int32 × Mem) :=
  fX10_bitsAt_L28 0 M
def fX10_bitsAt (a0 : Option Nat) (a1 : Int32) (M : Mem) : Option (Int32 × Mem) :=
  if a1 < 0 then (
    fX10_bitsAt_L27 M
  ) else (
    if 512 ≤ a1 then (
      fX10_bitsAt_L27 M
    ) else (
      bo (gR M a0 10 1) fun v12 =>
      bo (aI M v12 15 a1) fun v16 =>
      fX10_bitsAt_L28 ((shrI v16 8) &&& 255) M
    )
  )
def rmX10_bitsAt : Room := { frames := 0, cells := 0, slots := 0, locals := 0 }
set_option maxRecDepth 100000 in
set_option maxHeartbeats 4000000 in
theorem ctX10_bitsAt (l : Launch) (x : Cx) (a0 : Option Nat) (a1 : Int32) (M : Mem) (v : Int32) (N : Mem) (h : fX10_bitsAt a0 a1 M = some (v, N)) : CT l yX10_bitsAt cX10_bitsAt 2 (some (FieldType.int)) rmX10_bitsAt x [rv x a0, .int a1] M (some (.int v)) N := by
  refine ct_mk (enc := fun v : Int32 => some (.int v)) (li := [(1, a1)]) (ll := []) (lr := [(0, a0)]) (by decide +kernel) (by simp [lg_sl, rv_cat, cat_int, cat_long]) (by simp [flat, lv_args, rv_cat, cat_int, cat_long]) h ?_
  intro p e s m args below meth c E
  have hL28 : ∀ (q0 : Int32) (M : Mem), RT p l e rmX10_bitsAt s m args below meth c x 2 (QM below args s x (fun v : Int32 => some (.int v)) rmX10_bitsAt.cells rmX10_bitsAt.slots) 0 0 (fX10_bitsAt_L28 q0 M) 28 [] [] [] [.int q0] M := by
    intro q0 M
    unfold fX10_bitsAt_L28
    exact e_int (pc := 28) E dX10_bitsAt_28
  have hL27 : ∀ (M : Mem), RT p l e rmX10_bitsAt s m args below meth c x 2 (QM below args s x (fun v : Int32 => some (.int v)) rmX10_bitsAt.cells rmX10_bitsAt.slots) 0 0 (fX10_bitsAt_L27 M) 27 [] [] [] [] M := by
    intro M
    unfold fX10_bitsAt_L27
    refine r_iconst (pc := 27) (v := 0) E dX10_bitsAt_27 (by decide) ?_
    exact r_sub [] [] [] rfl rfl rfl (hL28 0 _)
  show RT p l e rmX10_bitsAt s m args below meth c x 2 (QM below args s x (fun v : Int32 => some (.int v)) rmX10_bitsAt.cells rmX10_bitsAt.slots) 0 0 (fX10_bitsAt a0 a1 M) 0 [(1, a1)] [] [(0, a0)] [] M
  unfold fX10_bitsAt
  refine r_iload_n (pc := 0) E dX10_bitsAt_0 rfl 0 rfl ?_
  refine r_if_lt (pc := 1) (tgt := 27) E dX10_bitsAt_1 (by decide) ?_ ?_
  · exact r_sub [] [] [] rfl rfl rfl (hL27 _)
  · refine r_iload_n (pc := 4) E dX10_bitsAt_4 rfl 0 rfl ?_
    refine r_sipush (pc := 5) (v := 512) E dX10_bitsAt_5 (by decide) ?_
    refine r_icmp_ge (pc := 8) (tgt := 27) E dX10_bitsAt_8 (by decide) ?_ ?_
    · exact r_sub [] [] [] rfl rfl rfl (hL27 _)
    · refine r_aload_n (pc := 11) E dX10_bitsAt_11 rfl 0 rfl ?_
      refine r_getA (pc := 12) E fd_10_1 wf_RX10_9 dX10_bitsAt_12 (fun v12 => ?_)
      refine r_iload_n (pc := 15) E dX10_bitsAt_15 rfl 0 rfl ?_
      refine r_iaload (pc := 16) E dX10_bitsAt_16 (fun v16 => ?_)
      refine r_bipush (pc := 17) (v := 8) E dX10_bitsAt_17 (by decide) ?_
      refine r_ishr (pc := 19) E dX10_bitsAt_19 ?_
      refine r_sipush (pc := 20) (v := 255) E dX10_bitsAt_20 (by decide) ?_
      refine r_iand (pc := 23) E dX10_bitsAt_23 ?_
      refine r_goto (pc := 24) (tgt := 28) E dX10_bitsAt_24 (by decide) ?_
      exact r_sub [] [] [] rfl rfl rfl (hL28 ((shrI v16 8) &&& 255) _)
def fX11_endWith (a0 : Option Nat) (a1 : Int32) (M : Mem) : Option (Int32 × Mem) :=
  bo (gR M a0 11 0) fun v1 =>
  bo (gI M a0 11 1) fun v5 =>
  bo (wI M v1 (minI v5 255) a1) fun M15 =>
  bo (gI M15 a0 11 1) fun v18 =>
  bo (pI M15 a0 11 1 (v18 + 1)) fun M23 =>
  rtZ 1 M23
def rmX11_endWith : Room := { frames := 1, cells := 0, slots := 0, locals := 23 }
set_option maxRecDepth 100000 in
set_option maxHeartbeats 4000000 in
theorem ctX11_endWith (l : Launch) (x : Cx) (a0 : Option Nat) (a1 : Int32) (M : Mem) (v : Int32) (N : Mem) (h : fX11_endWith a0 a1 M = some (v, N)) : CT l yX11_endWith cX11_endWith 2 (some (FieldType.boolean)) rmX11_endWith x [rv x a0, .int a1] M (some (.int v)) N := by
  refine ct_mk (enc := fun v : Int32 => some (.int v)) (li := [(1, a1)]) (ll := []) (lr := [(0, a0)]) (by decide +kernel) (by simp [lg_sl, rv_cat, cat_int, cat_long]) (by simp [flat, lv_args, rv_cat, cat_int, cat_long]) h ?_
  intro p e s m args below meth c E
  show RT p l e rmX11_endWith s m args below meth c x 2 (QM below args s x (fun v : Int32 => some (.int v)) rmX11_endWith.cells rmX11_endWith.slots) 0 0 (fX11_endWith a0 a1 M) 0 [(1, a1)] [] [(0, a0)] [] M
  unfold fX11_endWith
  refine r_aload_n (pc := 0) E dX11_endWith_0 rfl 0 rfl ?_
  refine r_getA (pc := 1) E fd_11_0 wf_RX11_9 dX11_endWith_1 (fun v1 => ?_)
  refine r_aload_n (pc := 4) E dX11_endWith_4 rfl 0 rfl ?_
  refine r_getI (pc := 5) E fd_11_1 wf_RX11_69 dX11_endWith_5 (fun v5 => ?_)
  refine r_sipush (pc := 8) (v := 255) E dX11_endWith_8 (by decide) ?_
  refine r_mmin (pc := 11) E wl_RX11_63 wm_smin wi_math wm_cmin dX11_endWith_11 (by decide) (Nat.le_of_ble_eq_true rfl) ?_
  refine r_iload_n (pc := 14) E dX11_endWith_14 rfl 0 rfl ?_
  refine r_iastore (pc := 15) E dX11_endWith_15 (fun M15 => ?_)
  refine r_aload_n (pc := 16) E dX11_endWith_16 rfl 0 rfl ?_
  refine r_dup (pc := 17) E dX11_endWith_17 (rv_cat _ _) ?_
  refine r_getI (pc := 18) E fd_11_1 wf_RX11_69 dX11_endWith_18 (fun v18 => ?_)
  refine r_iconst (pc := 21) (v := 1) E dX11_endWith_21 (by decide) ?_
  refine r_iadd (pc := 22) E dX11_endWith_22 ?_
  refine r_putI (pc := 23) E fd_11_1 wf_RX11_69 dX11_endWith_23 (Or.inl rfl) (fun M23 => ?_)
  refine r_iconst (pc := 26) (v := 1) E dX11_endWith_26 (by decide) ?_
  exact e_bool (pc := 27) E dX11_endWith_27
def fX10_baseAt_L24 (q0 : Int32) (M : Mem) : Option (Int32 × Mem) :=
  some (q0, M)
def fX10_baseAt_L23 (M : Mem) : Option (Int32 × Mem) :=
  fX10_baseAt_L24 0 M
def fX10_baseAt (a0 : Option Nat) (a1 : Int32) (M : Mem) : Option (Int32 × Mem) :=
  if a1 < 0 then (
    fX10_baseAt_L23 M
  ) else (
    if 512 ≤ a1 then (
      fX10_baseAt_L23 M
    ) else (
      bo (gR M a0 10 1) fun v12 =>
      bo (aI M v12 15 a1) fun v16 =>
      fX10_baseAt_L24 (shrI v16 16) M
    )
  )
def rmX10_baseAt : Room := { frames := 0, cells := 0, slots := 0, locals := 0 }
set_option maxRecDepth 100000 in
set_option maxHeartbeats 4000000 in
theorem ctX10_baseAt (l : Launch) (x : Cx) (a0 : Option Nat) (a1 : Int32) (M : Mem) (v : Int32) (N : Mem) (h : fX10_baseAt a0 a1 M = some (v, N)) : CT l yX10_baseAt cX10_baseAt 2 (some (FieldType.int)) rmX10_baseAt x [rv x a0, .int a1] M (some (.int v)) N := by
  refine ct_mk (enc := fun v : Int32 => some (.int v)) (li := [(1, a1)]) (ll := []) (lr := [(0, a0)]) (by decide +kernel) (by simp [lg_sl, rv_cat, cat_int, cat_long]) (by simp [flat, lv_args, rv_cat, cat_int, cat_long]) h ?_
  intro p e s m args below meth c E
  have hL24 : ∀ (q0 : Int32) (M : Mem), RT p l e rmX10_baseAt s m args below meth c x 2 (QM below args s x (fun v : Int32 => some (.int v)) rmX10_baseAt.cells rmX10_baseAt.slots) 0 0 (fX10_baseAt_L24 q0 M) 24 [] [] [] [.int q0] M := by
    intro q0 M
    unfold fX10_baseAt_L24
    exact e_int (pc := 24) E dX10_baseAt_24
  have hL23 : ∀ (M : Mem), RT p l e rmX10_baseAt s m args below meth c x 2 (QM below args s x (fun v : Int32 => some (.int v)) rmX10_baseAt.cells rmX10_baseAt.slots) 0 0 (fX10_baseAt_L23 M) 23 [] [] [] [] M := by
    intro M
    unfold fX10_baseAt_L23
    refine r_iconst (pc := 23) (v := 0) E dX10_baseAt_23 (by decide) ?_
    exact r_sub [] [] [] rfl rfl rfl (hL24 0 _)
  show RT p l e rmX10_baseAt s m args below meth c x 2 (QM below args s x (fun v : Int32 => some (.int v)) rmX10_baseAt.cells rmX10_baseAt.slots) 0 0 (fX10_baseAt a0 a1 M) 0 [(1, a1)] [] [(0, a0)] [] M
  unfold fX10_baseAt
  refine r_iload_n (pc := 0) E dX10_baseAt_0 rfl 0 rfl ?_
  refine r_if_lt (pc := 1) (tgt := 23) E dX10_baseAt_1 (by decide) ?_ ?_
  · exact r_sub [] [] [] rfl rfl rfl (hL23 _)
  · refine r_iload_n (pc := 4) E dX10_baseAt_4 rfl 0 rfl ?_
    refine r_sipush (pc := 5) (v := 512) E dX10_baseAt_5 (by decide) ?_
    refine r_icmp_ge (pc := 8) (tgt := 23) E dX10_baseAt_8 (by decide) ?_ ?_
    · exact r_sub [] [] [] rfl rfl rfl (hL23 _)
    · refine r_aload_n (pc := 11) E dX10_baseAt_11 rfl 0 rfl ?_
      refine r_getA (pc := 12) E fd_10_1 wf_RX10_9 dX10_baseAt_12 (fun v12 => ?_)
      refine r_iload_n (pc := 15) E dX10_baseAt_15 rfl 0 rfl ?_
      refine r_iaload (pc := 16) E dX10_baseAt_16 (fun v16 => ?_)
      refine r_bipush (pc := 17) (v := 16) E dX10_baseAt_17 (by decide) ?_
      refine r_ishr (pc := 19) E dX10_baseAt_19 ?_
      refine r_goto (pc := 20) (tgt := 24) E dX10_baseAt_20 (by decide) ?_
      exact r_sub [] [] [] rfl rfl rfl (hL24 (shrI v16 16) _)
def fX11_readInTurn_B46 (k46 : Option Nat × Int32 × Int32 × Int32 → Mem → Option (Int32 × Mem)) (p0 : Option Nat) (p1 : Int32) (p2 : Int32) (p3 : Int32) (M : Mem) : Option (Int32 × Mem) :=
  if 254 ≤ p3 then (
    rtZ 0 M
  ) else (
    bo (gR M p0 11 0) fun v54 =>
    bo (gR M p0 11 3) fun v59 =>
    bo (chk M v59 10) fun _ => bd (fX10_symbolAt v59 p1 M) fun v63 M63 =>
    bo (wI M63 v54 p3 v63) fun M66 =>
    bo (pI M66 p0 11 1 (p3 + 1)) fun M71 =>
    bo (gR M71 p0 11 3) fun v75 =>
    bo (chk M71 v75 10) fun _ => bd (fX10_bitsAt v75 p1 M71) fun v79 M79 =>
    bo (gR M79 p0 11 4) fun v83 =>
    bo (gI M79 v83 0 2) fun v86 =>
    if v79 ≤ v86 then (
      bo (gR M79 p0 11 3) fun v106 =>
      bo (chk M79 v106 10) fun _ => bd (fX10_baseAt v106 p1 M79) fun v110 M110 =>
      bo (gR M110 p0 11 4) fun v114 =>
      bo (gR M110 p0 11 3) fun v118 =>
      bo (chk M110 v118 10) fun _ => bd (fX10_bitsAt v118 p1 M110) fun v122 M122 =>
      bo (chk M122 v114 0) fun _ => bd (fX0_take v114 v122 M122) fun v125 M125 =>
      bn (v110 + v125.toInt32) fun v130 =>
      bn (p2) fun v133 =>
      bn (v130) fun v136 =>
      bn (p3 + 1) fun v137 =>
      k46 ((p0, v133, v136, v137)) M125
    ) else (
      bo (gR M79 p0 11 3) fun v94 =>
      bo (chk M79 v94 10) fun _ => bd (fX10_symbolAt v94 p2 M79) fun v98 M98 =>
      bo (chk M98 p0 11) fun _ => bd (fX11_endWith p0 v98 M98) fun v101 M101 =>
      rtZ v101 M101
    )
  )
def fX11_readInTurn_L46 (p0 : Option Nat) (p1 : Int32) (p2 : Int32) (p3 : Int32) (M : Mem) : Option (Int32 × Mem) :=
  lp (fun k46 (a : Option Nat × Int32 × Int32 × Int32) M => fX11_readInTurn_B46 k46 a.1 a.2.1 a.2.2.1 a.2.2.2 M) FU ((p0, p1, p2, p3)) M
def fX11_readInTurn (a0 : Option Nat) (M : Mem) : Option (Int32 × Mem) :=
  bo (gR M a0 11 4) fun v1 =>
  bo (gR M a0 11 3) fun v5 =>
  bo (gI M v5 10 0) fun v8 =>
  bo (chk M v1 0) fun _ => bd (fX0_take v1 v8 M) fun v11 M11 =>
  bn (v11.toInt32) fun v15 =>
  bo (gR M11 a0 11 4) fun v17 =>
  bo (gR M11 a0 11 3) fun v21 =>
  bo (gI M11 v21 10 0) fun v24 =>
  bo (chk M11 v17 0) fun _ => bd (fX0_take v17 v24 M11) fun v27 M27 =>
  bn (v27.toInt32) fun v31 =>
  bo (gR M27 a0 11 4) fun v33 =>
  bo (gI M27 v33 0 3) fun v36 =>
  if v36 = 0 then (
    bn (0) fun v45 =>
    fX11_readInTurn_L46 a0 v15 v31 v45 M27
  ) else (
    rtZ 0 M27
  )
def rmX11_readInTurn : Room := { frames := 2, cells := 0, slots := 0, locals := 47 }
set_option maxRecDepth 100000 in
set_option maxHeartbeats 4000000 in
theorem ctX11_readInTurn (l : Launch) (x : Cx) (a0 : Option Nat) (M : Mem) (v : Int32) (N : Mem) (h : fX11_readInTurn a0 M = some (v, N)) : CT l yX11_readInTurn cX11_readInTurn 5 (some (FieldType.boolean)) rmX11_readInTurn x [rv x a0] M (some (.int v)) N := by
  refine ct_mk (enc := fun v : Int32 => some (.int v)) (li := []) (ll := []) (lr := [(0, a0)]) (by decide +kernel) (by simp [lg_sl, rv_cat, cat_int, cat_long]) (by simp [flat, lv_args, rv_cat, cat_int, cat_long]) h ?_
  intro p e s m args below meth c E
  have hL46 : ∀ (p0 : Option Nat) (p1 : Int32) (p2 : Int32) (p3 : Int32) (M : Mem), RT p l e rmX11_readInTurn s m args below meth c x 5 (QM below args s x (fun v : Int32 => some (.int v)) rmX11_readInTurn.cells rmX11_readInTurn.slots) 0 0 (fX11_readInTurn_L46 p0 p1 p2 p3 M) 46 [(1, p1), (2, p2), (3, p3)] [] [(0, p0)] [] M := by
    intro p0 p1 p2 p3 M
    refine r_lp (fi := fun a : Option Nat × Int32 × Int32 × Int32 => [(1, a.2.1), (2, a.2.2.1), (3, a.2.2.2)]) (fl := fun a : Option Nat × Int32 × Int32 × Int32 => []) (fr := fun a : Option Nat × Int32 × Int32 × Int32 => [(0, a.1)]) (fs := fun a : Option Nat × Int32 × Int32 × Int32 => []) ?_ FU ((p0, p1, p2, p3)) M
    intro k46 hk46 a M
    obtain ⟨p0, p1, p2, p3⟩ := a
    show RT p l e rmX11_readInTurn s m args below meth c x 5 (QM below args s x (fun v : Int32 => some (.int v)) rmX11_readInTurn.cells rmX11_readInTurn.slots) 0 0 (fX11_readInTurn_B46 k46 p0 p1 p2 p3 M) 46 [(1, p1), (2, p2), (3, p3)] [] [(0, p0)] [] M
    unfold fX11_readInTurn_B46
    refine r_iload_n (pc := 46) E dX11_readInTurn_46 rfl 2 rfl ?_
    refine r_sipush (pc := 47) (v := 254) E dX11_readInTurn_47 (by decide) ?_
    refine r_icmp_ge (pc := 50) (tgt := 143) E dX11_readInTurn_50 (by decide) ?_ ?_
    · refine r_iconst (pc := 143) (v := 0) E dX11_readInTurn_143 (by decide) ?_
      exact e_bool (pc := 144) E dX11_readInTurn_144
    · refine r_aload_n (pc := 53) E dX11_readInTurn_53 rfl 0 rfl ?_
      refine r_getA (pc := 54) E fd_11_0 wf_RX11_9 dX11_readInTurn_54 (fun v54 => ?_)
      refine r_iload_n (pc := 57) E dX11_readInTurn_57 rfl 2 rfl ?_
      refine r_aload_n (pc := 58) E dX11_readInTurn_58 rfl 0 rfl ?_
      refine r_getR (pc := 59) E fd_11_3 wf_RX11_18 dX11_readInTurn_59 (fun v59 => ?_)
      refine r_iload_n (pc := 62) E dX11_readInTurn_62 rfl 0 rfl ?_
      refine r_kVi (pc := 63) (As := [.int p1]) (rest := [.int p3, rv x v54]) E wc_X10_symbolAt wi_RX10 hd_X10_symbolAt (ci := 10) rfl wl_RX11_84 wn_X10_symbolAt ws_X10_symbolAt dX11_readInTurn_63 (by decide) (Nat.le_of_ble_eq_true rfl) ⟨rfl, rfl⟩ (ctX10_symbolAt l x _ _ _) rfl (fun v63 M63 => ?_)
      refine r_iastore (pc := 66) E dX11_readInTurn_66 (fun M66 => ?_)
      refine r_aload_n (pc := 67) E dX11_readInTurn_67 rfl 0 rfl ?_
      refine r_iload_n (pc := 68) E dX11_readInTurn_68 rfl 2 rfl ?_
      refine r_iconst (pc := 69) (v := 1) E dX11_readInTurn_69 (by decide) ?_
      refine r_iadd (pc := 70) E dX11_readInTurn_70 ?_
      refine r_putI (pc := 71) E fd_11_1 wf_RX11_69 dX11_readInTurn_71 (Or.inl rfl) (fun M71 => ?_)
      refine r_aload_n (pc := 74) E dX11_readInTurn_74 rfl 0 rfl ?_
      refine r_getR (pc := 75) E fd_11_3 wf_RX11_18 dX11_readInTurn_75 (fun v75 => ?_)
      refine r_iload_n (pc := 78) E dX11_readInTurn_78 rfl 0 rfl ?_
      refine r_kVi (pc := 79) (As := [.int p1]) (rest := []) E wc_X10_bitsAt wi_RX10 hd_X10_bitsAt (ci := 10) rfl wl_RX11_87 wn_X10_bitsAt ws_X10_bitsAt dX11_readInTurn_79 (by decide) (Nat.le_of_ble_eq_true rfl) ⟨rfl, rfl⟩ (ctX10_bitsAt l x _ _ _) rfl (fun v79 M79 => ?_)
      refine r_aload_n (pc := 82) E dX11_readInTurn_82 rfl 0 rfl ?_
      refine r_getR (pc := 83) E fd_11_4 wf_RX11_25 dX11_readInTurn_83 (fun v83 => ?_)
      refine r_getI (pc := 86) E fd_0_2 wf_RX11_90 dX11_readInTurn_86 (fun v86 => ?_)
      refine r_icmp_le (pc := 89) (tgt := 105) E dX11_readInTurn_89 (by decide) ?_ ?_
      · refine r_aload_n (pc := 105) E dX11_readInTurn_105 rfl 0 rfl ?_
        refine r_getR (pc := 106) E fd_11_3 wf_RX11_18 dX11_readInTurn_106 (fun v106 => ?_)
        refine r_iload_n (pc := 109) E dX11_readInTurn_109 rfl 0 rfl ?_
        refine r_kVi (pc := 110) (As := [.int p1]) (rest := []) E wc_X10_baseAt wi_RX10 hd_X10_baseAt (ci := 10) rfl wl_RX11_97 wn_X10_baseAt ws_X10_baseAt dX11_readInTurn_110 (by decide) (Nat.le_of_ble_eq_true rfl) ⟨rfl, rfl⟩ (ctX10_baseAt l x _ _ _) rfl (fun v110 M110 => ?_)
        refine r_aload_n (pc := 113) E dX11_readInTurn_113 rfl 0 rfl ?_
        refine r_getR (pc := 114) E fd_11_4 wf_RX11_25 dX11_readInTurn_114 (fun v114 => ?_)
        refine r_aload_n (pc := 117) E dX11_readInTurn_117 rfl 0 rfl ?_
        refine r_getR (pc := 118) E fd_11_3 wf_RX11_18 dX11_readInTurn_118 (fun v118 => ?_)
        refine r_iload_n (pc := 121) E dX11_readInTurn_121 rfl 0 rfl ?_
        refine r_kVi (pc := 122) (As := [.int p1]) (rest := [rv x v114, .int v110]) E wc_X10_bitsAt wi_RX10 hd_X10_bitsAt (ci := 10) rfl wl_RX11_87 wn_X10_bitsAt ws_X10_bitsAt dX11_readInTurn_122 (by decide) (Nat.le_of_ble_eq_true rfl) ⟨rfl, rfl⟩ (ctX10_bitsAt l x _ _ _) rfl (fun v122 M122 => ?_)
        refine r_kVl (pc := 125) (As := [.int v122]) (rest := [.int v110]) E wc_X0_take wi_RX0 hd_X0_take (ci := 0) rfl wl_RX11_76 wn_X0_take ws_X0_take dX11_readInTurn_125 (by decide) (Nat.le_of_ble_eq_true rfl) ⟨rfl, rfl⟩ (ctX0_take l x _ _ _) rfl (fun v125 M125 => ?_)
        refine r_l2i (pc := 128) E dX11_readInTurn_128 ?_
        refine r_iadd (pc := 129) E dX11_readInTurn_129 ?_
        refine r_istore (pc := 130) (lf := fun v130 => [(4, v130), (1, p1), (2, p2), (3, p3)]) (lg := fun v130 => []) (lk := fun v130 => [(0, p0)]) E dX11_readInTurn_130 (by decide) (fun _ => rfl) (fun _ => rfl) (fun _ => rfl) (fun v130 => ?_)
        refine r_iload_n (pc := 132) E dX11_readInTurn_132 rfl 2 rfl ?_
        refine r_istore_n (pc := 133) (lf := fun v133 => [(1, v133), (4, v130), (2, p2), (3, p3)]) (lg := fun v133 => []) (lk := fun v133 => [(0, p0)]) E dX11_readInTurn_133 rfl (by decide) (fun _ => rfl) (fun _ => rfl) (fun _ => rfl) (fun v133 => ?_)
        refine r_iload (pc := 134) E dX11_readInTurn_134 1 rfl ?_
        refine r_istore_n (pc := 136) (lf := fun v136 => [(2, v136), (1, v133), (4, v130), (3, p3)]) (lg := fun v136 => []) (lk := fun v136 => [(0, p0)]) E dX11_readInTurn_136 rfl (by decide) (fun _ => rfl) (fun _ => rfl) (fun _ => rfl) (fun v136 => ?_)
        refine r_iinc (pc := 137) (w := 1) (lf := fun v137 => [(3, v137), (2, v136), (1, v133), (4, v130)]) (ll' := []) (lr' := [(0, p0)]) E dX11_readInTurn_137 3 rfl (by decide) (by decide) (fun _ => rfl) rfl rfl (fun v137 => ?_)
        refine r_goto (pc := 140) (tgt := 46) E dX11_readInTurn_140 (by decide) ?_
        exact r_sub [2, 1, 0] [] [0] rfl rfl rfl (hk46 ((p0, v133, v136, v137)) _)
      · refine r_aload_n (pc := 92) E dX11_readInTurn_92 rfl 0 rfl ?_
        refine r_aload_n (pc := 93) E dX11_readInTurn_93 rfl 0 rfl ?_
        refine r_getR (pc := 94) E fd_11_3 wf_RX11_18 dX11_readInTurn_94 (fun v94 => ?_)
        refine r_iload_n (pc := 97) E dX11_readInTurn_97 rfl 1 rfl ?_
        refine r_kVi (pc := 98) (As := [.int p2]) (rest := [rv x p0]) E wc_X10_symbolAt wi_RX10 hd_X10_symbolAt (ci := 10) rfl wl_RX11_84 wn_X10_symbolAt ws_X10_symbolAt dX11_readInTurn_98 (by decide) (Nat.le_of_ble_eq_true rfl) ⟨rfl, rfl⟩ (ctX10_symbolAt l x _ _ _) rfl (fun v98 M98 => ?_)
        refine r_kVi (pc := 101) (As := [.int v98]) (rest := []) E wc_X11_endWith wi_RX11 hd_X11_endWith (ci := 11) rfl wl_RX11_93 wn_X11_endWith ws_X11_endWith dX11_readInTurn_101 (by decide) (Nat.le_of_ble_eq_true rfl) ⟨rfl, rfl⟩ (ctX11_endWith l x _ _ _) rfl (fun v101 M101 => ?_)
        exact e_bool (pc := 104) E dX11_readInTurn_104
  show RT p l e rmX11_readInTurn s m args below meth c x 5 (QM below args s x (fun v : Int32 => some (.int v)) rmX11_readInTurn.cells rmX11_readInTurn.slots) 0 0 (fX11_readInTurn a0 M) 0 [] [] [(0, a0)] [] M
  unfold fX11_readInTurn
  refine r_aload_n (pc := 0) E dX11_readInTurn_0 rfl 0 rfl ?_
  refine r_getR (pc := 1) E fd_11_4 wf_RX11_25 dX11_readInTurn_1 (fun v1 => ?_)
  refine r_aload_n (pc := 4) E dX11_readInTurn_4 rfl 0 rfl ?_
  refine r_getR (pc := 5) E fd_11_3 wf_RX11_18 dX11_readInTurn_5 (fun v5 => ?_)
  refine r_getI (pc := 8) E fd_10_0 wf_RX11_73 dX11_readInTurn_8 (fun v8 => ?_)
  refine r_kVl (pc := 11) (As := [.int v8]) (rest := []) E wc_X0_take wi_RX0 hd_X0_take (ci := 0) rfl wl_RX11_76 wn_X0_take ws_X0_take dX11_readInTurn_11 (by decide) (Nat.le_of_ble_eq_true rfl) ⟨rfl, rfl⟩ (ctX0_take l x _ _ _) rfl (fun v11 M11 => ?_)
  refine r_l2i (pc := 14) E dX11_readInTurn_14 ?_
  refine r_istore_n (pc := 15) (lf := fun v15 => [(1, v15)]) (lg := fun v15 => []) (lk := fun v15 => [(0, a0)]) E dX11_readInTurn_15 rfl (by decide) (fun _ => rfl) (fun _ => rfl) (fun _ => rfl) (fun v15 => ?_)
  refine r_aload_n (pc := 16) E dX11_readInTurn_16 rfl 0 rfl ?_
  refine r_getR (pc := 17) E fd_11_4 wf_RX11_25 dX11_readInTurn_17 (fun v17 => ?_)
  refine r_aload_n (pc := 20) E dX11_readInTurn_20 rfl 0 rfl ?_
  refine r_getR (pc := 21) E fd_11_3 wf_RX11_18 dX11_readInTurn_21 (fun v21 => ?_)
  refine r_getI (pc := 24) E fd_10_0 wf_RX11_73 dX11_readInTurn_24 (fun v24 => ?_)
  refine r_kVl (pc := 27) (As := [.int v24]) (rest := []) E wc_X0_take wi_RX0 hd_X0_take (ci := 0) rfl wl_RX11_76 wn_X0_take ws_X0_take dX11_readInTurn_27 (by decide) (Nat.le_of_ble_eq_true rfl) ⟨rfl, rfl⟩ (ctX0_take l x _ _ _) rfl (fun v27 M27 => ?_)
  refine r_l2i (pc := 30) E dX11_readInTurn_30 ?_
  refine r_istore_n (pc := 31) (lf := fun v31 => [(2, v31), (1, v15)]) (lg := fun v31 => []) (lk := fun v31 => [(0, a0)]) E dX11_readInTurn_31 rfl (by decide) (fun _ => rfl) (fun _ => rfl) (fun _ => rfl) (fun v31 => ?_)
  refine r_aload_n (pc := 32) E dX11_readInTurn_32 rfl 0 rfl ?_
  refine r_getR (pc := 33) E fd_11_4 wf_RX11_25 dX11_readInTurn_33 (fun v33 => ?_)
  refine r_getZ (pc := 36) E fd_0_3 wf_RX11_80 dX11_readInTurn_36 (fun v36 => ?_)
  refine r_if_eq (pc := 39) (tgt := 44) E dX11_readInTurn_39 (by decide) ?_ ?_
  · refine r_iconst (pc := 44) (v := 0) E dX11_readInTurn_44 (by decide) ?_
    refine r_istore_n (pc := 45) (lf := fun v45 => [(3, v45), (2, v31), (1, v15)]) (lg := fun v45 => []) (lk := fun v45 => [(0, a0)]) E dX11_readInTurn_45 rfl (by decide) (fun _ => rfl) (fun _ => rfl) (fun _ => rfl) (fun v45 => ?_)
    exact r_sub [2, 1, 0] [] [0] rfl rfl rfl (hL46 a0 v15 v31 v45 _)
  · refine r_iconst (pc := 42) (v := 0) E dX11_readInTurn_42 (by decide) ?_
    exact e_bool (pc := 43) E dX11_readInTurn_43
def fX11_complete_L98 (M : Mem) : Option (Int32 × Mem) :=
  rtZ 0 M
def fX11_complete_L49 (k4 : Option Nat × Int32 × Int32 → Mem → Option (Int32 × Mem)) (p0 : Option Nat) (p2 : Int32) (q0 : Int32) (q1 : Int32) (M : Mem) : Option (Int32 × Mem) :=
  bn (q0 + q1) fun v50 =>
  bn (p2 + 1) fun v51 =>
  k4 ((p0, v50, v51)) M
def fX11_complete_B4 (k4 : Option Nat × Int32 × Int32 → Mem → Option (Int32 × Mem)) (p0 : Option Nat) (p1 : Int32) (p2 : Int32) (M : Mem) : Option (Int32 × Mem) :=
  bo (gI M p0 11 1) fun v6 =>
  if v6 ≤ p2 then (
    bd (fX12_logOf p1.toInt64 M) fun v60 M60 =>
    bo (pI M60 p0 11 2 (v60 + 1)) fun M65 =>
    bo (gI M65 p0 11 2) fun v70 =>
    bn ((shlI 1 v70) - p1) fun v76 =>
    if p1 = 0 then (
      fX11_complete_L98 M65
    ) else (
      bo (gI M65 p0 11 2) fun v82 =>
      if 11 < v82 then (
        fX11_complete_L98 M65
      ) else (
        if (v76 &&& (v76 - 1)) = 0 then (
          bd (fX12_logOf v76.toInt64 M65) fun v103 M103 =>
          bo (chk M103 p0 11) fun _ => bd (fX11_endWith p0 (v103 + 1) M103) fun v108 M108 =>
          rtZ v108 M108
        ) else (
          fX11_complete_L98 M65
        )
      )
    )
  ) else (
    bo (gR M p0 11 0) fun v13 =>
    bo (aI M v13 15 p2) fun v17 =>
    if v17 ≤ 11 then (
      bo (gR M p0 11 0) fun v27 =>
      bo (aI M v27 15 p2) fun v31 =>
      if v31 = 0 then (
        fX11_complete_L49 k4 p0 p2 p1 0 M
      ) else (
        bo (gR M p0 11 0) fun v41 =>
        bo (aI M v41 15 p2) fun v45 =>
        fX11_complete_L49 k4 p0 p2 p1 (shlI 1 (v45 - 1)) M
      )
    ) else (
      rtZ 0 M
    )
  )
def fX11_complete_L4 (p0 : Option Nat) (p1 : Int32) (p2 : Int32) (M : Mem) : Option (Int32 × Mem) :=
  lp (fun k4 (a : Option Nat × Int32 × Int32) M => fX11_complete_B4 k4 a.1 a.2.1 a.2.2 M) FU ((p0, p1, p2)) M
def fX11_complete (a0 : Option Nat) (M : Mem) : Option (Int32 × Mem) :=
  bn (0) fun v1 =>
  bn (0) fun v3 =>
  fX11_complete_L4 a0 v1 v3 M
def rmX11_complete : Room := { frames := 2, cells := 0, slots := 0, locals := 44 }
set_option maxRecDepth 100000 in
set_option maxHeartbeats 4000000 in
theorem ctX11_complete (l : Launch) (x : Cx) (a0 : Option Nat) (M : Mem) (v : Int32) (N : Mem) (h : fX11_complete a0 M = some (v, N)) : CT l yX11_complete cX11_complete 3 (some (FieldType.boolean)) rmX11_complete x [rv x a0] M (some (.int v)) N := by
  refine ct_mk (enc := fun v : Int32 => some (.int v)) (li := []) (ll := []) (lr := [(0, a0)]) (by decide +kernel) (by simp [lg_sl, rv_cat, cat_int, cat_long]) (by simp [flat, lv_args, rv_cat, cat_int, cat_long]) h ?_
  intro p e s m args below meth c E
  have hL98 : ∀ (M : Mem), RT p l e rmX11_complete s m args below meth c x 3 (QM below args s x (fun v : Int32 => some (.int v)) rmX11_complete.cells rmX11_complete.slots) 0 0 (fX11_complete_L98 M) 98 [] [] [] [] M := by
    intro M
    unfold fX11_complete_L98
    refine r_iconst (pc := 98) (v := 0) E dX11_complete_98 (by decide) ?_
    exact e_bool (pc := 99) E dX11_complete_99
  have hL49 : ∀ (k4 : Option Nat × Int32 × Int32 → Mem → Option (Int32 × Mem)) (hk4 : ∀ a M, RT p l e rmX11_complete s m args below meth c x 3 (QM below args s x (fun v : Int32 => some (.int v)) rmX11_complete.cells rmX11_complete.slots) 0 0 (k4 a M) 4 [(1, a.2.1), (2, a.2.2)] [] [(0, a.1)] [] M) (p0 : Option Nat) (p2 : Int32) (q0 : Int32) (q1 : Int32) (M : Mem), RT p l e rmX11_complete s m args below meth c x 3 (QM below args s x (fun v : Int32 => some (.int v)) rmX11_complete.cells rmX11_complete.slots) 0 0 (fX11_complete_L49 k4 p0 p2 q0 q1 M) 49 [(2, p2)] [] [(0, p0)] [.int q1, .int q0] M := by
    intro k4 hk4 p0 p2 q0 q1 M
    unfold fX11_complete_L49
    refine r_iadd (pc := 49) E dX11_complete_49 ?_
    refine r_istore_n (pc := 50) (lf := fun v50 => [(1, v50), (2, p2)]) (lg := fun v50 => []) (lk := fun v50 => [(0, p0)]) E dX11_complete_50 rfl (by decide) (fun _ => rfl) (fun _ => rfl) (fun _ => rfl) (fun v50 => ?_)
    refine r_iinc (pc := 51) (w := 1) (lf := fun v51 => [(2, v51), (1, v50)]) (ll' := []) (lr' := [(0, p0)]) E dX11_complete_51 1 rfl (by decide) (by decide) (fun _ => rfl) rfl rfl (fun v51 => ?_)
    refine r_goto (pc := 54) (tgt := 4) E dX11_complete_54 (by decide) ?_
    exact r_sub [1, 0] [] [0] rfl rfl rfl (hk4 ((p0, v50, v51)) _)
  have hL4 : ∀ (p0 : Option Nat) (p1 : Int32) (p2 : Int32) (M : Mem), RT p l e rmX11_complete s m args below meth c x 3 (QM below args s x (fun v : Int32 => some (.int v)) rmX11_complete.cells rmX11_complete.slots) 0 0 (fX11_complete_L4 p0 p1 p2 M) 4 [(1, p1), (2, p2)] [] [(0, p0)] [] M := by
    intro p0 p1 p2 M
    refine r_lp (fi := fun a : Option Nat × Int32 × Int32 => [(1, a.2.1), (2, a.2.2)]) (fl := fun a : Option Nat × Int32 × Int32 => []) (fr := fun a : Option Nat × Int32 × Int32 => [(0, a.1)]) (fs := fun a : Option Nat × Int32 × Int32 => []) ?_ FU ((p0, p1, p2)) M
    intro k4 hk4 a M
    obtain ⟨p0, p1, p2⟩ := a
    show RT p l e rmX11_complete s m args below meth c x 3 (QM below args s x (fun v : Int32 => some (.int v)) rmX11_complete.cells rmX11_complete.slots) 0 0 (fX11_complete_B4 k4 p0 p1 p2 M) 4 [(1, p1), (2, p2)] [] [(0, p0)] [] M
    unfold fX11_complete_B4
    refine r_iload_n (pc := 4) E dX11_complete_4 rfl 1 rfl ?_
    refine r_aload_n (pc := 5) E dX11_complete_5 rfl 0 rfl ?_
    refine r_getI (pc := 6) E fd_11_1 wf_RX11_69 dX11_complete_6 (fun v6 => ?_)
    refine r_icmp_ge (pc := 9) (tgt := 57) E dX11_complete_9 (by decide) ?_ ?_
    · refine r_aload_n (pc := 57) E dX11_complete_57 rfl 0 rfl ?_
      refine r_iload_n (pc := 58) E dX11_complete_58 rfl 0 rfl ?_
      refine r_i2l (pc := 59) E dX11_complete_59 ?_
      refine r_kSNi (pc := 60) (As := [.long p1.toInt64]) (rest := [rv x p0]) E wc_X12_logOf wi_RX12 hd_X12_logOf (host := "TabledFrames") (by decide +kernel) wt_X12_logOf dX11_complete_60 (by decide) (Nat.le_of_ble_eq_true rfl) ⟨rfl, rfl⟩ (ctX12_logOf l x _ _) rfl (fun v60 M60 => ?_)
      refine r_iconst (pc := 63) (v := 1) E dX11_complete_63 (by decide) ?_
      refine r_iadd (pc := 64) E dX11_complete_64 ?_
      refine r_putI (pc := 65) E fd_11_2 wf_RX11_104 dX11_complete_65 (Or.inl rfl) (fun M65 => ?_)
      refine r_iconst (pc := 68) (v := 1) E dX11_complete_68 (by decide) ?_
      refine r_aload_n (pc := 69) E dX11_complete_69 rfl 0 rfl ?_
      refine r_getI (pc := 70) E fd_11_2 wf_RX11_104 dX11_complete_70 (fun v70 => ?_)
      refine r_ishl (pc := 73) E dX11_complete_73 ?_
      refine r_iload_n (pc := 74) E dX11_complete_74 rfl 0 rfl ?_
      refine r_isub (pc := 75) E dX11_complete_75 ?_
      refine r_istore_n (pc := 76) (lf := fun v76 => [(2, v76), (1, p1)]) (lg := fun v76 => []) (lk := fun v76 => [(0, p0)]) E dX11_complete_76 rfl (by decide) (fun _ => rfl) (fun _ => rfl) (fun _ => rfl) (fun v76 => ?_)
      refine r_iload_n (pc := 77) E dX11_complete_77 rfl 1 rfl ?_
      refine r_if_eq (pc := 78) (tgt := 98) E dX11_complete_78 (by decide) ?_ ?_
      · exact r_sub [] [] [] rfl rfl rfl (hL98 _)
      · refine r_aload_n (pc := 81) E dX11_complete_81 rfl 0 rfl ?_
        refine r_getI (pc := 82) E fd_11_2 wf_RX11_104 dX11_complete_82 (fun v82 => ?_)
        refine r_bipush (pc := 85) (v := 11) E dX11_complete_85 (by decide) ?_
        refine r_icmp_gt (pc := 87) (tgt := 98) E dX11_complete_87 (by decide) ?_ ?_
        · exact r_sub [] [] [] rfl rfl rfl (hL98 _)
        · refine r_iload_n (pc := 90) E dX11_complete_90 rfl 0 rfl ?_
          refine r_iload_n (pc := 91) E dX11_complete_91 rfl 0 rfl ?_
          refine r_iconst (pc := 92) (v := 1) E dX11_complete_92 (by decide) ?_
          refine r_isub (pc := 93) E dX11_complete_93 ?_
          refine r_iand (pc := 94) E dX11_complete_94 ?_
          refine r_if_eq (pc := 95) (tgt := 100) E dX11_complete_95 (by decide) ?_ ?_
          · refine r_aload_n (pc := 100) E dX11_complete_100 rfl 0 rfl ?_
            refine r_iload_n (pc := 101) E dX11_complete_101 rfl 0 rfl ?_
            refine r_i2l (pc := 102) E dX11_complete_102 ?_
            refine r_kSNi (pc := 103) (As := [.long v76.toInt64]) (rest := [rv x p0]) E wc_X12_logOf wi_RX12 hd_X12_logOf (host := "TabledFrames") (by decide +kernel) wt_X12_logOf dX11_complete_103 (by decide) (Nat.le_of_ble_eq_true rfl) ⟨rfl, rfl⟩ (ctX12_logOf l x _ _) rfl (fun v103 M103 => ?_)
            refine r_iconst (pc := 106) (v := 1) E dX11_complete_106 (by decide) ?_
            refine r_iadd (pc := 107) E dX11_complete_107 ?_
            refine r_kVi (pc := 108) (As := [.int (v103 + 1)]) (rest := []) E wc_X11_endWith wi_RX11 hd_X11_endWith (ci := 11) rfl wl_RX11_93 wn_X11_endWith ws_X11_endWith dX11_complete_108 (by decide) (Nat.le_of_ble_eq_true rfl) ⟨rfl, rfl⟩ (ctX11_endWith l x _ _ _) rfl (fun v108 M108 => ?_)
            exact e_bool (pc := 111) E dX11_complete_111
          · exact r_sub [] [] [] rfl rfl rfl (hL98 _)
    · refine r_aload_n (pc := 12) E dX11_complete_12 rfl 0 rfl ?_
      refine r_getA (pc := 13) E fd_11_0 wf_RX11_9 dX11_complete_13 (fun v13 => ?_)
      refine r_iload_n (pc := 16) E dX11_complete_16 rfl 1 rfl ?_
      refine r_iaload (pc := 17) E dX11_complete_17 (fun v17 => ?_)
      refine r_bipush (pc := 18) (v := 11) E dX11_complete_18 (by decide) ?_
      refine r_icmp_le (pc := 20) (tgt := 25) E dX11_complete_20 (by decide) ?_ ?_
      · refine r_iload_n (pc := 25) E dX11_complete_25 rfl 0 rfl ?_
        refine r_aload_n (pc := 26) E dX11_complete_26 rfl 0 rfl ?_
        refine r_getA (pc := 27) E fd_11_0 wf_RX11_9 dX11_complete_27 (fun v27 => ?_)
        refine r_iload_n (pc := 30) E dX11_complete_30 rfl 1 rfl ?_
        refine r_iaload (pc := 31) E dX11_complete_31 (fun v31 => ?_)
        refine r_if_ne (pc := 32) (tgt := 39) E dX11_complete_32 (by decide) ?_ ?_
        · refine r_iconst (pc := 39) (v := 1) E dX11_complete_39 (by decide) ?_
          refine r_aload_n (pc := 40) E dX11_complete_40 rfl 0 rfl ?_
          refine r_getA (pc := 41) E fd_11_0 wf_RX11_9 dX11_complete_41 (fun v41 => ?_)
          refine r_iload_n (pc := 44) E dX11_complete_44 rfl 1 rfl ?_
          refine r_iaload (pc := 45) E dX11_complete_45 (fun v45 => ?_)
          refine r_iconst (pc := 46) (v := 1) E dX11_complete_46 (by decide) ?_
          refine r_isub (pc := 47) E dX11_complete_47 ?_
          refine r_ishl (pc := 48) E dX11_complete_48 ?_
          exact r_sub [1] [] [0] rfl rfl rfl (hL49 k4 hk4 p0 p2 p1 (shlI 1 (v45 - 1)) _)
        · refine r_iconst (pc := 35) (v := 0) E dX11_complete_35 (by decide) ?_
          refine r_goto (pc := 36) (tgt := 49) E dX11_complete_36 (by decide) ?_
          exact r_sub [1] [] [0] rfl rfl rfl (hL49 k4 hk4 p0 p2 p1 0 _)
      · refine r_iconst (pc := 23) (v := 0) E dX11_complete_23 (by decide) ?_
        exact e_bool (pc := 24) E dX11_complete_24
  show RT p l e rmX11_complete s m args below meth c x 3 (QM below args s x (fun v : Int32 => some (.int v)) rmX11_complete.cells rmX11_complete.slots) 0 0 (fX11_complete a0 M) 0 [] [] [(0, a0)] [] M
  unfold fX11_complete
  refine r_iconst (pc := 0) (v := 0) E dX11_complete_0 (by decide) ?_
  refine r_istore_n (pc := 1) (lf := fun v1 => [(1, v1)]) (lg := fun v1 => []) (lk := fun v1 => [(0, a0)]) E dX11_complete_1 rfl (by decide) (fun _ => rfl) (fun _ => rfl) (fun _ => rfl) (fun v1 => ?_)
  refine r_iconst (pc := 2) (v := 0) E dX11_complete_2 (by decide) ?_
  refine r_istore_n (pc := 3) (lf := fun v3 => [(2, v3), (1, v1)]) (lg := fun v3 => []) (lk := fun v3 => [(0, a0)]) E dX11_complete_3 rfl (by decide) (fun _ => rfl) (fun _ => rfl) (fun _ => rfl) (fun v3 => ?_)
  exact r_sub [1, 0] [] [0] rfl rfl rfl (hL4 a0 v1 v3 _)
def fX11_read_L117 (M : Mem) : Option (Int32 × Mem) :=
  some ((-1), M)
def fX11_read_L132 (q0 : Int32) (M : Mem) : Option (Int32 × Mem) :=
  some (q0, M)
def fX11_read_L119 (p0 : Option Nat) (p5 : Int32) (M : Mem) : Option (Int32 × Mem) :=
  bo (chk M p0 11) fun _ => bd (fX11_complete p0 M) fun v120 M120 =>
  if v120 = 0 then (
    fX11_read_L132 ((-1)) M120
  ) else (
    fX11_read_L132 p5 M120
  )
def fX11_read_L36 (p0 : Option Nat) (p1 : Option Nat) (p2 : Int32) (p3 : Int32) (p4 : Int32) (q0 : Int32) (q1 : Int32) (M : Mem) : Option (Int32 × Mem) :=
  bn (q0 + q1) fun v37 =>
  if v37 ≤ p3 then (
    if p4 ≤ 127 then (
      bo (gR M p0 11 3) fun v71 =>
      bo (chk M v71 10) fun _ => bd (fX10_read v71 p1 (p2 + 1) v37 255 6 M) fun v85 M85 =>
      bn (v85) fun v88 =>
      if v88 < 0 then (
        fX11_read_L117 M85
      ) else (
        bo (gR M85 p0 11 4) fun v96 =>
        bo (chk M85 v96 0) fun _ => bd (fX0_begin v96 p1 v88 v37 M85) fun v104 M104 =>
        if v104 = 0 then (
          fX11_read_L117 M104
        ) else (
          bo (chk M104 p0 11) fun _ => bd (fX11_readInTurn p0 M104) fun v111 M111 =>
          if v111 = 0 then (
            fX11_read_L117 M111
          ) else (
            fX11_read_L119 p0 v37 M111
          )
        )
      )
    ) else (
      bo (chk M p0 11) fun _ => bd (fX11_readHalves p0 p1 (p2 + 1) (p4 - 127) M) fun v64 M64 =>
      fX11_read_L119 p0 v37 M64
    )
  ) else (
    some ((-1), M)
  )
def fX11_read (a0 : Option Nat) (a1 : Option Nat) (a2 : Int32) (a3 : Int32) (M : Mem) : Option (Int32 × Mem) :=
  if a2 < a3 then (
    bo (chk M a1 8) fun _ => bd (fX8_get a1 a2 M) fun v9 M9 =>
    bn (v9) fun v12 =>
    if v12 ≤ 127 then (
      fX11_read_L36 a0 a1 a2 a3 v12 (a2 + 1) v12 M9
    ) else (
      bo (dv (v12 - 126) 2) fun v30 =>
      fX11_read_L36 a0 a1 a2 a3 v12 (a2 + 1) v30 M9
    )
  ) else (
    some ((-1), M)
  )
def rmX11_read : Room := { frames := 3, cells := 0, slots := 0, locals := 85 }
set_option maxRecDepth 100000 in
set_option maxHeartbeats 4000000 in
theorem ctX11_read (l : Launch) (x : Cx) (a0 : Option Nat) (a1 : Option Nat) (a2 : Int32) (a3 : Int32) (M : Mem) (v : Int32) (N : Mem) (h : fX11_read a0 a1 a2 a3 M = some (v, N)) : CT l yX11_read cX11_read 7 (some (FieldType.int)) rmX11_read x [rv x a0, rv x a1, .int a2, .int a3] M (some (.int v)) N := by
  refine ct_mk (enc := fun v : Int32 => some (.int v)) (li := [(2, a2), (3, a3)]) (ll := []) (lr := [(0, a0), (1, a1)]) (by decide +kernel) (by simp [lg_sl, rv_cat, cat_int, cat_long]) (by simp [flat, lv_args, rv_cat, cat_int, cat_long]) h ?_
  intro p e s m args below meth c E
  have hL117 : ∀ (M : Mem), RT p l e rmX11_read s m args below meth c x 7 (QM below args s x (fun v : Int32 => some (.int v)) rmX11_read.cells rmX11_read.slots) 0 0 (fX11_read_L117 M) 117 [] [] [] [] M := by
    intro M
    unfold fX11_read_L117
    refine r_iconst (pc := 117) (v := (-1)) E dX11_read_117 (by decide) ?_
    exact e_int (pc := 118) E dX11_read_118
  have hL132 : ∀ (q0 : Int32) (M : Mem), RT p l e rmX11_read s m args below meth c x 7 (QM below args s x (fun v : Int32 => some (.int v)) rmX11_read.cells rmX11_read.slots) 0 0 (fX11_read_L132 q0 M) 132 [] [] [] [.int q0] M := by
    intro q0 M
    unfold fX11_read_L132
    exact e_int (pc := 132) E dX11_read_132
  have hL119 : ∀ (p0 : Option Nat) (p5 : Int32) (M : Mem), RT p l e rmX11_read s m args below meth c x 7 (QM below args s x (fun v : Int32 => some (.int v)) rmX11_read.cells rmX11_read.slots) 0 0 (fX11_read_L119 p0 p5 M) 119 [(5, p5)] [] [(0, p0)] [] M := by
    intro p0 p5 M
    unfold fX11_read_L119
    refine r_aload_n (pc := 119) E dX11_read_119 rfl 0 rfl ?_
    refine r_kVi (pc := 120) (As := []) (rest := []) E wc_X11_complete wi_RX11 hd_X11_complete (ci := 11) rfl wl_RX11_60 wn_X11_complete ws_X11_complete dX11_read_120 (by decide) (Nat.le_of_ble_eq_true rfl) ⟨rfl, rfl⟩ (ctX11_complete l x _ _) rfl (fun v120 M120 => ?_)
    refine r_if_eq (pc := 123) (tgt := 131) E dX11_read_123 (by decide) ?_ ?_
    · refine r_iconst (pc := 131) (v := (-1)) E dX11_read_131 (by decide) ?_
      exact r_sub [] [] [] rfl rfl rfl (hL132 ((-1)) _)
    · refine r_iload (pc := 126) E dX11_read_126 0 rfl ?_
      refine r_goto (pc := 128) (tgt := 132) E dX11_read_128 (by decide) ?_
      exact r_sub [] [] [] rfl rfl rfl (hL132 p5 _)
  have hL36 : ∀ (p0 : Option Nat) (p1 : Option Nat) (p2 : Int32) (p3 : Int32) (p4 : Int32) (q0 : Int32) (q1 : Int32) (M : Mem), RT p l e rmX11_read s m args below meth c x 7 (QM below args s x (fun v : Int32 => some (.int v)) rmX11_read.cells rmX11_read.slots) 0 0 (fX11_read_L36 p0 p1 p2 p3 p4 q0 q1 M) 36 [(2, p2), (3, p3), (4, p4)] [] [(0, p0), (1, p1)] [.int q1, .int q0] M := by
    intro p0 p1 p2 p3 p4 q0 q1 M
    unfold fX11_read_L36
    refine r_iadd (pc := 36) E dX11_read_36 ?_
    refine r_istore (pc := 37) (lf := fun v37 => [(5, v37), (2, p2), (3, p3), (4, p4)]) (lg := fun v37 => []) (lk := fun v37 => [(0, p0), (1, p1)]) E dX11_read_37 (by decide) (fun _ => rfl) (fun _ => rfl) (fun _ => rfl) (fun v37 => ?_)
    refine r_iload (pc := 39) E dX11_read_39 0 rfl ?_
    refine r_iload_n (pc := 41) E dX11_read_41 rfl 2 rfl ?_
    refine r_icmp_le (pc := 42) (tgt := 47) E dX11_read_42 (by decide) ?_ ?_
    · refine r_iload (pc := 47) E dX11_read_47 3 rfl ?_
      refine r_bipush (pc := 49) (v := 127) E dX11_read_49 (by decide) ?_
      refine r_icmp_le (pc := 51) (tgt := 70) E dX11_read_51 (by decide) ?_ ?_
      · refine r_aload_n (pc := 70) E dX11_read_70 rfl 0 rfl ?_
        refine r_getR (pc := 71) E fd_11_3 wf_RX11_18 dX11_read_71 (fun v71 => ?_)
        refine r_aload_n (pc := 74) E dX11_read_74 rfl 1 rfl ?_
        refine r_iload_n (pc := 75) E dX11_read_75 rfl 1 rfl ?_
        refine r_iconst (pc := 76) (v := 1) E dX11_read_76 (by decide) ?_
        refine r_iadd (pc := 77) E dX11_read_77 ?_
        refine r_iload (pc := 78) E dX11_read_78 0 rfl ?_
        refine r_sipush (pc := 80) (v := 255) E dX11_read_80 (by decide) ?_
        refine r_bipush (pc := 83) (v := 6) E dX11_read_83 (by decide) ?_
        refine r_kVi (pc := 85) (As := [rv x p1, .int (p2 + 1), .int v37, .int 255, .int 6]) (rest := []) E wc_X10_read wi_RX10 hd_X10_read (ci := 10) rfl wl_RX11_48 wn_X10_read ws_X10_read dX11_read_85 (by decide) (Nat.le_of_ble_eq_true rfl) ⟨rfl, rfl⟩ (ctX10_read l x _ _ _ _ _ _ _) rfl (fun v85 M85 => ?_)
        refine r_istore (pc := 88) (lf := fun v88 => [(6, v88), (5, v37), (2, p2), (3, p3), (4, p4)]) (lg := fun v88 => []) (lk := fun v88 => [(0, p0), (1, p1)]) E dX11_read_88 (by decide) (fun _ => rfl) (fun _ => rfl) (fun _ => rfl) (fun v88 => ?_)
        refine r_iload (pc := 90) E dX11_read_90 0 rfl ?_
        refine r_if_lt (pc := 92) (tgt := 117) E dX11_read_92 (by decide) ?_ ?_
        · exact r_sub [] [] [] rfl rfl rfl (hL117 _)
        · refine r_aload_n (pc := 95) E dX11_read_95 rfl 0 rfl ?_
          refine r_getR (pc := 96) E fd_11_4 wf_RX11_25 dX11_read_96 (fun v96 => ?_)
          refine r_aload_n (pc := 99) E dX11_read_99 rfl 1 rfl ?_
          refine r_iload (pc := 100) E dX11_read_100 0 rfl ?_
          refine r_iload (pc := 102) E dX11_read_102 1 rfl ?_
          refine r_kVi (pc := 104) (As := [rv x p1, .int v88, .int v37]) (rest := []) E wc_X0_begin wi_RX0 hd_X0_begin (ci := 0) rfl wl_RX11_52 wn_X0_begin ws_X0_begin dX11_read_104 (by decide) (Nat.le_of_ble_eq_true rfl) ⟨rfl, rfl⟩ (ctX0_begin l x _ _ _ _ _) rfl (fun v104 M104 => ?_)
          refine r_if_eq (pc := 107) (tgt := 117) E dX11_read_107 (by decide) ?_ ?_
          · exact r_sub [] [] [] rfl rfl rfl (hL117 _)
          · refine r_aload_n (pc := 110) E dX11_read_110 rfl 0 rfl ?_
            refine r_kVi (pc := 111) (As := []) (rest := []) E wc_X11_readInTurn wi_RX11 hd_X11_readInTurn (ci := 11) rfl wl_RX11_56 wn_X11_readInTurn ws_X11_readInTurn dX11_read_111 (by decide) (Nat.le_of_ble_eq_true rfl) ⟨rfl, rfl⟩ (ctX11_readInTurn l x _ _) rfl (fun v111 M111 => ?_)
            refine r_if_ne (pc := 114) (tgt := 119) E dX11_read_114 (by decide) ?_ ?_
            · exact r_sub [1] [] [0] rfl rfl rfl (hL119 p0 v37 _)
            · exact r_sub [] [] [] rfl rfl rfl (hL117 _)
      · refine r_aload_n (pc := 54) E dX11_read_54 rfl 0 rfl ?_
        refine r_aload_n (pc := 55) E dX11_read_55 rfl 1 rfl ?_
        refine r_iload_n (pc := 56) E dX11_read_56 rfl 1 rfl ?_
        refine r_iconst (pc := 57) (v := 1) E dX11_read_57 (by decide) ?_
        refine r_iadd (pc := 58) E dX11_read_58 ?_
        refine r_iload (pc := 59) E dX11_read_59 3 rfl ?_
        refine r_bipush (pc := 61) (v := 127) E dX11_read_61 (by decide) ?_
        refine r_isub (pc := 63) E dX11_read_63 ?_
        refine r_kVv (pc := 64) (As := [rv x p1, .int (p2 + 1), .int (p4 - 127)]) (rest := []) E wc_X11_readHalves wi_RX11 hd_X11_readHalves (ci := 11) rfl wl_RX11_44 wn_X11_readHalves ws_X11_readHalves dX11_read_64 (by decide) (Nat.le_of_ble_eq_true rfl) ⟨rfl, rfl⟩ (ctX11_readHalves l x _ _ _ _ _) rfl (fun v64 M64 => ?_)
        refine r_goto (pc := 67) (tgt := 119) E dX11_read_67 (by decide) ?_
        exact r_sub [0] [] [0] rfl rfl rfl (hL119 p0 v37 _)
    · refine r_iconst (pc := 45) (v := (-1)) E dX11_read_45 (by decide) ?_
      exact e_int (pc := 46) E dX11_read_46
  show RT p l e rmX11_read s m args below meth c x 7 (QM below args s x (fun v : Int32 => some (.int v)) rmX11_read.cells rmX11_read.slots) 0 0 (fX11_read a0 a1 a2 a3 M) 0 [(2, a2), (3, a3)] [] [(0, a0), (1, a1)] [] M
  unfold fX11_read
  refine r_iload_n (pc := 0) E dX11_read_0 rfl 0 rfl ?_
  refine r_iload_n (pc := 1) E dX11_read_1 rfl 1 rfl ?_
  refine r_icmp_lt (pc := 2) (tgt := 7) E dX11_read_2 (by decide) ?_ ?_
  · refine r_aload_n (pc := 7) E dX11_read_7 rfl 1 rfl ?_
    refine r_iload_n (pc := 8) E dX11_read_8 rfl 0 rfl ?_
    refine r_kVi (pc := 9) (As := [.int a2]) (rest := []) E wc_X8_get wi_RX8 hd_X8_get (ci := 8) rfl wl_RX11_38 wn_X8_get ws_X8_get dX11_read_9 (by decide) (Nat.le_of_ble_eq_true rfl) ⟨rfl, rfl⟩ (ctX8_get l x _ _ _) rfl (fun v9 M9 => ?_)
    refine r_istore (pc := 12) (lf := fun v12 => [(4, v12), (2, a2), (3, a3)]) (lg := fun v12 => []) (lk := fun v12 => [(0, a0), (1, a1)]) E dX11_read_12 (by decide) (fun _ => rfl) (fun _ => rfl) (fun _ => rfl) (fun v12 => ?_)
    refine r_iload_n (pc := 14) E dX11_read_14 rfl 1 rfl ?_
    refine r_iconst (pc := 15) (v := 1) E dX11_read_15 (by decide) ?_
    refine r_iadd (pc := 16) E dX11_read_16 ?_
    refine r_iload (pc := 17) E dX11_read_17 0 rfl ?_
    refine r_bipush (pc := 19) (v := 127) E dX11_read_19 (by decide) ?_
    refine r_icmp_le (pc := 21) (tgt := 34) E dX11_read_21 (by decide) ?_ ?_
    · refine r_iload (pc := 34) E dX11_read_34 0 rfl ?_
      exact r_sub [1, 2, 0] [] [0, 1] rfl rfl rfl (hL36 a0 a1 a2 a3 v12 (a2 + 1) v12 _)
    · refine r_iload (pc := 24) E dX11_read_24 0 rfl ?_
      refine r_bipush (pc := 26) (v := 126) E dX11_read_26 (by decide) ?_
      refine r_isub (pc := 28) E dX11_read_28 ?_
      refine r_iconst (pc := 29) (v := 2) E dX11_read_29 (by decide) ?_
      refine r_idiv (pc := 30) E dX11_read_30 (fun v30 => ?_)
      refine r_goto (pc := 31) (tgt := 36) E dX11_read_31 (by decide) ?_
      exact r_sub [1, 2, 0] [] [0, 1] rfl rfl rfl (hL36 a0 a1 a2 a3 v12 (a2 + 1) v30 _)
  · refine r_iconst (pc := 5) (v := (-1)) E dX11_read_5 (by decide) ?_
    exact e_int (pc := 6) E dX11_read_6
