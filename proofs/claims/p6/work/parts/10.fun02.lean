def fX5_init (a0 : Option Nat) (a1 : Option Nat) (a2 : Option Nat) (a3 : Option Nat) (M : Mem) : Option (Unit × Mem) :=
  bo (chk0 a0) fun _ =>
  bd (nw M 8) fun v5 M5 =>
  bo (chk0 v5) fun _ => bd (fX8_init v5 0 M5) fun v10 M10 =>
  bo (pR M10 a0 5 3 v5) fun M13 =>
  bo (gR M13 a0 5 3) fun v18 =>
  bo (pR M13 a0 5 4 v18) fun M21 =>
  bo (pR M21 a0 5 2 a1) fun M26 =>
  bd (nw M26 4) fun v30 M30 =>
  bo (chk0 v30) fun _ => bd (fX4_init v30 a1 a2 M30) fun v36 M36 =>
  bo (pR M36 a0 5 0 v30) fun M39 =>
  bd (nw M39 9) fun v43 M43 =>
  bo (gR M43 a0 5 0) fun v49 =>
  bo (chk0 v43) fun _ => bd (fX9_init v43 a1 v49 a3 M43) fun v53 M53 =>
  bo (pR M53 a0 5 1 v43) fun M56 =>
  some ((), M56)
def rmX5_init : Room := { frames := 3, cells := 36, slots := 32730, locals := 68 }
set_option maxRecDepth 100000 in
set_option maxHeartbeats 4000000 in
theorem ctX5_init (l : Launch) (x : Cx) (a0 : Option Nat) (a1 : Option Nat) (a2 : Option Nat) (a3 : Option Nat) (M : Mem) (v : Unit) (N : Mem) (h : fX5_init a0 a1 a2 a3 M = some (v, N)) : CT l yX5_init cX5_init 4 (none) rmX5_init x [rv x a0, rv x a1, rv x a2, rv x a3] M none N := by
  refine ct_mk (enc := fun _ : Unit => none) (li := []) (ll := []) (lr := [(0, a0), (1, a1), (2, a2), (3, a3)]) (by decide +kernel) (by simp [lg_sl, rv_cat, cat_int, cat_long]) (by simp [flat, lv_args, rv_cat, cat_int, cat_long]) h ?_
  intro p e s m args below meth c E
  show RT p l e rmX5_init s m args below meth c x 4 (QM below args s x (fun _ : Unit => none) rmX5_init.cells rmX5_init.slots) 0 0 (fX5_init a0 a1 a2 a3 M) 0 [] [] [(0, a0), (1, a1), (2, a2), (3, a3)] [] M
  unfold fX5_init
  refine r_aload_n (pc := 0) E dX5_init_0 rfl 0 rfl ?_
  refine r_obj (pc := 1) E wl_RX5_3 wo_inst wo_code dX5_init_1 (by decide) (by decide) (Nat.le_of_ble_eq_true rfl) ?_
  refine r_aload_n (pc := 4) E dX5_init_4 rfl 0 rfl ?_
  refine r_new (pc := 5) E cd_8 (by decide) wx_RX5_9 dX5_init_5 (by decide) (by decide) (fun v5 M5 => ?_)
  refine r_widen (k := 1) (n := 4) (by decide) (by decide) ?_
  refine r_dup (pc := 8) E dX5_init_8 (rv_cat _ _) ?_
  refine r_iconst (pc := 9) (v := 0) E dX5_init_9 (by decide) ?_
  refine r_callI (pc := 10) (As := [.int 0]) (rest := [rv x v5, rv x a0]) E wc_X8_init wi_RX8 hd_X8_init wl_RX5_11 rfl wn_X8_init dX5_init_10 (by decide) (Nat.le_of_ble_eq_true rfl) (ctX8_init l x _ _ _) rfl (fun v10 M10 => ?_)
  refine r_widen (k := 2) (n := 9004) (by decide) (by decide) ?_
  refine r_putR (pc := 13) E fd_5_3 wf_RX5_14 dX5_init_13 (Or.inl rfl) (fun M13 => ?_)
  refine r_aload_n (pc := 16) E dX5_init_16 rfl 0 rfl ?_
  refine r_aload_n (pc := 17) E dX5_init_17 rfl 0 rfl ?_
  refine r_getR (pc := 18) E fd_5_3 wf_RX5_14 dX5_init_18 (fun v18 => ?_)
  refine r_putR (pc := 21) E fd_5_4 wf_RX5_20 dX5_init_21 (Or.inl rfl) (fun M21 => ?_)
  refine r_aload_n (pc := 24) E dX5_init_24 rfl 0 rfl ?_
  refine r_aload_n (pc := 25) E dX5_init_25 rfl 1 rfl ?_
  refine r_putR (pc := 26) E fd_5_2 wf_RX5_23 dX5_init_26 (Or.inr ⟨rfl, rfl⟩) (fun M26 => ?_)
  refine r_aload_n (pc := 29) E dX5_init_29 rfl 0 rfl ?_
  refine r_new (pc := 30) E cd_4 (by decide) wx_RX5_27 dX5_init_30 (by decide) (by decide) (fun v30 M30 => ?_)
  refine r_widen (k := 3) (n := 9017) (by decide) (by decide) ?_
  refine r_dup (pc := 33) E dX5_init_33 (rv_cat _ _) ?_
  refine r_aload_n (pc := 34) E dX5_init_34 rfl 1 rfl ?_
  refine r_aload_n (pc := 35) E dX5_init_35 rfl 2 rfl ?_
  refine r_callI (pc := 36) (As := [rv x a1, rv x a2]) (rest := [rv x v30, rv x a0]) E wc_X4_init wi_RX4 hd_X4_init wl_RX5_29 rfl wn_X4_init dX5_init_36 (by decide) (Nat.le_of_ble_eq_true rfl) (ctX4_init l x _ _ _ _) rfl (fun v36 M36 => ?_)
  refine r_widen (k := 11) (n := 20589) (by decide) (by decide) ?_
  refine r_putR (pc := 39) E fd_5_0 wf_RX5_32 dX5_init_39 (Or.inr ⟨rfl, rfl⟩) (fun M39 => ?_)
  refine r_aload_n (pc := 42) E dX5_init_42 rfl 0 rfl ?_
  refine r_new (pc := 43) E cd_9 (by decide) wx_RX5_36 dX5_init_43 (by decide) (by decide) (fun v43 M43 => ?_)
  refine r_widen (k := 12) (n := 20608) (by decide) (by decide) ?_
  refine r_dup (pc := 46) E dX5_init_46 (rv_cat _ _) ?_
  refine r_aload_n (pc := 47) E dX5_init_47 rfl 1 rfl ?_
  refine r_aload_n (pc := 48) E dX5_init_48 rfl 0 rfl ?_
  refine r_getR (pc := 49) E fd_5_0 wf_RX5_32 dX5_init_49 (fun v49 => ?_)
  refine r_aload_n (pc := 52) E dX5_init_52 rfl 3 rfl ?_
  refine r_callI (pc := 53) (As := [rv x a1, rv x v49, rv x a3]) (rest := [rv x v43, rv x a0]) E wc_X9_init wi_RX9 hd_X9_init wl_RX5_38 rfl wn_X9_init dX5_init_53 (by decide) (Nat.le_of_ble_eq_true rfl) (ctX9_init l x _ _ _ _ _) rfl (fun v53 M53 => ?_)
  refine r_widen (k := 36) (n := 32730) (by decide) (by decide) ?_
  refine r_putR (pc := 56) E fd_5_1 wf_RX5_41 dX5_init_56 (Or.inr ⟨rfl, rfl⟩) (fun M56 => ?_)
  refine r_widen (k := 36) (n := 32730) (by decide) (by decide) ?_
  exact e_void (pc := 59) E dX5_init_59
def fX7_clear (a0 : Option Nat) (M : Mem) : Option (Unit × Mem) :=
  bo (gR M a0 7 2) fun v1 =>
  bd (fJ7_fill_53178 v1 0 M) fun v5 M5 =>
  some ((), M5)
def rmX7_clear : Room := { frames := 1, cells := 0, slots := 0, locals := 23 }
set_option maxRecDepth 100000 in
set_option maxHeartbeats 4000000 in
theorem ctX7_clear (l : Launch) (x : Cx) (a0 : Option Nat) (M : Mem) (v : Unit) (N : Mem) (h : fX7_clear a0 M = some (v, N)) : CT l yX7_clear cX7_clear 1 (none) rmX7_clear x [rv x a0] M none N := by
  refine ct_mk (enc := fun _ : Unit => none) (li := []) (ll := []) (lr := [(0, a0)]) (by decide +kernel) (by simp [lg_sl, rv_cat, cat_int, cat_long]) (by simp [flat, lv_args, rv_cat, cat_int, cat_long]) h ?_
  intro p e s m args below meth c E
  show RT p l e rmX7_clear s m args below meth c x 1 (QM below args s x (fun _ : Unit => none) rmX7_clear.cells rmX7_clear.slots) 0 0 (fX7_clear a0 M) 0 [] [] [(0, a0)] [] M
  unfold fX7_clear
  refine r_aload_n (pc := 0) E dX7_clear_0 rfl 0 rfl ?_
  refine r_getA (pc := 1) E fd_7_2 wf_RX7_9 dX7_clear_1 (fun v1 => ?_)
  refine r_iconst (pc := 4) (v := 0) E dX7_clear_4 (by decide) ?_
  refine r_kSv (pc := 5) (As := [rv x v1, .int 0]) (rest := []) E wc_J7_fill_53178 wi_RJ7 hd_J7_fill_53178 wl_RX7_18 wt_J7_fill_53178 dX7_clear_5 (by decide) (Nat.le_of_ble_eq_true rfl) ⟨rfl, rfl⟩ (ctJ7_fill_53178 l x _ _ _) rfl (fun v5 M5 => ?_)
  exact e_void (pc := 8) E dX7_clear_8
def fX5_forget_B10 (k10 : Option Nat × Int32 → Mem → Option (Unit × Mem)) (p0 : Option Nat) (p1 : Int32) (M : Mem) : Option (Unit × Mem) :=
  if 3 ≤ p1 then (
    some ((), M)
  ) else (
    bo (gR M p0 5 1) fun v16 =>
    bo (gR M v16 9 1) fun v19 =>
    bo (wZ M v19 p1 0) fun M24 =>
    bn (p1 + 1) fun v25 =>
    k10 ((p0, v25)) M24
  )
def fX5_forget_L10 (p0 : Option Nat) (p1 : Int32) (M : Mem) : Option (Unit × Mem) :=
  lp (fun k10 (a : Option Nat × Int32) M => fX5_forget_B10 k10 a.1 a.2 M) FU ((p0, p1)) M
def fX5_forget (a0 : Option Nat) (M : Mem) : Option (Unit × Mem) :=
  bo (gR M a0 5 0) fun v1 =>
  bo (pZ M v1 4 2 0) fun M5 =>
  bn (0) fun v9 =>
  fX5_forget_L10 a0 v9 M5
def rmX5_forget : Room := { frames := 0, cells := 0, slots := 0, locals := 0 }
set_option maxRecDepth 100000 in
set_option maxHeartbeats 4000000 in
theorem ctX5_forget (l : Launch) (x : Cx) (a0 : Option Nat) (M : Mem) (v : Unit) (N : Mem) (h : fX5_forget a0 M = some (v, N)) : CT l yX5_forget cX5_forget 2 (none) rmX5_forget x [rv x a0] M none N := by
  refine ct_mk (enc := fun _ : Unit => none) (li := []) (ll := []) (lr := [(0, a0)]) (by decide +kernel) (by simp [lg_sl, rv_cat, cat_int, cat_long]) (by simp [flat, lv_args, rv_cat, cat_int, cat_long]) h ?_
  intro p e s m args below meth c E
  have hL10 : ∀ (p0 : Option Nat) (p1 : Int32) (M : Mem), RT p l e rmX5_forget s m args below meth c x 2 (QM below args s x (fun _ : Unit => none) rmX5_forget.cells rmX5_forget.slots) 0 0 (fX5_forget_L10 p0 p1 M) 10 [(1, p1)] [] [(0, p0)] [] M := by
    intro p0 p1 M
    refine r_lp (fi := fun a : Option Nat × Int32 => [(1, a.2)]) (fl := fun a : Option Nat × Int32 => []) (fr := fun a : Option Nat × Int32 => [(0, a.1)]) (fs := fun a : Option Nat × Int32 => []) ?_ FU ((p0, p1)) M
    intro k10 hk10 a M
    obtain ⟨p0, p1⟩ := a
    show RT p l e rmX5_forget s m args below meth c x 2 (QM below args s x (fun _ : Unit => none) rmX5_forget.cells rmX5_forget.slots) 0 0 (fX5_forget_B10 k10 p0 p1 M) 10 [(1, p1)] [] [(0, p0)] [] M
    unfold fX5_forget_B10
    refine r_iload_n (pc := 10) E dX5_forget_10 rfl 0 rfl ?_
    refine r_iconst (pc := 11) (v := 3) E dX5_forget_11 (by decide) ?_
    refine r_icmp_ge (pc := 12) (tgt := 31) E dX5_forget_12 (by decide) ?_ ?_
    · exact e_void (pc := 31) E dX5_forget_31
    · refine r_aload_n (pc := 15) E dX5_forget_15 rfl 0 rfl ?_
      refine r_getR (pc := 16) E fd_5_1 wf_RX5_41 dX5_forget_16 (fun v16 => ?_)
      refine r_getA (pc := 19) E fd_9_1 wf_RX5_100 dX5_forget_19 (fun v19 => ?_)
      refine r_iload_n (pc := 22) E dX5_forget_22 rfl 0 rfl ?_
      refine r_iconst (pc := 23) (v := 0) E dX5_forget_23 (by decide) ?_
      refine r_zastore (pc := 24) E dX5_forget_24 (fun M24 => ?_)
      refine r_iinc (pc := 25) (w := 1) (lf := fun v25 => [(1, v25)]) (ll' := []) (lr' := [(0, p0)]) E dX5_forget_25 0 rfl (by decide) (by decide) (fun _ => rfl) rfl rfl (fun v25 => ?_)
      refine r_goto (pc := 28) (tgt := 10) E dX5_forget_28 (by decide) ?_
      exact r_sub [0] [] [0] rfl rfl rfl (hk10 ((p0, v25)) _)
  show RT p l e rmX5_forget s m args below meth c x 2 (QM below args s x (fun _ : Unit => none) rmX5_forget.cells rmX5_forget.slots) 0 0 (fX5_forget a0 M) 0 [] [] [(0, a0)] [] M
  unfold fX5_forget
  refine r_aload_n (pc := 0) E dX5_forget_0 rfl 0 rfl ?_
  refine r_getR (pc := 1) E fd_5_0 wf_RX5_32 dX5_forget_1 (fun v1 => ?_)
  refine r_iconst (pc := 4) (v := 0) E dX5_forget_4 (by decide) ?_
  refine r_putZ (pc := 5) E fd_4_2 wf_RX5_97 dX5_forget_5 (Or.inl rfl) (fun M5 => ?_)
  refine r_iconst (pc := 8) (v := 0) E dX5_forget_8 (by decide) ?_
  refine r_istore_n (pc := 9) (lf := fun v9 => [(1, v9)]) (lg := fun v9 => []) (lk := fun v9 => [(0, a0)]) E dX5_forget_9 rfl (by decide) (fun _ => rfl) (fun _ => rfl) (fun _ => rfl) (fun v9 => ?_)
  exact r_sub [0] [] [0] rfl rfl rfl (hL10 a0 v9 _)
def fX5_there_L23 (q0 : Int32) (M : Mem) : Option (Int32 × Mem) :=
  rtZ q0 M
def fX5_there (a0 : Option Nat) (a1 : Int64) (M : Mem) : Option (Int32 × Mem) :=
  bo (gR M a0 5 3) fun v2 =>
  bo (gI M v2 8 1) fun v5 =>
  bo (gI M a0 5 8) fun v9 =>
  if 0 < (lg_cmp a1 ((v5 - v9).toInt64)) then (
    fX5_there_L23 0 M
  ) else (
    fX5_there_L23 1 M
  )
def rmX5_there : Room := { frames := 0, cells := 0, slots := 0, locals := 0 }
set_option maxRecDepth 100000 in
set_option maxHeartbeats 4000000 in
theorem ctX5_there (l : Launch) (x : Cx) (a0 : Option Nat) (a1 : Int64) (M : Mem) (v : Int32) (N : Mem) (h : fX5_there a0 a1 M = some (v, N)) : CT l yX5_there cX5_there 3 (some (FieldType.boolean)) rmX5_there x [rv x a0, .long a1] M (some (.int v)) N := by
  refine ct_mk (enc := fun v : Int32 => some (.int v)) (li := []) (ll := [(1, a1)]) (lr := [(0, a0)]) (by decide +kernel) (by simp [lg_sl, rv_cat, cat_int, cat_long]) (by simp [flat, lv_args, rv_cat, cat_int, cat_long]) h ?_
  intro p e s m args below meth c E
  have hL23 : ∀ (q0 : Int32) (M : Mem), RT p l e rmX5_there s m args below meth c x 3 (QM below args s x (fun v : Int32 => some (.int v)) rmX5_there.cells rmX5_there.slots) 0 0 (fX5_there_L23 q0 M) 23 [] [] [] [.int q0] M := by
    intro q0 M
    unfold fX5_there_L23
    exact e_bool (pc := 23) E dX5_there_23
  show RT p l e rmX5_there s m args below meth c x 3 (QM below args s x (fun v : Int32 => some (.int v)) rmX5_there.cells rmX5_there.slots) 0 0 (fX5_there a0 a1 M) 0 [] [(1, a1)] [(0, a0)] [] M
  unfold fX5_there
  refine r_lload_n (pc := 0) E dX5_there_0 rfl 0 rfl ?_
  refine r_aload_n (pc := 1) E dX5_there_1 rfl 0 rfl ?_
  refine r_getR (pc := 2) E fd_5_3 wf_RX5_14 dX5_there_2 (fun v2 => ?_)
  refine r_getI (pc := 5) E fd_8_1 wf_RX5_57 dX5_there_5 (fun v5 => ?_)
  refine r_aload_n (pc := 8) E dX5_there_8 rfl 0 rfl ?_
  refine r_getI (pc := 9) E fd_5_8 wf_RX5_53 dX5_there_9 (fun v9 => ?_)
  refine r_isub (pc := 12) E dX5_there_12 ?_
  refine r_i2l (pc := 13) E dX5_there_13 ?_
  refine r_lcmp (pc := 14) E dX5_there_14 ?_
  refine r_if_gt (pc := 15) (tgt := 22) E dX5_there_15 (by decide) ?_ ?_
  · refine r_iconst (pc := 22) (v := 0) E dX5_there_22 (by decide) ?_
    exact r_sub [] [] [] rfl rfl rfl (hL23 0 _)
  · refine r_iconst (pc := 18) (v := 1) E dX5_there_18 (by decide) ?_
    refine r_goto (pc := 19) (tgt := 23) E dX5_there_19 (by decide) ?_
    exact r_sub [] [] [] rfl rfl rfl (hL23 1 _)
def fX5_lacks (a0 : Option Nat) (M : Mem) : Option (Int32 × Mem) :=
  bo (gR M a0 5 2) fun v1 =>
  bo (gR M a0 5 3) fun v6 =>
  bo (gI M v6 8 1) fun v9 =>
  bo (chk M v1 7) fun _ => bd (fX7_fail v1 1 v9 M) fun v12 M12 =>
  rtZ v12 M12
def rmX5_lacks : Room := { frames := 1, cells := 0, slots := 0, locals := 22 }
set_option maxRecDepth 100000 in
set_option maxHeartbeats 4000000 in
theorem ctX5_lacks (l : Launch) (x : Cx) (a0 : Option Nat) (M : Mem) (v : Int32) (N : Mem) (h : fX5_lacks a0 M = some (v, N)) : CT l yX5_lacks cX5_lacks 1 (some (FieldType.boolean)) rmX5_lacks x [rv x a0] M (some (.int v)) N := by
  refine ct_mk (enc := fun v : Int32 => some (.int v)) (li := []) (ll := []) (lr := [(0, a0)]) (by decide +kernel) (by simp [lg_sl, rv_cat, cat_int, cat_long]) (by simp [flat, lv_args, rv_cat, cat_int, cat_long]) h ?_
  intro p e s m args below meth c E
  show RT p l e rmX5_lacks s m args below meth c x 1 (QM below args s x (fun v : Int32 => some (.int v)) rmX5_lacks.cells rmX5_lacks.slots) 0 0 (fX5_lacks a0 M) 0 [] [] [(0, a0)] [] M
  unfold fX5_lacks
  refine r_aload_n (pc := 0) E dX5_lacks_0 rfl 0 rfl ?_
  refine r_getR (pc := 1) E fd_5_2 wf_RX5_23 dX5_lacks_1 (fun v1 => ?_)
  refine r_iconst (pc := 4) (v := 1) E dX5_lacks_4 (by decide) ?_
  refine r_aload_n (pc := 5) E dX5_lacks_5 rfl 0 rfl ?_
  refine r_getR (pc := 6) E fd_5_3 wf_RX5_14 dX5_lacks_6 (fun v6 => ?_)
  refine r_getI (pc := 9) E fd_8_1 wf_RX5_57 dX5_lacks_9 (fun v9 => ?_)
  refine r_kVi (pc := 12) (As := [.int 1, .int v9]) (rest := []) E wc_X7_fail wi_RX7 hd_X7_fail (ci := 7) rfl wl_RX5_122 wn_X7_fail ws_X7_fail dX5_lacks_12 (by decide) (Nat.le_of_ble_eq_true rfl) ⟨rfl, rfl⟩ (ctX7_fail l x _ _ _ _) rfl (fun v12 M12 => ?_)
  exact e_bool (pc := 15) E dX5_lacks_15
def fX5_passOver (a0 : Option Nat) (M : Mem) : Option (Int32 × Mem) :=
  bo (chk M a0 5) fun _ => bd (fX5_there a0 4 M) fun v4 M4 =>
  if v4 = 0 then (
    bo (chk M4 a0 5) fun _ => bd (fX5_lacks a0 M4) fun v11 M11 =>
    rtZ v11 M11
  ) else (
    bo (gR M4 a0 5 3) fun v16 =>
    bo (gI M4 a0 5 8) fun v20 =>
    bo (chk M4 v16 8) fun _ => bd (fX8_number v16 v20 4 M4) fun v24 M24 =>
    bn (v24) fun v27 =>
    bo (gI M24 a0 5 8) fun v30 =>
    bo (pI M24 a0 5 8 (v30 + 4)) fun M35 =>
    bo (chk M35 a0 5) fun _ => bd (fX5_there a0 v27 M35) fun v40 M40 =>
    if v40 = 0 then (
      bo (chk M40 a0 5) fun _ => bd (fX5_lacks a0 M40) fun v47 M47 =>
      rtZ v47 M47
    ) else (
      bo (gI M40 a0 5 8) fun v53 =>
      bo (pI M40 a0 5 8 (v53 + v27.toInt32)) fun M59 =>
      bo (gR M59 a0 5 2) fun v63 =>
      bo (gR M59 v63 7 2) fun v66 =>
      bo (aI M59 v66 15 11) fun v72 =>
      bo (wI M59 v66 11 (v72 + 1)) fun M75 =>
      rtZ 1 M75
    )
  )
def rmX5_passOver : Room := { frames := 2, cells := 0, slots := 0, locals := 46 }
set_option maxRecDepth 100000 in
set_option maxHeartbeats 4000000 in
theorem ctX5_passOver (l : Launch) (x : Cx) (a0 : Option Nat) (M : Mem) (v : Int32) (N : Mem) (h : fX5_passOver a0 M = some (v, N)) : CT l yX5_passOver cX5_passOver 3 (some (FieldType.boolean)) rmX5_passOver x [rv x a0] M (some (.int v)) N := by
  refine ct_mk (enc := fun v : Int32 => some (.int v)) (li := []) (ll := []) (lr := [(0, a0)]) (by decide +kernel) (by simp [lg_sl, rv_cat, cat_int, cat_long]) (by simp [flat, lv_args, rv_cat, cat_int, cat_long]) h ?_
  intro p e s m args below meth c E
  show RT p l e rmX5_passOver s m args below meth c x 3 (QM below args s x (fun v : Int32 => some (.int v)) rmX5_passOver.cells rmX5_passOver.slots) 0 0 (fX5_passOver a0 M) 0 [] [] [(0, a0)] [] M
  unfold fX5_passOver
  refine r_aload_n (pc := 0) E dX5_passOver_0 rfl 0 rfl ?_
  refine r_ldc2 (pc := 1) E wk_RX5_103 dX5_passOver_1 ?_
  refine r_kVi (pc := 4) (As := [.long 4]) (rest := []) E wc_X5_there wi_RX5 hd_X5_there (ci := 5) rfl wl_RX5_105 wn_X5_there ws_X5_there dX5_passOver_4 (by decide) (Nat.le_of_ble_eq_true rfl) ⟨rfl, rfl⟩ (ctX5_there l x _ _ _) rfl (fun v4 M4 => ?_)
  refine r_if_ne (pc := 7) (tgt := 15) E dX5_passOver_7 (by decide) ?_ ?_
  · refine r_aload_n (pc := 15) E dX5_passOver_15 rfl 0 rfl ?_
    refine r_getR (pc := 16) E fd_5_3 wf_RX5_14 dX5_passOver_16 (fun v16 => ?_)
    refine r_aload_n (pc := 19) E dX5_passOver_19 rfl 0 rfl ?_
    refine r_getI (pc := 20) E fd_5_8 wf_RX5_53 dX5_passOver_20 (fun v20 => ?_)
    refine r_iconst (pc := 23) (v := 4) E dX5_passOver_23 (by decide) ?_
    refine r_kVl (pc := 24) (As := [.int v20, .int 4]) (rest := []) E wc_X8_number wi_RX8 hd_X8_number (ci := 8) rfl wl_RX5_112 wn_X8_number ws_X8_number dX5_passOver_24 (by decide) (Nat.le_of_ble_eq_true rfl) ⟨rfl, rfl⟩ (ctX8_number l x _ _ _ _) rfl (fun v24 M24 => ?_)
    refine r_lstore_n (pc := 27) (lf := fun v27 => []) (lg := fun v27 => [(1, v27)]) (lk := fun v27 => [(0, a0)]) E dX5_passOver_27 rfl (by decide) (fun _ => rfl) (fun _ => rfl) (fun _ => rfl) (fun v27 => ?_)
    refine r_aload_n (pc := 28) E dX5_passOver_28 rfl 0 rfl ?_
    refine r_dup (pc := 29) E dX5_passOver_29 (rv_cat _ _) ?_
    refine r_getI (pc := 30) E fd_5_8 wf_RX5_53 dX5_passOver_30 (fun v30 => ?_)
    refine r_iconst (pc := 33) (v := 4) E dX5_passOver_33 (by decide) ?_
    refine r_iadd (pc := 34) E dX5_passOver_34 ?_
    refine r_putI (pc := 35) E fd_5_8 wf_RX5_53 dX5_passOver_35 (Or.inl rfl) (fun M35 => ?_)
    refine r_aload_n (pc := 38) E dX5_passOver_38 rfl 0 rfl ?_
    refine r_lload_n (pc := 39) E dX5_passOver_39 rfl 0 rfl ?_
    refine r_kVi (pc := 40) (As := [.long v27]) (rest := []) E wc_X5_there wi_RX5 hd_X5_there (ci := 5) rfl wl_RX5_105 wn_X5_there ws_X5_there dX5_passOver_40 (by decide) (Nat.le_of_ble_eq_true rfl) ⟨rfl, rfl⟩ (ctX5_there l x _ _ _) rfl (fun v40 M40 => ?_)
    refine r_if_ne (pc := 43) (tgt := 51) E dX5_passOver_43 (by decide) ?_ ?_
    · refine r_aload_n (pc := 51) E dX5_passOver_51 rfl 0 rfl ?_
      refine r_dup (pc := 52) E dX5_passOver_52 (rv_cat _ _) ?_
      refine r_getI (pc := 53) E fd_5_8 wf_RX5_53 dX5_passOver_53 (fun v53 => ?_)
      refine r_lload_n (pc := 56) E dX5_passOver_56 rfl 0 rfl ?_
      refine r_l2i (pc := 57) E dX5_passOver_57 ?_
      refine r_iadd (pc := 58) E dX5_passOver_58 ?_
      refine r_putI (pc := 59) E fd_5_8 wf_RX5_53 dX5_passOver_59 (Or.inl rfl) (fun M59 => ?_)
      refine r_aload_n (pc := 62) E dX5_passOver_62 rfl 0 rfl ?_
      refine r_getR (pc := 63) E fd_5_2 wf_RX5_23 dX5_passOver_63 (fun v63 => ?_)
      refine r_getA (pc := 66) E fd_7_2 wf_RX5_132 dX5_passOver_66 (fun v66 => ?_)
      refine r_bipush (pc := 69) (v := 11) E dX5_passOver_69 (by decide) ?_
      refine r_dup2 (pc := 71) E dX5_passOver_71 rfl (rv_cat _ _) ?_
      refine r_iaload (pc := 72) E dX5_passOver_72 (fun v72 => ?_)
      refine r_iconst (pc := 73) (v := 1) E dX5_passOver_73 (by decide) ?_
      refine r_iadd (pc := 74) E dX5_passOver_74 ?_
      refine r_iastore (pc := 75) E dX5_passOver_75 (fun M75 => ?_)
      refine r_iconst (pc := 76) (v := 1) E dX5_passOver_76 (by decide) ?_
      exact e_bool (pc := 77) E dX5_passOver_77
    · refine r_aload_n (pc := 46) E dX5_passOver_46 rfl 0 rfl ?_
      refine r_kVi (pc := 47) (As := []) (rest := []) E wc_X5_lacks wi_RX5 hd_X5_lacks (ci := 5) rfl wl_RX5_109 wn_X5_lacks ws_X5_lacks dX5_passOver_47 (by decide) (Nat.le_of_ble_eq_true rfl) ⟨rfl, rfl⟩ (ctX5_lacks l x _ _) rfl (fun v47 M47 => ?_)
      exact e_bool (pc := 50) E dX5_passOver_50
  · refine r_aload_n (pc := 10) E dX5_passOver_10 rfl 0 rfl ?_
    refine r_kVi (pc := 11) (As := []) (rest := []) E wc_X5_lacks wi_RX5 hd_X5_lacks (ci := 5) rfl wl_RX5_109 wn_X5_lacks ws_X5_lacks dX5_passOver_11 (by decide) (Nat.le_of_ble_eq_true rfl) ⟨rfl, rfl⟩ (ctX5_lacks l x _ _) rfl (fun v11 M11 => ?_)
    exact e_bool (pc := 14) E dX5_passOver_14
def fX5_readSpan (a0 : Option Nat) (M : Mem) : Option (Int32 × Mem) :=
  bo (chk M a0 5) fun _ => bd (fX5_there a0 1 M) fun v2 M2 =>
  if v2 = 0 then (
    bo (chk M2 a0 5) fun _ => bd (fX5_lacks a0 M2) fun v9 M9 =>
    rtZ v9 M9
  ) else (
    bo (gR M2 a0 5 3) fun v14 =>
    bo (gI M2 a0 5 8) fun v18 =>
    bo (chk M2 v14 8) fun _ => bd (fX8_get v14 v18 M2) fun v21 M21 =>
    bn (v21) fun v24 =>
    bo (dv v24 8) fun v31 =>
    bn (shlJ 1 (10 + v31)) fun v34 =>
    bo (rm v24 8) fun v40 =>
    bo (dvL v34 8) fun v46 =>
    bo (pJ M21 a0 5 9 (v34 + (v40.toInt64 * v46))) fun M49 =>
    bo (gJ M49 a0 5 9) fun v53 =>
    bo (gJ M49 a0 5 7) fun v57 =>
    if (lg_cmp v53 v57) ≤ 0 then (
      bo (gI M49 a0 5 8) fun v79 =>
      bo (pI M49 a0 5 8 (v79 + 1)) fun M84 =>
      rtZ 1 M84
    ) else (
      bo (gR M49 a0 5 2) fun v65 =>
      bo (gI M49 a0 5 8) fun v70 =>
      bo (chk M49 v65 7) fun _ => bd (fX7_fail v65 4 v70 M49) fun v73 M73 =>
      rtZ v73 M73
    )
  )
def rmX5_readSpan : Room := { frames := 2, cells := 0, slots := 0, locals := 42 }
set_option maxRecDepth 100000 in
set_option maxHeartbeats 4000000 in
theorem ctX5_readSpan (l : Launch) (x : Cx) (a0 : Option Nat) (M : Mem) (v : Int32) (N : Mem) (h : fX5_readSpan a0 M = some (v, N)) : CT l yX5_readSpan cX5_readSpan 4 (some (FieldType.boolean)) rmX5_readSpan x [rv x a0] M (some (.int v)) N := by
  refine ct_mk (enc := fun v : Int32 => some (.int v)) (li := []) (ll := []) (lr := [(0, a0)]) (by decide +kernel) (by simp [lg_sl, rv_cat, cat_int, cat_long]) (by simp [flat, lv_args, rv_cat, cat_int, cat_long]) h ?_
  intro p e s m args below meth c E
  show RT p l e rmX5_readSpan s m args below meth c x 4 (QM below args s x (fun v : Int32 => some (.int v)) rmX5_readSpan.cells rmX5_readSpan.slots) 0 0 (fX5_readSpan a0 M) 0 [] [] [(0, a0)] [] M
  unfold fX5_readSpan
  refine r_aload_n (pc := 0) E dX5_readSpan_0 rfl 0 rfl ?_
  refine r_lconst (pc := 1) (v := 1) E dX5_readSpan_1 (by decide) ?_
  refine r_kVi (pc := 2) (As := [.long 1]) (rest := []) E wc_X5_there wi_RX5 hd_X5_there (ci := 5) rfl wl_RX5_105 wn_X5_there ws_X5_there dX5_readSpan_2 (by decide) (Nat.le_of_ble_eq_true rfl) ⟨rfl, rfl⟩ (ctX5_there l x _ _ _) rfl (fun v2 M2 => ?_)
  refine r_if_ne (pc := 5) (tgt := 13) E dX5_readSpan_5 (by decide) ?_ ?_
  · refine r_aload_n (pc := 13) E dX5_readSpan_13 rfl 0 rfl ?_
    refine r_getR (pc := 14) E fd_5_3 wf_RX5_14 dX5_readSpan_14 (fun v14 => ?_)
    refine r_aload_n (pc := 17) E dX5_readSpan_17 rfl 0 rfl ?_
    refine r_getI (pc := 18) E fd_5_8 wf_RX5_53 dX5_readSpan_18 (fun v18 => ?_)
    refine r_kVi (pc := 21) (As := [.int v18]) (rest := []) E wc_X8_get wi_RX8 hd_X8_get (ci := 8) rfl wl_RX5_136 wn_X8_get ws_X8_get dX5_readSpan_21 (by decide) (Nat.le_of_ble_eq_true rfl) ⟨rfl, rfl⟩ (ctX8_get l x _ _ _) rfl (fun v21 M21 => ?_)
    refine r_istore_n (pc := 24) (lf := fun v24 => [(1, v24)]) (lg := fun v24 => []) (lk := fun v24 => [(0, a0)]) E dX5_readSpan_24 rfl (by decide) (fun _ => rfl) (fun _ => rfl) (fun _ => rfl) (fun v24 => ?_)
    refine r_lconst (pc := 25) (v := 1) E dX5_readSpan_25 (by decide) ?_
    refine r_bipush (pc := 26) (v := 10) E dX5_readSpan_26 (by decide) ?_
    refine r_iload_n (pc := 28) E dX5_readSpan_28 rfl 0 rfl ?_
    refine r_bipush (pc := 29) (v := 8) E dX5_readSpan_29 (by decide) ?_
    refine r_idiv (pc := 31) E dX5_readSpan_31 (fun v31 => ?_)
    refine r_iadd (pc := 32) E dX5_readSpan_32 ?_
    refine r_lshl (pc := 33) E dX5_readSpan_33 ?_
    refine r_lstore_n (pc := 34) (lf := fun v34 => [(1, v24)]) (lg := fun v34 => [(2, v34)]) (lk := fun v34 => [(0, a0)]) E dX5_readSpan_34 rfl (by decide) (fun _ => rfl) (fun _ => rfl) (fun _ => rfl) (fun v34 => ?_)
    refine r_aload_n (pc := 35) E dX5_readSpan_35 rfl 0 rfl ?_
    refine r_lload_n (pc := 36) E dX5_readSpan_36 rfl 0 rfl ?_
    refine r_iload_n (pc := 37) E dX5_readSpan_37 rfl 0 rfl ?_
    refine r_bipush (pc := 38) (v := 8) E dX5_readSpan_38 (by decide) ?_
    refine r_irem (pc := 40) E dX5_readSpan_40 (fun v40 => ?_)
    refine r_i2l (pc := 41) E dX5_readSpan_41 ?_
    refine r_lload_n (pc := 42) E dX5_readSpan_42 rfl 0 rfl ?_
    refine r_ldc2 (pc := 43) E wk_RX5_157 dX5_readSpan_43 ?_
    refine r_ldiv (pc := 46) E dX5_readSpan_46 (fun v46 => ?_)
    refine r_lmul (pc := 47) E dX5_readSpan_47 ?_
    refine r_ladd (pc := 48) E dX5_readSpan_48 ?_
    refine r_putJ (pc := 49) E fd_5_9 wf_RX5_159 dX5_readSpan_49 (Or.inl rfl) (fun M49 => ?_)
    refine r_aload_n (pc := 52) E dX5_readSpan_52 rfl 0 rfl ?_
    refine r_getJ (pc := 53) E fd_5_9 wf_RX5_159 dX5_readSpan_53 (fun v53 => ?_)
    refine r_aload_n (pc := 56) E dX5_readSpan_56 rfl 0 rfl ?_
    refine r_getJ (pc := 57) E fd_5_7 wf_RX5_49 dX5_readSpan_57 (fun v57 => ?_)
    refine r_lcmp (pc := 60) E dX5_readSpan_60 ?_
    refine r_if_le (pc := 61) (tgt := 77) E dX5_readSpan_61 (by decide) ?_ ?_
    · refine r_aload_n (pc := 77) E dX5_readSpan_77 rfl 0 rfl ?_
      refine r_dup (pc := 78) E dX5_readSpan_78 (rv_cat _ _) ?_
      refine r_getI (pc := 79) E fd_5_8 wf_RX5_53 dX5_readSpan_79 (fun v79 => ?_)
      refine r_iconst (pc := 82) (v := 1) E dX5_readSpan_82 (by decide) ?_
      refine r_iadd (pc := 83) E dX5_readSpan_83 ?_
      refine r_putI (pc := 84) E fd_5_8 wf_RX5_53 dX5_readSpan_84 (Or.inl rfl) (fun M84 => ?_)
      refine r_iconst (pc := 87) (v := 1) E dX5_readSpan_87 (by decide) ?_
      exact e_bool (pc := 88) E dX5_readSpan_88
    · refine r_aload_n (pc := 64) E dX5_readSpan_64 rfl 0 rfl ?_
      refine r_getR (pc := 65) E fd_5_2 wf_RX5_23 dX5_readSpan_65 (fun v65 => ?_)
      refine r_iconst (pc := 68) (v := 4) E dX5_readSpan_68 (by decide) ?_
      refine r_aload_n (pc := 69) E dX5_readSpan_69 rfl 0 rfl ?_
      refine r_getI (pc := 70) E fd_5_8 wf_RX5_53 dX5_readSpan_70 (fun v70 => ?_)
      refine r_kVi (pc := 73) (As := [.int 4, .int v70]) (rest := []) E wc_X7_fail wi_RX7 hd_X7_fail (ci := 7) rfl wl_RX5_122 wn_X7_fail ws_X7_fail dX5_readSpan_73 (by decide) (Nat.le_of_ble_eq_true rfl) ⟨rfl, rfl⟩ (ctX7_fail l x _ _ _ _) rfl (fun v73 M73 => ?_)
      exact e_bool (pc := 76) E dX5_readSpan_76
  · refine r_aload_n (pc := 8) E dX5_readSpan_8 rfl 0 rfl ?_
    refine r_kVi (pc := 9) (As := []) (rest := []) E wc_X5_lacks wi_RX5 hd_X5_lacks (ci := 5) rfl wl_RX5_109 wn_X5_lacks ws_X5_lacks dX5_readSpan_9 (by decide) (Nat.le_of_ble_eq_true rfl) ⟨rfl, rfl⟩ (ctX5_lacks l x _ _) rfl (fun v9 M9 => ?_)
    exact e_bool (pc := 12) E dX5_readSpan_12
def fX5_readNumber_L100 (p0 : Option Nat) (p2 : Int32) (q0 : Option Nat) (q1 : Option Nat) (M : Mem) : Option (Int32 × Mem) :=
  bo (pR M q0 5 6 q1) fun M100 =>
  bo (gI M100 p0 5 8) fun v105 =>
  bo (pI M100 p0 5 8 (v105 + p2)) fun M110 =>
  rtZ 1 M110
def fX5_readNumber_L86 (p0 : Option Nat) (p2 : Int32) (p4 : Int32) (M : Mem) : Option (Int32 × Mem) :=
  if p4 = 0 then (
    fX5_readNumber_L100 p0 p2 p0 none M
  ) else (
    bo (gR M p0 5 5) fun v93 =>
    fX5_readNumber_L100 p0 p2 p0 v93 M
  )
def fX5_readNumber_L62 (p0 : Option Nat) (p2 : Int32) (p3 : Int32) (q0 : Int32) (M : Mem) : Option (Int32 × Mem) :=
  bn (q0) fun v62 =>
  if p3 = 0 then (
    fX5_readNumber_L86 p0 p2 v62 M
  ) else (
    if v62 = 0 then (
      bo (gR M p0 5 2) fun v74 =>
      bo (gI M p0 5 8) fun v79 =>
      bo (chk M v74 7) fun _ => bd (fX7_fail v74 5 v79 M) fun v82 M82 =>
      rtZ v82 M82
    ) else (
      fX5_readNumber_L86 p0 p2 v62 M
    )
  )
def fX5_readNumber_L61 (p0 : Option Nat) (p2 : Int32) (p3 : Int32) (M : Mem) : Option (Int32 × Mem) :=
  fX5_readNumber_L62 p0 p2 p3 0 M
def fX5_readNumber_L10 (p0 : Option Nat) (q0 : Int32) (M : Mem) : Option (Int32 × Mem) :=
  bn (q0) fun v10 =>
  bo (chk M p0 5) fun _ => bd (fX5_there p0 v10.toInt64 M) fun v14 M14 =>
  if v14 = 0 then (
    bo (chk M14 p0 5) fun _ => bd (fX5_lacks p0 M14) fun v21 M21 =>
    rtZ v21 M21
  ) else (
    bo (gR M14 p0 5 3) fun v26 =>
    bo (gI M14 p0 5 8) fun v30 =>
    bo (chk M14 v26 8) fun _ => bd (fX8_number v26 v30 v10 M14) fun v34 M34 =>
    bn (v34.toInt32) fun v38 =>
    bo (gR M34 p0 5 5) fun v40 =>
    if v40 = none then (
      fX5_readNumber_L61 p0 v10 v38 M34
    ) else (
      bo (gR M34 p0 5 5) fun v47 =>
      bo (gI M34 v47 2 0) fun v50 =>
      if v50 = v38 then (
        fX5_readNumber_L62 p0 v10 v38 1 M34
      ) else (
        fX5_readNumber_L61 p0 v10 v38 M34
      )
    )
  )
def fX5_readNumber (a0 : Option Nat) (a1 : Int32) (M : Mem) : Option (Int32 × Mem) :=
  if a1 = 3 then (
    fX5_readNumber_L10 a0 4 M
  ) else (
    fX5_readNumber_L10 a0 a1 M
  )
def rmX5_readNumber : Room := { frames := 2, cells := 0, slots := 0, locals := 46 }
set_option maxRecDepth 100000 in
set_option maxHeartbeats 4000000 in
theorem ctX5_readNumber (l : Launch) (x : Cx) (a0 : Option Nat) (a1 : Int32) (M : Mem) (v : Int32) (N : Mem) (h : fX5_readNumber a0 a1 M = some (v, N)) : CT l yX5_readNumber cX5_readNumber 5 (some (FieldType.boolean)) rmX5_readNumber x [rv x a0, .int a1] M (some (.int v)) N := by
  refine ct_mk (enc := fun v : Int32 => some (.int v)) (li := [(1, a1)]) (ll := []) (lr := [(0, a0)]) (by decide +kernel) (by simp [lg_sl, rv_cat, cat_int, cat_long]) (by simp [flat, lv_args, rv_cat, cat_int, cat_long]) h ?_
  intro p e s m args below meth c E
  have hL100 : ∀ (p0 : Option Nat) (p2 : Int32) (q0 : Option Nat) (q1 : Option Nat) (M : Mem), RT p l e rmX5_readNumber s m args below meth c x 5 (QM below args s x (fun v : Int32 => some (.int v)) rmX5_readNumber.cells rmX5_readNumber.slots) 0 0 (fX5_readNumber_L100 p0 p2 q0 q1 M) 100 [(2, p2)] [] [(0, p0)] [rv x q1, rv x q0] M := by
    intro p0 p2 q0 q1 M
    unfold fX5_readNumber_L100
    refine r_putR (pc := 100) E fd_5_6 wf_RX5_166 dX5_readNumber_100 (Or.inl rfl) (fun M100 => ?_)
    refine r_aload_n (pc := 103) E dX5_readNumber_103 rfl 0 rfl ?_
    refine r_dup (pc := 104) E dX5_readNumber_104 (rv_cat _ _) ?_
    refine r_getI (pc := 105) E fd_5_8 wf_RX5_53 dX5_readNumber_105 (fun v105 => ?_)
    refine r_iload_n (pc := 108) E dX5_readNumber_108 rfl 0 rfl ?_
    refine r_iadd (pc := 109) E dX5_readNumber_109 ?_
    refine r_putI (pc := 110) E fd_5_8 wf_RX5_53 dX5_readNumber_110 (Or.inl rfl) (fun M110 => ?_)
    refine r_iconst (pc := 113) (v := 1) E dX5_readNumber_113 (by decide) ?_
    exact e_bool (pc := 114) E dX5_readNumber_114
  have hL86 : ∀ (p0 : Option Nat) (p2 : Int32) (p4 : Int32) (M : Mem), RT p l e rmX5_readNumber s m args below meth c x 5 (QM below args s x (fun v : Int32 => some (.int v)) rmX5_readNumber.cells rmX5_readNumber.slots) 0 0 (fX5_readNumber_L86 p0 p2 p4 M) 86 [(2, p2), (4, p4)] [] [(0, p0)] [] M := by
    intro p0 p2 p4 M
    unfold fX5_readNumber_L86
    refine r_aload_n (pc := 86) E dX5_readNumber_86 rfl 0 rfl ?_
    refine r_iload (pc := 87) E dX5_readNumber_87 1 rfl ?_
    refine r_if_eq (pc := 89) (tgt := 99) E dX5_readNumber_89 (by decide) ?_ ?_
    · refine r_null (pc := 99) E dX5_readNumber_99 ?_
      exact r_sub [0] [] [0] rfl rfl rfl (hL100 p0 p2 p0 none _)
    · refine r_aload_n (pc := 92) E dX5_readNumber_92 rfl 0 rfl ?_
      refine r_getR (pc := 93) E fd_5_5 wf_RX5_45 dX5_readNumber_93 (fun v93 => ?_)
      refine r_goto (pc := 96) (tgt := 100) E dX5_readNumber_96 (by decide) ?_
      exact r_sub [0] [] [0] rfl rfl rfl (hL100 p0 p2 p0 v93 _)
  have hL62 : ∀ (p0 : Option Nat) (p2 : Int32) (p3 : Int32) (q0 : Int32) (M : Mem), RT p l e rmX5_readNumber s m args below meth c x 5 (QM below args s x (fun v : Int32 => some (.int v)) rmX5_readNumber.cells rmX5_readNumber.slots) 0 0 (fX5_readNumber_L62 p0 p2 p3 q0 M) 62 [(2, p2), (3, p3)] [] [(0, p0)] [.int q0] M := by
    intro p0 p2 p3 q0 M
    unfold fX5_readNumber_L62
    refine r_istore (pc := 62) (lf := fun v62 => [(4, v62), (2, p2), (3, p3)]) (lg := fun v62 => []) (lk := fun v62 => [(0, p0)]) E dX5_readNumber_62 (by decide) (fun _ => rfl) (fun _ => rfl) (fun _ => rfl) (fun v62 => ?_)
    refine r_iload_n (pc := 64) E dX5_readNumber_64 rfl 2 rfl ?_
    refine r_if_eq (pc := 65) (tgt := 86) E dX5_readNumber_65 (by decide) ?_ ?_
    · exact r_sub [1, 0] [] [0] rfl rfl rfl (hL86 p0 p2 v62 _)
    · refine r_iload (pc := 68) E dX5_readNumber_68 0 rfl ?_
      refine r_if_ne (pc := 70) (tgt := 86) E dX5_readNumber_70 (by decide) ?_ ?_
      · exact r_sub [1, 0] [] [0] rfl rfl rfl (hL86 p0 p2 v62 _)
      · refine r_aload_n (pc := 73) E dX5_readNumber_73 rfl 0 rfl ?_
        refine r_getR (pc := 74) E fd_5_2 wf_RX5_23 dX5_readNumber_74 (fun v74 => ?_)
        refine r_iconst (pc := 77) (v := 5) E dX5_readNumber_77 (by decide) ?_
        refine r_aload_n (pc := 78) E dX5_readNumber_78 rfl 0 rfl ?_
        refine r_getI (pc := 79) E fd_5_8 wf_RX5_53 dX5_readNumber_79 (fun v79 => ?_)
        refine r_kVi (pc := 82) (As := [.int 5, .int v79]) (rest := []) E wc_X7_fail wi_RX7 hd_X7_fail (ci := 7) rfl wl_RX5_122 wn_X7_fail ws_X7_fail dX5_readNumber_82 (by decide) (Nat.le_of_ble_eq_true rfl) ⟨rfl, rfl⟩ (ctX7_fail l x _ _ _ _) rfl (fun v82 M82 => ?_)
        exact e_bool (pc := 85) E dX5_readNumber_85
  have hL61 : ∀ (p0 : Option Nat) (p2 : Int32) (p3 : Int32) (M : Mem), RT p l e rmX5_readNumber s m args below meth c x 5 (QM below args s x (fun v : Int32 => some (.int v)) rmX5_readNumber.cells rmX5_readNumber.slots) 0 0 (fX5_readNumber_L61 p0 p2 p3 M) 61 [(2, p2), (3, p3)] [] [(0, p0)] [] M := by
    intro p0 p2 p3 M
    unfold fX5_readNumber_L61
    refine r_iconst (pc := 61) (v := 0) E dX5_readNumber_61 (by decide) ?_
    exact r_sub [0, 1] [] [0] rfl rfl rfl (hL62 p0 p2 p3 0 _)
  have hL10 : ∀ (p0 : Option Nat) (q0 : Int32) (M : Mem), RT p l e rmX5_readNumber s m args below meth c x 5 (QM below args s x (fun v : Int32 => some (.int v)) rmX5_readNumber.cells rmX5_readNumber.slots) 0 0 (fX5_readNumber_L10 p0 q0 M) 10 [] [] [(0, p0)] [.int q0] M := by
    intro p0 q0 M
    unfold fX5_readNumber_L10
    refine r_istore_n (pc := 10) (lf := fun v10 => [(2, v10)]) (lg := fun v10 => []) (lk := fun v10 => [(0, p0)]) E dX5_readNumber_10 rfl (by decide) (fun _ => rfl) (fun _ => rfl) (fun _ => rfl) (fun v10 => ?_)
    refine r_aload_n (pc := 11) E dX5_readNumber_11 rfl 0 rfl ?_
    refine r_iload_n (pc := 12) E dX5_readNumber_12 rfl 0 rfl ?_
    refine r_i2l (pc := 13) E dX5_readNumber_13 ?_
    refine r_kVi (pc := 14) (As := [.long v10.toInt64]) (rest := []) E wc_X5_there wi_RX5 hd_X5_there (ci := 5) rfl wl_RX5_105 wn_X5_there ws_X5_there dX5_readNumber_14 (by decide) (Nat.le_of_ble_eq_true rfl) ⟨rfl, rfl⟩ (ctX5_there l x _ _ _) rfl (fun v14 M14 => ?_)
    refine r_if_ne (pc := 17) (tgt := 25) E dX5_readNumber_17 (by decide) ?_ ?_
    · refine r_aload_n (pc := 25) E dX5_readNumber_25 rfl 0 rfl ?_
      refine r_getR (pc := 26) E fd_5_3 wf_RX5_14 dX5_readNumber_26 (fun v26 => ?_)
      refine r_aload_n (pc := 29) E dX5_readNumber_29 rfl 0 rfl ?_
      refine r_getI (pc := 30) E fd_5_8 wf_RX5_53 dX5_readNumber_30 (fun v30 => ?_)
      refine r_iload_n (pc := 33) E dX5_readNumber_33 rfl 0 rfl ?_
      refine r_kVl (pc := 34) (As := [.int v30, .int v10]) (rest := []) E wc_X8_number wi_RX8 hd_X8_number (ci := 8) rfl wl_RX5_112 wn_X8_number ws_X8_number dX5_readNumber_34 (by decide) (Nat.le_of_ble_eq_true rfl) ⟨rfl, rfl⟩ (ctX8_number l x _ _ _ _) rfl (fun v34 M34 => ?_)
      refine r_l2i (pc := 37) E dX5_readNumber_37 ?_
      refine r_istore_n (pc := 38) (lf := fun v38 => [(3, v38), (2, v10)]) (lg := fun v38 => []) (lk := fun v38 => [(0, p0)]) E dX5_readNumber_38 rfl (by decide) (fun _ => rfl) (fun _ => rfl) (fun _ => rfl) (fun v38 => ?_)
      refine r_aload_n (pc := 39) E dX5_readNumber_39 rfl 0 rfl ?_
      refine r_getR (pc := 40) E fd_5_5 wf_RX5_45 dX5_readNumber_40 (fun v40 => ?_)
      refine r_ifnull (pc := 43) (tgt := 61) E dX5_readNumber_43 (by decide) ?_ ?_
      · exact r_sub [1, 0] [] [0] rfl rfl rfl (hL61 p0 v10 v38 _)
      · refine r_aload_n (pc := 46) E dX5_readNumber_46 rfl 0 rfl ?_
        refine r_getR (pc := 47) E fd_5_5 wf_RX5_45 dX5_readNumber_47 (fun v47 => ?_)
        refine r_getI (pc := 50) E fd_2_0 wf_RX5_162 dX5_readNumber_50 (fun v50 => ?_)
        refine r_iload_n (pc := 53) E dX5_readNumber_53 rfl 0 rfl ?_
        refine r_icmp_ne (pc := 54) (tgt := 61) E dX5_readNumber_54 (by decide) ?_ ?_
        · exact r_sub [1, 0] [] [0] rfl rfl rfl (hL61 p0 v10 v38 _)
        · refine r_iconst (pc := 57) (v := 1) E dX5_readNumber_57 (by decide) ?_
          refine r_goto (pc := 58) (tgt := 62) E dX5_readNumber_58 (by decide) ?_
          exact r_sub [1, 0] [] [0] rfl rfl rfl (hL62 p0 v10 v38 1 _)
    · refine r_aload_n (pc := 20) E dX5_readNumber_20 rfl 0 rfl ?_
      refine r_kVi (pc := 21) (As := []) (rest := []) E wc_X5_lacks wi_RX5 hd_X5_lacks (ci := 5) rfl wl_RX5_109 wn_X5_lacks ws_X5_lacks dX5_readNumber_21 (by decide) (Nat.le_of_ble_eq_true rfl) ⟨rfl, rfl⟩ (ctX5_lacks l x _ _) rfl (fun v21 M21 => ?_)
      exact e_bool (pc := 24) E dX5_readNumber_24
  show RT p l e rmX5_readNumber s m args below meth c x 5 (QM below args s x (fun v : Int32 => some (.int v)) rmX5_readNumber.cells rmX5_readNumber.slots) 0 0 (fX5_readNumber a0 a1 M) 0 [(1, a1)] [] [(0, a0)] [] M
  unfold fX5_readNumber
  refine r_iload_n (pc := 0) E dX5_readNumber_0 rfl 0 rfl ?_
  refine r_iconst (pc := 1) (v := 3) E dX5_readNumber_1 (by decide) ?_
  refine r_icmp_ne (pc := 2) (tgt := 9) E dX5_readNumber_2 (by decide) ?_ ?_
  · refine r_iload_n (pc := 9) E dX5_readNumber_9 rfl 0 rfl ?_
    exact r_sub [] [] [0] rfl rfl rfl (hL10 a0 a1 _)
  · refine r_iconst (pc := 5) (v := 4) E dX5_readNumber_5 (by decide) ?_
    refine r_goto (pc := 6) (tgt := 10) E dX5_readNumber_6 (by decide) ?_
    exact r_sub [] [] [0] rfl rfl rfl (hL10 a0 4 _)
def fX5_readSize_L141 (M : Mem) : Option (Int32 × Mem) :=
  rtZ 1 M
def fX5_readSize_L128 (p0 : Option Nat) (M : Mem) : Option (Int32 × Mem) :=
  bo (gR M p0 5 2) fun v129 =>
  bo (gI M p0 5 12) fun v134 =>
  bo (chk M v129 7) fun _ => bd (fX7_fail v129 4 v134 M) fun v137 M137 =>
  rtZ v137 M137
def fX5_readSize_L80 (p0 : Option Nat) (p2 : Int32) (p3 : Int32) (q0 : Option Nat) (q1 : Int64) (q2 : Int32) (M : Mem) : Option (Int32 × Mem) :=
  bo (pJ M q0 5 10 (q1 + q2.toInt64)) fun M82 =>
  bo (gI M82 p0 5 8) fun v87 =>
  bo (pI M82 p0 5 8 (v87 + p3)) fun M92 =>
  if p2 = 0 then (
    fX5_readSize_L141 M92
  ) else (
    bo (gJ M92 p0 5 10) fun v101 =>
    bo (pJ M92 p0 5 9 v101) fun M104 =>
    bo (gJ M104 p0 5 9) fun v108 =>
    if (lg_cmp v108 0) < 0 then (
      fX5_readSize_L128 p0 M104
    ) else (
      bo (gJ M104 p0 5 9) fun v117 =>
      bo (gJ M104 p0 5 7) fun v121 =>
      if (lg_cmp v117 v121) ≤ 0 then (
        fX5_readSize_L141 M104
      ) else (
        fX5_readSize_L128 p0 M104
      )
    )
  )
def fX5_readSize_L52 (p0 : Option Nat) (p1 : Int32) (p2 : Int32) (p3 : Int32) (q0 : Option Nat) (q1 : Int32) (M : Mem) : Option (Int32 × Mem) :=
  bo (pZ M q0 5 11 q1) fun M52 =>
  bo (gR M52 p0 5 3) fun v57 =>
  bo (gI M52 p0 5 8) fun v61 =>
  bo (chk M52 v57 8) fun _ => bd (fX8_number v57 v61 p3 M52) fun v65 M65 =>
  if p1 = 1 then (
    fX5_readSize_L80 p0 p2 p3 p0 v65 256 M65
  ) else (
    fX5_readSize_L80 p0 p2 p3 p0 v65 0 M65
  )
def fX5_readSize_L19 (p0 : Option Nat) (p1 : Int32) (p2 : Int32) (q0 : Int32) (M : Mem) : Option (Int32 × Mem) :=
  bn (q0) fun v19 =>
  bo (chk M p0 5) fun _ => bd (fX5_there p0 v19.toInt64 M) fun v23 M23 =>
  if v23 = 0 then (
    bo (chk M23 p0 5) fun _ => bd (fX5_lacks p0 M23) fun v30 M30 =>
    rtZ v30 M30
  ) else (
    bo (gI M23 p0 5 8) fun v36 =>
    bo (pI M23 p0 5 12 v36) fun M39 =>
    if v19 ≤ 0 then (
      fX5_readSize_L52 p0 p1 p2 v19 p0 0 M39
    ) else (
      fX5_readSize_L52 p0 p1 p2 v19 p0 1 M39
    )
  )
def fX5_readSize (a0 : Option Nat) (a1 : Int32) (a2 : Int32) (M : Mem) : Option (Int32 × Mem) :=
  if a1 = 0 then (
    if a2 = 0 then (
      fX5_readSize_L19 a0 a1 a2 0 M
    ) else (
      fX5_readSize_L19 a0 a1 a2 1 M
    )
  ) else (
    fX5_readSize_L19 a0 a1 a2 (shlI 1 a1) M
  )
def rmX5_readSize : Room := { frames := 2, cells := 0, slots := 0, locals := 46 }
set_option maxRecDepth 100000 in
set_option maxHeartbeats 4000000 in
theorem ctX5_readSize (l : Launch) (x : Cx) (a0 : Option Nat) (a1 : Int32) (a2 : Int32) (M : Mem) (v : Int32) (N : Mem) (h : fX5_readSize a0 a1 a2 M = some (v, N)) : CT l yX5_readSize cX5_readSize 4 (some (FieldType.boolean)) rmX5_readSize x [rv x a0, .int a1, .int a2] M (some (.int v)) N := by
  refine ct_mk (enc := fun v : Int32 => some (.int v)) (li := [(1, a1), (2, a2)]) (ll := []) (lr := [(0, a0)]) (by decide +kernel) (by simp [lg_sl, rv_cat, cat_int, cat_long]) (by simp [flat, lv_args, rv_cat, cat_int, cat_long]) h ?_
  intro p e s m args below meth c E
  have hL141 : ∀ (M : Mem), RT p l e rmX5_readSize s m args below meth c x 4 (QM below args s x (fun v : Int32 => some (.int v)) rmX5_readSize.cells rmX5_readSize.slots) 0 0 (fX5_readSize_L141 M) 141 [] [] [] [] M := by
    intro M
    unfold fX5_readSize_L141
    refine r_iconst (pc := 141) (v := 1) E dX5_readSize_141 (by decide) ?_
    exact e_bool (pc := 142) E dX5_readSize_142
  have hL128 : ∀ (p0 : Option Nat) (M : Mem), RT p l e rmX5_readSize s m args below meth c x 4 (QM below args s x (fun v : Int32 => some (.int v)) rmX5_readSize.cells rmX5_readSize.slots) 0 0 (fX5_readSize_L128 p0 M) 128 [] [] [(0, p0)] [] M := by
    intro p0 M
    unfold fX5_readSize_L128
    refine r_aload_n (pc := 128) E dX5_readSize_128 rfl 0 rfl ?_
    refine r_getR (pc := 129) E fd_5_2 wf_RX5_23 dX5_readSize_129 (fun v129 => ?_)
    refine r_iconst (pc := 132) (v := 4) E dX5_readSize_132 (by decide) ?_
    refine r_aload_n (pc := 133) E dX5_readSize_133 rfl 0 rfl ?_
    refine r_getI (pc := 134) E fd_5_12 wf_RX5_169 dX5_readSize_134 (fun v134 => ?_)
    refine r_kVi (pc := 137) (As := [.int 4, .int v134]) (rest := []) E wc_X7_fail wi_RX7 hd_X7_fail (ci := 7) rfl wl_RX5_122 wn_X7_fail ws_X7_fail dX5_readSize_137 (by decide) (Nat.le_of_ble_eq_true rfl) ⟨rfl, rfl⟩ (ctX7_fail l x _ _ _ _) rfl (fun v137 M137 => ?_)
    exact e_bool (pc := 140) E dX5_readSize_140
  have hL80 : ∀ (p0 : Option Nat) (p2 : Int32) (p3 : Int32) (q0 : Option Nat) (q1 : Int64) (q2 : Int32) (M : Mem), RT p l e rmX5_readSize s m args below meth c x 4 (QM below args s x (fun v : Int32 => some (.int v)) rmX5_readSize.cells rmX5_readSize.slots) 0 0 (fX5_readSize_L80 p0 p2 p3 q0 q1 q2 M) 80 [(2, p2), (3, p3)] [] [(0, p0)] [.int q2, .long q1, rv x q0] M := by
    intro p0 p2 p3 q0 q1 q2 M
    unfold fX5_readSize_L80
    refine r_i2l (pc := 80) E dX5_readSize_80 ?_
    refine r_ladd (pc := 81) E dX5_readSize_81 ?_
    refine r_putJ (pc := 82) E fd_5_10 wf_RX5_175 dX5_readSize_82 (Or.inl rfl) (fun M82 => ?_)
    refine r_aload_n (pc := 85) E dX5_readSize_85 rfl 0 rfl ?_
    refine r_dup (pc := 86) E dX5_readSize_86 (rv_cat _ _) ?_
    refine r_getI (pc := 87) E fd_5_8 wf_RX5_53 dX5_readSize_87 (fun v87 => ?_)
    refine r_iload_n (pc := 90) E dX5_readSize_90 rfl 1 rfl ?_
    refine r_iadd (pc := 91) E dX5_readSize_91 ?_
    refine r_putI (pc := 92) E fd_5_8 wf_RX5_53 dX5_readSize_92 (Or.inl rfl) (fun M92 => ?_)
    refine r_iload_n (pc := 95) E dX5_readSize_95 rfl 0 rfl ?_
    refine r_if_eq (pc := 96) (tgt := 141) E dX5_readSize_96 (by decide) ?_ ?_
    · exact r_sub [] [] [] rfl rfl rfl (hL141 _)
    · refine r_aload_n (pc := 99) E dX5_readSize_99 rfl 0 rfl ?_
      refine r_aload_n (pc := 100) E dX5_readSize_100 rfl 0 rfl ?_
      refine r_getJ (pc := 101) E fd_5_10 wf_RX5_175 dX5_readSize_101 (fun v101 => ?_)
      refine r_putJ (pc := 104) E fd_5_9 wf_RX5_159 dX5_readSize_104 (Or.inl rfl) (fun M104 => ?_)
      refine r_aload_n (pc := 107) E dX5_readSize_107 rfl 0 rfl ?_
      refine r_getJ (pc := 108) E fd_5_9 wf_RX5_159 dX5_readSize_108 (fun v108 => ?_)
      refine r_lconst (pc := 111) (v := 0) E dX5_readSize_111 (by decide) ?_
      refine r_lcmp (pc := 112) E dX5_readSize_112 ?_
      refine r_if_lt (pc := 113) (tgt := 128) E dX5_readSize_113 (by decide) ?_ ?_
      · exact r_sub [] [] [0] rfl rfl rfl (hL128 p0 _)
      · refine r_aload_n (pc := 116) E dX5_readSize_116 rfl 0 rfl ?_
        refine r_getJ (pc := 117) E fd_5_9 wf_RX5_159 dX5_readSize_117 (fun v117 => ?_)
        refine r_aload_n (pc := 120) E dX5_readSize_120 rfl 0 rfl ?_
        refine r_getJ (pc := 121) E fd_5_7 wf_RX5_49 dX5_readSize_121 (fun v121 => ?_)
        refine r_lcmp (pc := 124) E dX5_readSize_124 ?_
        refine r_if_le (pc := 125) (tgt := 141) E dX5_readSize_125 (by decide) ?_ ?_
        · exact r_sub [] [] [] rfl rfl rfl (hL141 _)
        · exact r_sub [] [] [0] rfl rfl rfl (hL128 p0 _)
  have hL52 : ∀ (p0 : Option Nat) (p1 : Int32) (p2 : Int32) (p3 : Int32) (q0 : Option Nat) (q1 : Int32) (M : Mem), RT p l e rmX5_readSize s m args below meth c x 4 (QM below args s x (fun v : Int32 => some (.int v)) rmX5_readSize.cells rmX5_readSize.slots) 0 0 (fX5_readSize_L52 p0 p1 p2 p3 q0 q1 M) 52 [(1, p1), (2, p2), (3, p3)] [] [(0, p0)] [.int q1, rv x q0] M := by
    intro p0 p1 p2 p3 q0 q1 M
    unfold fX5_readSize_L52
    refine r_putZ (pc := 52) E fd_5_11 wf_RX5_172 dX5_readSize_52 (Or.inl rfl) (fun M52 => ?_)
    refine r_aload_n (pc := 55) E dX5_readSize_55 rfl 0 rfl ?_
    refine r_aload_n (pc := 56) E dX5_readSize_56 rfl 0 rfl ?_
    refine r_getR (pc := 57) E fd_5_3 wf_RX5_14 dX5_readSize_57 (fun v57 => ?_)
    refine r_aload_n (pc := 60) E dX5_readSize_60 rfl 0 rfl ?_
    refine r_getI (pc := 61) E fd_5_8 wf_RX5_53 dX5_readSize_61 (fun v61 => ?_)
    refine r_iload_n (pc := 64) E dX5_readSize_64 rfl 2 rfl ?_
    refine r_kVl (pc := 65) (As := [.int v61, .int p3]) (rest := [rv x p0]) E wc_X8_number wi_RX8 hd_X8_number (ci := 8) rfl wl_RX5_112 wn_X8_number ws_X8_number dX5_readSize_65 (by decide) (Nat.le_of_ble_eq_true rfl) ⟨rfl, rfl⟩ (ctX8_number l x _ _ _ _) rfl (fun v65 M65 => ?_)
    refine r_iload_n (pc := 68) E dX5_readSize_68 rfl 0 rfl ?_
    refine r_iconst (pc := 69) (v := 1) E dX5_readSize_69 (by decide) ?_
    refine r_icmp_ne (pc := 70) (tgt := 79) E dX5_readSize_70 (by decide) ?_ ?_
    · refine r_iconst (pc := 79) (v := 0) E dX5_readSize_79 (by decide) ?_
      exact r_sub [1, 2] [] [0] rfl rfl rfl (hL80 p0 p2 p3 p0 v65 0 _)
    · refine r_sipush (pc := 73) (v := 256) E dX5_readSize_73 (by decide) ?_
      refine r_goto (pc := 76) (tgt := 80) E dX5_readSize_76 (by decide) ?_
      exact r_sub [1, 2] [] [0] rfl rfl rfl (hL80 p0 p2 p3 p0 v65 256 _)
  have hL19 : ∀ (p0 : Option Nat) (p1 : Int32) (p2 : Int32) (q0 : Int32) (M : Mem), RT p l e rmX5_readSize s m args below meth c x 4 (QM below args s x (fun v : Int32 => some (.int v)) rmX5_readSize.cells rmX5_readSize.slots) 0 0 (fX5_readSize_L19 p0 p1 p2 q0 M) 19 [(1, p1), (2, p2)] [] [(0, p0)] [.int q0] M := by
    intro p0 p1 p2 q0 M
    unfold fX5_readSize_L19
    refine r_istore_n (pc := 19) (lf := fun v19 => [(3, v19), (1, p1), (2, p2)]) (lg := fun v19 => []) (lk := fun v19 => [(0, p0)]) E dX5_readSize_19 rfl (by decide) (fun _ => rfl) (fun _ => rfl) (fun _ => rfl) (fun v19 => ?_)
    refine r_aload_n (pc := 20) E dX5_readSize_20 rfl 0 rfl ?_
    refine r_iload_n (pc := 21) E dX5_readSize_21 rfl 0 rfl ?_
    refine r_i2l (pc := 22) E dX5_readSize_22 ?_
    refine r_kVi (pc := 23) (As := [.long v19.toInt64]) (rest := []) E wc_X5_there wi_RX5 hd_X5_there (ci := 5) rfl wl_RX5_105 wn_X5_there ws_X5_there dX5_readSize_23 (by decide) (Nat.le_of_ble_eq_true rfl) ⟨rfl, rfl⟩ (ctX5_there l x _ _ _) rfl (fun v23 M23 => ?_)
    refine r_if_ne (pc := 26) (tgt := 34) E dX5_readSize_26 (by decide) ?_ ?_
    · refine r_aload_n (pc := 34) E dX5_readSize_34 rfl 0 rfl ?_
      refine r_aload_n (pc := 35) E dX5_readSize_35 rfl 0 rfl ?_
      refine r_getI (pc := 36) E fd_5_8 wf_RX5_53 dX5_readSize_36 (fun v36 => ?_)
      refine r_putI (pc := 39) E fd_5_12 wf_RX5_169 dX5_readSize_39 (Or.inl rfl) (fun M39 => ?_)
      refine r_aload_n (pc := 42) E dX5_readSize_42 rfl 0 rfl ?_
      refine r_iload_n (pc := 43) E dX5_readSize_43 rfl 0 rfl ?_
      refine r_if_le (pc := 44) (tgt := 51) E dX5_readSize_44 (by decide) ?_ ?_
      · refine r_iconst (pc := 51) (v := 0) E dX5_readSize_51 (by decide) ?_
        exact r_sub [1, 2, 0] [] [0] rfl rfl rfl (hL52 p0 p1 p2 v19 p0 0 _)
      · refine r_iconst (pc := 47) (v := 1) E dX5_readSize_47 (by decide) ?_
        refine r_goto (pc := 48) (tgt := 52) E dX5_readSize_48 (by decide) ?_
        exact r_sub [1, 2, 0] [] [0] rfl rfl rfl (hL52 p0 p1 p2 v19 p0 1 _)
    · refine r_aload_n (pc := 29) E dX5_readSize_29 rfl 0 rfl ?_
      refine r_kVi (pc := 30) (As := []) (rest := []) E wc_X5_lacks wi_RX5 hd_X5_lacks (ci := 5) rfl wl_RX5_109 wn_X5_lacks ws_X5_lacks dX5_readSize_30 (by decide) (Nat.le_of_ble_eq_true rfl) ⟨rfl, rfl⟩ (ctX5_lacks l x _ _) rfl (fun v30 M30 => ?_)
      exact e_bool (pc := 33) E dX5_readSize_33
  show RT p l e rmX5_readSize s m args below meth c x 4 (QM below args s x (fun v : Int32 => some (.int v)) rmX5_readSize.cells rmX5_readSize.slots) 0 0 (fX5_readSize a0 a1 a2 M) 0 [(1, a1), (2, a2)] [] [(0, a0)] [] M
  unfold fX5_readSize
  refine r_iload_n (pc := 0) E dX5_readSize_0 rfl 0 rfl ?_
  refine r_if_ne (pc := 1) (tgt := 16) E dX5_readSize_1 (by decide) ?_ ?_
  · refine r_iconst (pc := 16) (v := 1) E dX5_readSize_16 (by decide) ?_
    refine r_iload_n (pc := 17) E dX5_readSize_17 rfl 0 rfl ?_
    refine r_ishl (pc := 18) E dX5_readSize_18 ?_
    exact r_sub [0, 1] [] [0] rfl rfl rfl (hL19 a0 a1 a2 (shlI 1 a1) _)
  · refine r_iload_n (pc := 4) E dX5_readSize_4 rfl 1 rfl ?_
    refine r_if_eq (pc := 5) (tgt := 12) E dX5_readSize_5 (by decide) ?_ ?_
    · refine r_iconst (pc := 12) (v := 0) E dX5_readSize_12 (by decide) ?_
      refine r_goto (pc := 13) (tgt := 19) E dX5_readSize_13 (by decide) ?_
      exact r_sub [0, 1] [] [0] rfl rfl rfl (hL19 a0 a1 a2 0 _)
    · refine r_iconst (pc := 8) (v := 1) E dX5_readSize_8 (by decide) ?_
      refine r_goto (pc := 9) (tgt := 19) E dX5_readSize_9 (by decide) ?_
      exact r_sub [0, 1] [] [0] rfl rfl rfl (hL19 a0 a1 a2 1 _)
def fX7_noteRemembered (a0 : Option Nat) (a1 : Option Nat) (M : Mem) : Option (Unit × Mem) :=
  bo (gR M a0 7 2) fun v3 =>
  bo (cI M a1 0 v3 6 3) fun M9 =>
  some ((), M9)
def rmX7_noteRemembered : Room := { frames := 1, cells := 0, slots := 0, locals := 26 }
set_option maxRecDepth 100000 in
set_option maxHeartbeats 4000000 in
theorem ctX7_noteRemembered (l : Launch) (x : Cx) (a0 : Option Nat) (a1 : Option Nat) (M : Mem) (v : Unit) (N : Mem) (h : fX7_noteRemembered a0 a1 M = some (v, N)) : CT l yX7_noteRemembered cX7_noteRemembered 2 (none) rmX7_noteRemembered x [rv x a0, rv x a1] M none N := by
  refine ct_mk (enc := fun _ : Unit => none) (li := []) (ll := []) (lr := [(0, a0), (1, a1)]) (by decide +kernel) (by simp [lg_sl, rv_cat, cat_int, cat_long]) (by simp [flat, lv_args, rv_cat, cat_int, cat_long]) h ?_
  intro p e s m args below meth c E
  show RT p l e rmX7_noteRemembered s m args below meth c x 2 (QM below args s x (fun _ : Unit => none) rmX7_noteRemembered.cells rmX7_noteRemembered.slots) 0 0 (fX7_noteRemembered a0 a1 M) 0 [] [] [(0, a0), (1, a1)] [] M
  unfold fX7_noteRemembered
  refine r_aload_n (pc := 0) E dX7_noteRemembered_0 rfl 1 rfl ?_
  refine r_iconst (pc := 1) (v := 0) E dX7_noteRemembered_1 (by decide) ?_
  refine r_aload_n (pc := 2) E dX7_noteRemembered_2 rfl 0 rfl ?_
  refine r_getA (pc := 3) E fd_7_2 wf_RX7_9 dX7_noteRemembered_3 (fun v3 => ?_)
  refine r_bipush (pc := 6) (v := 6) E dX7_noteRemembered_6 (by decide) ?_
  refine r_iconst (pc := 8) (v := 3) E dX7_noteRemembered_8 (by decide) ?_
  refine r_copy (pc := 9) E wl_RX7_31 wo_native wo_cps wi_RJ10 dX7_noteRemembered_9 (by decide) (by decide) (Nat.le_of_ble_eq_true rfl) (fun M9 => ?_)
  exact e_void (pc := 12) E dX7_noteRemembered_12
def fX9_beginFrame_L115 (k52 : Option Nat × Option Nat × Int32 → Mem → Option (Unit × Mem)) (p0 : Option Nat) (p2 : Option Nat) (p5 : Int32) (q0 : Option Nat) (q1 : Int32) (q2 : Option Nat) (M : Mem) : Option (Unit × Mem) :=
  bo (wR M q0 20 10 q1 q2) fun M115 =>
  bn (p5 + 1) fun v116 =>
  k52 ((p0, p2, v116)) M115
def fX9_beginFrame_L108 (k52 : Option Nat × Option Nat × Int32 → Mem → Option (Unit × Mem)) (p0 : Option Nat) (p2 : Option Nat) (p5 : Int32) (q0 : Option Nat) (q1 : Int32) (M : Mem) : Option (Unit × Mem) :=
  bo (gR M p0 9 2) fun v109 =>
  bo (aR M v109 20 p5) fun v114 =>
  fX9_beginFrame_L115 k52 p0 p2 p5 q0 q1 v114 M
def fX9_beginFrame_L80 (k52 : Option Nat × Option Nat × Int32 → Mem → Option (Unit × Mem)) (p0 : Option Nat) (p2 : Option Nat) (p5 : Int32) (q0 : Option Nat) (q1 : Int32) (q2 : Int32) (M : Mem) : Option (Unit × Mem) :=
  bo (wZ M q0 q1 q2) fun M80 =>
  bo (gR M80 p0 9 0) fun v82 =>
  if p2 = none then (
    fX9_beginFrame_L108 k52 p0 p2 p5 v82 p5 M80
  ) else (
    bo (gI M80 p2 2 1) fun v92 =>
    if v92 = 0 then (
      fX9_beginFrame_L108 k52 p0 p2 p5 v82 p5 M80
    ) else (
      bo (gR M80 p2 2 3) fun v99 =>
      bo (aR M80 v99 20 p5) fun v104 =>
      fX9_beginFrame_L115 k52 p0 p2 p5 v82 p5 v104 M80
    )
  )
def fX9_beginFrame_L79 (k52 : Option Nat × Option Nat × Int32 → Mem → Option (Unit × Mem)) (p0 : Option Nat) (p2 : Option Nat) (p5 : Int32) (q0 : Option Nat) (q1 : Int32) (M : Mem) : Option (Unit × Mem) :=
  fX9_beginFrame_L80 k52 p0 p2 p5 q0 q1 0 M
def fX9_beginFrame_B52 (k52 : Option Nat × Option Nat × Int32 → Mem → Option (Unit × Mem)) (p0 : Option Nat) (p2 : Option Nat) (p5 : Int32) (M : Mem) : Option (Unit × Mem) :=
  if 3 ≤ p5 then (
    bo (gR M p0 9 5) fun v123 =>
    bd (fX12_rememberFirst v123 p2 M) fun v127 M127 =>
    bo (gR M127 p0 9 6) fun v131 =>
    bo (gR M127 p0 9 5) fun v135 =>
    bo (chk M127 v131 7) fun _ => bd (fX7_noteRemembered v131 v135 M127) fun v138 M138 =>
    some ((), M138)
  ) else (
    bo (gR M p0 9 1) fun v59 =>
    if p2 = none then (
      fX9_beginFrame_L79 k52 p0 p2 p5 v59 p5 M
    ) else (
      bo (gI M p2 2 1) fun v69 =>
      if v69 = 0 then (
        fX9_beginFrame_L79 k52 p0 p2 p5 v59 p5 M
      ) else (
        fX9_beginFrame_L80 k52 p0 p2 p5 v59 p5 1 M
      )
    )
  )
def fX9_beginFrame_L52 (p0 : Option Nat) (p2 : Option Nat) (p5 : Int32) (M : Mem) : Option (Unit × Mem) :=
  lp (fun k52 (a : Option Nat × Option Nat × Int32) M => fX9_beginFrame_B52 k52 a.1 a.2.1 a.2.2 M) FU ((p0, p2, p5)) M
def fX9_beginFrame_L46 (p0 : Option Nat) (p2 : Option Nat) (q0 : Option Nat) (q1 : Option Nat) (M : Mem) : Option (Unit × Mem) :=
  bo (pR M q0 9 11 q1) fun M46 =>
  bn (0) fun v50 =>
  fX9_beginFrame_L52 p0 p2 v50 M46
def fX9_beginFrame (a0 : Option Nat) (a1 : Option Nat) (a2 : Option Nat) (a3 : Int64) (M : Mem) : Option (Unit × Mem) :=
  bo (pR M a0 9 10 a1) fun M2 =>
  bo (gI M2 a1 8 1) fun v7 =>
  bo (pI M2 a0 9 12 v7) fun M10 =>
  bo (pJ M10 a0 9 14 a3) fun M15 =>
  bo (pI M15 a0 9 13 ((minJ a3 131072).toInt32)) fun M27 =>
  if a2 = none then (
    bo (gR M27 a0 9 9) fun v36 =>
    fX9_beginFrame_L46 a0 a2 a0 v36 M27
  ) else (
    bo (gR M27 a2 2 5) fun v43 =>
    fX9_beginFrame_L46 a0 a2 a0 v43 M27
  )
def rmX9_beginFrame : Room := { frames := 2, cells := 0, slots := 0, locals := 47 }
set_option maxRecDepth 100000 in
set_option maxHeartbeats 4000000 in
theorem ctX9_beginFrame (l : Launch) (x : Cx) (a0 : Option Nat) (a1 : Option Nat) (a2 : Option Nat) (a3 : Int64) (M : Mem) (v : Unit) (N : Mem) (h : fX9_beginFrame a0 a1 a2 a3 M = some (v, N)) : CT l yX9_beginFrame cX9_beginFrame 6 (none) rmX9_beginFrame x [rv x a0, rv x a1, rv x a2, .long a3] M none N := by
  refine ct_mk (enc := fun _ : Unit => none) (li := []) (ll := [(3, a3)]) (lr := [(0, a0), (1, a1), (2, a2)]) (by decide +kernel) (by simp [lg_sl, rv_cat, cat_int, cat_long]) (by simp [flat, lv_args, rv_cat, cat_int, cat_long]) h ?_
  intro p e s m args below meth c E
  have hL115 : ∀ (k52 : Option Nat × Option Nat × Int32 → Mem → Option (Unit × Mem)) (hk52 : ∀ a M, RT p l e rmX9_beginFrame s m args below meth c x 6 (QM below args s x (fun _ : Unit => none) rmX9_beginFrame.cells rmX9_beginFrame.slots) 0 0 (k52 a M) 52 [(5, a.2.2)] [] [(0, a.1), (2, a.2.1)] [] M) (p0 : Option Nat) (p2 : Option Nat) (p5 : Int32) (q0 : Option Nat) (q1 : Int32) (q2 : Option Nat) (M : Mem), RT p l e rmX9_beginFrame s m args below meth c x 6 (QM below args s x (fun _ : Unit => none) rmX9_beginFrame.cells rmX9_beginFrame.slots) 0 0 (fX9_beginFrame_L115 k52 p0 p2 p5 q0 q1 q2 M) 115 [(5, p5)] [] [(0, p0), (2, p2)] [rv x q2, .int q1, rv x q0] M := by
    intro k52 hk52 p0 p2 p5 q0 q1 q2 M
    unfold fX9_beginFrame_L115
    refine r_aastore20 (pc := 115) E dX9_beginFrame_115 (fun M115 => ?_)
    refine r_iinc (pc := 116) (w := 1) (lf := fun v116 => [(5, v116)]) (ll' := []) (lr' := [(0, p0), (2, p2)]) E dX9_beginFrame_116 0 rfl (by decide) (by decide) (fun _ => rfl) rfl rfl (fun v116 => ?_)
    refine r_goto (pc := 119) (tgt := 52) E dX9_beginFrame_119 (by decide) ?_
    exact r_sub [0] [] [0, 1] rfl rfl rfl (hk52 ((p0, p2, v116)) _)
  have hL108 : ∀ (k52 : Option Nat × Option Nat × Int32 → Mem → Option (Unit × Mem)) (hk52 : ∀ a M, RT p l e rmX9_beginFrame s m args below meth c x 6 (QM below args s x (fun _ : Unit => none) rmX9_beginFrame.cells rmX9_beginFrame.slots) 0 0 (k52 a M) 52 [(5, a.2.2)] [] [(0, a.1), (2, a.2.1)] [] M) (p0 : Option Nat) (p2 : Option Nat) (p5 : Int32) (q0 : Option Nat) (q1 : Int32) (M : Mem), RT p l e rmX9_beginFrame s m args below meth c x 6 (QM below args s x (fun _ : Unit => none) rmX9_beginFrame.cells rmX9_beginFrame.slots) 0 0 (fX9_beginFrame_L108 k52 p0 p2 p5 q0 q1 M) 108 [(5, p5)] [] [(0, p0), (2, p2)] [.int q1, rv x q0] M := by
    intro k52 hk52 p0 p2 p5 q0 q1 M
    unfold fX9_beginFrame_L108
    refine r_aload_n (pc := 108) E dX9_beginFrame_108 rfl 0 rfl ?_
    refine r_getA (pc := 109) E fd_9_2 wf_RX9_21 dX9_beginFrame_109 (fun v109 => ?_)
    refine r_iload (pc := 112) E dX9_beginFrame_112 0 rfl ?_
    refine r_aaload20 (pc := 114) E dX9_beginFrame_114 (fun v114 => ?_)
    exact r_sub [0] [] [0, 1] rfl rfl rfl (hL115 k52 hk52 p0 p2 p5 q0 q1 v114 _)
  have hL80 : ∀ (k52 : Option Nat × Option Nat × Int32 → Mem → Option (Unit × Mem)) (hk52 : ∀ a M, RT p l e rmX9_beginFrame s m args below meth c x 6 (QM below args s x (fun _ : Unit => none) rmX9_beginFrame.cells rmX9_beginFrame.slots) 0 0 (k52 a M) 52 [(5, a.2.2)] [] [(0, a.1), (2, a.2.1)] [] M) (p0 : Option Nat) (p2 : Option Nat) (p5 : Int32) (q0 : Option Nat) (q1 : Int32) (q2 : Int32) (M : Mem), RT p l e rmX9_beginFrame s m args below meth c x 6 (QM below args s x (fun _ : Unit => none) rmX9_beginFrame.cells rmX9_beginFrame.slots) 0 0 (fX9_beginFrame_L80 k52 p0 p2 p5 q0 q1 q2 M) 80 [(5, p5)] [] [(0, p0), (2, p2)] [.int q2, .int q1, rv x q0] M := by
    intro k52 hk52 p0 p2 p5 q0 q1 q2 M
    unfold fX9_beginFrame_L80
    refine r_zastore (pc := 80) E dX9_beginFrame_80 (fun M80 => ?_)
    refine r_aload_n (pc := 81) E dX9_beginFrame_81 rfl 0 rfl ?_
    refine r_getA (pc := 82) E fd_9_0 wf_RX9_11 dX9_beginFrame_82 (fun v82 => ?_)
    refine r_iload (pc := 85) E dX9_beginFrame_85 0 rfl ?_
    refine r_aload_n (pc := 87) E dX9_beginFrame_87 rfl 1 rfl ?_
    refine r_ifnull (pc := 88) (tgt := 108) E dX9_beginFrame_88 (by decide) ?_ ?_
    · exact r_sub [0] [] [0, 1] rfl rfl rfl (hL108 k52 hk52 p0 p2 p5 v82 p5 _)
    · refine r_aload_n (pc := 91) E dX9_beginFrame_91 rfl 1 rfl ?_
      refine r_getZ (pc := 92) E fd_2_1 wf_RX9_90 dX9_beginFrame_92 (fun v92 => ?_)
      refine r_if_eq (pc := 95) (tgt := 108) E dX9_beginFrame_95 (by decide) ?_ ?_
      · exact r_sub [0] [] [0, 1] rfl rfl rfl (hL108 k52 hk52 p0 p2 p5 v82 p5 _)
      · refine r_aload_n (pc := 98) E dX9_beginFrame_98 rfl 1 rfl ?_
        refine r_getA (pc := 99) E fd_2_3 wf_RX9_94 dX9_beginFrame_99 (fun v99 => ?_)
        refine r_iload (pc := 102) E dX9_beginFrame_102 0 rfl ?_
        refine r_aaload20 (pc := 104) E dX9_beginFrame_104 (fun v104 => ?_)
        refine r_goto (pc := 105) (tgt := 115) E dX9_beginFrame_105 (by decide) ?_
        exact r_sub [0] [] [0, 1] rfl rfl rfl (hL115 k52 hk52 p0 p2 p5 v82 p5 v104 _)
  have hL79 : ∀ (k52 : Option Nat × Option Nat × Int32 → Mem → Option (Unit × Mem)) (hk52 : ∀ a M, RT p l e rmX9_beginFrame s m args below meth c x 6 (QM below args s x (fun _ : Unit => none) rmX9_beginFrame.cells rmX9_beginFrame.slots) 0 0 (k52 a M) 52 [(5, a.2.2)] [] [(0, a.1), (2, a.2.1)] [] M) (p0 : Option Nat) (p2 : Option Nat) (p5 : Int32) (q0 : Option Nat) (q1 : Int32) (M : Mem), RT p l e rmX9_beginFrame s m args below meth c x 6 (QM below args s x (fun _ : Unit => none) rmX9_beginFrame.cells rmX9_beginFrame.slots) 0 0 (fX9_beginFrame_L79 k52 p0 p2 p5 q0 q1 M) 79 [(5, p5)] [] [(0, p0), (2, p2)] [.int q1, rv x q0] M := by
    intro k52 hk52 p0 p2 p5 q0 q1 M
    unfold fX9_beginFrame_L79
    refine r_iconst (pc := 79) (v := 0) E dX9_beginFrame_79 (by decide) ?_
    exact r_sub [0] [] [0, 1] rfl rfl rfl (hL80 k52 hk52 p0 p2 p5 q0 q1 0 _)
  have hL52 : ∀ (p0 : Option Nat) (p2 : Option Nat) (p5 : Int32) (M : Mem), RT p l e rmX9_beginFrame s m args below meth c x 6 (QM below args s x (fun _ : Unit => none) rmX9_beginFrame.cells rmX9_beginFrame.slots) 0 0 (fX9_beginFrame_L52 p0 p2 p5 M) 52 [(5, p5)] [] [(0, p0), (2, p2)] [] M := by
    intro p0 p2 p5 M
    refine r_lp (fi := fun a : Option Nat × Option Nat × Int32 => [(5, a.2.2)]) (fl := fun a : Option Nat × Option Nat × Int32 => []) (fr := fun a : Option Nat × Option Nat × Int32 => [(0, a.1), (2, a.2.1)]) (fs := fun a : Option Nat × Option Nat × Int32 => []) ?_ FU ((p0, p2, p5)) M
    intro k52 hk52 a M
    obtain ⟨p0, p2, p5⟩ := a
    show RT p l e rmX9_beginFrame s m args below meth c x 6 (QM below args s x (fun _ : Unit => none) rmX9_beginFrame.cells rmX9_beginFrame.slots) 0 0 (fX9_beginFrame_B52 k52 p0 p2 p5 M) 52 [(5, p5)] [] [(0, p0), (2, p2)] [] M
    unfold fX9_beginFrame_B52
    refine r_iload (pc := 52) E dX9_beginFrame_52 0 rfl ?_
    refine r_iconst (pc := 54) (v := 3) E dX9_beginFrame_54 (by decide) ?_
    refine r_icmp_ge (pc := 55) (tgt := 122) E dX9_beginFrame_55 (by decide) ?_ ?_
    · refine r_aload_n (pc := 122) E dX9_beginFrame_122 rfl 0 rfl ?_
      refine r_getA (pc := 123) E fd_9_5 wf_RX9_28 dX9_beginFrame_123 (fun v123 => ?_)
      refine r_aload_n (pc := 126) E dX9_beginFrame_126 rfl 1 rfl ?_
      refine r_kSNv (pc := 127) (As := [rv x v123, rv x p2]) (rest := []) E wc_X12_rememberFirst wi_RX12 hd_X12_rememberFirst (host := "TabledFrames") (by decide +kernel) wt_X12_rememberFirst dX9_beginFrame_127 (by decide) (Nat.le_of_ble_eq_true rfl) ⟨rfl, rfl⟩ (ctX12_rememberFirst l x _ _ _) rfl (fun v127 M127 => ?_)
      refine r_aload_n (pc := 130) E dX9_beginFrame_130 rfl 0 rfl ?_
      refine r_getR (pc := 131) E fd_9_6 wf_RX9_53 dX9_beginFrame_131 (fun v131 => ?_)
      refine r_aload_n (pc := 134) E dX9_beginFrame_134 rfl 0 rfl ?_
      refine r_getA (pc := 135) E fd_9_5 wf_RX9_28 dX9_beginFrame_135 (fun v135 => ?_)
      refine r_kVv (pc := 138) (As := [rv x v135]) (rest := []) E wc_X7_noteRemembered wi_RX7 hd_X7_noteRemembered (ci := 7) rfl wl_RX9_101 wn_X7_noteRemembered ws_X7_noteRemembered dX9_beginFrame_138 (by decide) (Nat.le_of_ble_eq_true rfl) ⟨rfl, rfl⟩ (ctX7_noteRemembered l x _ _ _) rfl (fun v138 M138 => ?_)
      exact e_void (pc := 141) E dX9_beginFrame_141
    · refine r_aload_n (pc := 58) E dX9_beginFrame_58 rfl 0 rfl ?_
      refine r_getA (pc := 59) E fd_9_1 wf_RX9_17 dX9_beginFrame_59 (fun v59 => ?_)
      refine r_iload (pc := 62) E dX9_beginFrame_62 0 rfl ?_
      refine r_aload_n (pc := 64) E dX9_beginFrame_64 rfl 1 rfl ?_
      refine r_ifnull (pc := 65) (tgt := 79) E dX9_beginFrame_65 (by decide) ?_ ?_
      · exact r_sub [0] [] [0, 1] rfl rfl rfl (hL79 k52 hk52 p0 p2 p5 v59 p5 _)
      · refine r_aload_n (pc := 68) E dX9_beginFrame_68 rfl 1 rfl ?_
        refine r_getZ (pc := 69) E fd_2_1 wf_RX9_90 dX9_beginFrame_69 (fun v69 => ?_)
        refine r_if_eq (pc := 72) (tgt := 79) E dX9_beginFrame_72 (by decide) ?_ ?_
        · exact r_sub [0] [] [0, 1] rfl rfl rfl (hL79 k52 hk52 p0 p2 p5 v59 p5 _)
        · refine r_iconst (pc := 75) (v := 1) E dX9_beginFrame_75 (by decide) ?_
          refine r_goto (pc := 76) (tgt := 80) E dX9_beginFrame_76 (by decide) ?_
          exact r_sub [0] [] [0, 1] rfl rfl rfl (hL80 k52 hk52 p0 p2 p5 v59 p5 1 _)
  have hL46 : ∀ (p0 : Option Nat) (p2 : Option Nat) (q0 : Option Nat) (q1 : Option Nat) (M : Mem), RT p l e rmX9_beginFrame s m args below meth c x 6 (QM below args s x (fun _ : Unit => none) rmX9_beginFrame.cells rmX9_beginFrame.slots) 0 0 (fX9_beginFrame_L46 p0 p2 q0 q1 M) 46 [] [] [(0, p0), (2, p2)] [rv x q1, rv x q0] M := by
    intro p0 p2 q0 q1 M
    unfold fX9_beginFrame_L46
    refine r_putR (pc := 46) E fd_9_11 wf_RX9_50 dX9_beginFrame_46 (Or.inl rfl) (fun M46 => ?_)
    refine r_iconst (pc := 49) (v := 0) E dX9_beginFrame_49 (by decide) ?_
    refine r_istore (pc := 50) (lf := fun v50 => [(5, v50)]) (lg := fun v50 => []) (lk := fun v50 => [(0, p0), (2, p2)]) E dX9_beginFrame_50 (by decide) (fun _ => rfl) (fun _ => rfl) (fun _ => rfl) (fun v50 => ?_)
    exact r_sub [0] [] [0, 1] rfl rfl rfl (hL52 p0 p2 v50 _)
  show RT p l e rmX9_beginFrame s m args below meth c x 6 (QM below args s x (fun _ : Unit => none) rmX9_beginFrame.cells rmX9_beginFrame.slots) 0 0 (fX9_beginFrame a0 a1 a2 a3 M) 0 [] [(3, a3)] [(0, a0), (1, a1), (2, a2)] [] M
  unfold fX9_beginFrame
  refine r_aload_n (pc := 0) E dX9_beginFrame_0 rfl 0 rfl ?_
  refine r_aload_n (pc := 1) E dX9_beginFrame_1 rfl 1 rfl ?_
  refine r_putR (pc := 2) E fd_9_10 wf_RX9_47 dX9_beginFrame_2 (Or.inl rfl) (fun M2 => ?_)
  refine r_aload_n (pc := 5) E dX9_beginFrame_5 rfl 0 rfl ?_
  refine r_aload_n (pc := 6) E dX9_beginFrame_6 rfl 1 rfl ?_
  refine r_getI (pc := 7) E fd_8_1 wf_RX9_65 dX9_beginFrame_7 (fun v7 => ?_)
  refine r_putI (pc := 10) E fd_9_12 wf_RX9_69 dX9_beginFrame_10 (Or.inl rfl) (fun M10 => ?_)
  refine r_aload_n (pc := 13) E dX9_beginFrame_13 rfl 0 rfl ?_
  refine r_lload_n (pc := 14) E dX9_beginFrame_14 rfl 0 rfl ?_
  refine r_putJ (pc := 15) E fd_9_14 wf_RX9_72 dX9_beginFrame_15 (Or.inl rfl) (fun M15 => ?_)
  refine r_aload_n (pc := 18) E dX9_beginFrame_18 rfl 0 rfl ?_
  refine r_lload_n (pc := 19) E dX9_beginFrame_19 rfl 0 rfl ?_
  refine r_ldc2 (pc := 20) E wk_RX9_76 dX9_beginFrame_20 ?_
  refine r_mminL (pc := 23) E wl_RX9_78 wm_sminL wi_math wm_cminL dX9_beginFrame_23 (by decide) (Nat.le_of_ble_eq_true rfl) ?_
  refine r_l2i (pc := 26) E dX9_beginFrame_26 ?_
  refine r_putI (pc := 27) E fd_9_13 wf_RX9_84 dX9_beginFrame_27 (Or.inl rfl) (fun M27 => ?_)
  refine r_aload_n (pc := 30) E dX9_beginFrame_30 rfl 0 rfl ?_
  refine r_aload_n (pc := 31) E dX9_beginFrame_31 rfl 2 rfl ?_
  refine r_ifnonnull (pc := 32) (tgt := 42) E dX9_beginFrame_32 (by decide) ?_ ?_
  · refine r_aload_n (pc := 42) E dX9_beginFrame_42 rfl 2 rfl ?_
    refine r_getR (pc := 43) E fd_2_5 wf_RX9_87 dX9_beginFrame_43 (fun v43 => ?_)
    exact r_sub [] [] [0, 2] rfl rfl rfl (hL46 a0 a2 a0 v43 _)
  · refine r_aload_n (pc := 35) E dX9_beginFrame_35 rfl 0 rfl ?_
    refine r_getR (pc := 36) E fd_9_9 wf_RX9_43 dX9_beginFrame_36 (fun v36 => ?_)
    refine r_goto (pc := 39) (tgt := 46) E dX9_beginFrame_39 (by decide) ?_
    exact r_sub [] [] [0, 2] rfl rfl rfl (hL46 a0 a2 a0 v36 _)
def fX5_beginFrame_L61 (p0 : Option Nat) (q0 : Option Nat) (q1 : Int32) (q2 : Int32) (M : Mem) : Option (Unit × Mem) :=
  bo (wI M q0 q1 q2) fun M61 =>
  bo (gR M61 p0 5 0) fun v63 =>
  bo (gR M61 p0 5 6) fun v67 =>
  bo (chk M61 v63 4) fun _ => bd (fX4_beginFrame v63 v67 M61) fun v70 M70 =>
  bo (gR M70 p0 5 1) fun v74 =>
  bo (gR M70 p0 5 4) fun v78 =>
  bo (gR M70 p0 5 6) fun v82 =>
  bo (gJ M70 p0 5 9) fun v86 =>
  bo (chk M70 v74 9) fun _ => bd (fX9_beginFrame v74 v78 v82 v86 M70) fun v89 M89 =>
  some ((), M89)
def fX5_beginFrame (a0 : Option Nat) (M : Mem) : Option (Unit × Mem) :=
  bo (gR M a0 5 2) fun v1 =>
  bo (gR M v1 7 2) fun v4 =>
  bo (aI M v4 15 0) fun v9 =>
  bo (wI M v4 0 (v9 + 1)) fun M12 =>
  bo (gR M12 a0 5 2) fun v14 =>
  bo (gR M12 v14 7 2) fun v17 =>
  bo (gJ M12 a0 5 9) fun v23 =>
  bo (wI M12 v17 9 ((v23 &&& 2147483647).toInt32)) fun M31 =>
  bo (gR M31 a0 5 2) fun v33 =>
  bo (gR M31 v33 7 2) fun v36 =>
  bo (gI M31 a0 5 11) fun v42 =>
  if v42 = 0 then (
    fX5_beginFrame_L61 a0 v36 10 ((-1)) M31
  ) else (
    bo (gJ M31 a0 5 10) fun v49 =>
    fX5_beginFrame_L61 a0 v36 10 ((v49 &&& 2147483647).toInt32) M31
  )
def rmX5_beginFrame : Room := { frames := 3, cells := 0, slots := 0, locals := 72 }
set_option maxRecDepth 100000 in
set_option maxHeartbeats 4000000 in
theorem ctX5_beginFrame (l : Launch) (x : Cx) (a0 : Option Nat) (M : Mem) (v : Unit) (N : Mem) (h : fX5_beginFrame a0 M = some (v, N)) : CT l yX5_beginFrame cX5_beginFrame 1 (none) rmX5_beginFrame x [rv x a0] M none N := by
  refine ct_mk (enc := fun _ : Unit => none) (li := []) (ll := []) (lr := [(0, a0)]) (by decide +kernel) (by simp [lg_sl, rv_cat, cat_int, cat_long]) (by simp [flat, lv_args, rv_cat, cat_int, cat_long]) h ?_
  intro p e s m args below meth c E
  have hL61 : ∀ (p0 : Option Nat) (q0 : Option Nat) (q1 : Int32) (q2 : Int32) (M : Mem), RT p l e rmX5_beginFrame s m args below meth c x 1 (QM below args s x (fun _ : Unit => none) rmX5_beginFrame.cells rmX5_beginFrame.slots) 0 0 (fX5_beginFrame_L61 p0 q0 q1 q2 M) 61 [] [] [(0, p0)] [.int q2, .int q1, rv x q0] M := by
    intro p0 q0 q1 q2 M
    unfold fX5_beginFrame_L61
    refine r_iastore (pc := 61) E dX5_beginFrame_61 (fun M61 => ?_)
    refine r_aload_n (pc := 62) E dX5_beginFrame_62 rfl 0 rfl ?_
    refine r_getR (pc := 63) E fd_5_0 wf_RX5_32 dX5_beginFrame_63 (fun v63 => ?_)
    refine r_aload_n (pc := 66) E dX5_beginFrame_66 rfl 0 rfl ?_
    refine r_getR (pc := 67) E fd_5_6 wf_RX5_166 dX5_beginFrame_67 (fun v67 => ?_)
    refine r_kVv (pc := 70) (As := [rv x v67]) (rest := []) E wc_X4_beginFrame wi_RX4 hd_X4_beginFrame (ci := 4) rfl wl_RX5_180 wn_X4_beginFrame ws_X4_beginFrame dX5_beginFrame_70 (by decide) (Nat.le_of_ble_eq_true rfl) ⟨rfl, rfl⟩ (ctX4_beginFrame l x _ _ _) rfl (fun v70 M70 => ?_)
    refine r_aload_n (pc := 73) E dX5_beginFrame_73 rfl 0 rfl ?_
    refine r_getR (pc := 74) E fd_5_1 wf_RX5_41 dX5_beginFrame_74 (fun v74 => ?_)
    refine r_aload_n (pc := 77) E dX5_beginFrame_77 rfl 0 rfl ?_
    refine r_getR (pc := 78) E fd_5_4 wf_RX5_20 dX5_beginFrame_78 (fun v78 => ?_)
    refine r_aload_n (pc := 81) E dX5_beginFrame_81 rfl 0 rfl ?_
    refine r_getR (pc := 82) E fd_5_6 wf_RX5_166 dX5_beginFrame_82 (fun v82 => ?_)
    refine r_aload_n (pc := 85) E dX5_beginFrame_85 rfl 0 rfl ?_
    refine r_getJ (pc := 86) E fd_5_9 wf_RX5_159 dX5_beginFrame_86 (fun v86 => ?_)
    refine r_kVv (pc := 89) (As := [rv x v78, rv x v82, .long v86]) (rest := []) E wc_X9_beginFrame wi_RX9 hd_X9_beginFrame (ci := 9) rfl wl_RX5_183 wn_X9_beginFrame ws_X9_beginFrame dX5_beginFrame_89 (by decide) (Nat.le_of_ble_eq_true rfl) ⟨rfl, rfl⟩ (ctX9_beginFrame l x _ _ _ _ _) rfl (fun v89 M89 => ?_)
    exact e_void (pc := 92) E dX5_beginFrame_92
  show RT p l e rmX5_beginFrame s m args below meth c x 1 (QM below args s x (fun _ : Unit => none) rmX5_beginFrame.cells rmX5_beginFrame.slots) 0 0 (fX5_beginFrame a0 M) 0 [] [] [(0, a0)] [] M
  unfold fX5_beginFrame
  refine r_aload_n (pc := 0) E dX5_beginFrame_0 rfl 0 rfl ?_
  refine r_getR (pc := 1) E fd_5_2 wf_RX5_23 dX5_beginFrame_1 (fun v1 => ?_)
  refine r_getA (pc := 4) E fd_7_2 wf_RX5_132 dX5_beginFrame_4 (fun v4 => ?_)
  refine r_iconst (pc := 7) (v := 0) E dX5_beginFrame_7 (by decide) ?_
  refine r_dup2 (pc := 8) E dX5_beginFrame_8 rfl (rv_cat _ _) ?_
  refine r_iaload (pc := 9) E dX5_beginFrame_9 (fun v9 => ?_)
  refine r_iconst (pc := 10) (v := 1) E dX5_beginFrame_10 (by decide) ?_
  refine r_iadd (pc := 11) E dX5_beginFrame_11 ?_
  refine r_iastore (pc := 12) E dX5_beginFrame_12 (fun M12 => ?_)
  refine r_aload_n (pc := 13) E dX5_beginFrame_13 rfl 0 rfl ?_
  refine r_getR (pc := 14) E fd_5_2 wf_RX5_23 dX5_beginFrame_14 (fun v14 => ?_)
  refine r_getA (pc := 17) E fd_7_2 wf_RX5_132 dX5_beginFrame_17 (fun v17 => ?_)
  refine r_bipush (pc := 20) (v := 9) E dX5_beginFrame_20 (by decide) ?_
  refine r_aload_n (pc := 22) E dX5_beginFrame_22 rfl 0 rfl ?_
  refine r_getJ (pc := 23) E fd_5_9 wf_RX5_159 dX5_beginFrame_23 (fun v23 => ?_)
  refine r_ldc2 (pc := 26) E wk_RX5_178 dX5_beginFrame_26 ?_
  refine r_land (pc := 29) E dX5_beginFrame_29 ?_
  refine r_l2i (pc := 30) E dX5_beginFrame_30 ?_
  refine r_iastore (pc := 31) E dX5_beginFrame_31 (fun M31 => ?_)
  refine r_aload_n (pc := 32) E dX5_beginFrame_32 rfl 0 rfl ?_
  refine r_getR (pc := 33) E fd_5_2 wf_RX5_23 dX5_beginFrame_33 (fun v33 => ?_)
  refine r_getA (pc := 36) E fd_7_2 wf_RX5_132 dX5_beginFrame_36 (fun v36 => ?_)
  refine r_bipush (pc := 39) (v := 10) E dX5_beginFrame_39 (by decide) ?_
  refine r_aload_n (pc := 41) E dX5_beginFrame_41 rfl 0 rfl ?_
  refine r_getZ (pc := 42) E fd_5_11 wf_RX5_172 dX5_beginFrame_42 (fun v42 => ?_)
  refine r_if_eq (pc := 45) (tgt := 60) E dX5_beginFrame_45 (by decide) ?_ ?_
  · refine r_iconst (pc := 60) (v := (-1)) E dX5_beginFrame_60 (by decide) ?_
    exact r_sub [] [] [0] rfl rfl rfl (hL61 a0 v36 10 ((-1)) _)
  · refine r_aload_n (pc := 48) E dX5_beginFrame_48 rfl 0 rfl ?_
    refine r_getJ (pc := 49) E fd_5_10 wf_RX5_175 dX5_beginFrame_49 (fun v49 => ?_)
    refine r_ldc2 (pc := 52) E wk_RX5_178 dX5_beginFrame_52 ?_
    refine r_land (pc := 55) E dX5_beginFrame_55 ?_
    refine r_l2i (pc := 56) E dX5_beginFrame_56 ?_
    refine r_goto (pc := 57) (tgt := 61) E dX5_beginFrame_57 (by decide) ?_
    exact r_sub [] [] [0] rfl rfl rfl (hL61 a0 v36 10 ((v49 &&& 2147483647).toInt32) _)
def fX5_readHead_L118 (M : Mem) : Option (Int32 × Mem) :=
  rtZ 0 M
def fX5_readHead_L96 (p0 : Option Nat) (p1 : Int32) (p2 : Int32) (M : Mem) : Option (Int32 × Mem) :=
  bo (chk M p0 5) fun _ => bd (fX5_readNumber p0 (p1 &&& 3) M) fun v100 M100 =>
  if v100 = 0 then (
    fX5_readHead_L118 M100
  ) else (
    bo (chk M100 p0 5) fun _ => bd (fX5_readSize p0 (shrI p1 6) p2 M100) fun v112 M112 =>
    if v112 = 0 then (
      fX5_readHead_L118 M112
    ) else (
      bo (chk M112 p0 5) fun _ => bd (fX5_beginFrame p0 M112) fun v121 M121 =>
      rtZ 1 M121
    )
  )
def fX5_readHead_L80 (p0 : Option Nat) (p1 : Int32) (p2 : Int32) (q0 : Option Nat) (q1 : Int32) (M : Mem) : Option (Int32 × Mem) :=
  bo (pZ M q0 5 13 q1) fun M80 =>
  if p2 = 0 then (
    bo (chk M80 p0 5) fun _ => bd (fX5_readSpan p0 M80) fun v88 M88 =>
    if v88 = 0 then (
      rtZ 0 M88
    ) else (
      fX5_readHead_L96 p0 p1 p2 M88
    )
  ) else (
    fX5_readHead_L96 p0 p1 p2 M80
  )
def fX5_readHead_L67 (p0 : Option Nat) (p1 : Int32) (q0 : Int32) (M : Mem) : Option (Int32 × Mem) :=
  bn (q0) fun v67 =>
  if (p1 &&& 4) = 0 then (
    fX5_readHead_L80 p0 p1 v67 p0 0 M
  ) else (
    fX5_readHead_L80 p0 p1 v67 p0 1 M
  )
def fX5_readHead (a0 : Option Nat) (M : Mem) : Option (Int32 × Mem) :=
  bo (chk M a0 5) fun _ => bd (fX5_there a0 1 M) fun v2 M2 =>
  if v2 = 0 then (
    bo (chk M2 a0 5) fun _ => bd (fX5_lacks a0 M2) fun v9 M9 =>
    rtZ v9 M9
  ) else (
    bo (gR M2 a0 5 3) fun v14 =>
    bo (gI M2 a0 5 8) fun v18 =>
    bo (chk M2 v14 8) fun _ => bd (fX8_get v14 v18 M2) fun v21 M21 =>
    bn (v21) fun v24 =>
    if (v24 &&& 8) = 0 then (
      bo (gI M21 a0 5 8) fun v47 =>
      bo (pI M21 a0 5 8 (v47 + 1)) fun M52 =>
      if (v24 &&& 32) = 0 then (
        fX5_readHead_L67 a0 v24 0 M52
      ) else (
        fX5_readHead_L67 a0 v24 1 M52
      )
    ) else (
      bo (gR M21 a0 5 2) fun v33 =>
      bo (gI M21 a0 5 8) fun v38 =>
      bo (chk M21 v33 7) fun _ => bd (fX7_fail v33 3 v38 M21) fun v41 M41 =>
      rtZ v41 M41
    )
  )
def rmX5_readHead : Room := { frames := 4, cells := 0, slots := 0, locals := 92 }
set_option maxRecDepth 100000 in
set_option maxHeartbeats 4000000 in
theorem ctX5_readHead (l : Launch) (x : Cx) (a0 : Option Nat) (M : Mem) (v : Int32) (N : Mem) (h : fX5_readHead a0 M = some (v, N)) : CT l yX5_readHead cX5_readHead 3 (some (FieldType.boolean)) rmX5_readHead x [rv x a0] M (some (.int v)) N := by
  refine ct_mk (enc := fun v : Int32 => some (.int v)) (li := []) (ll := []) (lr := [(0, a0)]) (by decide +kernel) (by simp [lg_sl, rv_cat, cat_int, cat_long]) (by simp [flat, lv_args, rv_cat, cat_int, cat_long]) h ?_
  intro p e s m args below meth c E
  have hL118 : ∀ (M : Mem), RT p l e rmX5_readHead s m args below meth c x 3 (QM below args s x (fun v : Int32 => some (.int v)) rmX5_readHead.cells rmX5_readHead.slots) 0 0 (fX5_readHead_L118 M) 118 [] [] [] [] M := by
    intro M
    unfold fX5_readHead_L118
    refine r_iconst (pc := 118) (v := 0) E dX5_readHead_118 (by decide) ?_
    exact e_bool (pc := 119) E dX5_readHead_119
  have hL96 : ∀ (p0 : Option Nat) (p1 : Int32) (p2 : Int32) (M : Mem), RT p l e rmX5_readHead s m args below meth c x 3 (QM below args s x (fun v : Int32 => some (.int v)) rmX5_readHead.cells rmX5_readHead.slots) 0 0 (fX5_readHead_L96 p0 p1 p2 M) 96 [(1, p1), (2, p2)] [] [(0, p0)] [] M := by
    intro p0 p1 p2 M
    unfold fX5_readHead_L96
    refine r_aload_n (pc := 96) E dX5_readHead_96 rfl 0 rfl ?_
    refine r_iload_n (pc := 97) E dX5_readHead_97 rfl 0 rfl ?_
    refine r_iconst (pc := 98) (v := 3) E dX5_readHead_98 (by decide) ?_
    refine r_iand (pc := 99) E dX5_readHead_99 ?_
    refine r_kVi (pc := 100) (As := [.int (p1 &&& 3)]) (rest := []) E wc_X5_readNumber wi_RX5 hd_X5_readNumber (ci := 5) rfl wl_RX5_146 wn_X5_readNumber ws_X5_readNumber dX5_readHead_100 (by decide) (Nat.le_of_ble_eq_true rfl) ⟨rfl, rfl⟩ (ctX5_readNumber l x _ _ _) rfl (fun v100 M100 => ?_)
    refine r_if_eq (pc := 103) (tgt := 118) E dX5_readHead_103 (by decide) ?_ ?_
    · exact r_sub [] [] [] rfl rfl rfl (hL118 _)
    · refine r_aload_n (pc := 106) E dX5_readHead_106 rfl 0 rfl ?_
      refine r_iload_n (pc := 107) E dX5_readHead_107 rfl 0 rfl ?_
      refine r_bipush (pc := 108) (v := 6) E dX5_readHead_108 (by decide) ?_
      refine r_ishr (pc := 110) E dX5_readHead_110 ?_
      refine r_iload_n (pc := 111) E dX5_readHead_111 rfl 1 rfl ?_
      refine r_kVi (pc := 112) (As := [.int (shrI p1 6), .int p2]) (rest := []) E wc_X5_readSize wi_RX5 hd_X5_readSize (ci := 5) rfl wl_RX5_150 wn_X5_readSize ws_X5_readSize dX5_readHead_112 (by decide) (Nat.le_of_ble_eq_true rfl) ⟨rfl, rfl⟩ (ctX5_readSize l x _ _ _ _) rfl (fun v112 M112 => ?_)
      refine r_if_ne (pc := 115) (tgt := 120) E dX5_readHead_115 (by decide) ?_ ?_
      · refine r_aload_n (pc := 120) E dX5_readHead_120 rfl 0 rfl ?_
        refine r_kVv (pc := 121) (As := []) (rest := []) E wc_X5_beginFrame wi_RX5 hd_X5_beginFrame (ci := 5) rfl wl_RX5_154 wn_X5_beginFrame ws_X5_beginFrame dX5_readHead_121 (by decide) (Nat.le_of_ble_eq_true rfl) ⟨rfl, rfl⟩ (ctX5_beginFrame l x _ _) rfl (fun v121 M121 => ?_)
        refine r_iconst (pc := 124) (v := 1) E dX5_readHead_124 (by decide) ?_
        exact e_bool (pc := 125) E dX5_readHead_125
      · exact r_sub [] [] [] rfl rfl rfl (hL118 _)
  have hL80 : ∀ (p0 : Option Nat) (p1 : Int32) (p2 : Int32) (q0 : Option Nat) (q1 : Int32) (M : Mem), RT p l e rmX5_readHead s m args below meth c x 3 (QM below args s x (fun v : Int32 => some (.int v)) rmX5_readHead.cells rmX5_readHead.slots) 0 0 (fX5_readHead_L80 p0 p1 p2 q0 q1 M) 80 [(1, p1), (2, p2)] [] [(0, p0)] [.int q1, rv x q0] M := by
    intro p0 p1 p2 q0 q1 M
    unfold fX5_readHead_L80
    refine r_putZ (pc := 80) E fd_5_13 wf_RX5_140 dX5_readHead_80 (Or.inl rfl) (fun M80 => ?_)
    refine r_iload_n (pc := 83) E dX5_readHead_83 rfl 1 rfl ?_
    refine r_if_ne (pc := 84) (tgt := 96) E dX5_readHead_84 (by decide) ?_ ?_
    · exact r_sub [0, 1] [] [0] rfl rfl rfl (hL96 p0 p1 p2 _)
    · refine r_aload_n (pc := 87) E dX5_readHead_87 rfl 0 rfl ?_
      refine r_kVi (pc := 88) (As := []) (rest := []) E wc_X5_readSpan wi_RX5 hd_X5_readSpan (ci := 5) rfl wl_RX5_143 wn_X5_readSpan ws_X5_readSpan dX5_readHead_88 (by decide) (Nat.le_of_ble_eq_true rfl) ⟨rfl, rfl⟩ (ctX5_readSpan l x _ _) rfl (fun v88 M88 => ?_)
      refine r_if_ne (pc := 91) (tgt := 96) E dX5_readHead_91 (by decide) ?_ ?_
      · exact r_sub [0, 1] [] [0] rfl rfl rfl (hL96 p0 p1 p2 _)
      · refine r_iconst (pc := 94) (v := 0) E dX5_readHead_94 (by decide) ?_
        exact e_bool (pc := 95) E dX5_readHead_95
  have hL67 : ∀ (p0 : Option Nat) (p1 : Int32) (q0 : Int32) (M : Mem), RT p l e rmX5_readHead s m args below meth c x 3 (QM below args s x (fun v : Int32 => some (.int v)) rmX5_readHead.cells rmX5_readHead.slots) 0 0 (fX5_readHead_L67 p0 p1 q0 M) 67 [(1, p1)] [] [(0, p0)] [.int q0] M := by
    intro p0 p1 q0 M
    unfold fX5_readHead_L67
    refine r_istore_n (pc := 67) (lf := fun v67 => [(2, v67), (1, p1)]) (lg := fun v67 => []) (lk := fun v67 => [(0, p0)]) E dX5_readHead_67 rfl (by decide) (fun _ => rfl) (fun _ => rfl) (fun _ => rfl) (fun v67 => ?_)
    refine r_aload_n (pc := 68) E dX5_readHead_68 rfl 0 rfl ?_
    refine r_iload_n (pc := 69) E dX5_readHead_69 rfl 1 rfl ?_
    refine r_iconst (pc := 70) (v := 4) E dX5_readHead_70 (by decide) ?_
    refine r_iand (pc := 71) E dX5_readHead_71 ?_
    refine r_if_eq (pc := 72) (tgt := 79) E dX5_readHead_72 (by decide) ?_ ?_
    · refine r_iconst (pc := 79) (v := 0) E dX5_readHead_79 (by decide) ?_
      exact r_sub [1, 0] [] [0] rfl rfl rfl (hL80 p0 p1 v67 p0 0 _)
    · refine r_iconst (pc := 75) (v := 1) E dX5_readHead_75 (by decide) ?_
      refine r_goto (pc := 76) (tgt := 80) E dX5_readHead_76 (by decide) ?_
      exact r_sub [1, 0] [] [0] rfl rfl rfl (hL80 p0 p1 v67 p0 1 _)
  show RT p l e rmX5_readHead s m args below meth c x 3 (QM below args s x (fun v : Int32 => some (.int v)) rmX5_readHead.cells rmX5_readHead.slots) 0 0 (fX5_readHead a0 M) 0 [] [] [(0, a0)] [] M
  unfold fX5_readHead
  refine r_aload_n (pc := 0) E dX5_readHead_0 rfl 0 rfl ?_
  refine r_lconst (pc := 1) (v := 1) E dX5_readHead_1 (by decide) ?_
  refine r_kVi (pc := 2) (As := [.long 1]) (rest := []) E wc_X5_there wi_RX5 hd_X5_there (ci := 5) rfl wl_RX5_105 wn_X5_there ws_X5_there dX5_readHead_2 (by decide) (Nat.le_of_ble_eq_true rfl) ⟨rfl, rfl⟩ (ctX5_there l x _ _ _) rfl (fun v2 M2 => ?_)
  refine r_if_ne (pc := 5) (tgt := 13) E dX5_readHead_5 (by decide) ?_ ?_
  · refine r_aload_n (pc := 13) E dX5_readHead_13 rfl 0 rfl ?_
    refine r_getR (pc := 14) E fd_5_3 wf_RX5_14 dX5_readHead_14 (fun v14 => ?_)
    refine r_aload_n (pc := 17) E dX5_readHead_17 rfl 0 rfl ?_
    refine r_getI (pc := 18) E fd_5_8 wf_RX5_53 dX5_readHead_18 (fun v18 => ?_)
    refine r_kVi (pc := 21) (As := [.int v18]) (rest := []) E wc_X8_get wi_RX8 hd_X8_get (ci := 8) rfl wl_RX5_136 wn_X8_get ws_X8_get dX5_readHead_21 (by decide) (Nat.le_of_ble_eq_true rfl) ⟨rfl, rfl⟩ (ctX8_get l x _ _ _) rfl (fun v21 M21 => ?_)
    refine r_istore_n (pc := 24) (lf := fun v24 => [(1, v24)]) (lg := fun v24 => []) (lk := fun v24 => [(0, a0)]) E dX5_readHead_24 rfl (by decide) (fun _ => rfl) (fun _ => rfl) (fun _ => rfl) (fun v24 => ?_)
    refine r_iload_n (pc := 25) E dX5_readHead_25 rfl 0 rfl ?_
    refine r_bipush (pc := 26) (v := 8) E dX5_readHead_26 (by decide) ?_
    refine r_iand (pc := 28) E dX5_readHead_28 ?_
    refine r_if_eq (pc := 29) (tgt := 45) E dX5_readHead_29 (by decide) ?_ ?_
    · refine r_aload_n (pc := 45) E dX5_readHead_45 rfl 0 rfl ?_
      refine r_dup (pc := 46) E dX5_readHead_46 (rv_cat _ _) ?_
      refine r_getI (pc := 47) E fd_5_8 wf_RX5_53 dX5_readHead_47 (fun v47 => ?_)
      refine r_iconst (pc := 50) (v := 1) E dX5_readHead_50 (by decide) ?_
      refine r_iadd (pc := 51) E dX5_readHead_51 ?_
      refine r_putI (pc := 52) E fd_5_8 wf_RX5_53 dX5_readHead_52 (Or.inl rfl) (fun M52 => ?_)
      refine r_iload_n (pc := 55) E dX5_readHead_55 rfl 0 rfl ?_
      refine r_bipush (pc := 56) (v := 32) E dX5_readHead_56 (by decide) ?_
      refine r_iand (pc := 58) E dX5_readHead_58 ?_
      refine r_if_eq (pc := 59) (tgt := 66) E dX5_readHead_59 (by decide) ?_ ?_
      · refine r_iconst (pc := 66) (v := 0) E dX5_readHead_66 (by decide) ?_
        exact r_sub [0] [] [0] rfl rfl rfl (hL67 a0 v24 0 _)
      · refine r_iconst (pc := 62) (v := 1) E dX5_readHead_62 (by decide) ?_
        refine r_goto (pc := 63) (tgt := 67) E dX5_readHead_63 (by decide) ?_
        exact r_sub [0] [] [0] rfl rfl rfl (hL67 a0 v24 1 _)
    · refine r_aload_n (pc := 32) E dX5_readHead_32 rfl 0 rfl ?_
      refine r_getR (pc := 33) E fd_5_2 wf_RX5_23 dX5_readHead_33 (fun v33 => ?_)
      refine r_iconst (pc := 36) (v := 3) E dX5_readHead_36 (by decide) ?_
      refine r_aload_n (pc := 37) E dX5_readHead_37 rfl 0 rfl ?_
      refine r_getI (pc := 38) E fd_5_8 wf_RX5_53 dX5_readHead_38 (fun v38 => ?_)
      refine r_kVi (pc := 41) (As := [.int 3, .int v38]) (rest := []) E wc_X7_fail wi_RX7 hd_X7_fail (ci := 7) rfl wl_RX5_122 wn_X7_fail ws_X7_fail dX5_readHead_41 (by decide) (Nat.le_of_ble_eq_true rfl) ⟨rfl, rfl⟩ (ctX7_fail l x _ _ _ _) rfl (fun v41 M41 => ?_)
      exact e_bool (pc := 44) E dX5_readHead_44
  · refine r_aload_n (pc := 8) E dX5_readHead_8 rfl 0 rfl ?_
    refine r_kVi (pc := 9) (As := []) (rest := []) E wc_X5_lacks wi_RX5 hd_X5_lacks (ci := 5) rfl wl_RX5_109 wn_X5_lacks ws_X5_lacks dX5_readHead_9 (by decide) (Nat.le_of_ble_eq_true rfl) ⟨rfl, rfl⟩ (ctX5_lacks l x _ _) rfl (fun v9 M9 => ?_)
    exact e_bool (pc := 12) E dX5_readHead_12
def fX5_readMark_L117 (q0 : Int32) (M : Mem) : Option (Int32 × Mem) :=
  rtZ q0 M
def fX5_readMark_L89 (p0 : Option Nat) (M : Mem) : Option (Int32 × Mem) :=
  bo (gI M p0 5 8) fun v91 =>
  bo (pI M p0 5 8 (v91 + 4)) fun M96 =>
  bo (gI M96 p0 5 18) fun v100 =>
  if v100 = 0 then (
    bo (chk M96 p0 5) fun _ => bd (fX5_readHead p0 M96) fun v114 M114 =>
    fX5_readMark_L117 v114 M114
  ) else (
    bo (chk M96 p0 5) fun _ => bd (fX5_passOver p0 M96) fun v107 M107 =>
    fX5_readMark_L117 v107 M107
  )
def fX5_readMark_L50 (p0 : Option Nat) (p1 : Int64) (q0 : Option Nat) (q1 : Int32) (M : Mem) : Option (Int32 × Mem) :=
  bo (pZ M q0 5 18 q1) fun M50 =>
  bo (gI M50 p0 5 18) fun v55 =>
  bo (pZ M50 p0 5 17 v55) fun M58 =>
  bo (gI M58 p0 5 18) fun v62 =>
  if v62 = 0 then (
    if (lg_cmp p1 4247762216) = 0 then (
      fX5_readMark_L89 p0 M58
    ) else (
      bo (gR M58 p0 5 2) fun v77 =>
      bo (gI M58 p0 5 8) fun v82 =>
      bo (chk M58 v77 7) fun _ => bd (fX7_fail v77 2 v82 M58) fun v85 M85 =>
      rtZ v85 M85
    )
  ) else (
    fX5_readMark_L89 p0 M58
  )
def fX5_readMark_L49 (p0 : Option Nat) (p1 : Int64) (q0 : Option Nat) (M : Mem) : Option (Int32 × Mem) :=
  fX5_readMark_L50 p0 p1 q0 0 M
def fX5_readMark (a0 : Option Nat) (M : Mem) : Option (Int32 × Mem) :=
  bo (chk M a0 5) fun _ => bd (fX5_there a0 4 M) fun v4 M4 =>
  if v4 = 0 then (
    bo (chk M4 a0 5) fun _ => bd (fX5_lacks a0 M4) fun v11 M11 =>
    rtZ v11 M11
  ) else (
    bo (gR M4 a0 5 3) fun v16 =>
    bo (gI M4 a0 5 8) fun v20 =>
    bo (chk M4 v16 8) fun _ => bd (fX8_number v16 v20 4 M4) fun v24 M24 =>
    bn (v24) fun v27 =>
    if (lg_cmp v27 407710288) < 0 then (
      fX5_readMark_L49 a0 v27 a0 M24
    ) else (
      if 0 < (lg_cmp v27 407710303) then (
        fX5_readMark_L49 a0 v27 a0 M24
      ) else (
        fX5_readMark_L50 a0 v27 a0 1 M24
      )
    )
  )
def rmX5_readMark : Room := { frames := 5, cells := 0, slots := 0, locals := 114 }
set_option maxRecDepth 100000 in
set_option maxHeartbeats 4000000 in
theorem ctX5_readMark (l : Launch) (x : Cx) (a0 : Option Nat) (M : Mem) (v : Int32) (N : Mem) (h : fX5_readMark a0 M = some (v, N)) : CT l yX5_readMark cX5_readMark 3 (some (FieldType.boolean)) rmX5_readMark x [rv x a0] M (some (.int v)) N := by
  refine ct_mk (enc := fun v : Int32 => some (.int v)) (li := []) (ll := []) (lr := [(0, a0)]) (by decide +kernel) (by simp [lg_sl, rv_cat, cat_int, cat_long]) (by simp [flat, lv_args, rv_cat, cat_int, cat_long]) h ?_
  intro p e s m args below meth c E
  have hL117 : ∀ (q0 : Int32) (M : Mem), RT p l e rmX5_readMark s m args below meth c x 3 (QM below args s x (fun v : Int32 => some (.int v)) rmX5_readMark.cells rmX5_readMark.slots) 0 0 (fX5_readMark_L117 q0 M) 117 [] [] [] [.int q0] M := by
    intro q0 M
    unfold fX5_readMark_L117
    exact e_bool (pc := 117) E dX5_readMark_117
  have hL89 : ∀ (p0 : Option Nat) (M : Mem), RT p l e rmX5_readMark s m args below meth c x 3 (QM below args s x (fun v : Int32 => some (.int v)) rmX5_readMark.cells rmX5_readMark.slots) 0 0 (fX5_readMark_L89 p0 M) 89 [] [] [(0, p0)] [] M := by
    intro p0 M
    unfold fX5_readMark_L89
    refine r_aload_n (pc := 89) E dX5_readMark_89 rfl 0 rfl ?_
    refine r_dup (pc := 90) E dX5_readMark_90 (rv_cat _ _) ?_
    refine r_getI (pc := 91) E fd_5_8 wf_RX5_53 dX5_readMark_91 (fun v91 => ?_)
    refine r_iconst (pc := 94) (v := 4) E dX5_readMark_94 (by decide) ?_
    refine r_iadd (pc := 95) E dX5_readMark_95 ?_
    refine r_putI (pc := 96) E fd_5_8 wf_RX5_53 dX5_readMark_96 (Or.inl rfl) (fun M96 => ?_)
    refine r_aload_n (pc := 99) E dX5_readMark_99 rfl 0 rfl ?_
    refine r_getZ (pc := 100) E fd_5_18 wf_RX5_91 dX5_readMark_100 (fun v100 => ?_)
    refine r_if_eq (pc := 103) (tgt := 113) E dX5_readMark_103 (by decide) ?_ ?_
    · refine r_aload_n (pc := 113) E dX5_readMark_113 rfl 0 rfl ?_
      refine r_kVi (pc := 114) (As := []) (rest := []) E wc_X5_readHead wi_RX5 hd_X5_readHead (ci := 5) rfl wl_RX5_129 wn_X5_readHead ws_X5_readHead dX5_readMark_114 (by decide) (Nat.le_of_ble_eq_true rfl) ⟨rfl, rfl⟩ (ctX5_readHead l x _ _) rfl (fun v114 M114 => ?_)
      exact r_sub [] [] [] rfl rfl rfl (hL117 v114 _)
    · refine r_aload_n (pc := 106) E dX5_readMark_106 rfl 0 rfl ?_
      refine r_kVi (pc := 107) (As := []) (rest := []) E wc_X5_passOver wi_RX5 hd_X5_passOver (ci := 5) rfl wl_RX5_126 wn_X5_passOver ws_X5_passOver dX5_readMark_107 (by decide) (Nat.le_of_ble_eq_true rfl) ⟨rfl, rfl⟩ (ctX5_passOver l x _ _) rfl (fun v107 M107 => ?_)
      refine r_goto (pc := 110) (tgt := 117) E dX5_readMark_110 (by decide) ?_
      exact r_sub [] [] [] rfl rfl rfl (hL117 v107 _)
  have hL50 : ∀ (p0 : Option Nat) (p1 : Int64) (q0 : Option Nat) (q1 : Int32) (M : Mem), RT p l e rmX5_readMark s m args below meth c x 3 (QM below args s x (fun v : Int32 => some (.int v)) rmX5_readMark.cells rmX5_readMark.slots) 0 0 (fX5_readMark_L50 p0 p1 q0 q1 M) 50 [] [(1, p1)] [(0, p0)] [.int q1, rv x q0] M := by
    intro p0 p1 q0 q1 M
    unfold fX5_readMark_L50
    refine r_putZ (pc := 50) E fd_5_18 wf_RX5_91 dX5_readMark_50 (Or.inl rfl) (fun M50 => ?_)
    refine r_aload_n (pc := 53) E dX5_readMark_53 rfl 0 rfl ?_
    refine r_aload_n (pc := 54) E dX5_readMark_54 rfl 0 rfl ?_
    refine r_getZ (pc := 55) E fd_5_18 wf_RX5_91 dX5_readMark_55 (fun v55 => ?_)
    refine r_putZ (pc := 58) E fd_5_17 wf_RX5_72 dX5_readMark_58 (Or.inl rfl) (fun M58 => ?_)
    refine r_aload_n (pc := 61) E dX5_readMark_61 rfl 0 rfl ?_
    refine r_getZ (pc := 62) E fd_5_18 wf_RX5_91 dX5_readMark_62 (fun v62 => ?_)
    refine r_if_ne (pc := 65) (tgt := 89) E dX5_readMark_65 (by decide) ?_ ?_
    · exact r_sub [] [] [0] rfl rfl rfl (hL89 p0 _)
    · refine r_lload_n (pc := 68) E dX5_readMark_68 rfl 0 rfl ?_
      refine r_ldc2 (pc := 69) E wk_RX5_120 dX5_readMark_69 ?_
      refine r_lcmp (pc := 72) E dX5_readMark_72 ?_
      refine r_if_eq (pc := 73) (tgt := 89) E dX5_readMark_73 (by decide) ?_ ?_
      · exact r_sub [] [] [0] rfl rfl rfl (hL89 p0 _)
      · refine r_aload_n (pc := 76) E dX5_readMark_76 rfl 0 rfl ?_
        refine r_getR (pc := 77) E fd_5_2 wf_RX5_23 dX5_readMark_77 (fun v77 => ?_)
        refine r_iconst (pc := 80) (v := 2) E dX5_readMark_80 (by decide) ?_
        refine r_aload_n (pc := 81) E dX5_readMark_81 rfl 0 rfl ?_
        refine r_getI (pc := 82) E fd_5_8 wf_RX5_53 dX5_readMark_82 (fun v82 => ?_)
        refine r_kVi (pc := 85) (As := [.int 2, .int v82]) (rest := []) E wc_X7_fail wi_RX7 hd_X7_fail (ci := 7) rfl wl_RX5_122 wn_X7_fail ws_X7_fail dX5_readMark_85 (by decide) (Nat.le_of_ble_eq_true rfl) ⟨rfl, rfl⟩ (ctX7_fail l x _ _ _ _) rfl (fun v85 M85 => ?_)
        exact e_bool (pc := 88) E dX5_readMark_88
  have hL49 : ∀ (p0 : Option Nat) (p1 : Int64) (q0 : Option Nat) (M : Mem), RT p l e rmX5_readMark s m args below meth c x 3 (QM below args s x (fun v : Int32 => some (.int v)) rmX5_readMark.cells rmX5_readMark.slots) 0 0 (fX5_readMark_L49 p0 p1 q0 M) 49 [] [(1, p1)] [(0, p0)] [rv x q0] M := by
    intro p0 p1 q0 M
    unfold fX5_readMark_L49
    refine r_iconst (pc := 49) (v := 0) E dX5_readMark_49 (by decide) ?_
    exact r_sub [] [0] [0] rfl rfl rfl (hL50 p0 p1 q0 0 _)
  show RT p l e rmX5_readMark s m args below meth c x 3 (QM below args s x (fun v : Int32 => some (.int v)) rmX5_readMark.cells rmX5_readMark.slots) 0 0 (fX5_readMark a0 M) 0 [] [] [(0, a0)] [] M
  unfold fX5_readMark
  refine r_aload_n (pc := 0) E dX5_readMark_0 rfl 0 rfl ?_
  refine r_ldc2 (pc := 1) E wk_RX5_103 dX5_readMark_1 ?_
  refine r_kVi (pc := 4) (As := [.long 4]) (rest := []) E wc_X5_there wi_RX5 hd_X5_there (ci := 5) rfl wl_RX5_105 wn_X5_there ws_X5_there dX5_readMark_4 (by decide) (Nat.le_of_ble_eq_true rfl) ⟨rfl, rfl⟩ (ctX5_there l x _ _ _) rfl (fun v4 M4 => ?_)
  refine r_if_ne (pc := 7) (tgt := 15) E dX5_readMark_7 (by decide) ?_ ?_
  · refine r_aload_n (pc := 15) E dX5_readMark_15 rfl 0 rfl ?_
    refine r_getR (pc := 16) E fd_5_3 wf_RX5_14 dX5_readMark_16 (fun v16 => ?_)
    refine r_aload_n (pc := 19) E dX5_readMark_19 rfl 0 rfl ?_
    refine r_getI (pc := 20) E fd_5_8 wf_RX5_53 dX5_readMark_20 (fun v20 => ?_)
    refine r_iconst (pc := 23) (v := 4) E dX5_readMark_23 (by decide) ?_
    refine r_kVl (pc := 24) (As := [.int v20, .int 4]) (rest := []) E wc_X8_number wi_RX8 hd_X8_number (ci := 8) rfl wl_RX5_112 wn_X8_number ws_X8_number dX5_readMark_24 (by decide) (Nat.le_of_ble_eq_true rfl) ⟨rfl, rfl⟩ (ctX8_number l x _ _ _ _) rfl (fun v24 M24 => ?_)
    refine r_lstore_n (pc := 27) (lf := fun v27 => []) (lg := fun v27 => [(1, v27)]) (lk := fun v27 => [(0, a0)]) E dX5_readMark_27 rfl (by decide) (fun _ => rfl) (fun _ => rfl) (fun _ => rfl) (fun v27 => ?_)
    refine r_aload_n (pc := 28) E dX5_readMark_28 rfl 0 rfl ?_
    refine r_lload_n (pc := 29) E dX5_readMark_29 rfl 0 rfl ?_
    refine r_ldc2 (pc := 30) E wk_RX5_116 dX5_readMark_30 ?_
    refine r_lcmp (pc := 33) E dX5_readMark_33 ?_
    refine r_if_lt (pc := 34) (tgt := 49) E dX5_readMark_34 (by decide) ?_ ?_
    · exact r_sub [] [0] [0] rfl rfl rfl (hL49 a0 v27 a0 _)
    · refine r_lload_n (pc := 37) E dX5_readMark_37 rfl 0 rfl ?_
      refine r_ldc2 (pc := 38) E wk_RX5_118 dX5_readMark_38 ?_
      refine r_lcmp (pc := 41) E dX5_readMark_41 ?_
      refine r_if_gt (pc := 42) (tgt := 49) E dX5_readMark_42 (by decide) ?_ ?_
      · exact r_sub [] [0] [0] rfl rfl rfl (hL49 a0 v27 a0 _)
      · refine r_iconst (pc := 45) (v := 1) E dX5_readMark_45 (by decide) ?_
        refine r_goto (pc := 46) (tgt := 50) E dX5_readMark_46 (by decide) ?_
        exact r_sub [] [0] [0] rfl rfl rfl (hL50 a0 v27 a0 1 _)
  · refine r_aload_n (pc := 10) E dX5_readMark_10 rfl 0 rfl ?_
    refine r_kVi (pc := 11) (As := []) (rest := []) E wc_X5_lacks wi_RX5 hd_X5_lacks (ci := 5) rfl wl_RX5_109 wn_X5_lacks ws_X5_lacks dX5_readMark_11 (by decide) (Nat.le_of_ble_eq_true rfl) ⟨rfl, rfl⟩ (ctX5_lacks l x _ _) rfl (fun v11 M11 => ?_)
    exact e_bool (pc := 14) E dX5_readMark_14
def fX5_readBlockHead_L103 (p0 : Option Nat) (M : Mem) : Option (Int32 × Mem) :=
  bo (gR M p0 5 2) fun v104 =>
  bo (gI M p0 5 8) fun v110 =>
  bo (chk M v104 7) fun _ => bd (fX7_fail v104 6 v110 M) fun v113 M113 =>
  rtZ v113 M113
def fX5_readBlockHead_L163 (q0 : Int32) (M : Mem) : Option (Int32 × Mem) :=
  rtZ q0 M
def fX5_readBlockHead_L158 (M : Mem) : Option (Int32 × Mem) :=
  fX5_readBlockHead_L163 1 M
def fX5_readBlockHead_L145 (p0 : Option Nat) (q0 : Option Nat) (q1 : Int64) (M : Mem) : Option (Int32 × Mem) :=
  bo (chk M q0 5) fun _ => bd (fX5_there q0 q1 M) fun v145 M145 =>
  if v145 = 0 then (
    bo (chk M145 p0 5) fun _ => bd (fX5_lacks p0 M145) fun v152 M152 =>
    if v152 = 0 then (
      fX5_readBlockHead_L163 0 M152
    ) else (
      fX5_readBlockHead_L158 M152
    )
  ) else (
    fX5_readBlockHead_L158 M145
  )
def fX5_readBlockHead_L62 (p0 : Option Nat) (p1 : Int32) (q0 : Option Nat) (q1 : Int32) (M : Mem) : Option (Int32 × Mem) :=
  bo (pZ M q0 5 17 q1) fun M62 =>
  bo (pI M62 p0 5 15 ((shrI p1 1) &&& 3)) fun M71 =>
  bo (pI M71 p0 5 16 (shrI p1 3)) fun M78 =>
  bo (gI M78 p0 5 15) fun v82 =>
  if 2 < v82 then (
    fX5_readBlockHead_L103 p0 M78
  ) else (
    bo (gI M78 p0 5 16) fun v90 =>
    bo (gR M78 p0 5 1) fun v94 =>
    bo (gI M78 v94 9 13) fun v97 =>
    if v90 ≤ v97 then (
      bo (gI M78 p0 5 8) fun v119 =>
      bo (pI M78 p0 5 8 (v119 + 3)) fun M124 =>
      bo (gI M124 p0 5 15) fun v129 =>
      if v129 = 1 then (
        fX5_readBlockHead_L145 p0 p0 1 M124
      ) else (
        bo (gI M124 p0 5 16) fun v141 =>
        fX5_readBlockHead_L145 p0 p0 v141.toInt64 M124
      )
    ) else (
      fX5_readBlockHead_L103 p0 M78
    )
  )
def fX5_readBlockHead (a0 : Option Nat) (M : Mem) : Option (Int32 × Mem) :=
  bo (gI M a0 5 8) fun v2 =>
  bo (pI M a0 5 14 v2) fun M5 =>
  bo (chk M5 a0 5) fun _ => bd (fX5_there a0 3 M5) fun v12 M12 =>
  if v12 = 0 then (
    bo (chk M12 a0 5) fun _ => bd (fX5_lacks a0 M12) fun v19 M19 =>
    rtZ v19 M19
  ) else (
    bo (gR M12 a0 5 2) fun v24 =>
    bo (gR M12 v24 7 2) fun v27 =>
    bo (aI M12 v27 15 1) fun v32 =>
    bo (wI M12 v27 1 (v32 + 1)) fun M35 =>
    bo (gR M35 a0 5 3) fun v37 =>
    bo (gI M35 a0 5 8) fun v41 =>
    bo (chk M35 v37 8) fun _ => bd (fX8_number v37 v41 3 M35) fun v45 M45 =>
    bn (v45.toInt32) fun v49 =>
    if (v49 &&& 1) = 0 then (
      fX5_readBlockHead_L62 a0 v49 a0 0 M45
    ) else (
      fX5_readBlockHead_L62 a0 v49 a0 1 M45
    )
  )
def rmX5_readBlockHead : Room := { frames := 2, cells := 0, slots := 0, locals := 46 }
set_option maxRecDepth 100000 in
set_option maxHeartbeats 4000000 in
theorem ctX5_readBlockHead (l : Launch) (x : Cx) (a0 : Option Nat) (M : Mem) (v : Int32) (N : Mem) (h : fX5_readBlockHead a0 M = some (v, N)) : CT l yX5_readBlockHead cX5_readBlockHead 2 (some (FieldType.boolean)) rmX5_readBlockHead x [rv x a0] M (some (.int v)) N := by
  refine ct_mk (enc := fun v : Int32 => some (.int v)) (li := []) (ll := []) (lr := [(0, a0)]) (by decide +kernel) (by simp [lg_sl, rv_cat, cat_int, cat_long]) (by simp [flat, lv_args, rv_cat, cat_int, cat_long]) h ?_
  intro p e s m args below meth c E
  have hL103 : ∀ (p0 : Option Nat) (M : Mem), RT p l e rmX5_readBlockHead s m args below meth c x 2 (QM below args s x (fun v : Int32 => some (.int v)) rmX5_readBlockHead.cells rmX5_readBlockHead.slots) 0 0 (fX5_readBlockHead_L103 p0 M) 103 [] [] [(0, p0)] [] M := by
    intro p0 M
    unfold fX5_readBlockHead_L103
    refine r_aload_n (pc := 103) E dX5_readBlockHead_103 rfl 0 rfl ?_
    refine r_getR (pc := 104) E fd_5_2 wf_RX5_23 dX5_readBlockHead_104 (fun v104 => ?_)
    refine r_bipush (pc := 107) (v := 6) E dX5_readBlockHead_107 (by decide) ?_
    refine r_aload_n (pc := 109) E dX5_readBlockHead_109 rfl 0 rfl ?_
    refine r_getI (pc := 110) E fd_5_8 wf_RX5_53 dX5_readBlockHead_110 (fun v110 => ?_)
    refine r_kVi (pc := 113) (As := [.int 6, .int v110]) (rest := []) E wc_X7_fail wi_RX7 hd_X7_fail (ci := 7) rfl wl_RX5_122 wn_X7_fail ws_X7_fail dX5_readBlockHead_113 (by decide) (Nat.le_of_ble_eq_true rfl) ⟨rfl, rfl⟩ (ctX7_fail l x _ _ _ _) rfl (fun v113 M113 => ?_)
    exact e_bool (pc := 116) E dX5_readBlockHead_116
  have hL163 : ∀ (q0 : Int32) (M : Mem), RT p l e rmX5_readBlockHead s m args below meth c x 2 (QM below args s x (fun v : Int32 => some (.int v)) rmX5_readBlockHead.cells rmX5_readBlockHead.slots) 0 0 (fX5_readBlockHead_L163 q0 M) 163 [] [] [] [.int q0] M := by
    intro q0 M
    unfold fX5_readBlockHead_L163
    exact e_bool (pc := 163) E dX5_readBlockHead_163
  have hL158 : ∀ (M : Mem), RT p l e rmX5_readBlockHead s m args below meth c x 2 (QM below args s x (fun v : Int32 => some (.int v)) rmX5_readBlockHead.cells rmX5_readBlockHead.slots) 0 0 (fX5_readBlockHead_L158 M) 158 [] [] [] [] M := by
    intro M
    unfold fX5_readBlockHead_L158
    refine r_iconst (pc := 158) (v := 1) E dX5_readBlockHead_158 (by decide) ?_
    refine r_goto (pc := 159) (tgt := 163) E dX5_readBlockHead_159 (by decide) ?_
    exact r_sub [] [] [] rfl rfl rfl (hL163 1 _)
  have hL145 : ∀ (p0 : Option Nat) (q0 : Option Nat) (q1 : Int64) (M : Mem), RT p l e rmX5_readBlockHead s m args below meth c x 2 (QM below args s x (fun v : Int32 => some (.int v)) rmX5_readBlockHead.cells rmX5_readBlockHead.slots) 0 0 (fX5_readBlockHead_L145 p0 q0 q1 M) 145 [] [] [(0, p0)] [.long q1, rv x q0] M := by
    intro p0 q0 q1 M
    unfold fX5_readBlockHead_L145
    refine r_kVi (pc := 145) (As := [.long q1]) (rest := []) E wc_X5_there wi_RX5 hd_X5_there (ci := 5) rfl wl_RX5_105 wn_X5_there ws_X5_there dX5_readBlockHead_145 (by decide) (Nat.le_of_ble_eq_true rfl) ⟨rfl, rfl⟩ (ctX5_there l x _ _ _) rfl (fun v145 M145 => ?_)
    refine r_if_ne (pc := 148) (tgt := 158) E dX5_readBlockHead_148 (by decide) ?_ ?_
    · exact r_sub [] [] [] rfl rfl rfl (hL158 _)
    · refine r_aload_n (pc := 151) E dX5_readBlockHead_151 rfl 0 rfl ?_
      refine r_kVi (pc := 152) (As := []) (rest := []) E wc_X5_lacks wi_RX5 hd_X5_lacks (ci := 5) rfl wl_RX5_109 wn_X5_lacks ws_X5_lacks dX5_readBlockHead_152 (by decide) (Nat.le_of_ble_eq_true rfl) ⟨rfl, rfl⟩ (ctX5_lacks l x _ _) rfl (fun v152 M152 => ?_)
      refine r_if_eq (pc := 155) (tgt := 162) E dX5_readBlockHead_155 (by decide) ?_ ?_
      · refine r_iconst (pc := 162) (v := 0) E dX5_readBlockHead_162 (by decide) ?_
        exact r_sub [] [] [] rfl rfl rfl (hL163 0 _)
      · exact r_sub [] [] [] rfl rfl rfl (hL158 _)
  have hL62 : ∀ (p0 : Option Nat) (p1 : Int32) (q0 : Option Nat) (q1 : Int32) (M : Mem), RT p l e rmX5_readBlockHead s m args below meth c x 2 (QM below args s x (fun v : Int32 => some (.int v)) rmX5_readBlockHead.cells rmX5_readBlockHead.slots) 0 0 (fX5_readBlockHead_L62 p0 p1 q0 q1 M) 62 [(1, p1)] [] [(0, p0)] [.int q1, rv x q0] M := by
    intro p0 p1 q0 q1 M
    unfold fX5_readBlockHead_L62
    refine r_putZ (pc := 62) E fd_5_17 wf_RX5_72 dX5_readBlockHead_62 (Or.inl rfl) (fun M62 => ?_)
    refine r_aload_n (pc := 65) E dX5_readBlockHead_65 rfl 0 rfl ?_
    refine r_iload_n (pc := 66) E dX5_readBlockHead_66 rfl 0 rfl ?_
    refine r_iconst (pc := 67) (v := 1) E dX5_readBlockHead_67 (by decide) ?_
    refine r_ishr (pc := 68) E dX5_readBlockHead_68 ?_
    refine r_iconst (pc := 69) (v := 3) E dX5_readBlockHead_69 (by decide) ?_
    refine r_iand (pc := 70) E dX5_readBlockHead_70 ?_
    refine r_putI (pc := 71) E fd_5_15 wf_RX5_79 dX5_readBlockHead_71 (Or.inl rfl) (fun M71 => ?_)
    refine r_aload_n (pc := 74) E dX5_readBlockHead_74 rfl 0 rfl ?_
    refine r_iload_n (pc := 75) E dX5_readBlockHead_75 rfl 0 rfl ?_
    refine r_iconst (pc := 76) (v := 3) E dX5_readBlockHead_76 (by decide) ?_
    refine r_ishr (pc := 77) E dX5_readBlockHead_77 ?_
    refine r_putI (pc := 78) E fd_5_16 wf_RX5_191 dX5_readBlockHead_78 (Or.inl rfl) (fun M78 => ?_)
    refine r_aload_n (pc := 81) E dX5_readBlockHead_81 rfl 0 rfl ?_
    refine r_getI (pc := 82) E fd_5_15 wf_RX5_79 dX5_readBlockHead_82 (fun v82 => ?_)
    refine r_iconst (pc := 85) (v := 2) E dX5_readBlockHead_85 (by decide) ?_
    refine r_icmp_gt (pc := 86) (tgt := 103) E dX5_readBlockHead_86 (by decide) ?_ ?_
    · exact r_sub [] [] [0] rfl rfl rfl (hL103 p0 _)
    · refine r_aload_n (pc := 89) E dX5_readBlockHead_89 rfl 0 rfl ?_
      refine r_getI (pc := 90) E fd_5_16 wf_RX5_191 dX5_readBlockHead_90 (fun v90 => ?_)
      refine r_aload_n (pc := 93) E dX5_readBlockHead_93 rfl 0 rfl ?_
      refine r_getR (pc := 94) E fd_5_1 wf_RX5_41 dX5_readBlockHead_94 (fun v94 => ?_)
      refine r_getI (pc := 97) E fd_9_13 wf_RX5_194 dX5_readBlockHead_97 (fun v97 => ?_)
      refine r_icmp_le (pc := 100) (tgt := 117) E dX5_readBlockHead_100 (by decide) ?_ ?_
      · refine r_aload_n (pc := 117) E dX5_readBlockHead_117 rfl 0 rfl ?_
        refine r_dup (pc := 118) E dX5_readBlockHead_118 (rv_cat _ _) ?_
        refine r_getI (pc := 119) E fd_5_8 wf_RX5_53 dX5_readBlockHead_119 (fun v119 => ?_)
        refine r_iconst (pc := 122) (v := 3) E dX5_readBlockHead_122 (by decide) ?_
        refine r_iadd (pc := 123) E dX5_readBlockHead_123 ?_
        refine r_putI (pc := 124) E fd_5_8 wf_RX5_53 dX5_readBlockHead_124 (Or.inl rfl) (fun M124 => ?_)
        refine r_aload_n (pc := 127) E dX5_readBlockHead_127 rfl 0 rfl ?_
        refine r_aload_n (pc := 128) E dX5_readBlockHead_128 rfl 0 rfl ?_
        refine r_getI (pc := 129) E fd_5_15 wf_RX5_79 dX5_readBlockHead_129 (fun v129 => ?_)
        refine r_iconst (pc := 132) (v := 1) E dX5_readBlockHead_132 (by decide) ?_
        refine r_icmp_ne (pc := 133) (tgt := 140) E dX5_readBlockHead_133 (by decide) ?_ ?_
        · refine r_aload_n (pc := 140) E dX5_readBlockHead_140 rfl 0 rfl ?_
          refine r_getI (pc := 141) E fd_5_16 wf_RX5_191 dX5_readBlockHead_141 (fun v141 => ?_)
          refine r_i2l (pc := 144) E dX5_readBlockHead_144 ?_
          exact r_sub [] [] [0] rfl rfl rfl (hL145 p0 p0 v141.toInt64 _)
        · refine r_lconst (pc := 136) (v := 1) E dX5_readBlockHead_136 (by decide) ?_
          refine r_goto (pc := 137) (tgt := 145) E dX5_readBlockHead_137 (by decide) ?_
          exact r_sub [] [] [0] rfl rfl rfl (hL145 p0 p0 1 _)
      · exact r_sub [] [] [0] rfl rfl rfl (hL103 p0 _)
  show RT p l e rmX5_readBlockHead s m args below meth c x 2 (QM below args s x (fun v : Int32 => some (.int v)) rmX5_readBlockHead.cells rmX5_readBlockHead.slots) 0 0 (fX5_readBlockHead a0 M) 0 [] [] [(0, a0)] [] M
  unfold fX5_readBlockHead
  refine r_aload_n (pc := 0) E dX5_readBlockHead_0 rfl 0 rfl ?_
  refine r_aload_n (pc := 1) E dX5_readBlockHead_1 rfl 0 rfl ?_
  refine r_getI (pc := 2) E fd_5_8 wf_RX5_53 dX5_readBlockHead_2 (fun v2 => ?_)
  refine r_putI (pc := 5) E fd_5_14 wf_RX5_186 dX5_readBlockHead_5 (Or.inl rfl) (fun M5 => ?_)
  refine r_aload_n (pc := 8) E dX5_readBlockHead_8 rfl 0 rfl ?_
  refine r_ldc2 (pc := 9) E wk_RX5_189 dX5_readBlockHead_9 ?_
  refine r_kVi (pc := 12) (As := [.long 3]) (rest := []) E wc_X5_there wi_RX5 hd_X5_there (ci := 5) rfl wl_RX5_105 wn_X5_there ws_X5_there dX5_readBlockHead_12 (by decide) (Nat.le_of_ble_eq_true rfl) ⟨rfl, rfl⟩ (ctX5_there l x _ _ _) rfl (fun v12 M12 => ?_)
  refine r_if_ne (pc := 15) (tgt := 23) E dX5_readBlockHead_15 (by decide) ?_ ?_
  · refine r_aload_n (pc := 23) E dX5_readBlockHead_23 rfl 0 rfl ?_
    refine r_getR (pc := 24) E fd_5_2 wf_RX5_23 dX5_readBlockHead_24 (fun v24 => ?_)
    refine r_getA (pc := 27) E fd_7_2 wf_RX5_132 dX5_readBlockHead_27 (fun v27 => ?_)
    refine r_iconst (pc := 30) (v := 1) E dX5_readBlockHead_30 (by decide) ?_
    refine r_dup2 (pc := 31) E dX5_readBlockHead_31 rfl (rv_cat _ _) ?_
    refine r_iaload (pc := 32) E dX5_readBlockHead_32 (fun v32 => ?_)
    refine r_iconst (pc := 33) (v := 1) E dX5_readBlockHead_33 (by decide) ?_
    refine r_iadd (pc := 34) E dX5_readBlockHead_34 ?_
    refine r_iastore (pc := 35) E dX5_readBlockHead_35 (fun M35 => ?_)
    refine r_aload_n (pc := 36) E dX5_readBlockHead_36 rfl 0 rfl ?_
    refine r_getR (pc := 37) E fd_5_3 wf_RX5_14 dX5_readBlockHead_37 (fun v37 => ?_)
    refine r_aload_n (pc := 40) E dX5_readBlockHead_40 rfl 0 rfl ?_
    refine r_getI (pc := 41) E fd_5_8 wf_RX5_53 dX5_readBlockHead_41 (fun v41 => ?_)
    refine r_iconst (pc := 44) (v := 3) E dX5_readBlockHead_44 (by decide) ?_
    refine r_kVl (pc := 45) (As := [.int v41, .int 3]) (rest := []) E wc_X8_number wi_RX8 hd_X8_number (ci := 8) rfl wl_RX5_112 wn_X8_number ws_X8_number dX5_readBlockHead_45 (by decide) (Nat.le_of_ble_eq_true rfl) ⟨rfl, rfl⟩ (ctX8_number l x _ _ _ _) rfl (fun v45 M45 => ?_)
    refine r_l2i (pc := 48) E dX5_readBlockHead_48 ?_
    refine r_istore_n (pc := 49) (lf := fun v49 => [(1, v49)]) (lg := fun v49 => []) (lk := fun v49 => [(0, a0)]) E dX5_readBlockHead_49 rfl (by decide) (fun _ => rfl) (fun _ => rfl) (fun _ => rfl) (fun v49 => ?_)
    refine r_aload_n (pc := 50) E dX5_readBlockHead_50 rfl 0 rfl ?_
    refine r_iload_n (pc := 51) E dX5_readBlockHead_51 rfl 0 rfl ?_
    refine r_iconst (pc := 52) (v := 1) E dX5_readBlockHead_52 (by decide) ?_
    refine r_iand (pc := 53) E dX5_readBlockHead_53 ?_
    refine r_if_eq (pc := 54) (tgt := 61) E dX5_readBlockHead_54 (by decide) ?_ ?_
    · refine r_iconst (pc := 61) (v := 0) E dX5_readBlockHead_61 (by decide) ?_
      exact r_sub [0] [] [0] rfl rfl rfl (hL62 a0 v49 a0 0 _)
    · refine r_iconst (pc := 57) (v := 1) E dX5_readBlockHead_57 (by decide) ?_
      refine r_goto (pc := 58) (tgt := 62) E dX5_readBlockHead_58 (by decide) ?_
      exact r_sub [0] [] [0] rfl rfl rfl (hL62 a0 v49 a0 1 _)
  · refine r_aload_n (pc := 18) E dX5_readBlockHead_18 rfl 0 rfl ?_
    refine r_kVi (pc := 19) (As := []) (rest := []) E wc_X5_lacks wi_RX5 hd_X5_lacks (ci := 5) rfl wl_RX5_109 wn_X5_lacks ws_X5_lacks dX5_readBlockHead_19 (by decide) (Nat.le_of_ble_eq_true rfl) ⟨rfl, rfl⟩ (ctX5_lacks l x _ _) rfl (fun v19 M19 => ?_)
    exact e_bool (pc := 22) E dX5_readBlockHead_22
def fX9_wrong (a0 : Option Nat) (a1 : Int32) (a2 : Int32) (M : Mem) : Option (Int32 × Mem) :=
  bo (gR M a0 9 6) fun v1 =>
  bo (chk M v1 7) fun _ => bd (fX7_fail v1 a1 a2 M) fun v6 M6 =>
  some ((-1), M6)
def rmX9_wrong : Room := { frames := 1, cells := 0, slots := 0, locals := 22 }
set_option maxRecDepth 100000 in
set_option maxHeartbeats 4000000 in
theorem ctX9_wrong (l : Launch) (x : Cx) (a0 : Option Nat) (a1 : Int32) (a2 : Int32) (M : Mem) (v : Int32) (N : Mem) (h : fX9_wrong a0 a1 a2 M = some (v, N)) : CT l yX9_wrong cX9_wrong 3 (some (FieldType.int)) rmX9_wrong x [rv x a0, .int a1, .int a2] M (some (.int v)) N := by
  refine ct_mk (enc := fun v : Int32 => some (.int v)) (li := [(1, a1), (2, a2)]) (ll := []) (lr := [(0, a0)]) (by decide +kernel) (by simp [lg_sl, rv_cat, cat_int, cat_long]) (by simp [flat, lv_args, rv_cat, cat_int, cat_long]) h ?_
  intro p e s m args below meth c E
  show RT p l e rmX9_wrong s m args below meth c x 3 (QM below args s x (fun v : Int32 => some (.int v)) rmX9_wrong.cells rmX9_wrong.slots) 0 0 (fX9_wrong a0 a1 a2 M) 0 [(1, a1), (2, a2)] [] [(0, a0)] [] M
  unfold fX9_wrong
  refine r_aload_n (pc := 0) E dX9_wrong_0 rfl 0 rfl ?_
  refine r_getR (pc := 1) E fd_9_6 wf_RX9_53 dX9_wrong_1 (fun v1 => ?_)
  refine r_iload_n (pc := 4) E dX9_wrong_4 rfl 0 rfl ?_
  refine r_iload_n (pc := 5) E dX9_wrong_5 rfl 1 rfl ?_
  refine r_kVi (pc := 6) (As := [.int a1, .int a2]) (rest := []) E wc_X7_fail wi_RX7 hd_X7_fail (ci := 7) rfl wl_RX9_125 wn_X7_fail ws_X7_fail dX9_wrong_6 (by decide) (Nat.le_of_ble_eq_true rfl) ⟨rfl, rfl⟩ (ctX7_fail l x _ _ _ _) rfl (fun v6 M6 => ?_)
  refine r_pop (pc := 9) E dX9_wrong_9 rfl ?_
  refine r_iconst (pc := 10) (v := (-1)) E dX9_wrong_10 (by decide) ?_
  exact e_int (pc := 11) E dX9_wrong_11
def fX9_readHead_L47 (p0 : Option Nat) (p2 : Int32) (M : Mem) : Option (Int32 × Mem) :=
  bo (chk M p0 9) fun _ => bd (fX9_wrong p0 14 p2 M) fun v51 M51 =>
  some (v51, M51)
def fX9_readHead_L191 (q0 : Int32) (M : Mem) : Option (Int32 × Mem) :=
  some (q0, M)
def fX9_readHead_L184 (p0 : Option Nat) (p2 : Int32) (M : Mem) : Option (Int32 × Mem) :=
  bo (chk M p0 9) fun _ => bd (fX9_wrong p0 14 p2 M) fun v188 M188 =>
  fX9_readHead_L191 v188 M188
def fX9_readHead_L151 (q0 : Int32) (M : Mem) : Option (Int32 × Mem) :=
  some (q0, M)
def fX9_readHead_L115 (p0 : Option Nat) (p1 : Option Nat) (p2 : Int32) (p3 : Int32) (p5 : Int32) (M : Mem) : Option (Int32 × Mem) :=
  bo (pI M p0 9 16 0) fun M117 =>
  bn (p2 + p5) fun v124 =>
  bo (gI M117 p0 9 15) fun v127 =>
  if v127 = 0 then (
    if v124 = p3 then (
      fX9_readHead_L151 v124 M117
    ) else (
      bo (chk M117 p0 9) fun _ => bd (fX9_wrong p0 14 p2 M117) fun v148 M148 =>
      fX9_readHead_L151 v148 M148
    )
  ) else (
    bo (chk M117 p1 8) fun _ => bd (fX8_get p1 v124 M117) fun v156 M156 =>
    bo (pI M156 p0 9 16 v156) fun M159 =>
    if p3 ≤ v124 then (
      fX9_readHead_L184 p0 p2 M159
    ) else (
      bo (gI M159 p0 9 16) fun v169 =>
      if (v169 &&& 3) = 0 then (
        fX9_readHead_L191 (v124 + 1) M159
      ) else (
        fX9_readHead_L184 p0 p2 M159
      )
    )
  )
def fX9_readHead_L32 (p0 : Option Nat) (p1 : Option Nat) (p2 : Int32) (p3 : Int32) (p4 : Int32) (q0 : Int32) (M : Mem) : Option (Int32 × Mem) :=
  bn (q0) fun v32 =>
  if p3 ≤ p2 then (
    fX9_readHead_L47 p0 p2 M
  ) else (
    if v32 ≤ (p3 - p2) then (
      bo (pI M p0 9 15 p4) fun M58 =>
      if v32 = 2 then (
        bo (chk M58 p1 8) fun _ => bd (fX8_get p1 (p2 + 1) M58) fun v82 M82 =>
        bo (pI M82 p0 9 15 ((256 * (p4 - 128)) + v82)) fun M86 =>
        fX9_readHead_L115 p0 p1 p2 p3 v32 M86
      ) else (
        if v32 = 3 then (
          bo (chk M58 p1 8) fun _ => bd (fX8_number p1 (p2 + 1) 2 M58) fun v107 M107 =>
          bo (pI M107 p0 9 15 (32512 + v107.toInt32)) fun M112 =>
          fX9_readHead_L115 p0 p1 p2 p3 v32 M112
        ) else (
          fX9_readHead_L115 p0 p1 p2 p3 v32 M58
        )
      )
    ) else (
      fX9_readHead_L47 p0 p2 M
    )
  )
def fX9_readHead (a0 : Option Nat) (a1 : Option Nat) (a2 : Int32) (a3 : Int32) (M : Mem) : Option (Int32 × Mem) :=
  bo (chk M a1 8) fun _ => bd (fX8_get a1 a2 M) fun v2 M2 =>
  bn (v2) fun v5 =>
  if 128 ≤ v5 then (
    if 255 ≤ v5 then (
      fX9_readHead_L32 a0 a1 a2 a3 v5 3 M2
    ) else (
      fX9_readHead_L32 a0 a1 a2 a3 v5 2 M2
    )
  ) else (
    fX9_readHead_L32 a0 a1 a2 a3 v5 1 M2
  )
def rmX9_readHead : Room := { frames := 2, cells := 0, slots := 0, locals := 46 }
set_option maxRecDepth 100000 in
set_option maxHeartbeats 4000000 in
theorem ctX9_readHead (l : Launch) (x : Cx) (a0 : Option Nat) (a1 : Option Nat) (a2 : Int32) (a3 : Int32) (M : Mem) (v : Int32) (N : Mem) (h : fX9_readHead a0 a1 a2 a3 M = some (v, N)) : CT l yX9_readHead cX9_readHead 7 (some (FieldType.int)) rmX9_readHead x [rv x a0, rv x a1, .int a2, .int a3] M (some (.int v)) N := by
  refine ct_mk (enc := fun v : Int32 => some (.int v)) (li := [(2, a2), (3, a3)]) (ll := []) (lr := [(0, a0), (1, a1)]) (by decide +kernel) (by simp [lg_sl, rv_cat, cat_int, cat_long]) (by simp [flat, lv_args, rv_cat, cat_int, cat_long]) h ?_
  intro p e s m args below meth c E
  have hL47 : ∀ (p0 : Option Nat) (p2 : Int32) (M : Mem), RT p l e rmX9_readHead s m args below meth c x 7 (QM below args s x (fun v : Int32 => some (.int v)) rmX9_readHead.cells rmX9_readHead.slots) 0 0 (fX9_readHead_L47 p0 p2 M) 47 [(2, p2)] [] [(0, p0)] [] M := by
    intro p0 p2 M
    unfold fX9_readHead_L47
    refine r_aload_n (pc := 47) E dX9_readHead_47 rfl 0 rfl ?_
    refine r_bipush (pc := 48) (v := 14) E dX9_readHead_48 (by decide) ?_
    refine r_iload_n (pc := 50) E dX9_readHead_50 rfl 0 rfl ?_
    refine r_kVi (pc := 51) (As := [.int 14, .int p2]) (rest := []) E wc_X9_wrong wi_RX9 hd_X9_wrong (ci := 9) rfl wl_RX9_111 wn_X9_wrong ws_X9_wrong dX9_readHead_51 (by decide) (Nat.le_of_ble_eq_true rfl) ⟨rfl, rfl⟩ (ctX9_wrong l x _ _ _ _) rfl (fun v51 M51 => ?_)
    exact e_int (pc := 54) E dX9_readHead_54
  have hL191 : ∀ (q0 : Int32) (M : Mem), RT p l e rmX9_readHead s m args below meth c x 7 (QM below args s x (fun v : Int32 => some (.int v)) rmX9_readHead.cells rmX9_readHead.slots) 0 0 (fX9_readHead_L191 q0 M) 191 [] [] [] [.int q0] M := by
    intro q0 M
    unfold fX9_readHead_L191
    exact e_int (pc := 191) E dX9_readHead_191
  have hL184 : ∀ (p0 : Option Nat) (p2 : Int32) (M : Mem), RT p l e rmX9_readHead s m args below meth c x 7 (QM below args s x (fun v : Int32 => some (.int v)) rmX9_readHead.cells rmX9_readHead.slots) 0 0 (fX9_readHead_L184 p0 p2 M) 184 [(2, p2)] [] [(0, p0)] [] M := by
    intro p0 p2 M
    unfold fX9_readHead_L184
    refine r_aload_n (pc := 184) E dX9_readHead_184 rfl 0 rfl ?_
    refine r_bipush (pc := 185) (v := 14) E dX9_readHead_185 (by decide) ?_
    refine r_iload_n (pc := 187) E dX9_readHead_187 rfl 0 rfl ?_
    refine r_kVi (pc := 188) (As := [.int 14, .int p2]) (rest := []) E wc_X9_wrong wi_RX9 hd_X9_wrong (ci := 9) rfl wl_RX9_111 wn_X9_wrong ws_X9_wrong dX9_readHead_188 (by decide) (Nat.le_of_ble_eq_true rfl) ⟨rfl, rfl⟩ (ctX9_wrong l x _ _ _ _) rfl (fun v188 M188 => ?_)
    exact r_sub [] [] [] rfl rfl rfl (hL191 v188 _)
  have hL151 : ∀ (q0 : Int32) (M : Mem), RT p l e rmX9_readHead s m args below meth c x 7 (QM below args s x (fun v : Int32 => some (.int v)) rmX9_readHead.cells rmX9_readHead.slots) 0 0 (fX9_readHead_L151 q0 M) 151 [] [] [] [.int q0] M := by
    intro q0 M
    unfold fX9_readHead_L151
    exact e_int (pc := 151) E dX9_readHead_151
  have hL115 : ∀ (p0 : Option Nat) (p1 : Option Nat) (p2 : Int32) (p3 : Int32) (p5 : Int32) (M : Mem), RT p l e rmX9_readHead s m args below meth c x 7 (QM below args s x (fun v : Int32 => some (.int v)) rmX9_readHead.cells rmX9_readHead.slots) 0 0 (fX9_readHead_L115 p0 p1 p2 p3 p5 M) 115 [(2, p2), (3, p3), (5, p5)] [] [(0, p0), (1, p1)] [] M := by
    intro p0 p1 p2 p3 p5 M
    unfold fX9_readHead_L115
    refine r_aload_n (pc := 115) E dX9_readHead_115 rfl 0 rfl ?_
    refine r_iconst (pc := 116) (v := 0) E dX9_readHead_116 (by decide) ?_
    refine r_putI (pc := 117) E fd_9_16 wf_RX9_122 dX9_readHead_117 (Or.inl rfl) (fun M117 => ?_)
    refine r_iload_n (pc := 120) E dX9_readHead_120 rfl 0 rfl ?_
    refine r_iload (pc := 121) E dX9_readHead_121 2 rfl ?_
    refine r_iadd (pc := 123) E dX9_readHead_123 ?_
    refine r_istore (pc := 124) (lf := fun v124 => [(6, v124), (2, p2), (3, p3), (5, p5)]) (lg := fun v124 => []) (lk := fun v124 => [(0, p0), (1, p1)]) E dX9_readHead_124 (by decide) (fun _ => rfl) (fun _ => rfl) (fun _ => rfl) (fun v124 => ?_)
    refine r_aload_n (pc := 126) E dX9_readHead_126 rfl 0 rfl ?_
    refine r_getI (pc := 127) E fd_9_15 wf_RX9_115 dX9_readHead_127 (fun v127 => ?_)
    refine r_if_ne (pc := 130) (tgt := 152) E dX9_readHead_130 (by decide) ?_ ?_
    · refine r_aload_n (pc := 152) E dX9_readHead_152 rfl 0 rfl ?_
      refine r_aload_n (pc := 153) E dX9_readHead_153 rfl 1 rfl ?_
      refine r_iload (pc := 154) E dX9_readHead_154 0 rfl ?_
      refine r_kVi (pc := 156) (As := [.int v124]) (rest := [rv x p0]) E wc_X8_get wi_RX8 hd_X8_get (ci := 8) rfl wl_RX9_107 wn_X8_get ws_X8_get dX9_readHead_156 (by decide) (Nat.le_of_ble_eq_true rfl) ⟨rfl, rfl⟩ (ctX8_get l x _ _ _) rfl (fun v156 M156 => ?_)
      refine r_putI (pc := 159) E fd_9_16 wf_RX9_122 dX9_readHead_159 (Or.inl rfl) (fun M159 => ?_)
      refine r_iload (pc := 162) E dX9_readHead_162 0 rfl ?_
      refine r_iload_n (pc := 164) E dX9_readHead_164 rfl 2 rfl ?_
      refine r_icmp_ge (pc := 165) (tgt := 184) E dX9_readHead_165 (by decide) ?_ ?_
      · exact r_sub [1] [] [0] rfl rfl rfl (hL184 p0 p2 _)
      · refine r_aload_n (pc := 168) E dX9_readHead_168 rfl 0 rfl ?_
        refine r_getI (pc := 169) E fd_9_16 wf_RX9_122 dX9_readHead_169 (fun v169 => ?_)
        refine r_iconst (pc := 172) (v := 3) E dX9_readHead_172 (by decide) ?_
        refine r_iand (pc := 173) E dX9_readHead_173 ?_
        refine r_if_ne (pc := 174) (tgt := 184) E dX9_readHead_174 (by decide) ?_ ?_
        · exact r_sub [1] [] [0] rfl rfl rfl (hL184 p0 p2 _)
        · refine r_iload (pc := 177) E dX9_readHead_177 0 rfl ?_
          refine r_iconst (pc := 179) (v := 1) E dX9_readHead_179 (by decide) ?_
          refine r_iadd (pc := 180) E dX9_readHead_180 ?_
          refine r_goto (pc := 181) (tgt := 191) E dX9_readHead_181 (by decide) ?_
          exact r_sub [] [] [] rfl rfl rfl (hL191 (v124 + 1) _)
    · refine r_iload (pc := 133) E dX9_readHead_133 0 rfl ?_
      refine r_iload_n (pc := 135) E dX9_readHead_135 rfl 2 rfl ?_
      refine r_icmp_ne (pc := 136) (tgt := 144) E dX9_readHead_136 (by decide) ?_ ?_
      · refine r_aload_n (pc := 144) E dX9_readHead_144 rfl 0 rfl ?_
        refine r_bipush (pc := 145) (v := 14) E dX9_readHead_145 (by decide) ?_
        refine r_iload_n (pc := 147) E dX9_readHead_147 rfl 1 rfl ?_
        refine r_kVi (pc := 148) (As := [.int 14, .int p2]) (rest := []) E wc_X9_wrong wi_RX9 hd_X9_wrong (ci := 9) rfl wl_RX9_111 wn_X9_wrong ws_X9_wrong dX9_readHead_148 (by decide) (Nat.le_of_ble_eq_true rfl) ⟨rfl, rfl⟩ (ctX9_wrong l x _ _ _ _) rfl (fun v148 M148 => ?_)
        exact r_sub [] [] [] rfl rfl rfl (hL151 v148 _)
      · refine r_iload (pc := 139) E dX9_readHead_139 0 rfl ?_
        refine r_goto (pc := 141) (tgt := 151) E dX9_readHead_141 (by decide) ?_
        exact r_sub [] [] [] rfl rfl rfl (hL151 v124 _)
  have hL32 : ∀ (p0 : Option Nat) (p1 : Option Nat) (p2 : Int32) (p3 : Int32) (p4 : Int32) (q0 : Int32) (M : Mem), RT p l e rmX9_readHead s m args below meth c x 7 (QM below args s x (fun v : Int32 => some (.int v)) rmX9_readHead.cells rmX9_readHead.slots) 0 0 (fX9_readHead_L32 p0 p1 p2 p3 p4 q0 M) 32 [(2, p2), (3, p3), (4, p4)] [] [(0, p0), (1, p1)] [.int q0] M := by
    intro p0 p1 p2 p3 p4 q0 M
    unfold fX9_readHead_L32
    refine r_istore (pc := 32) (lf := fun v32 => [(5, v32), (2, p2), (3, p3), (4, p4)]) (lg := fun v32 => []) (lk := fun v32 => [(0, p0), (1, p1)]) E dX9_readHead_32 (by decide) (fun _ => rfl) (fun _ => rfl) (fun _ => rfl) (fun v32 => ?_)
    refine r_iload_n (pc := 34) E dX9_readHead_34 rfl 1 rfl ?_
    refine r_iload_n (pc := 35) E dX9_readHead_35 rfl 2 rfl ?_
    refine r_icmp_ge (pc := 36) (tgt := 47) E dX9_readHead_36 (by decide) ?_ ?_
    · exact r_sub [1] [] [0] rfl rfl rfl (hL47 p0 p2 _)
    · refine r_iload (pc := 39) E dX9_readHead_39 0 rfl ?_
      refine r_iload_n (pc := 41) E dX9_readHead_41 rfl 2 rfl ?_
      refine r_iload_n (pc := 42) E dX9_readHead_42 rfl 1 rfl ?_
      refine r_isub (pc := 43) E dX9_readHead_43 ?_
      refine r_icmp_le (pc := 44) (tgt := 55) E dX9_readHead_44 (by decide) ?_ ?_
      · refine r_aload_n (pc := 55) E dX9_readHead_55 rfl 0 rfl ?_
        refine r_iload (pc := 56) E dX9_readHead_56 3 rfl ?_
        refine r_putI (pc := 58) E fd_9_15 wf_RX9_115 dX9_readHead_58 (Or.inl rfl) (fun M58 => ?_)
        refine r_iload (pc := 61) E dX9_readHead_61 0 rfl ?_
        refine r_iconst (pc := 63) (v := 2) E dX9_readHead_63 (by decide) ?_
        refine r_icmp_ne (pc := 64) (tgt := 92) E dX9_readHead_64 (by decide) ?_ ?_
        · refine r_iload (pc := 92) E dX9_readHead_92 0 rfl ?_
          refine r_iconst (pc := 94) (v := 3) E dX9_readHead_94 (by decide) ?_
          refine r_icmp_ne (pc := 95) (tgt := 115) E dX9_readHead_95 (by decide) ?_ ?_
          · exact r_sub [1, 2, 0] [] [0, 1] rfl rfl rfl (hL115 p0 p1 p2 p3 v32 _)
          · refine r_aload_n (pc := 98) E dX9_readHead_98 rfl 0 rfl ?_
            refine r_sipush (pc := 99) (v := 32512) E dX9_readHead_99 (by decide) ?_
            refine r_aload_n (pc := 102) E dX9_readHead_102 rfl 1 rfl ?_
            refine r_iload_n (pc := 103) E dX9_readHead_103 rfl 1 rfl ?_
            refine r_iconst (pc := 104) (v := 1) E dX9_readHead_104 (by decide) ?_
            refine r_iadd (pc := 105) E dX9_readHead_105 ?_
            refine r_iconst (pc := 106) (v := 2) E dX9_readHead_106 (by decide) ?_
            refine r_kVl (pc := 107) (As := [.int (p2 + 1), .int 2]) (rest := [.int 32512, rv x p0]) E wc_X8_number wi_RX8 hd_X8_number (ci := 8) rfl wl_RX9_118 wn_X8_number ws_X8_number dX9_readHead_107 (by decide) (Nat.le_of_ble_eq_true rfl) ⟨rfl, rfl⟩ (ctX8_number l x _ _ _ _) rfl (fun v107 M107 => ?_)
            refine r_l2i (pc := 110) E dX9_readHead_110 ?_
            refine r_iadd (pc := 111) E dX9_readHead_111 ?_
            refine r_putI (pc := 112) E fd_9_15 wf_RX9_115 dX9_readHead_112 (Or.inl rfl) (fun M112 => ?_)
            exact r_sub [1, 2, 0] [] [0, 1] rfl rfl rfl (hL115 p0 p1 p2 p3 v32 _)
        · refine r_aload_n (pc := 67) E dX9_readHead_67 rfl 0 rfl ?_
          refine r_sipush (pc := 68) (v := 256) E dX9_readHead_68 (by decide) ?_
          refine r_iload (pc := 71) E dX9_readHead_71 3 rfl ?_
          refine r_sipush (pc := 73) (v := 128) E dX9_readHead_73 (by decide) ?_
          refine r_isub (pc := 76) E dX9_readHead_76 ?_
          refine r_imul (pc := 77) E dX9_readHead_77 ?_
          refine r_aload_n (pc := 78) E dX9_readHead_78 rfl 1 rfl ?_
          refine r_iload_n (pc := 79) E dX9_readHead_79 rfl 1 rfl ?_
          refine r_iconst (pc := 80) (v := 1) E dX9_readHead_80 (by decide) ?_
          refine r_iadd (pc := 81) E dX9_readHead_81 ?_
          refine r_kVi (pc := 82) (As := [.int (p2 + 1)]) (rest := [.int (256 * (p4 - 128)), rv x p0]) E wc_X8_get wi_RX8 hd_X8_get (ci := 8) rfl wl_RX9_107 wn_X8_get ws_X8_get dX9_readHead_82 (by decide) (Nat.le_of_ble_eq_true rfl) ⟨rfl, rfl⟩ (ctX8_get l x _ _ _) rfl (fun v82 M82 => ?_)
          refine r_iadd (pc := 85) E dX9_readHead_85 ?_
          refine r_putI (pc := 86) E fd_9_15 wf_RX9_115 dX9_readHead_86 (Or.inl rfl) (fun M86 => ?_)
          refine r_goto (pc := 89) (tgt := 115) E dX9_readHead_89 (by decide) ?_
          exact r_sub [1, 2, 0] [] [0, 1] rfl rfl rfl (hL115 p0 p1 p2 p3 v32 _)
      · exact r_sub [1] [] [0] rfl rfl rfl (hL47 p0 p2 _)
  show RT p l e rmX9_readHead s m args below meth c x 7 (QM below args s x (fun v : Int32 => some (.int v)) rmX9_readHead.cells rmX9_readHead.slots) 0 0 (fX9_readHead a0 a1 a2 a3 M) 0 [(2, a2), (3, a3)] [] [(0, a0), (1, a1)] [] M
  unfold fX9_readHead
  refine r_aload_n (pc := 0) E dX9_readHead_0 rfl 1 rfl ?_
  refine r_iload_n (pc := 1) E dX9_readHead_1 rfl 0 rfl ?_
  refine r_kVi (pc := 2) (As := [.int a2]) (rest := []) E wc_X8_get wi_RX8 hd_X8_get (ci := 8) rfl wl_RX9_107 wn_X8_get ws_X8_get dX9_readHead_2 (by decide) (Nat.le_of_ble_eq_true rfl) ⟨rfl, rfl⟩ (ctX8_get l x _ _ _) rfl (fun v2 M2 => ?_)
  refine r_istore (pc := 5) (lf := fun v5 => [(4, v5), (2, a2), (3, a3)]) (lg := fun v5 => []) (lk := fun v5 => [(0, a0), (1, a1)]) E dX9_readHead_5 (by decide) (fun _ => rfl) (fun _ => rfl) (fun _ => rfl) (fun v5 => ?_)
  refine r_iload (pc := 7) E dX9_readHead_7 0 rfl ?_
  refine r_sipush (pc := 9) (v := 128) E dX9_readHead_9 (by decide) ?_
  refine r_icmp_ge (pc := 12) (tgt := 19) E dX9_readHead_12 (by decide) ?_ ?_
  · refine r_iload (pc := 19) E dX9_readHead_19 0 rfl ?_
    refine r_sipush (pc := 21) (v := 255) E dX9_readHead_21 (by decide) ?_
    refine r_icmp_ge (pc := 24) (tgt := 31) E dX9_readHead_24 (by decide) ?_ ?_
    · refine r_iconst (pc := 31) (v := 3) E dX9_readHead_31 (by decide) ?_
      exact r_sub [1, 2, 0] [] [0, 1] rfl rfl rfl (hL32 a0 a1 a2 a3 v5 3 _)
    · refine r_iconst (pc := 27) (v := 2) E dX9_readHead_27 (by decide) ?_
      refine r_goto (pc := 28) (tgt := 32) E dX9_readHead_28 (by decide) ?_
      exact r_sub [1, 2, 0] [] [0, 1] rfl rfl rfl (hL32 a0 a1 a2 a3 v5 2 _)
  · refine r_iconst (pc := 15) (v := 1) E dX9_readHead_15 (by decide) ?_
    refine r_goto (pc := 16) (tgt := 32) E dX9_readHead_16 (by decide) ?_
    exact r_sub [1, 2, 0] [] [0, 1] rfl rfl rfl (hL32 a0 a1 a2 a3 v5 1 _)
def fX9_none_L12 (q0 : Int32) (M : Mem) : Option (Int32 × Mem) :=
  rtZ q0 M
def fX9_none (a0 : Option Nat) (M : Mem) : Option (Int32 × Mem) :=
  bo (gI M a0 9 15) fun v1 =>
  if v1 = 0 then (
    fX9_none_L12 1 M
  ) else (
    fX9_none_L12 0 M
  )
def rmX9_none : Room := { frames := 0, cells := 0, slots := 0, locals := 0 }
set_option maxRecDepth 100000 in
set_option maxHeartbeats 4000000 in
theorem ctX9_none (l : Launch) (x : Cx) (a0 : Option Nat) (M : Mem) (v : Int32) (N : Mem) (h : fX9_none a0 M = some (v, N)) : CT l yX9_none cX9_none 1 (some (FieldType.boolean)) rmX9_none x [rv x a0] M (some (.int v)) N := by
  refine ct_mk (enc := fun v : Int32 => some (.int v)) (li := []) (ll := []) (lr := [(0, a0)]) (by decide +kernel) (by simp [lg_sl, rv_cat, cat_int, cat_long]) (by simp [flat, lv_args, rv_cat, cat_int, cat_long]) h ?_
  intro p e s m args below meth c E
  have hL12 : ∀ (q0 : Int32) (M : Mem), RT p l e rmX9_none s m args below meth c x 1 (QM below args s x (fun v : Int32 => some (.int v)) rmX9_none.cells rmX9_none.slots) 0 0 (fX9_none_L12 q0 M) 12 [] [] [] [.int q0] M := by
    intro q0 M
    unfold fX9_none_L12
    exact e_bool (pc := 12) E dX9_none_12
  show RT p l e rmX9_none s m args below meth c x 1 (QM below args s x (fun v : Int32 => some (.int v)) rmX9_none.cells rmX9_none.slots) 0 0 (fX9_none a0 M) 0 [] [] [(0, a0)] [] M
  unfold fX9_none
  refine r_aload_n (pc := 0) E dX9_none_0 rfl 0 rfl ?_
  refine r_getI (pc := 1) E fd_9_15 wf_RX9_115 dX9_none_1 (fun v1 => ?_)
  refine r_if_ne (pc := 4) (tgt := 11) E dX9_none_4 (by decide) ?_ ?_
  · refine r_iconst (pc := 11) (v := 0) E dX9_none_11 (by decide) ?_
    exact r_sub [] [] [] rfl rfl rfl (hL12 0 _)
  · refine r_iconst (pc := 7) (v := 1) E dX9_none_7 (by decide) ?_
    refine r_goto (pc := 8) (tgt := 12) E dX9_none_8 (by decide) ?_
    exact r_sub [] [] [] rfl rfl rfl (hL12 1 _)
def fX10_buildOnly (a0 : Option Nat) (a1 : Int32) (M : Mem) : Option (Unit × Mem) :=
  bo (pI M a0 10 0 0) fun M2 =>
  bo (gR M2 a0 10 1) fun v6 =>
  bo (wI M2 v6 0 (a1 &&& 255)) fun M15 =>
  some ((), M15)
def rmX10_buildOnly : Room := { frames := 0, cells := 0, slots := 0, locals := 0 }
set_option maxRecDepth 100000 in
set_option maxHeartbeats 4000000 in
theorem ctX10_buildOnly (l : Launch) (x : Cx) (a0 : Option Nat) (a1 : Int32) (M : Mem) (v : Unit) (N : Mem) (h : fX10_buildOnly a0 a1 M = some (v, N)) : CT l yX10_buildOnly cX10_buildOnly 2 (none) rmX10_buildOnly x [rv x a0, .int a1] M none N := by
  refine ct_mk (enc := fun _ : Unit => none) (li := [(1, a1)]) (ll := []) (lr := [(0, a0)]) (by decide +kernel) (by simp [lg_sl, rv_cat, cat_int, cat_long]) (by simp [flat, lv_args, rv_cat, cat_int, cat_long]) h ?_
  intro p e s m args below meth c E
  show RT p l e rmX10_buildOnly s m args below meth c x 2 (QM below args s x (fun _ : Unit => none) rmX10_buildOnly.cells rmX10_buildOnly.slots) 0 0 (fX10_buildOnly a0 a1 M) 0 [(1, a1)] [] [(0, a0)] [] M
  unfold fX10_buildOnly
  refine r_aload_n (pc := 0) E dX10_buildOnly_0 rfl 0 rfl ?_
  refine r_iconst (pc := 1) (v := 0) E dX10_buildOnly_1 (by decide) ?_
  refine r_putI (pc := 2) E fd_10_0 wf_RX10_57 dX10_buildOnly_2 (Or.inl rfl) (fun M2 => ?_)
  refine r_aload_n (pc := 5) E dX10_buildOnly_5 rfl 0 rfl ?_
  refine r_getA (pc := 6) E fd_10_1 wf_RX10_9 dX10_buildOnly_6 (fun v6 => ?_)
  refine r_iconst (pc := 9) (v := 0) E dX10_buildOnly_9 (by decide) ?_
  refine r_iload_n (pc := 10) E dX10_buildOnly_10 rfl 0 rfl ?_
  refine r_sipush (pc := 11) (v := 255) E dX10_buildOnly_11 (by decide) ?_
  refine r_iand (pc := 14) E dX10_buildOnly_14 ?_
  refine r_iastore (pc := 15) E dX10_buildOnly_15 (fun M15 => ?_)
  exact e_void (pc := 16) E dX10_buildOnly_16
def fX9_readTable_L178 (p0 : Option Nat) (p1 : Int32) (p7 : Int32) (q0 : Option Nat) (q1 : Int32) (q2 : Option Nat) (M : Mem) : Option (Int32 × Mem) :=
  bo (wR M q0 20 10 q1 q2) fun M178 =>
  bo (gR M178 p0 9 1) fun v180 =>
  bo (wZ M178 v180 p1 1) fun M185 =>
  some (p7, M185)
def fX9_readTable_L153 (p0 : Option Nat) (p1 : Int32) (p6 : Int32) (p7 : Int32) (M : Mem) : Option (Int32 × Mem) :=
  bo (gR M p0 9 0) fun v154 =>
  if p6 = 0 then (
    bo (gR M p0 9 3) fun v164 =>
    bo (aR M v164 20 p1) fun v168 =>
    fX9_readTable_L178 p0 p1 p7 v154 p1 v168 M
  ) else (
    bo (gR M p0 9 2) fun v173 =>
    bo (aR M v173 20 p1) fun v177 =>
    fX9_readTable_L178 p0 p1 p7 v154 p1 v177 M
  )
def fX9_readTable_L80 (p0 : Option Nat) (p4 : Int32) (M : Mem) : Option (Int32 × Mem) :=
  bo (chk M p0 9) fun _ => bd (fX9_wrong p0 15 p4 M) fun v85 M85 =>
  some (v85, M85)
def fX9_readTable_L42 (q0 : Int32) (M : Mem) : Option (Int32 × Mem) :=
  some (q0, M)
def fX9_readTable (a0 : Option Nat) (a1 : Int32) (a2 : Option Nat) (a3 : Int32) (a4 : Int32) (a5 : Int32) (M : Mem) : Option (Int32 × Mem) :=
  bo (gI M a0 9 16) fun v1 =>
  bn ((shrI v1 (6 - (2 * a1))) &&& 3) fun v13 =>
  if v13 = 3 then (
    bo (gR M a0 9 1) fun v22 =>
    bo (aI M v22 18 a1) fun v26 =>
    if v26 = 0 then (
      bo (chk M a0 9) fun _ => bd (fX9_wrong a0 16 a3 M) fun v39 M39 =>
      fX9_readTable_L42 v39 M39
    ) else (
      fX9_readTable_L42 a4 M
    )
  ) else (
    bn (a4) fun v45 =>
    if v13 = 1 then (
      bn (a4 + 1) fun v57 =>
      if a5 ≤ a4 then (
        fX9_readTable_L80 a0 a4 M
      ) else (
        bo (chk M a2 8) fun _ => bd (fX8_get a2 a4 M) fun v69 M69 =>
        bo (aI M69 ((some 0)) 15 a1) fun v76 =>
        if v69 ≤ v76 then (
          bo (gR M69 a0 9 2) fun v90 =>
          bo (aR M69 v90 20 a1) fun v94 =>
          bo (chk M69 a2 8) fun _ => bd (fX8_get a2 a4 M69) fun v98 M98 =>
          bo (chk M98 v94 10) fun _ => bd (fX10_buildOnly v94 v98 M98) fun v101 M101 =>
          fX9_readTable_L153 a0 a1 v13 v57 M101
        ) else (
          fX9_readTable_L80 a0 a4 M69
        )
      )
    ) else (
      if v13 = 2 then (
        bo (gR M a0 9 2) fun v114 =>
        bo (aR M v114 20 a1) fun v118 =>
        bo (aI M ((some 0)) 15 a1) fun v128 =>
        bo (aI M ((some 1)) 15 a1) fun v133 =>
        bo (chk M v118 10) fun _ => bd (fX10_read v118 a2 a4 a5 v128 v133 M) fun v134 M134 =>
        bn (v134) fun v137 =>
        if 0 ≤ v137 then (
          fX9_readTable_L153 a0 a1 v13 v137 M134
        ) else (
          bo (chk M134 a0 9) fun _ => bd (fX9_wrong a0 15 a4 M134) fun v149 M149 =>
          some (v149, M149)
        )
      ) else (
        fX9_readTable_L153 a0 a1 v13 v45 M
      )
    )
  )
def rmX9_readTable : Room := { frames := 3, cells := 0, slots := 0, locals := 85 }
set_option maxRecDepth 100000 in
set_option maxHeartbeats 4000000 in
theorem ctX9_readTable (l : Launch) (x : Cx) (a0 : Option Nat) (a1 : Int32) (a2 : Option Nat) (a3 : Int32) (a4 : Int32) (a5 : Int32) (M : Mem) (v : Int32) (N : Mem) (h : fX9_readTable a0 a1 a2 a3 a4 a5 M = some (v, N)) : CT l yX9_readTable cX9_readTable 8 (some (FieldType.int)) rmX9_readTable x [rv x a0, .int a1, rv x a2, .int a3, .int a4, .int a5] M (some (.int v)) N := by
  refine ct_mk (enc := fun v : Int32 => some (.int v)) (li := [(1, a1), (3, a3), (4, a4), (5, a5)]) (ll := []) (lr := [(0, a0), (2, a2)]) (by decide +kernel) (by simp [lg_sl, rv_cat, cat_int, cat_long]) (by simp [flat, lv_args, rv_cat, cat_int, cat_long]) h ?_
  intro p e s m args below meth c E
  have hL178 : ∀ (p0 : Option Nat) (p1 : Int32) (p7 : Int32) (q0 : Option Nat) (q1 : Int32) (q2 : Option Nat) (M : Mem), RT p l e rmX9_readTable s m args below meth c x 8 (QM below args s x (fun v : Int32 => some (.int v)) rmX9_readTable.cells rmX9_readTable.slots) 0 0 (fX9_readTable_L178 p0 p1 p7 q0 q1 q2 M) 178 [(1, p1), (7, p7)] [] [(0, p0)] [rv x q2, .int q1, rv x q0] M := by
    intro p0 p1 p7 q0 q1 q2 M
    unfold fX9_readTable_L178
    refine r_aastore20 (pc := 178) E dX9_readTable_178 (fun M178 => ?_)
    refine r_aload_n (pc := 179) E dX9_readTable_179 rfl 0 rfl ?_
    refine r_getA (pc := 180) E fd_9_1 wf_RX9_17 dX9_readTable_180 (fun v180 => ?_)
    refine r_iload_n (pc := 183) E dX9_readTable_183 rfl 0 rfl ?_
    refine r_iconst (pc := 184) (v := 1) E dX9_readTable_184 (by decide) ?_
    refine r_zastore (pc := 185) E dX9_readTable_185 (fun M185 => ?_)
    refine r_iload (pc := 186) E dX9_readTable_186 1 rfl ?_
    exact e_int (pc := 188) E dX9_readTable_188
  have hL153 : ∀ (p0 : Option Nat) (p1 : Int32) (p6 : Int32) (p7 : Int32) (M : Mem), RT p l e rmX9_readTable s m args below meth c x 8 (QM below args s x (fun v : Int32 => some (.int v)) rmX9_readTable.cells rmX9_readTable.slots) 0 0 (fX9_readTable_L153 p0 p1 p6 p7 M) 153 [(1, p1), (6, p6), (7, p7)] [] [(0, p0)] [] M := by
    intro p0 p1 p6 p7 M
    unfold fX9_readTable_L153
    refine r_aload_n (pc := 153) E dX9_readTable_153 rfl 0 rfl ?_
    refine r_getA (pc := 154) E fd_9_0 wf_RX9_11 dX9_readTable_154 (fun v154 => ?_)
    refine r_iload_n (pc := 157) E dX9_readTable_157 rfl 0 rfl ?_
    refine r_iload (pc := 158) E dX9_readTable_158 1 rfl ?_
    refine r_if_ne (pc := 160) (tgt := 172) E dX9_readTable_160 (by decide) ?_ ?_
    · refine r_aload_n (pc := 172) E dX9_readTable_172 rfl 0 rfl ?_
      refine r_getA (pc := 173) E fd_9_2 wf_RX9_21 dX9_readTable_173 (fun v173 => ?_)
      refine r_iload_n (pc := 176) E dX9_readTable_176 rfl 0 rfl ?_
      refine r_aaload20 (pc := 177) E dX9_readTable_177 (fun v177 => ?_)
      exact r_sub [0, 2] [] [0] rfl rfl rfl (hL178 p0 p1 p7 v154 p1 v177 _)
    · refine r_aload_n (pc := 163) E dX9_readTable_163 rfl 0 rfl ?_
      refine r_getA (pc := 164) E fd_9_3 wf_RX9_61 dX9_readTable_164 (fun v164 => ?_)
      refine r_iload_n (pc := 167) E dX9_readTable_167 rfl 0 rfl ?_
      refine r_aaload20 (pc := 168) E dX9_readTable_168 (fun v168 => ?_)
      refine r_goto (pc := 169) (tgt := 178) E dX9_readTable_169 (by decide) ?_
      exact r_sub [0, 2] [] [0] rfl rfl rfl (hL178 p0 p1 p7 v154 p1 v168 _)
  have hL80 : ∀ (p0 : Option Nat) (p4 : Int32) (M : Mem), RT p l e rmX9_readTable s m args below meth c x 8 (QM below args s x (fun v : Int32 => some (.int v)) rmX9_readTable.cells rmX9_readTable.slots) 0 0 (fX9_readTable_L80 p0 p4 M) 80 [(4, p4)] [] [(0, p0)] [] M := by
    intro p0 p4 M
    unfold fX9_readTable_L80
    refine r_aload_n (pc := 80) E dX9_readTable_80 rfl 0 rfl ?_
    refine r_bipush (pc := 81) (v := 15) E dX9_readTable_81 (by decide) ?_
    refine r_iload (pc := 83) E dX9_readTable_83 0 rfl ?_
    refine r_kVi (pc := 85) (As := [.int 15, .int p4]) (rest := []) E wc_X9_wrong wi_RX9 hd_X9_wrong (ci := 9) rfl wl_RX9_111 wn_X9_wrong ws_X9_wrong dX9_readTable_85 (by decide) (Nat.le_of_ble_eq_true rfl) ⟨rfl, rfl⟩ (ctX9_wrong l x _ _ _ _) rfl (fun v85 M85 => ?_)
    exact e_int (pc := 88) E dX9_readTable_88
  have hL42 : ∀ (q0 : Int32) (M : Mem), RT p l e rmX9_readTable s m args below meth c x 8 (QM below args s x (fun v : Int32 => some (.int v)) rmX9_readTable.cells rmX9_readTable.slots) 0 0 (fX9_readTable_L42 q0 M) 42 [] [] [] [.int q0] M := by
    intro q0 M
    unfold fX9_readTable_L42
    exact e_int (pc := 42) E dX9_readTable_42
  show RT p l e rmX9_readTable s m args below meth c x 8 (QM below args s x (fun v : Int32 => some (.int v)) rmX9_readTable.cells rmX9_readTable.slots) 0 0 (fX9_readTable a0 a1 a2 a3 a4 a5 M) 0 [(1, a1), (3, a3), (4, a4), (5, a5)] [] [(0, a0), (2, a2)] [] M
  unfold fX9_readTable
  refine r_aload_n (pc := 0) E dX9_readTable_0 rfl 0 rfl ?_
  refine r_getI (pc := 1) E fd_9_16 wf_RX9_122 dX9_readTable_1 (fun v1 => ?_)
  refine r_bipush (pc := 4) (v := 6) E dX9_readTable_4 (by decide) ?_
  refine r_iconst (pc := 6) (v := 2) E dX9_readTable_6 (by decide) ?_
  refine r_iload_n (pc := 7) E dX9_readTable_7 rfl 0 rfl ?_
  refine r_imul (pc := 8) E dX9_readTable_8 ?_
  refine r_isub (pc := 9) E dX9_readTable_9 ?_
  refine r_ishr (pc := 10) E dX9_readTable_10 ?_
  refine r_iconst (pc := 11) (v := 3) E dX9_readTable_11 (by decide) ?_
  refine r_iand (pc := 12) E dX9_readTable_12 ?_
  refine r_istore (pc := 13) (lf := fun v13 => [(6, v13), (1, a1), (3, a3), (4, a4), (5, a5)]) (lg := fun v13 => []) (lk := fun v13 => [(0, a0), (2, a2)]) E dX9_readTable_13 (by decide) (fun _ => rfl) (fun _ => rfl) (fun _ => rfl) (fun v13 => ?_)
  refine r_iload (pc := 15) E dX9_readTable_15 0 rfl ?_
  refine r_iconst (pc := 17) (v := 3) E dX9_readTable_17 (by decide) ?_
  refine r_icmp_ne (pc := 18) (tgt := 43) E dX9_readTable_18 (by decide) ?_ ?_
  · refine r_iload (pc := 43) E dX9_readTable_43 3 rfl ?_
    refine r_istore (pc := 45) (lf := fun v45 => [(7, v45), (6, v13), (1, a1), (3, a3), (4, a4), (5, a5)]) (lg := fun v45 => []) (lk := fun v45 => [(0, a0), (2, a2)]) E dX9_readTable_45 (by decide) (fun _ => rfl) (fun _ => rfl) (fun _ => rfl) (fun v45 => ?_)
    refine r_iload (pc := 47) E dX9_readTable_47 1 rfl ?_
    refine r_iconst (pc := 49) (v := 1) E dX9_readTable_49 (by decide) ?_
    refine r_icmp_ne (pc := 50) (tgt := 107) E dX9_readTable_50 (by decide) ?_ ?_
    · refine r_iload (pc := 107) E dX9_readTable_107 1 rfl ?_
      refine r_iconst (pc := 109) (v := 2) E dX9_readTable_109 (by decide) ?_
      refine r_icmp_ne (pc := 110) (tgt := 153) E dX9_readTable_110 (by decide) ?_ ?_
      · exact r_sub [2, 1, 0] [] [0] rfl rfl rfl (hL153 a0 a1 v13 v45 _)
      · refine r_aload_n (pc := 113) E dX9_readTable_113 rfl 0 rfl ?_
        refine r_getA (pc := 114) E fd_9_2 wf_RX9_21 dX9_readTable_114 (fun v114 => ?_)
        refine r_iload_n (pc := 117) E dX9_readTable_117 rfl 2 rfl ?_
        refine r_aaload20 (pc := 118) E dX9_readTable_118 (fun v118 => ?_)
        refine r_aload_n (pc := 119) E dX9_readTable_119 rfl 1 rfl ?_
        refine r_iload (pc := 120) E dX9_readTable_120 4 rfl ?_
        refine r_iload (pc := 122) E dX9_readTable_122 5 rfl ?_
        refine r_getsN (pc := 124) E 0 (by decide) (by decide +kernel) dX9_readTable_124 ?_
        refine r_iload_n (pc := 127) E dX9_readTable_127 rfl 2 rfl ?_
        refine r_iaload (pc := 128) E dX9_readTable_128 (fun v128 => ?_)
        refine r_getsN (pc := 129) E 1 (by decide) (by decide +kernel) dX9_readTable_129 ?_
        refine r_iload_n (pc := 132) E dX9_readTable_132 rfl 2 rfl ?_
        refine r_iaload (pc := 133) E dX9_readTable_133 (fun v133 => ?_)
        refine r_kVi (pc := 134) (As := [rv x a2, .int a4, .int a5, .int v128, .int v133]) (rest := []) E wc_X10_read wi_RX10 hd_X10_read (ci := 10) rfl wl_RX9_138 wn_X10_read ws_X10_read dX9_readTable_134 (by decide) (Nat.le_of_ble_eq_true rfl) ⟨rfl, rfl⟩ (ctX10_read l x _ _ _ _ _ _ _) rfl (fun v134 M134 => ?_)
        refine r_istore (pc := 137) (lf := fun v137 => [(7, v137), (6, v13), (1, a1), (3, a3), (4, a4), (5, a5)]) (lg := fun v137 => []) (lk := fun v137 => [(0, a0), (2, a2)]) E dX9_readTable_137 (by decide) (fun _ => rfl) (fun _ => rfl) (fun _ => rfl) (fun v137 => ?_)
        refine r_iload (pc := 139) E dX9_readTable_139 0 rfl ?_
        refine r_if_ge (pc := 141) (tgt := 153) E dX9_readTable_141 (by decide) ?_ ?_
        · exact r_sub [2, 1, 0] [] [0] rfl rfl rfl (hL153 a0 a1 v13 v137 _)
        · refine r_aload_n (pc := 144) E dX9_readTable_144 rfl 0 rfl ?_
          refine r_bipush (pc := 145) (v := 15) E dX9_readTable_145 (by decide) ?_
          refine r_iload (pc := 147) E dX9_readTable_147 4 rfl ?_
          refine r_kVi (pc := 149) (As := [.int 15, .int a4]) (rest := []) E wc_X9_wrong wi_RX9 hd_X9_wrong (ci := 9) rfl wl_RX9_111 wn_X9_wrong ws_X9_wrong dX9_readTable_149 (by decide) (Nat.le_of_ble_eq_true rfl) ⟨rfl, rfl⟩ (ctX9_wrong l x _ _ _ _) rfl (fun v149 M149 => ?_)
          exact e_int (pc := 152) E dX9_readTable_152
    · refine r_iload (pc := 53) E dX9_readTable_53 4 rfl ?_
      refine r_iconst (pc := 55) (v := 1) E dX9_readTable_55 (by decide) ?_
      refine r_iadd (pc := 56) E dX9_readTable_56 ?_
      refine r_istore (pc := 57) (lf := fun v57 => [(7, v57), (6, v13), (1, a1), (3, a3), (4, a4), (5, a5)]) (lg := fun v57 => []) (lk := fun v57 => [(0, a0), (2, a2)]) E dX9_readTable_57 (by decide) (fun _ => rfl) (fun _ => rfl) (fun _ => rfl) (fun v57 => ?_)
      refine r_iload (pc := 59) E dX9_readTable_59 4 rfl ?_
      refine r_iload (pc := 61) E dX9_readTable_61 5 rfl ?_
      refine r_icmp_ge (pc := 63) (tgt := 80) E dX9_readTable_63 (by decide) ?_ ?_
      · exact r_sub [4] [] [0] rfl rfl rfl (hL80 a0 a4 _)
      · refine r_aload_n (pc := 66) E dX9_readTable_66 rfl 1 rfl ?_
        refine r_iload (pc := 67) E dX9_readTable_67 4 rfl ?_
        refine r_kVi (pc := 69) (As := [.int a4]) (rest := []) E wc_X8_get wi_RX8 hd_X8_get (ci := 8) rfl wl_RX9_107 wn_X8_get ws_X8_get dX9_readTable_69 (by decide) (Nat.le_of_ble_eq_true rfl) ⟨rfl, rfl⟩ (ctX8_get l x _ _ _) rfl (fun v69 M69 => ?_)
        refine r_getsN (pc := 72) E 0 (by decide) (by decide +kernel) dX9_readTable_72 ?_
        refine r_iload_n (pc := 75) E dX9_readTable_75 rfl 2 rfl ?_
        refine r_iaload (pc := 76) E dX9_readTable_76 (fun v76 => ?_)
        refine r_icmp_le (pc := 77) (tgt := 89) E dX9_readTable_77 (by decide) ?_ ?_
        · refine r_aload_n (pc := 89) E dX9_readTable_89 rfl 0 rfl ?_
          refine r_getA (pc := 90) E fd_9_2 wf_RX9_21 dX9_readTable_90 (fun v90 => ?_)
          refine r_iload_n (pc := 93) E dX9_readTable_93 rfl 2 rfl ?_
          refine r_aaload20 (pc := 94) E dX9_readTable_94 (fun v94 => ?_)
          refine r_aload_n (pc := 95) E dX9_readTable_95 rfl 1 rfl ?_
          refine r_iload (pc := 96) E dX9_readTable_96 4 rfl ?_
          refine r_kVi (pc := 98) (As := [.int a4]) (rest := [rv x v94]) E wc_X8_get wi_RX8 hd_X8_get (ci := 8) rfl wl_RX9_107 wn_X8_get ws_X8_get dX9_readTable_98 (by decide) (Nat.le_of_ble_eq_true rfl) ⟨rfl, rfl⟩ (ctX8_get l x _ _ _) rfl (fun v98 M98 => ?_)
          refine r_kVv (pc := 101) (As := [.int v98]) (rest := []) E wc_X10_buildOnly wi_RX10 hd_X10_buildOnly (ci := 10) rfl wl_RX9_132 wn_X10_buildOnly ws_X10_buildOnly dX9_readTable_101 (by decide) (Nat.le_of_ble_eq_true rfl) ⟨rfl, rfl⟩ (ctX10_buildOnly l x _ _ _) rfl (fun v101 M101 => ?_)
          refine r_goto (pc := 104) (tgt := 153) E dX9_readTable_104 (by decide) ?_
          exact r_sub [2, 1, 0] [] [0] rfl rfl rfl (hL153 a0 a1 v13 v57 _)
        · exact r_sub [4] [] [0] rfl rfl rfl (hL80 a0 a4 _)
  · refine r_aload_n (pc := 21) E dX9_readTable_21 rfl 0 rfl ?_
    refine r_getA (pc := 22) E fd_9_1 wf_RX9_17 dX9_readTable_22 (fun v22 => ?_)
    refine r_iload_n (pc := 25) E dX9_readTable_25 rfl 1 rfl ?_
    refine r_zaload (pc := 26) E dX9_readTable_26 (fun v26 => ?_)
    refine r_if_eq (pc := 27) (tgt := 35) E dX9_readTable_27 (by decide) ?_ ?_
    · refine r_aload_n (pc := 35) E dX9_readTable_35 rfl 0 rfl ?_
      refine r_bipush (pc := 36) (v := 16) E dX9_readTable_36 (by decide) ?_
      refine r_iload_n (pc := 38) E dX9_readTable_38 rfl 2 rfl ?_
      refine r_kVi (pc := 39) (As := [.int 16, .int a3]) (rest := []) E wc_X9_wrong wi_RX9 hd_X9_wrong (ci := 9) rfl wl_RX9_111 wn_X9_wrong ws_X9_wrong dX9_readTable_39 (by decide) (Nat.le_of_ble_eq_true rfl) ⟨rfl, rfl⟩ (ctX9_wrong l x _ _ _ _) rfl (fun v39 M39 => ?_)
      exact r_sub [] [] [] rfl rfl rfl (hL42 v39 _)
    · refine r_iload (pc := 30) E dX9_readTable_30 3 rfl ?_
      refine r_goto (pc := 32) (tgt := 42) E dX9_readTable_32 (by decide) ?_
      exact r_sub [] [] [] rfl rfl rfl (hL42 a4 _)
def fX9_symbolOf (a0 : Option Nat) (a1 : Int32) (M : Mem) : Option (Int32 × Mem) :=
  bo (gR M a0 9 0) fun v1 =>
  bo (aR M v1 20 a1) fun v5 =>
  bo (gR M a0 9 4) fun v7 =>
  bo (aI M v7 15 a1) fun v11 =>
  bo (chk M v5 10) fun _ => bd (fX10_symbolAt v5 v11 M) fun v12 M12 =>
  bo (aI M12 ((some 0)) 15 a1) fun v19 =>
  some (minI v12 v19, M12)
def rmX9_symbolOf : Room := { frames := 1, cells := 0, slots := 0, locals := 23 }
set_option maxRecDepth 100000 in
set_option maxHeartbeats 4000000 in
theorem ctX9_symbolOf (l : Launch) (x : Cx) (a0 : Option Nat) (a1 : Int32) (M : Mem) (v : Int32) (N : Mem) (h : fX9_symbolOf a0 a1 M = some (v, N)) : CT l yX9_symbolOf cX9_symbolOf 2 (some (FieldType.int)) rmX9_symbolOf x [rv x a0, .int a1] M (some (.int v)) N := by
  refine ct_mk (enc := fun v : Int32 => some (.int v)) (li := [(1, a1)]) (ll := []) (lr := [(0, a0)]) (by decide +kernel) (by simp [lg_sl, rv_cat, cat_int, cat_long]) (by simp [flat, lv_args, rv_cat, cat_int, cat_long]) h ?_
  intro p e s m args below meth c E
  show RT p l e rmX9_symbolOf s m args below meth c x 2 (QM below args s x (fun v : Int32 => some (.int v)) rmX9_symbolOf.cells rmX9_symbolOf.slots) 0 0 (fX9_symbolOf a0 a1 M) 0 [(1, a1)] [] [(0, a0)] [] M
  unfold fX9_symbolOf
  refine r_aload_n (pc := 0) E dX9_symbolOf_0 rfl 0 rfl ?_
  refine r_getA (pc := 1) E fd_9_0 wf_RX9_11 dX9_symbolOf_1 (fun v1 => ?_)
  refine r_iload_n (pc := 4) E dX9_symbolOf_4 rfl 0 rfl ?_
  refine r_aaload20 (pc := 5) E dX9_symbolOf_5 (fun v5 => ?_)
  refine r_aload_n (pc := 6) E dX9_symbolOf_6 rfl 0 rfl ?_
  refine r_getA (pc := 7) E fd_9_4 wf_RX9_24 dX9_symbolOf_7 (fun v7 => ?_)
  refine r_iload_n (pc := 10) E dX9_symbolOf_10 rfl 0 rfl ?_
  refine r_iaload (pc := 11) E dX9_symbolOf_11 (fun v11 => ?_)
  refine r_kVi (pc := 12) (As := [.int v11]) (rest := []) E wc_X10_symbolAt wi_RX10 hd_X10_symbolAt (ci := 10) rfl wl_RX9_217 wn_X10_symbolAt ws_X10_symbolAt dX9_symbolOf_12 (by decide) (Nat.le_of_ble_eq_true rfl) ⟨rfl, rfl⟩ (ctX10_symbolAt l x _ _ _) rfl (fun v12 M12 => ?_)
  refine r_getsN (pc := 15) E 0 (by decide) (by decide +kernel) dX9_symbolOf_15 ?_
  refine r_iload_n (pc := 18) E dX9_symbolOf_18 rfl 0 rfl ?_
  refine r_iaload (pc := 19) E dX9_symbolOf_19 (fun v19 => ?_)
  refine r_mmin (pc := 20) E wl_RX9_220 wm_smin wi_math wm_cmin dX9_symbolOf_20 (by decide) (Nat.le_of_ble_eq_true rfl) ?_
  exact e_int (pc := 23) E dX9_symbolOf_23
def fX12_baseOf_L13 (q0 : Option Nat) (M : Mem) : Option (Option Nat × Mem) :=
  some (q0, M)
def fX12_baseOf (a0 : Int32) (M : Mem) : Option (Option Nat × Mem) :=
  if a0 = 0 then (
    fX12_baseOf_L13 ((some 6)) M
  ) else (
    fX12_baseOf_L13 ((some 8)) M
  )
def rmX12_baseOf : Room := { frames := 0, cells := 0, slots := 0, locals := 0 }
set_option maxRecDepth 100000 in
set_option maxHeartbeats 4000000 in
theorem ctX12_baseOf (l : Launch) (x : Cx) (a0 : Int32) (M : Mem) (v : Option Nat) (N : Mem) (h : fX12_baseOf a0 M = some (v, N)) : CT l yX12_baseOf cX12_baseOf 1 (some ((FieldType.array FieldType.int))) rmX12_baseOf x [.int a0] M (some (rv x v)) N := by
  refine ct_mk (enc := fun v : Option Nat => some (rv x v)) (li := [(0, a0)]) (ll := []) (lr := []) (by decide +kernel) (by simp [lg_sl, rv_cat, cat_int, cat_long]) (by simp [flat, lv_args, rv_cat, cat_int, cat_long]) h ?_
  intro p e s m args below meth c E
  have hL13 : ∀ (q0 : Option Nat) (M : Mem), RT p l e rmX12_baseOf s m args below meth c x 1 (QM below args s x (fun v : Option Nat => some (rv x v)) rmX12_baseOf.cells rmX12_baseOf.slots) 0 0 (fX12_baseOf_L13 q0 M) 13 [] [] [] [rv x q0] M := by
    intro q0 M
    unfold fX12_baseOf_L13
    exact e_ref (pc := 13) E (Or.inr ⟨_, rfl⟩) dX12_baseOf_13
  show RT p l e rmX12_baseOf s m args below meth c x 1 (QM below args s x (fun v : Option Nat => some (rv x v)) rmX12_baseOf.cells rmX12_baseOf.slots) 0 0 (fX12_baseOf a0 M) 0 [(0, a0)] [] [] [] M
  unfold fX12_baseOf
  refine r_iload_n (pc := 0) E dX12_baseOf_0 rfl 0 rfl ?_
  refine r_if_ne (pc := 1) (tgt := 10) E dX12_baseOf_1 (by decide) ?_ ?_
  · refine r_gets (pc := 10) E 8 (by decide) wf_RX12_201 dX12_baseOf_10 ?_
    exact r_sub [] [] [] rfl rfl rfl (hL13 ((some 8)) _)
  · refine r_gets (pc := 4) E 6 (by decide) wf_RX12_198 dX12_baseOf_4 ?_
    refine r_goto (pc := 7) (tgt := 13) E dX12_baseOf_7 (by decide) ?_
    exact r_sub [] [] [] rfl rfl rfl (hL13 ((some 6)) _)
def fX12_extraOf_L13 (q0 : Option Nat) (M : Mem) : Option (Option Nat × Mem) :=
  some (q0, M)
def fX12_extraOf (a0 : Int32) (M : Mem) : Option (Option Nat × Mem) :=
  if a0 = 0 then (
    fX12_extraOf_L13 ((some 7)) M
  ) else (
    fX12_extraOf_L13 ((some 9)) M
  )
def rmX12_extraOf : Room := { frames := 0, cells := 0, slots := 0, locals := 0 }
set_option maxRecDepth 100000 in
set_option maxHeartbeats 4000000 in
theorem ctX12_extraOf (l : Launch) (x : Cx) (a0 : Int32) (M : Mem) (v : Option Nat) (N : Mem) (h : fX12_extraOf a0 M = some (v, N)) : CT l yX12_extraOf cX12_extraOf 1 (some ((FieldType.array FieldType.int))) rmX12_extraOf x [.int a0] M (some (rv x v)) N := by
  refine ct_mk (enc := fun v : Option Nat => some (rv x v)) (li := [(0, a0)]) (ll := []) (lr := []) (by decide +kernel) (by simp [lg_sl, rv_cat, cat_int, cat_long]) (by simp [flat, lv_args, rv_cat, cat_int, cat_long]) h ?_
  intro p e s m args below meth c E
  have hL13 : ∀ (q0 : Option Nat) (M : Mem), RT p l e rmX12_extraOf s m args below meth c x 1 (QM below args s x (fun v : Option Nat => some (rv x v)) rmX12_extraOf.cells rmX12_extraOf.slots) 0 0 (fX12_extraOf_L13 q0 M) 13 [] [] [] [rv x q0] M := by
    intro q0 M
    unfold fX12_extraOf_L13
    exact e_ref (pc := 13) E (Or.inr ⟨_, rfl⟩) dX12_extraOf_13
  show RT p l e rmX12_extraOf s m args below meth c x 1 (QM below args s x (fun v : Option Nat => some (rv x v)) rmX12_extraOf.cells rmX12_extraOf.slots) 0 0 (fX12_extraOf a0 M) 0 [(0, a0)] [] [] [] M
  unfold fX12_extraOf
  refine r_iload_n (pc := 0) E dX12_extraOf_0 rfl 0 rfl ?_
  refine r_if_ne (pc := 1) (tgt := 10) E dX12_extraOf_1 (by decide) ?_ ?_
  · refine r_gets (pc := 10) E 9 (by decide) wf_RX12_207 dX12_extraOf_10 ?_
    exact r_sub [] [] [] rfl rfl rfl (hL13 ((some 9)) _)
  · refine r_gets (pc := 4) E 7 (by decide) wf_RX12_204 dX12_extraOf_4 ?_
    refine r_goto (pc := 7) (tgt := 13) E dX12_extraOf_7 (by decide) ?_
    exact r_sub [] [] [] rfl rfl rfl (hL13 ((some 7)) _)
def fX9_lengthOf (a0 : Option Nat) (a1 : Int32) (M : Mem) : Option (Int32 × Mem) :=
  bo (chk M a0 9) fun _ => bd (fX9_symbolOf a0 a1 M) fun v2 M2 =>
  bn (v2) fun v5 =>
  bd (fX12_baseOf a1 M2) fun v7 M7 =>
  bo (aI M7 v7 15 v5) fun v11 =>
  bo (gR M7 a0 9 8) fun v13 =>
  bd (fX12_extraOf a1 M7) fun v17 M17 =>
  bo (aI M17 v17 15 v5) fun v21 =>
  bo (chk M17 v13 0) fun _ => bd (fX0_take v13 v21 M17) fun v22 M22 =>
  some (v11 + v22.toInt32, M22)
def rmX9_lengthOf : Room := { frames := 2, cells := 0, slots := 0, locals := 47 }
set_option maxRecDepth 100000 in
set_option maxHeartbeats 4000000 in
theorem ctX9_lengthOf (l : Launch) (x : Cx) (a0 : Option Nat) (a1 : Int32) (M : Mem) (v : Int32) (N : Mem) (h : fX9_lengthOf a0 a1 M = some (v, N)) : CT l yX9_lengthOf cX9_lengthOf 3 (some (FieldType.int)) rmX9_lengthOf x [rv x a0, .int a1] M (some (.int v)) N := by
  refine ct_mk (enc := fun v : Int32 => some (.int v)) (li := [(1, a1)]) (ll := []) (lr := [(0, a0)]) (by decide +kernel) (by simp [lg_sl, rv_cat, cat_int, cat_long]) (by simp [flat, lv_args, rv_cat, cat_int, cat_long]) h ?_
  intro p e s m args below meth c E
  show RT p l e rmX9_lengthOf s m args below meth c x 3 (QM below args s x (fun v : Int32 => some (.int v)) rmX9_lengthOf.cells rmX9_lengthOf.slots) 0 0 (fX9_lengthOf a0 a1 M) 0 [(1, a1)] [] [(0, a0)] [] M
  unfold fX9_lengthOf
  refine r_aload_n (pc := 0) E dX9_lengthOf_0 rfl 0 rfl ?_
  refine r_iload_n (pc := 1) E dX9_lengthOf_1 rfl 0 rfl ?_
  refine r_kVi (pc := 2) (As := [.int a1]) (rest := []) E wc_X9_symbolOf wi_RX9 hd_X9_symbolOf (ci := 9) rfl wl_RX9_181 wn_X9_symbolOf ws_X9_symbolOf dX9_lengthOf_2 (by decide) (Nat.le_of_ble_eq_true rfl) ⟨rfl, rfl⟩ (ctX9_symbolOf l x _ _ _) rfl (fun v2 M2 => ?_)
  refine r_istore_n (pc := 5) (lf := fun v5 => [(2, v5), (1, a1)]) (lg := fun v5 => []) (lk := fun v5 => [(0, a0)]) E dX9_lengthOf_5 rfl (by decide) (fun _ => rfl) (fun _ => rfl) (fun _ => rfl) (fun v5 => ?_)
  refine r_iload_n (pc := 6) E dX9_lengthOf_6 rfl 1 rfl ?_
  refine r_kSNr (pc := 7) (As := [.int a1]) (rest := []) E wc_X12_baseOf wi_RX12 hd_X12_baseOf (host := "TabledFrames") (by decide +kernel) wt_X12_baseOf dX9_lengthOf_7 (by decide) (Nat.le_of_ble_eq_true rfl) ⟨rfl, rfl⟩ (ctX12_baseOf l x _ _) rfl (fun v7 M7 => ?_)
  refine r_iload_n (pc := 10) E dX9_lengthOf_10 rfl 0 rfl ?_
  refine r_iaload (pc := 11) E dX9_lengthOf_11 (fun v11 => ?_)
  refine r_aload_n (pc := 12) E dX9_lengthOf_12 rfl 0 rfl ?_
  refine r_getR (pc := 13) E fd_9_8 wf_RX9_34 dX9_lengthOf_13 (fun v13 => ?_)
  refine r_iload_n (pc := 16) E dX9_lengthOf_16 rfl 1 rfl ?_
  refine r_kSNr (pc := 17) (As := [.int a1]) (rest := [rv x v13, .int v11]) E wc_X12_extraOf wi_RX12 hd_X12_extraOf (host := "TabledFrames") (by decide +kernel) wt_X12_extraOf dX9_lengthOf_17 (by decide) (Nat.le_of_ble_eq_true rfl) ⟨rfl, rfl⟩ (ctX12_extraOf l x _ _) rfl (fun v17 M17 => ?_)
  refine r_iload_n (pc := 20) E dX9_lengthOf_20 rfl 0 rfl ?_
  refine r_iaload (pc := 21) E dX9_lengthOf_21 (fun v21 => ?_)
  refine r_kVl (pc := 22) (As := [.int v21]) (rest := [.int v11]) E wc_X0_take wi_RX0 hd_X0_take (ci := 0) rfl wl_RX9_159 wn_X0_take ws_X0_take dX9_lengthOf_22 (by decide) (Nat.le_of_ble_eq_true rfl) ⟨rfl, rfl⟩ (ctX0_take l x _ _ _) rfl (fun v22 M22 => ?_)
  refine r_l2i (pc := 25) E dX9_lengthOf_25 ?_
  refine r_iadd (pc := 26) E dX9_lengthOf_26 ?_
  exact e_int (pc := 27) E dX9_lengthOf_27
def fX9_goOn (a0 : Option Nat) (a1 : Int32) (M : Mem) : Option (Unit × Mem) :=
  bo (gR M a0 9 0) fun v1 =>
  bo (aR M v1 20 a1) fun v5 =>
  bn (v5) fun v6 =>
  bo (gR M a0 9 4) fun v8 =>
  bo (aI M v8 15 a1) fun v12 =>
  bn (v12) fun v13 =>
  bo (gR M a0 9 4) fun v15 =>
  bo (chk M v6 10) fun _ => bd (fX10_baseAt v6 v13 M) fun v21 M21 =>
  bo (gR M21 a0 9 8) fun v25 =>
  bo (chk M21 v6 10) fun _ => bd (fX10_bitsAt v6 v13 M21) fun v30 M30 =>
  bo (chk M30 v25 0) fun _ => bd (fX0_take v25 v30 M30) fun v33 M33 =>
  bo (wI M33 v15 a1 (v21 + v33.toInt32)) fun M38 =>
  some ((), M38)
def rmX9_goOn : Room := { frames := 2, cells := 0, slots := 0, locals := 47 }
set_option maxRecDepth 100000 in
set_option maxHeartbeats 4000000 in
theorem ctX9_goOn (l : Launch) (x : Cx) (a0 : Option Nat) (a1 : Int32) (M : Mem) (v : Unit) (N : Mem) (h : fX9_goOn a0 a1 M = some (v, N)) : CT l yX9_goOn cX9_goOn 4 (none) rmX9_goOn x [rv x a0, .int a1] M none N := by
  refine ct_mk (enc := fun _ : Unit => none) (li := [(1, a1)]) (ll := []) (lr := [(0, a0)]) (by decide +kernel) (by simp [lg_sl, rv_cat, cat_int, cat_long]) (by simp [flat, lv_args, rv_cat, cat_int, cat_long]) h ?_
  intro p e s m args below meth c E
  show RT p l e rmX9_goOn s m args below meth c x 4 (QM below args s x (fun _ : Unit => none) rmX9_goOn.cells rmX9_goOn.slots) 0 0 (fX9_goOn a0 a1 M) 0 [(1, a1)] [] [(0, a0)] [] M
  unfold fX9_goOn
  refine r_aload_n (pc := 0) E dX9_goOn_0 rfl 0 rfl ?_
  refine r_getA (pc := 1) E fd_9_0 wf_RX9_11 dX9_goOn_1 (fun v1 => ?_)
  refine r_iload_n (pc := 4) E dX9_goOn_4 rfl 0 rfl ?_
  refine r_aaload20 (pc := 5) E dX9_goOn_5 (fun v5 => ?_)
  refine r_astore_n (pc := 6) (lf := fun v6 => [(1, a1)]) (lg := fun v6 => []) (lk := fun v6 => [(2, v6), (0, a0)]) E dX9_goOn_6 rfl (by decide) (fun _ => rfl) (fun _ => rfl) (fun _ => rfl) (fun v6 => ?_)
  refine r_aload_n (pc := 7) E dX9_goOn_7 rfl 1 rfl ?_
  refine r_getA (pc := 8) E fd_9_4 wf_RX9_24 dX9_goOn_8 (fun v8 => ?_)
  refine r_iload_n (pc := 11) E dX9_goOn_11 rfl 0 rfl ?_
  refine r_iaload (pc := 12) E dX9_goOn_12 (fun v12 => ?_)
  refine r_istore_n (pc := 13) (lf := fun v13 => [(3, v13), (1, a1)]) (lg := fun v13 => []) (lk := fun v13 => [(2, v6), (0, a0)]) E dX9_goOn_13 rfl (by decide) (fun _ => rfl) (fun _ => rfl) (fun _ => rfl) (fun v13 => ?_)
  refine r_aload_n (pc := 14) E dX9_goOn_14 rfl 1 rfl ?_
  refine r_getA (pc := 15) E fd_9_4 wf_RX9_24 dX9_goOn_15 (fun v15 => ?_)
  refine r_iload_n (pc := 18) E dX9_goOn_18 rfl 1 rfl ?_
  refine r_aload_n (pc := 19) E dX9_goOn_19 rfl 0 rfl ?_
  refine r_iload_n (pc := 20) E dX9_goOn_20 rfl 0 rfl ?_
  refine r_kVi (pc := 21) (As := [.int v13]) (rest := [.int a1, rv x v15]) E wc_X10_baseAt wi_RX10 hd_X10_baseAt (ci := 10) rfl wl_RX9_229 wn_X10_baseAt ws_X10_baseAt dX9_goOn_21 (by decide) (Nat.le_of_ble_eq_true rfl) ⟨rfl, rfl⟩ (ctX10_baseAt l x _ _ _) rfl (fun v21 M21 => ?_)
  refine r_aload_n (pc := 24) E dX9_goOn_24 rfl 1 rfl ?_
  refine r_getR (pc := 25) E fd_9_8 wf_RX9_34 dX9_goOn_25 (fun v25 => ?_)
  refine r_aload_n (pc := 28) E dX9_goOn_28 rfl 0 rfl ?_
  refine r_iload_n (pc := 29) E dX9_goOn_29 rfl 0 rfl ?_
  refine r_kVi (pc := 30) (As := [.int v13]) (rest := [rv x v25, .int v21, .int a1, rv x v15]) E wc_X10_bitsAt wi_RX10 hd_X10_bitsAt (ci := 10) rfl wl_RX9_232 wn_X10_bitsAt ws_X10_bitsAt dX9_goOn_30 (by decide) (Nat.le_of_ble_eq_true rfl) ⟨rfl, rfl⟩ (ctX10_bitsAt l x _ _ _) rfl (fun v30 M30 => ?_)
  refine r_kVl (pc := 33) (As := [.int v30]) (rest := [.int v21, .int a1, rv x v15]) E wc_X0_take wi_RX0 hd_X0_take (ci := 0) rfl wl_RX9_159 wn_X0_take ws_X0_take dX9_goOn_33 (by decide) (Nat.le_of_ble_eq_true rfl) ⟨rfl, rfl⟩ (ctX0_take l x _ _ _) rfl (fun v33 M33 => ?_)
  refine r_l2i (pc := 36) E dX9_goOn_36 ?_
  refine r_iadd (pc := 37) E dX9_goOn_37 ?_
  refine r_iastore (pc := 38) E dX9_goOn_38 (fun M38 => ?_)
  exact e_void (pc := 39) E dX9_goOn_39
def fX9_putLetters (a0 : Option Nat) (a1 : Int32) (M : Mem) : Option (Unit × Mem) :=
  bo (gR M a0 9 10) fun v1 =>
  bo (gR M a0 9 7) fun v5 =>
  bo (gR M v5 4 0) fun v8 =>
  bo (gI M a0 9 18) fun v12 =>
  bo (chk M v1 8) fun _ => bd (fX8_addFrom v1 v8 v12 a1 M) fun v16 M16 =>
  bo (gI M16 a0 9 18) fun v21 =>
  bo (pI M16 a0 9 18 (v21 + a1)) fun M26 =>
  some ((), M26)
def rmX9_putLetters : Room := { frames := 2, cells := 0, slots := 0, locals := 48 }
set_option maxRecDepth 100000 in
set_option maxHeartbeats 4000000 in
theorem ctX9_putLetters (l : Launch) (x : Cx) (a0 : Option Nat) (a1 : Int32) (M : Mem) (v : Unit) (N : Mem) (h : fX9_putLetters a0 a1 M = some (v, N)) : CT l yX9_putLetters cX9_putLetters 2 (none) rmX9_putLetters x [rv x a0, .int a1] M none N := by
  refine ct_mk (enc := fun _ : Unit => none) (li := [(1, a1)]) (ll := []) (lr := [(0, a0)]) (by decide +kernel) (by simp [lg_sl, rv_cat, cat_int, cat_long]) (by simp [flat, lv_args, rv_cat, cat_int, cat_long]) h ?_
  intro p e s m args below meth c E
  show RT p l e rmX9_putLetters s m args below meth c x 2 (QM below args s x (fun _ : Unit => none) rmX9_putLetters.cells rmX9_putLetters.slots) 0 0 (fX9_putLetters a0 a1 M) 0 [(1, a1)] [] [(0, a0)] [] M
  unfold fX9_putLetters
  refine r_aload_n (pc := 0) E dX9_putLetters_0 rfl 0 rfl ?_
  refine r_getR (pc := 1) E fd_9_10 wf_RX9_47 dX9_putLetters_1 (fun v1 => ?_)
  refine r_aload_n (pc := 4) E dX9_putLetters_4 rfl 0 rfl ?_
  refine r_getR (pc := 5) E fd_9_7 wf_RX9_57 dX9_putLetters_5 (fun v5 => ?_)
  refine r_getR (pc := 8) E fd_4_0 wf_RX9_167 dX9_putLetters_8 (fun v8 => ?_)
  refine r_aload_n (pc := 11) E dX9_putLetters_11 rfl 0 rfl ?_
  refine r_getI (pc := 12) E fd_9_18 wf_RX9_142 dX9_putLetters_12 (fun v12 => ?_)
  refine r_iload_n (pc := 15) E dX9_putLetters_15 rfl 0 rfl ?_
  refine r_kVv (pc := 16) (As := [rv x v8, .int v12, .int a1]) (rest := []) E wc_X8_addFrom wi_RX8 hd_X8_addFrom (ci := 8) rfl wl_RX9_235 wn_X8_addFrom ws_X8_addFrom dX9_putLetters_16 (by decide) (Nat.le_of_ble_eq_true rfl) ⟨rfl, rfl⟩ (ctX8_addFrom l x _ _ _ _ _) rfl (fun v16 M16 => ?_)
  refine r_aload_n (pc := 19) E dX9_putLetters_19 rfl 0 rfl ?_
  refine r_dup (pc := 20) E dX9_putLetters_20 (rv_cat _ _) ?_
  refine r_getI (pc := 21) E fd_9_18 wf_RX9_142 dX9_putLetters_21 (fun v21 => ?_)
  refine r_iload_n (pc := 24) E dX9_putLetters_24 rfl 0 rfl ?_
  refine r_iadd (pc := 25) E dX9_putLetters_25 ?_
  refine r_putI (pc := 26) E fd_9_18 wf_RX9_142 dX9_putLetters_26 (Or.inl rfl) (fun M26 => ?_)
  exact e_void (pc := 29) E dX9_putLetters_29
def fX12_whichOf_L24 (q0 : Int32) (M : Mem) : Option (Int32 × Mem) :=
  some (q0, M)
def fX12_whichOf_L23 (q0 : Int32) (q1 : Int32) (M : Mem) : Option (Int32 × Mem) :=
  fX12_whichOf_L24 (q0 + q1) M
def fX12_whichOf (a0 : Int64) (a2 : Int32) (M : Mem) : Option (Int32 × Mem) :=
  if (lg_cmp a0 3) ≤ 0 then (
    if a2 = 0 then (
      fX12_whichOf_L23 a0.toInt32 1 M
    ) else (
      fX12_whichOf_L23 a0.toInt32 0 M
    )
  ) else (
    fX12_whichOf_L24 0 M
  )
def rmX12_whichOf : Room := { frames := 0, cells := 0, slots := 0, locals := 0 }
set_option maxRecDepth 100000 in
set_option maxHeartbeats 4000000 in
theorem ctX12_whichOf (l : Launch) (x : Cx) (a0 : Int64) (a2 : Int32) (M : Mem) (v : Int32) (N : Mem) (h : fX12_whichOf a0 a2 M = some (v, N)) : CT l yX12_whichOf cX12_whichOf 3 (some (FieldType.int)) rmX12_whichOf x [.long a0, .int a2] M (some (.int v)) N := by
  refine ct_mk (enc := fun v : Int32 => some (.int v)) (li := [(2, a2)]) (ll := [(0, a0)]) (lr := []) (by decide +kernel) (by simp [lg_sl, rv_cat, cat_int, cat_long]) (by simp [flat, lv_args, rv_cat, cat_int, cat_long]) h ?_
  intro p e s m args below meth c E
  have hL24 : ∀ (q0 : Int32) (M : Mem), RT p l e rmX12_whichOf s m args below meth c x 3 (QM below args s x (fun v : Int32 => some (.int v)) rmX12_whichOf.cells rmX12_whichOf.slots) 0 0 (fX12_whichOf_L24 q0 M) 24 [] [] [] [.int q0] M := by
    intro q0 M
    unfold fX12_whichOf_L24
    exact e_int (pc := 24) E dX12_whichOf_24
  have hL23 : ∀ (q0 : Int32) (q1 : Int32) (M : Mem), RT p l e rmX12_whichOf s m args below meth c x 3 (QM below args s x (fun v : Int32 => some (.int v)) rmX12_whichOf.cells rmX12_whichOf.slots) 0 0 (fX12_whichOf_L23 q0 q1 M) 23 [] [] [] [.int q1, .int q0] M := by
    intro q0 q1 M
    unfold fX12_whichOf_L23
    refine r_iadd (pc := 23) E dX12_whichOf_23 ?_
    exact r_sub [] [] [] rfl rfl rfl (hL24 (q0 + q1) _)
  show RT p l e rmX12_whichOf s m args below meth c x 3 (QM below args s x (fun v : Int32 => some (.int v)) rmX12_whichOf.cells rmX12_whichOf.slots) 0 0 (fX12_whichOf a0 a2 M) 0 [(2, a2)] [(0, a0)] [] [] M
  unfold fX12_whichOf
  refine r_lload_n (pc := 0) E dX12_whichOf_0 rfl 0 rfl ?_
  refine r_ldc2 (pc := 1) E wk_RX12_210 dX12_whichOf_1 ?_
  refine r_lcmp (pc := 4) E dX12_whichOf_4 ?_
  refine r_if_le (pc := 5) (tgt := 12) E dX12_whichOf_5 (by decide) ?_ ?_
  · refine r_lload_n (pc := 12) E dX12_whichOf_12 rfl 0 rfl ?_
    refine r_l2i (pc := 13) E dX12_whichOf_13 ?_
    refine r_iload_n (pc := 14) E dX12_whichOf_14 rfl 0 rfl ?_
    refine r_if_ne (pc := 15) (tgt := 22) E dX12_whichOf_15 (by decide) ?_ ?_
    · refine r_iconst (pc := 22) (v := 0) E dX12_whichOf_22 (by decide) ?_
      exact r_sub [] [] [] rfl rfl rfl (hL23 a0.toInt32 0 _)
    · refine r_iconst (pc := 18) (v := 1) E dX12_whichOf_18 (by decide) ?_
      refine r_goto (pc := 19) (tgt := 23) E dX12_whichOf_19 (by decide) ?_
      exact r_sub [] [] [] rfl rfl rfl (hL23 a0.toInt32 1 _)
  · refine r_iconst (pc := 8) (v := 0) E dX12_whichOf_8 (by decide) ?_
    refine r_goto (pc := 9) (tgt := 24) E dX12_whichOf_9 (by decide) ?_
    exact r_sub [] [] [] rfl rfl rfl (hL24 0 _)
def fX12_offsetOf_L44 (q0 : Int64) (M : Mem) : Option (Int64 × Mem) :=
  some (q0, M)
def fX12_offsetOf (a0 : Option Nat) (a1 : Int64) (a3 : Int32) (M : Mem) : Option (Int64 × Mem) :=
  bd (fX12_whichOf a1 a3 M) fun v2 M2 =>
  bn (v2) fun v5 =>
  if v5 = 0 then (
    some (a1 - 3, M2)
  ) else (
    if v5 = 4 then (
      bo (aI M2 a0 15 0) fun v26 =>
      fX12_offsetOf_L44 ((v26 - 1).toInt64) M2
    ) else (
      bo (aI M2 a0 15 ((maxI v5 1) - 1)) fun v42 =>
      fX12_offsetOf_L44 v42.toInt64 M2
    )
  )
def rmX12_offsetOf : Room := { frames := 1, cells := 0, slots := 0, locals := 23 }
set_option maxRecDepth 100000 in
set_option maxHeartbeats 4000000 in
theorem ctX12_offsetOf (l : Launch) (x : Cx) (a0 : Option Nat) (a1 : Int64) (a3 : Int32) (M : Mem) (v : Int64) (N : Mem) (h : fX12_offsetOf a0 a1 a3 M = some (v, N)) : CT l yX12_offsetOf cX12_offsetOf 5 (some (FieldType.long)) rmX12_offsetOf x [rv x a0, .long a1, .int a3] M (some (.long v)) N := by
  refine ct_mk (enc := fun v : Int64 => some (.long v)) (li := [(3, a3)]) (ll := [(1, a1)]) (lr := [(0, a0)]) (by decide +kernel) (by simp [lg_sl, rv_cat, cat_int, cat_long]) (by simp [flat, lv_args, rv_cat, cat_int, cat_long]) h ?_
  intro p e s m args below meth c E
  have hL44 : ∀ (q0 : Int64) (M : Mem), RT p l e rmX12_offsetOf s m args below meth c x 5 (QM below args s x (fun v : Int64 => some (.long v)) rmX12_offsetOf.cells rmX12_offsetOf.slots) 0 0 (fX12_offsetOf_L44 q0 M) 44 [] [] [] [.long q0] M := by
    intro q0 M
    unfold fX12_offsetOf_L44
    exact e_long (pc := 44) E dX12_offsetOf_44
  show RT p l e rmX12_offsetOf s m args below meth c x 5 (QM below args s x (fun v : Int64 => some (.long v)) rmX12_offsetOf.cells rmX12_offsetOf.slots) 0 0 (fX12_offsetOf a0 a1 a3 M) 0 [(3, a3)] [(1, a1)] [(0, a0)] [] M
  unfold fX12_offsetOf
  refine r_lload_n (pc := 0) E dX12_offsetOf_0 rfl 0 rfl ?_
  refine r_iload_n (pc := 1) E dX12_offsetOf_1 rfl 0 rfl ?_
  refine r_kSi (pc := 2) (As := [.long a1, .int a3]) (rest := []) E wc_X12_whichOf wi_RX12 hd_X12_whichOf wl_RX12_212 wt_X12_whichOf dX12_offsetOf_2 (by decide) (Nat.le_of_ble_eq_true rfl) ⟨rfl, rfl⟩ (ctX12_whichOf l x _ _ _) rfl (fun v2 M2 => ?_)
  refine r_istore (pc := 5) (lf := fun v5 => [(4, v5), (3, a3)]) (lg := fun v5 => [(1, a1)]) (lk := fun v5 => [(0, a0)]) E dX12_offsetOf_5 (by decide) (fun _ => rfl) (fun _ => rfl) (fun _ => rfl) (fun v5 => ?_)
  refine r_iload (pc := 7) E dX12_offsetOf_7 0 rfl ?_
  refine r_if_ne (pc := 9) (tgt := 18) E dX12_offsetOf_9 (by decide) ?_ ?_
  · refine r_iload (pc := 18) E dX12_offsetOf_18 0 rfl ?_
    refine r_iconst (pc := 20) (v := 4) E dX12_offsetOf_20 (by decide) ?_
    refine r_icmp_ne (pc := 21) (tgt := 33) E dX12_offsetOf_21 (by decide) ?_ ?_
    · refine r_aload_n (pc := 33) E dX12_offsetOf_33 rfl 0 rfl ?_
      refine r_iload (pc := 34) E dX12_offsetOf_34 0 rfl ?_
      refine r_iconst (pc := 36) (v := 1) E dX12_offsetOf_36 (by decide) ?_
      refine r_mmax (pc := 37) E wl_RX12_93 wm_smax wi_math wm_cmax dX12_offsetOf_37 (by decide) (Nat.le_of_ble_eq_true rfl) ?_
      refine r_iconst (pc := 40) (v := 1) E dX12_offsetOf_40 (by decide) ?_
      refine r_isub (pc := 41) E dX12_offsetOf_41 ?_
      refine r_iaload (pc := 42) E dX12_offsetOf_42 (fun v42 => ?_)
      refine r_i2l (pc := 43) E dX12_offsetOf_43 ?_
      exact r_sub [] [] [] rfl rfl rfl (hL44 v42.toInt64 _)
    · refine r_aload_n (pc := 24) E dX12_offsetOf_24 rfl 0 rfl ?_
      refine r_iconst (pc := 25) (v := 0) E dX12_offsetOf_25 (by decide) ?_
      refine r_iaload (pc := 26) E dX12_offsetOf_26 (fun v26 => ?_)
      refine r_iconst (pc := 27) (v := 1) E dX12_offsetOf_27 (by decide) ?_
      refine r_isub (pc := 28) E dX12_offsetOf_28 ?_
      refine r_i2l (pc := 29) E dX12_offsetOf_29 ?_
      refine r_goto (pc := 30) (tgt := 44) E dX12_offsetOf_30 (by decide) ?_
      exact r_sub [] [] [] rfl rfl rfl (hL44 ((v26 - 1).toInt64) _)
  · refine r_lload_n (pc := 12) E dX12_offsetOf_12 rfl 0 rfl ?_
    refine r_ldc2 (pc := 13) E wk_RX12_210 dX12_offsetOf_13 ?_
    refine r_lsub (pc := 16) E dX12_offsetOf_16 ?_
    exact e_long (pc := 17) E dX12_offsetOf_17
def fX9_reaches_L34 (M : Mem) : Option (Int32 × Mem) :=
  rtZ 0 M
def fX9_reaches_L75 (q0 : Int32) (M : Mem) : Option (Int32 × Mem) :=
  rtZ q0 M
def fX9_reaches (a0 : Option Nat) (a1 : Int64) (M : Mem) : Option (Int32 × Mem) :=
  bo (gR M a0 9 10) fun v1 =>
  bo (gI M v1 8 1) fun v4 =>
  bo (gI M a0 9 12) fun v8 =>
  bn (v4 - v8) fun v12 =>
  if (lg_cmp a1 0) ≤ 0 then (
    fX9_reaches_L34 M
  ) else (
    bo (gR M a0 9 11) fun v22 =>
    bo (gI M v22 8 1) fun v25 =>
    if (lg_cmp a1 ((v12 + v25).toInt64)) ≤ 0 then (
      if 0 < (lg_cmp a1 v12.toInt64) then (
        bo (gJ M a0 9 14) fun v63 =>
        if 0 < (lg_cmp v12.toInt64 v63) then (
          fX9_reaches_L75 0 M
        ) else (
          fX9_reaches_L75 1 M
        )
      ) else (
        bo (gJ M a0 9 14) fun v45 =>
        if 0 < (lg_cmp a1 v45) then (
          fX9_reaches_L75 0 M
        ) else (
          fX9_reaches_L75 1 M
        )
      )
    ) else (
      fX9_reaches_L34 M
    )
  )
def rmX9_reaches : Room := { frames := 0, cells := 0, slots := 0, locals := 0 }
set_option maxRecDepth 100000 in
set_option maxHeartbeats 4000000 in
theorem ctX9_reaches (l : Launch) (x : Cx) (a0 : Option Nat) (a1 : Int64) (M : Mem) (v : Int32) (N : Mem) (h : fX9_reaches a0 a1 M = some (v, N)) : CT l yX9_reaches cX9_reaches 4 (some (FieldType.boolean)) rmX9_reaches x [rv x a0, .long a1] M (some (.int v)) N := by
  refine ct_mk (enc := fun v : Int32 => some (.int v)) (li := []) (ll := [(1, a1)]) (lr := [(0, a0)]) (by decide +kernel) (by simp [lg_sl, rv_cat, cat_int, cat_long]) (by simp [flat, lv_args, rv_cat, cat_int, cat_long]) h ?_
  intro p e s m args below meth c E
  have hL34 : ∀ (M : Mem), RT p l e rmX9_reaches s m args below meth c x 4 (QM below args s x (fun v : Int32 => some (.int v)) rmX9_reaches.cells rmX9_reaches.slots) 0 0 (fX9_reaches_L34 M) 34 [] [] [] [] M := by
    intro M
    unfold fX9_reaches_L34
    refine r_iconst (pc := 34) (v := 0) E dX9_reaches_34 (by decide) ?_
    exact e_bool (pc := 35) E dX9_reaches_35
  have hL75 : ∀ (q0 : Int32) (M : Mem), RT p l e rmX9_reaches s m args below meth c x 4 (QM below args s x (fun v : Int32 => some (.int v)) rmX9_reaches.cells rmX9_reaches.slots) 0 0 (fX9_reaches_L75 q0 M) 75 [] [] [] [.int q0] M := by
    intro q0 M
    unfold fX9_reaches_L75
    exact e_bool (pc := 75) E dX9_reaches_75
  show RT p l e rmX9_reaches s m args below meth c x 4 (QM below args s x (fun v : Int32 => some (.int v)) rmX9_reaches.cells rmX9_reaches.slots) 0 0 (fX9_reaches a0 a1 M) 0 [] [(1, a1)] [(0, a0)] [] M
  unfold fX9_reaches
  refine r_aload_n (pc := 0) E dX9_reaches_0 rfl 0 rfl ?_
  refine r_getR (pc := 1) E fd_9_10 wf_RX9_47 dX9_reaches_1 (fun v1 => ?_)
  refine r_getI (pc := 4) E fd_8_1 wf_RX9_65 dX9_reaches_4 (fun v4 => ?_)
  refine r_aload_n (pc := 7) E dX9_reaches_7 rfl 0 rfl ?_
  refine r_getI (pc := 8) E fd_9_12 wf_RX9_69 dX9_reaches_8 (fun v8 => ?_)
  refine r_isub (pc := 11) E dX9_reaches_11 ?_
  refine r_istore_n (pc := 12) (lf := fun v12 => [(3, v12)]) (lg := fun v12 => [(1, a1)]) (lk := fun v12 => [(0, a0)]) E dX9_reaches_12 rfl (by decide) (fun _ => rfl) (fun _ => rfl) (fun _ => rfl) (fun v12 => ?_)
  refine r_lload_n (pc := 13) E dX9_reaches_13 rfl 0 rfl ?_
  refine r_lconst (pc := 14) (v := 0) E dX9_reaches_14 (by decide) ?_
  refine r_lcmp (pc := 15) E dX9_reaches_15 ?_
  refine r_if_le (pc := 16) (tgt := 34) E dX9_reaches_16 (by decide) ?_ ?_
  · exact r_sub [] [] [] rfl rfl rfl (hL34 _)
  · refine r_lload_n (pc := 19) E dX9_reaches_19 rfl 0 rfl ?_
    refine r_iload_n (pc := 20) E dX9_reaches_20 rfl 0 rfl ?_
    refine r_aload_n (pc := 21) E dX9_reaches_21 rfl 0 rfl ?_
    refine r_getR (pc := 22) E fd_9_11 wf_RX9_50 dX9_reaches_22 (fun v22 => ?_)
    refine r_getI (pc := 25) E fd_8_1 wf_RX9_65 dX9_reaches_25 (fun v25 => ?_)
    refine r_iadd (pc := 28) E dX9_reaches_28 ?_
    refine r_i2l (pc := 29) E dX9_reaches_29 ?_
    refine r_lcmp (pc := 30) E dX9_reaches_30 ?_
    refine r_if_le (pc := 31) (tgt := 36) E dX9_reaches_31 (by decide) ?_ ?_
    · refine r_lload_n (pc := 36) E dX9_reaches_36 rfl 0 rfl ?_
      refine r_iload_n (pc := 37) E dX9_reaches_37 rfl 0 rfl ?_
      refine r_i2l (pc := 38) E dX9_reaches_38 ?_
      refine r_lcmp (pc := 39) E dX9_reaches_39 ?_
      refine r_if_gt (pc := 40) (tgt := 60) E dX9_reaches_40 (by decide) ?_ ?_
      · refine r_iload_n (pc := 60) E dX9_reaches_60 rfl 0 rfl ?_
        refine r_i2l (pc := 61) E dX9_reaches_61 ?_
        refine r_aload_n (pc := 62) E dX9_reaches_62 rfl 0 rfl ?_
        refine r_getJ (pc := 63) E fd_9_14 wf_RX9_72 dX9_reaches_63 (fun v63 => ?_)
        refine r_lcmp (pc := 66) E dX9_reaches_66 ?_
        refine r_if_gt (pc := 67) (tgt := 74) E dX9_reaches_67 (by decide) ?_ ?_
        · refine r_iconst (pc := 74) (v := 0) E dX9_reaches_74 (by decide) ?_
          exact r_sub [] [] [] rfl rfl rfl (hL75 0 _)
        · refine r_iconst (pc := 70) (v := 1) E dX9_reaches_70 (by decide) ?_
          refine r_goto (pc := 71) (tgt := 75) E dX9_reaches_71 (by decide) ?_
          exact r_sub [] [] [] rfl rfl rfl (hL75 1 _)
      · refine r_lload_n (pc := 43) E dX9_reaches_43 rfl 0 rfl ?_
        refine r_aload_n (pc := 44) E dX9_reaches_44 rfl 0 rfl ?_
        refine r_getJ (pc := 45) E fd_9_14 wf_RX9_72 dX9_reaches_45 (fun v45 => ?_)
        refine r_lcmp (pc := 48) E dX9_reaches_48 ?_
        refine r_if_gt (pc := 49) (tgt := 56) E dX9_reaches_49 (by decide) ?_ ?_
        · refine r_iconst (pc := 56) (v := 0) E dX9_reaches_56 (by decide) ?_
          refine r_goto (pc := 57) (tgt := 75) E dX9_reaches_57 (by decide) ?_
          exact r_sub [] [] [] rfl rfl rfl (hL75 0 _)
        · refine r_iconst (pc := 52) (v := 1) E dX9_reaches_52 (by decide) ?_
          refine r_goto (pc := 53) (tgt := 75) E dX9_reaches_53 (by decide) ?_
          exact r_sub [] [] [] rfl rfl rfl (hL75 1 _)
    · exact r_sub [] [] [] rfl rfl rfl (hL34 _)
def fX9_putCopy_L87 (k23 : Option Nat × Int32 × Int32 × Int32 × Int32 → Mem → Option (Unit × Mem)) (p0 : Option Nat) (p1 : Int32) (p2 : Int32) (p3 : Int32) (p4 : Int32) (q0 : Option Nat) (q1 : Int32) (M : Mem) : Option (Unit × Mem) :=
  bo (chk M q0 8) fun _ => bd (fX8_add q0 q1 M) fun v87 M87 =>
  bn (p4 + 1) fun v90 =>
  k23 ((p0, p1, p2, p3, v90)) M87
def fX9_putCopy_B23 (k23 : Option Nat × Int32 × Int32 × Int32 × Int32 → Mem → Option (Unit × Mem)) (p0 : Option Nat) (p1 : Int32) (p2 : Int32) (p3 : Int32) (p4 : Int32) (M : Mem) : Option (Unit × Mem) :=
  if p3 ≤ p4 then (
    bo (gR M p0 9 10) fun v97 =>
    bo (gI M v97 8 1) fun v101 =>
    bo (pI M v97 8 1 (v101 + (p2 - p3))) fun M108 =>
    some ((), M108)
  ) else (
    bo (gR M p0 9 10) fun v30 =>
    bo (gI M v30 8 1) fun v33 =>
    bn (v33 - p1) fun v38 =>
    bo (gR M p0 9 10) fun v41 =>
    bo (gI M p0 9 12) fun v47 =>
    if v38 < v47 then (
      bo (gR M p0 9 11) fun v66 =>
      bo (gR M p0 9 11) fun v70 =>
      bo (gI M v70 8 1) fun v73 =>
      bo (gI M p0 9 12) fun v80 =>
      bo (chk M v66 8) fun _ => bd (fX8_get v66 ((v73 + v38) - v80) M) fun v84 M84 =>
      fX9_putCopy_L87 k23 p0 p1 p2 p3 p4 v41 v84 M84
    ) else (
      bo (gR M p0 9 10) fun v54 =>
      bo (chk M v54 8) fun _ => bd (fX8_get v54 v38 M) fun v59 M59 =>
      fX9_putCopy_L87 k23 p0 p1 p2 p3 p4 v41 v59 M59
    )
  )
def fX9_putCopy_L23 (p0 : Option Nat) (p1 : Int32) (p2 : Int32) (p3 : Int32) (p4 : Int32) (M : Mem) : Option (Unit × Mem) :=
  lp (fun k23 (a : Option Nat × Int32 × Int32 × Int32 × Int32) M => fX9_putCopy_B23 k23 a.1 a.2.1 a.2.2.1 a.2.2.2.1 a.2.2.2.2 M) FU ((p0, p1, p2, p3, p4)) M
def fX9_putCopy (a0 : Option Nat) (a1 : Int32) (a2 : Int32) (M : Mem) : Option (Unit × Mem) :=
  bo (gR M a0 9 10) fun v6 =>
  bo (gI M v6 8 1) fun v9 =>
  bn (maxI 0 (minI a2 (8000 - v9))) fun v19 =>
  bn (0) fun v21 =>
  fX9_putCopy_L23 a0 a1 a2 v19 v21 M
def rmX9_putCopy : Room := { frames := 1, cells := 0, slots := 0, locals := 23 }
set_option maxRecDepth 100000 in
set_option maxHeartbeats 4000000 in
theorem ctX9_putCopy (l : Launch) (x : Cx) (a0 : Option Nat) (a1 : Int32) (a2 : Int32) (M : Mem) (v : Unit) (N : Mem) (h : fX9_putCopy a0 a1 a2 M = some (v, N)) : CT l yX9_putCopy cX9_putCopy 6 (none) rmX9_putCopy x [rv x a0, .int a1, .int a2] M none N := by
  refine ct_mk (enc := fun _ : Unit => none) (li := [(1, a1), (2, a2)]) (ll := []) (lr := [(0, a0)]) (by decide +kernel) (by simp [lg_sl, rv_cat, cat_int, cat_long]) (by simp [flat, lv_args, rv_cat, cat_int, cat_long]) h ?_
  intro p e s m args below meth c E
  have hL87 : ∀ (k23 : Option Nat × Int32 × Int32 × Int32 × Int32 → Mem → Option (Unit × Mem)) (hk23 : ∀ a M, RT p l e rmX9_putCopy s m args below meth c x 6 (QM below args s x (fun _ : Unit => none) rmX9_putCopy.cells rmX9_putCopy.slots) 0 0 (k23 a M) 23 [(1, a.2.1), (2, a.2.2.1), (3, a.2.2.2.1), (4, a.2.2.2.2)] [] [(0, a.1)] [] M) (p0 : Option Nat) (p1 : Int32) (p2 : Int32) (p3 : Int32) (p4 : Int32) (q0 : Option Nat) (q1 : Int32) (M : Mem), RT p l e rmX9_putCopy s m args below meth c x 6 (QM below args s x (fun _ : Unit => none) rmX9_putCopy.cells rmX9_putCopy.slots) 0 0 (fX9_putCopy_L87 k23 p0 p1 p2 p3 p4 q0 q1 M) 87 [(1, p1), (2, p2), (3, p3), (4, p4)] [] [(0, p0)] [.int q1, rv x q0] M := by
    intro k23 hk23 p0 p1 p2 p3 p4 q0 q1 M
    unfold fX9_putCopy_L87
    refine r_kVv (pc := 87) (As := [.int q1]) (rest := []) E wc_X8_add wi_RX8 hd_X8_add (ci := 8) rfl wl_RX9_242 wn_X8_add ws_X8_add dX9_putCopy_87 (by decide) (Nat.le_of_ble_eq_true rfl) ⟨rfl, rfl⟩ (ctX8_add l x _ _ _) rfl (fun v87 M87 => ?_)
    refine r_iinc (pc := 90) (w := 1) (lf := fun v90 => [(4, v90), (1, p1), (2, p2), (3, p3)]) (ll' := []) (lr' := [(0, p0)]) E dX9_putCopy_90 3 rfl (by decide) (by decide) (fun _ => rfl) rfl rfl (fun v90 => ?_)
    refine r_goto (pc := 93) (tgt := 23) E dX9_putCopy_93 (by decide) ?_
    exact r_sub [1, 2, 3, 0] [] [0] rfl rfl rfl (hk23 ((p0, p1, p2, p3, v90)) _)
  have hL23 : ∀ (p0 : Option Nat) (p1 : Int32) (p2 : Int32) (p3 : Int32) (p4 : Int32) (M : Mem), RT p l e rmX9_putCopy s m args below meth c x 6 (QM below args s x (fun _ : Unit => none) rmX9_putCopy.cells rmX9_putCopy.slots) 0 0 (fX9_putCopy_L23 p0 p1 p2 p3 p4 M) 23 [(1, p1), (2, p2), (3, p3), (4, p4)] [] [(0, p0)] [] M := by
    intro p0 p1 p2 p3 p4 M
    refine r_lp (fi := fun a : Option Nat × Int32 × Int32 × Int32 × Int32 => [(1, a.2.1), (2, a.2.2.1), (3, a.2.2.2.1), (4, a.2.2.2.2)]) (fl := fun a : Option Nat × Int32 × Int32 × Int32 × Int32 => []) (fr := fun a : Option Nat × Int32 × Int32 × Int32 × Int32 => [(0, a.1)]) (fs := fun a : Option Nat × Int32 × Int32 × Int32 × Int32 => []) ?_ FU ((p0, p1, p2, p3, p4)) M
    intro k23 hk23 a M
    obtain ⟨p0, p1, p2, p3, p4⟩ := a
    show RT p l e rmX9_putCopy s m args below meth c x 6 (QM below args s x (fun _ : Unit => none) rmX9_putCopy.cells rmX9_putCopy.slots) 0 0 (fX9_putCopy_B23 k23 p0 p1 p2 p3 p4 M) 23 [(1, p1), (2, p2), (3, p3), (4, p4)] [] [(0, p0)] [] M
    unfold fX9_putCopy_B23
    refine r_iload (pc := 23) E dX9_putCopy_23 3 rfl ?_
    refine r_iload_n (pc := 25) E dX9_putCopy_25 rfl 2 rfl ?_
    refine r_icmp_ge (pc := 26) (tgt := 96) E dX9_putCopy_26 (by decide) ?_ ?_
    · refine r_aload_n (pc := 96) E dX9_putCopy_96 rfl 0 rfl ?_
      refine r_getR (pc := 97) E fd_9_10 wf_RX9_47 dX9_putCopy_97 (fun v97 => ?_)
      refine r_dup (pc := 100) E dX9_putCopy_100 (rv_cat _ _) ?_
      refine r_getI (pc := 101) E fd_8_1 wf_RX9_65 dX9_putCopy_101 (fun v101 => ?_)
      refine r_iload_n (pc := 104) E dX9_putCopy_104 rfl 1 rfl ?_
      refine r_iload_n (pc := 105) E dX9_putCopy_105 rfl 2 rfl ?_
      refine r_isub (pc := 106) E dX9_putCopy_106 ?_
      refine r_iadd (pc := 107) E dX9_putCopy_107 ?_
      refine r_putI (pc := 108) E fd_8_1 wf_RX9_65 dX9_putCopy_108 (Or.inl rfl) (fun M108 => ?_)
      exact e_void (pc := 111) E dX9_putCopy_111
    · refine r_aload_n (pc := 29) E dX9_putCopy_29 rfl 0 rfl ?_
      refine r_getR (pc := 30) E fd_9_10 wf_RX9_47 dX9_putCopy_30 (fun v30 => ?_)
      refine r_getI (pc := 33) E fd_8_1 wf_RX9_65 dX9_putCopy_33 (fun v33 => ?_)
      refine r_iload_n (pc := 36) E dX9_putCopy_36 rfl 0 rfl ?_
      refine r_isub (pc := 37) E dX9_putCopy_37 ?_
      refine r_istore (pc := 38) (lf := fun v38 => [(5, v38), (1, p1), (2, p2), (3, p3), (4, p4)]) (lg := fun v38 => []) (lk := fun v38 => [(0, p0)]) E dX9_putCopy_38 (by decide) (fun _ => rfl) (fun _ => rfl) (fun _ => rfl) (fun v38 => ?_)
      refine r_aload_n (pc := 40) E dX9_putCopy_40 rfl 0 rfl ?_
      refine r_getR (pc := 41) E fd_9_10 wf_RX9_47 dX9_putCopy_41 (fun v41 => ?_)
      refine r_iload (pc := 44) E dX9_putCopy_44 0 rfl ?_
      refine r_aload_n (pc := 46) E dX9_putCopy_46 rfl 0 rfl ?_
      refine r_getI (pc := 47) E fd_9_12 wf_RX9_69 dX9_putCopy_47 (fun v47 => ?_)
      refine r_icmp_lt (pc := 50) (tgt := 65) E dX9_putCopy_50 (by decide) ?_ ?_
      · refine r_aload_n (pc := 65) E dX9_putCopy_65 rfl 0 rfl ?_
        refine r_getR (pc := 66) E fd_9_11 wf_RX9_50 dX9_putCopy_66 (fun v66 => ?_)
        refine r_aload_n (pc := 69) E dX9_putCopy_69 rfl 0 rfl ?_
        refine r_getR (pc := 70) E fd_9_11 wf_RX9_50 dX9_putCopy_70 (fun v70 => ?_)
        refine r_getI (pc := 73) E fd_8_1 wf_RX9_65 dX9_putCopy_73 (fun v73 => ?_)
        refine r_iload (pc := 76) E dX9_putCopy_76 0 rfl ?_
        refine r_iadd (pc := 78) E dX9_putCopy_78 ?_
        refine r_aload_n (pc := 79) E dX9_putCopy_79 rfl 0 rfl ?_
        refine r_getI (pc := 80) E fd_9_12 wf_RX9_69 dX9_putCopy_80 (fun v80 => ?_)
        refine r_isub (pc := 83) E dX9_putCopy_83 ?_
        refine r_kVi (pc := 84) (As := [.int ((v73 + v38) - v80)]) (rest := [rv x v41]) E wc_X8_get wi_RX8 hd_X8_get (ci := 8) rfl wl_RX9_107 wn_X8_get ws_X8_get dX9_putCopy_84 (by decide) (Nat.le_of_ble_eq_true rfl) ⟨rfl, rfl⟩ (ctX8_get l x _ _ _) rfl (fun v84 M84 => ?_)
        exact r_sub [1, 2, 3, 4] [] [0] rfl rfl rfl (hL87 k23 hk23 p0 p1 p2 p3 p4 v41 v84 _)
      · refine r_aload_n (pc := 53) E dX9_putCopy_53 rfl 0 rfl ?_
        refine r_getR (pc := 54) E fd_9_10 wf_RX9_47 dX9_putCopy_54 (fun v54 => ?_)
        refine r_iload (pc := 57) E dX9_putCopy_57 0 rfl ?_
        refine r_kVi (pc := 59) (As := [.int v38]) (rest := [rv x v41]) E wc_X8_get wi_RX8 hd_X8_get (ci := 8) rfl wl_RX9_107 wn_X8_get ws_X8_get dX9_putCopy_59 (by decide) (Nat.le_of_ble_eq_true rfl) ⟨rfl, rfl⟩ (ctX8_get l x _ _ _) rfl (fun v59 M59 => ?_)
        refine r_goto (pc := 62) (tgt := 87) E dX9_putCopy_62 (by decide) ?_
        exact r_sub [1, 2, 3, 4] [] [0] rfl rfl rfl (hL87 k23 hk23 p0 p1 p2 p3 p4 v41 v59 _)
  show RT p l e rmX9_putCopy s m args below meth c x 6 (QM below args s x (fun _ : Unit => none) rmX9_putCopy.cells rmX9_putCopy.slots) 0 0 (fX9_putCopy a0 a1 a2 M) 0 [(1, a1), (2, a2)] [] [(0, a0)] [] M
  unfold fX9_putCopy
  refine r_iconst (pc := 0) (v := 0) E dX9_putCopy_0 (by decide) ?_
  refine r_iload_n (pc := 1) E dX9_putCopy_1 rfl 1 rfl ?_
  refine r_sipush (pc := 2) (v := 8000) E dX9_putCopy_2 (by decide) ?_
  refine r_aload_n (pc := 5) E dX9_putCopy_5 rfl 0 rfl ?_
  refine r_getR (pc := 6) E fd_9_10 wf_RX9_47 dX9_putCopy_6 (fun v6 => ?_)
  refine r_getI (pc := 9) E fd_8_1 wf_RX9_65 dX9_putCopy_9 (fun v9 => ?_)
  refine r_isub (pc := 12) E dX9_putCopy_12 ?_
  refine r_mmin (pc := 13) E wl_RX9_220 wm_smin wi_math wm_cmin dX9_putCopy_13 (by decide) (Nat.le_of_ble_eq_true rfl) ?_
  refine r_mmax (pc := 16) E wl_RX9_239 wm_smax wi_math wm_cmax dX9_putCopy_16 (by decide) (Nat.le_of_ble_eq_true rfl) ?_
  refine r_istore_n (pc := 19) (lf := fun v19 => [(3, v19), (1, a1), (2, a2)]) (lg := fun v19 => []) (lk := fun v19 => [(0, a0)]) E dX9_putCopy_19 rfl (by decide) (fun _ => rfl) (fun _ => rfl) (fun _ => rfl) (fun v19 => ?_)
  refine r_iconst (pc := 20) (v := 0) E dX9_putCopy_20 (by decide) ?_
  refine r_istore (pc := 21) (lf := fun v21 => [(4, v21), (3, v19), (1, a1), (2, a2)]) (lg := fun v21 => []) (lk := fun v21 => [(0, a0)]) E dX9_putCopy_21 (by decide) (fun _ => rfl) (fun _ => rfl) (fun _ => rfl) (fun v21 => ?_)
  exact r_sub [2, 3, 1, 0] [] [0] rfl rfl rfl (hL23 a0 a1 a2 v19 v21 _)
