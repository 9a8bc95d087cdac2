def fX13_bits_L36 (q0 : Int32) (M : Mem) : Option (Int32 × Mem) :=
  some (q0, M)
def fX13_bits_L11 (M : Mem) : Option (Int32 × Mem) :=
  fX13_bits_L36 ((-2)) M
def fX13_bits (a0 : Option Nat) (a1 : Int32) (M : Mem) : Option (Int32 × Mem) :=
  if a1 < 0 then (
    fX13_bits_L11 M
  ) else (
    if a1 ≤ 255 then (
      bo (gR M a0 13 21) fun v17 =>
      bo (aI M v17 18 0) fun v21 =>
      if v21 = 0 then (
        fX13_bits_L36 ((-3)) M
      ) else (
        bo (gR M a0 13 20) fun v26 =>
        bo (aI M v26 15 a1) fun v30 =>
        fX13_bits_L36 v30 M
      )
    ) else (
      fX13_bits_L11 M
    )
  )
def rmX13_bits : Room := { frames := 0, cells := 0, slots := 0, locals := 0 }
set_option maxRecDepth 100000 in
set_option maxHeartbeats 4000000 in
theorem ctX13_bits (l : Launch) (x : Cx) (a0 : Option Nat) (a1 : Int32) (M : Mem) (v : Int32) (N : Mem) (h : fX13_bits a0 a1 M = some (v, N)) : CT l yX13_bits cX13_bits 2 (some (FieldType.int)) rmX13_bits x [rv x a0, .int a1] M (some (.int v)) N := by
  refine ct_mk (enc := fun v : Int32 => some (.int v)) (li := [(1, a1)]) (ll := []) (lr := [(0, a0)]) (by decide +kernel) (by simp [lg_sl, rv_cat, cat_int, cat_long]) (by simp [flat, lv_args, rv_cat, cat_int, cat_long]) h ?_
  intro p e s m args below meth c E
  have hL36 : ∀ (q0 : Int32) (M : Mem), RT p l e rmX13_bits s m args below meth c x 2 (QM below args s x (fun v : Int32 => some (.int v)) rmX13_bits.cells rmX13_bits.slots) 0 0 (fX13_bits_L36 q0 M) 36 [] [] [] [.int q0] M := by
    intro q0 M
    unfold fX13_bits_L36
    exact e_int (pc := 36) E dX13_bits_36
  have hL11 : ∀ (M : Mem), RT p l e rmX13_bits s m args below meth c x 2 (QM below args s x (fun v : Int32 => some (.int v)) rmX13_bits.cells rmX13_bits.slots) 0 0 (fX13_bits_L11 M) 11 [] [] [] [] M := by
    intro M
    unfold fX13_bits_L11
    refine r_bipush (pc := 11) (v := (-2)) E dX13_bits_11 (by decide) ?_
    refine r_goto (pc := 13) (tgt := 36) E dX13_bits_13 (by decide) ?_
    exact r_sub [] [] [] rfl rfl rfl (hL36 ((-2)) _)
  show RT p l e rmX13_bits s m args below meth c x 2 (QM below args s x (fun v : Int32 => some (.int v)) rmX13_bits.cells rmX13_bits.slots) 0 0 (fX13_bits a0 a1 M) 0 [(1, a1)] [] [(0, a0)] [] M
  unfold fX13_bits
  refine r_iload_n (pc := 0) E dX13_bits_0 rfl 0 rfl ?_
  refine r_if_lt (pc := 1) (tgt := 11) E dX13_bits_1 (by decide) ?_ ?_
  · exact r_sub [] [] [] rfl rfl rfl (hL11 _)
  · refine r_iload_n (pc := 4) E dX13_bits_4 rfl 0 rfl ?_
    refine r_sipush (pc := 5) (v := 255) E dX13_bits_5 (by decide) ?_
    refine r_icmp_le (pc := 8) (tgt := 16) E dX13_bits_8 (by decide) ?_ ?_
    · refine r_aload_n (pc := 16) E dX13_bits_16 rfl 0 rfl ?_
      refine r_getA (pc := 17) E fd_13_21 wf_RX13_50 dX13_bits_17 (fun v17 => ?_)
      refine r_iconst (pc := 20) (v := 0) E dX13_bits_20 (by decide) ?_
      refine r_zaload (pc := 21) E dX13_bits_21 (fun v21 => ?_)
      refine r_if_eq (pc := 22) (tgt := 34) E dX13_bits_22 (by decide) ?_ ?_
      · refine r_bipush (pc := 34) (v := (-3)) E dX13_bits_34 (by decide) ?_
        exact r_sub [] [] [] rfl rfl rfl (hL36 ((-3)) _)
      · refine r_aload_n (pc := 25) E dX13_bits_25 rfl 0 rfl ?_
        refine r_getA (pc := 26) E fd_13_20 wf_RX13_47 dX13_bits_26 (fun v26 => ?_)
        refine r_iload_n (pc := 29) E dX13_bits_29 rfl 0 rfl ?_
        refine r_iaload (pc := 30) E dX13_bits_30 (fun v30 => ?_)
        refine r_goto (pc := 31) (tgt := 36) E dX13_bits_31 (by decide) ?_
        exact r_sub [] [] [] rfl rfl rfl (hL36 v30 _)
    · exact r_sub [] [] [] rfl rfl rfl (hL11 _)
def fX13_say_B3 (k3 : Option Nat × Int64 × Int32 × Int32 → Mem → Option (Unit × Mem)) (p0 : Option Nat) (p1 : Int64) (p3 : Int32) (p4 : Int32) (M : Mem) : Option (Unit × Mem) :=
  if p3 ≤ p4 then (
    some ((), M)
  ) else (
    bo (gR M p0 13 53) fun v10 =>
    bo (gI M p0 13 54) fun v14 =>
    bo (wB M v10 v14 (i2b ((ushJ p1 (8 * p4)).toInt32))) fun M26 =>
    bo (gI M26 p0 13 54) fun v29 =>
    bo (pI M26 p0 13 54 (v29 + 1)) fun M34 =>
    bn (p4 + 1) fun v37 =>
    k3 ((p0, p1, p3, v37)) M34
  )
def fX13_say_L3 (p0 : Option Nat) (p1 : Int64) (p3 : Int32) (p4 : Int32) (M : Mem) : Option (Unit × Mem) :=
  lp (fun k3 (a : Option Nat × Int64 × Int32 × Int32) M => fX13_say_B3 k3 a.1 a.2.1 a.2.2.1 a.2.2.2 M) FU ((p0, p1, p3, p4)) M
def fX13_say (a0 : Option Nat) (a1 : Int64) (a3 : Int32) (M : Mem) : Option (Unit × Mem) :=
  bn (0) fun v1 =>
  fX13_say_L3 a0 a1 a3 v1 M
def rmX13_say : Room := { frames := 0, cells := 0, slots := 0, locals := 0 }
set_option maxRecDepth 100000 in
set_option maxHeartbeats 4000000 in
theorem ctX13_say (l : Launch) (x : Cx) (a0 : Option Nat) (a1 : Int64) (a3 : Int32) (M : Mem) (v : Unit) (N : Mem) (h : fX13_say a0 a1 a3 M = some (v, N)) : CT l yX13_say cX13_say 5 (none) rmX13_say x [rv x a0, .long a1, .int a3] M none N := by
  refine ct_mk (enc := fun _ : Unit => none) (li := [(3, a3)]) (ll := [(1, a1)]) (lr := [(0, a0)]) (by decide +kernel) (by simp [lg_sl, rv_cat, cat_int, cat_long]) (by simp [flat, lv_args, rv_cat, cat_int, cat_long]) h ?_
  intro p e s m args below meth c E
  have hL3 : ∀ (p0 : Option Nat) (p1 : Int64) (p3 : Int32) (p4 : Int32) (M : Mem), RT p l e rmX13_say s m args below meth c x 5 (QM below args s x (fun _ : Unit => none) rmX13_say.cells rmX13_say.slots) 0 0 (fX13_say_L3 p0 p1 p3 p4 M) 3 [(3, p3), (4, p4)] [(1, p1)] [(0, p0)] [] M := by
    intro p0 p1 p3 p4 M
    refine r_lp (fi := fun a : Option Nat × Int64 × Int32 × Int32 => [(3, a.2.2.1), (4, a.2.2.2)]) (fl := fun a : Option Nat × Int64 × Int32 × Int32 => [(1, a.2.1)]) (fr := fun a : Option Nat × Int64 × Int32 × Int32 => [(0, a.1)]) (fs := fun a : Option Nat × Int64 × Int32 × Int32 => []) ?_ FU ((p0, p1, p3, p4)) M
    intro k3 hk3 a M
    obtain ⟨p0, p1, p3, p4⟩ := a
    show RT p l e rmX13_say s m args below meth c x 5 (QM below args s x (fun _ : Unit => none) rmX13_say.cells rmX13_say.slots) 0 0 (fX13_say_B3 k3 p0 p1 p3 p4 M) 3 [(3, p3), (4, p4)] [(1, p1)] [(0, p0)] [] M
    unfold fX13_say_B3
    refine r_iload (pc := 3) E dX13_say_3 1 rfl ?_
    refine r_iload_n (pc := 5) E dX13_say_5 rfl 0 rfl ?_
    refine r_icmp_ge (pc := 6) (tgt := 43) E dX13_say_6 (by decide) ?_ ?_
    · exact e_void (pc := 43) E dX13_say_43
    · refine r_aload_n (pc := 9) E dX13_say_9 rfl 0 rfl ?_
      refine r_getA (pc := 10) E fd_13_53 wf_RX13_104 dX13_say_10 (fun v10 => ?_)
      refine r_aload_n (pc := 13) E dX13_say_13 rfl 0 rfl ?_
      refine r_getI (pc := 14) E fd_13_54 wf_RX13_412 dX13_say_14 (fun v14 => ?_)
      refine r_lload_n (pc := 17) E dX13_say_17 rfl 0 rfl ?_
      refine r_bipush (pc := 18) (v := 8) E dX13_say_18 (by decide) ?_
      refine r_iload (pc := 20) E dX13_say_20 1 rfl ?_
      refine r_imul (pc := 22) E dX13_say_22 ?_
      refine r_lushr (pc := 23) E dX13_say_23 ?_
      refine r_l2i (pc := 24) E dX13_say_24 ?_
      refine r_i2b (pc := 25) E dX13_say_25 ?_
      refine r_bastore (pc := 26) E dX13_say_26 (fun M26 => ?_)
      refine r_aload_n (pc := 27) E dX13_say_27 rfl 0 rfl ?_
      refine r_dup (pc := 28) E dX13_say_28 (rv_cat _ _) ?_
      refine r_getI (pc := 29) E fd_13_54 wf_RX13_412 dX13_say_29 (fun v29 => ?_)
      refine r_iconst (pc := 32) (v := 1) E dX13_say_32 (by decide) ?_
      refine r_iadd (pc := 33) E dX13_say_33 ?_
      refine r_putI (pc := 34) E fd_13_54 wf_RX13_412 dX13_say_34 (Or.inl rfl) (fun M34 => ?_)
      refine r_iinc (pc := 37) (w := 1) (lf := fun v37 => [(4, v37), (3, p3)]) (ll' := [(1, p1)]) (lr' := [(0, p0)]) E dX13_say_37 1 rfl (by decide) (by decide) (fun _ => rfl) rfl rfl (fun v37 => ?_)
      refine r_goto (pc := 40) (tgt := 3) E dX13_say_40 (by decide) ?_
      exact r_sub [1, 0] [0] [0] rfl rfl rfl (hk3 ((p0, p1, p3, v37)) _)
  show RT p l e rmX13_say s m args below meth c x 5 (QM below args s x (fun _ : Unit => none) rmX13_say.cells rmX13_say.slots) 0 0 (fX13_say a0 a1 a3 M) 0 [(3, a3)] [(1, a1)] [(0, a0)] [] M
  unfold fX13_say
  refine r_iconst (pc := 0) (v := 0) E dX13_say_0 (by decide) ?_
  refine r_istore (pc := 1) (lf := fun v1 => [(4, v1), (3, a3)]) (lg := fun v1 => [(1, a1)]) (lk := fun v1 => [(0, a0)]) E dX13_say_1 (by decide) (fun _ => rfl) (fun _ => rfl) (fun _ => rfl) (fun v1 => ?_)
  exact r_sub [1, 0] [0] [0] rfl rfl rfl (hL3 a0 a1 a3 v1 _)
def fX13_digit_B5 (k5 : Option Nat × Int64 × Int32 → Mem → Option (Unit × Mem)) (p0 : Option Nat) (p1 : Int64) (p4 : Int32) (M : Mem) : Option (Unit × Mem) :=
  if p4 < 0 then (
    some ((), M)
  ) else (
    bo (gR M p0 13 55) fun v11 =>
    bo (gI M p0 13 56) fun v15 =>
    bo (wB M v11 v15 (i2b (((ushJ p1 p4) &&& 1).toInt32))) fun M26 =>
    bo (gI M26 p0 13 56) fun v29 =>
    bo (pI M26 p0 13 56 (v29 + 1)) fun M34 =>
    bn (p4 + (-1)) fun v37 =>
    k5 ((p0, p1, v37)) M34
  )
def fX13_digit_L5 (p0 : Option Nat) (p1 : Int64) (p4 : Int32) (M : Mem) : Option (Unit × Mem) :=
  lp (fun k5 (a : Option Nat × Int64 × Int32) M => fX13_digit_B5 k5 a.1 a.2.1 a.2.2 M) FU ((p0, p1, p4)) M
def fX13_digit (a0 : Option Nat) (a1 : Int64) (a3 : Int32) (M : Mem) : Option (Unit × Mem) :=
  bn (a3 - 1) fun v3 =>
  fX13_digit_L5 a0 a1 v3 M
def rmX13_digit : Room := { frames := 0, cells := 0, slots := 0, locals := 0 }
set_option maxRecDepth 100000 in
set_option maxHeartbeats 4000000 in
theorem ctX13_digit (l : Launch) (x : Cx) (a0 : Option Nat) (a1 : Int64) (a3 : Int32) (M : Mem) (v : Unit) (N : Mem) (h : fX13_digit a0 a1 a3 M = some (v, N)) : CT l yX13_digit cX13_digit 5 (none) rmX13_digit x [rv x a0, .long a1, .int a3] M none N := by
  refine ct_mk (enc := fun _ : Unit => none) (li := [(3, a3)]) (ll := [(1, a1)]) (lr := [(0, a0)]) (by decide +kernel) (by simp [lg_sl, rv_cat, cat_int, cat_long]) (by simp [flat, lv_args, rv_cat, cat_int, cat_long]) h ?_
  intro p e s m args below meth c E
  have hL5 : ∀ (p0 : Option Nat) (p1 : Int64) (p4 : Int32) (M : Mem), RT p l e rmX13_digit s m args below meth c x 5 (QM below args s x (fun _ : Unit => none) rmX13_digit.cells rmX13_digit.slots) 0 0 (fX13_digit_L5 p0 p1 p4 M) 5 [(4, p4)] [(1, p1)] [(0, p0)] [] M := by
    intro p0 p1 p4 M
    refine r_lp (fi := fun a : Option Nat × Int64 × Int32 => [(4, a.2.2)]) (fl := fun a : Option Nat × Int64 × Int32 => [(1, a.2.1)]) (fr := fun a : Option Nat × Int64 × Int32 => [(0, a.1)]) (fs := fun a : Option Nat × Int64 × Int32 => []) ?_ FU ((p0, p1, p4)) M
    intro k5 hk5 a M
    obtain ⟨p0, p1, p4⟩ := a
    show RT p l e rmX13_digit s m args below meth c x 5 (QM below args s x (fun _ : Unit => none) rmX13_digit.cells rmX13_digit.slots) 0 0 (fX13_digit_B5 k5 p0 p1 p4 M) 5 [(4, p4)] [(1, p1)] [(0, p0)] [] M
    unfold fX13_digit_B5
    refine r_iload (pc := 5) E dX13_digit_5 0 rfl ?_
    refine r_if_lt (pc := 7) (tgt := 43) E dX13_digit_7 (by decide) ?_ ?_
    · exact e_void (pc := 43) E dX13_digit_43
    · refine r_aload_n (pc := 10) E dX13_digit_10 rfl 0 rfl ?_
      refine r_getA (pc := 11) E fd_13_55 wf_RX13_108 dX13_digit_11 (fun v11 => ?_)
      refine r_aload_n (pc := 14) E dX13_digit_14 rfl 0 rfl ?_
      refine r_getI (pc := 15) E fd_13_56 wf_RX13_415 dX13_digit_15 (fun v15 => ?_)
      refine r_lload_n (pc := 18) E dX13_digit_18 rfl 0 rfl ?_
      refine r_iload (pc := 19) E dX13_digit_19 0 rfl ?_
      refine r_lushr (pc := 21) E dX13_digit_21 ?_
      refine r_lconst (pc := 22) (v := 1) E dX13_digit_22 (by decide) ?_
      refine r_land (pc := 23) E dX13_digit_23 ?_
      refine r_l2i (pc := 24) E dX13_digit_24 ?_
      refine r_i2b (pc := 25) E dX13_digit_25 ?_
      refine r_bastore (pc := 26) E dX13_digit_26 (fun M26 => ?_)
      refine r_aload_n (pc := 27) E dX13_digit_27 rfl 0 rfl ?_
      refine r_dup (pc := 28) E dX13_digit_28 (rv_cat _ _) ?_
      refine r_getI (pc := 29) E fd_13_56 wf_RX13_415 dX13_digit_29 (fun v29 => ?_)
      refine r_iconst (pc := 32) (v := 1) E dX13_digit_32 (by decide) ?_
      refine r_iadd (pc := 33) E dX13_digit_33 ?_
      refine r_putI (pc := 34) E fd_13_56 wf_RX13_415 dX13_digit_34 (Or.inl rfl) (fun M34 => ?_)
      refine r_iinc (pc := 37) (w := (-1)) (lf := fun v37 => [(4, v37)]) (ll' := [(1, p1)]) (lr' := [(0, p0)]) E dX13_digit_37 0 rfl (by decide) (by decide) (fun _ => rfl) rfl rfl (fun v37 => ?_)
      refine r_goto (pc := 40) (tgt := 5) E dX13_digit_40 (by decide) ?_
      exact r_sub [0] [0] [0] rfl rfl rfl (hk5 ((p0, p1, v37)) _)
  show RT p l e rmX13_digit s m args below meth c x 5 (QM below args s x (fun _ : Unit => none) rmX13_digit.cells rmX13_digit.slots) 0 0 (fX13_digit a0 a1 a3 M) 0 [(3, a3)] [(1, a1)] [(0, a0)] [] M
  unfold fX13_digit
  refine r_iload_n (pc := 0) E dX13_digit_0 rfl 0 rfl ?_
  refine r_iconst (pc := 1) (v := 1) E dX13_digit_1 (by decide) ?_
  refine r_isub (pc := 2) E dX13_digit_2 ?_
  refine r_istore (pc := 3) (lf := fun v3 => [(4, v3), (3, a3)]) (lg := fun v3 => [(1, a1)]) (lk := fun v3 => [(0, a0)]) E dX13_digit_3 (by decide) (fun _ => rfl) (fun _ => rfl) (fun _ => rfl) (fun v3 => ?_)
  exact r_sub [0] [0] [0] rfl rfl rfl (hL5 a0 a1 v3 _)
def fX13_sayDigits_L85 (k12 : Option Nat × Int32 × Int32 → Mem → Option (Unit × Mem)) (k22 : Option Nat × Int32 × Int32 × Int32 × Int32 → Mem → Option (Unit × Mem)) (p0 : Option Nat) (p1 : Int32) (p2 : Int32) (p4 : Int32) (q0 : Int32) (q1 : Int32) (M : Mem) : Option (Unit × Mem) :=
  bn (q0 ||| q1) fun v86 =>
  bn (p4 + 1) fun v87 =>
  k22 ((p0, p1, p2, v86, v87)) M
def fX13_sayDigits_B22 (k12 : Option Nat × Int32 × Int32 → Mem → Option (Unit × Mem)) (k22 : Option Nat × Int32 × Int32 × Int32 × Int32 → Mem → Option (Unit × Mem)) (p0 : Option Nat) (p1 : Int32) (p2 : Int32) (p3 : Int32) (p4 : Int32) (M : Mem) : Option (Unit × Mem) :=
  if 8 ≤ p4 then (
    bo (chk M p0 13) fun _ => bd (fX13_say p0 p3.toInt64 1 M) fun v97 M97 =>
    bn (p2 + 1) fun v100 =>
    k12 ((p0, p1, v100)) M97
  ) else (
    bn ((8 * p2) + p4) fun v36 =>
    bo (gI M p0 13 56) fun v42 =>
    if v42 ≤ v36 then (
      bo (gI M p0 13 56) fun v71 =>
      if v36 = v71 then (
        fX13_sayDigits_L85 k12 k22 p0 p1 p2 p4 p3 (shlI 1 p4) M
      ) else (
        fX13_sayDigits_L85 k12 k22 p0 p1 p2 p4 p3 0 M
      )
    ) else (
      bo (gR M p0 13 55) fun v49 =>
      bo (gI M p0 13 56) fun v53 =>
      bo (aI M v49 14 ((v53 - 1) - v36)) fun v61 =>
      fX13_sayDigits_L85 k12 k22 p0 p1 p2 p4 p3 (shlI v61 p4) M
    )
  )
def fX13_sayDigits_L22 (k12 : Option Nat × Int32 × Int32 → Mem → Option (Unit × Mem)) (p0 : Option Nat) (p1 : Int32) (p2 : Int32) (p3 : Int32) (p4 : Int32) (M : Mem) : Option (Unit × Mem) :=
  lp (fun k22 (a : Option Nat × Int32 × Int32 × Int32 × Int32) M => fX13_sayDigits_B22 k12 k22 a.1 a.2.1 a.2.2.1 a.2.2.2.1 a.2.2.2.2 M) FU ((p0, p1, p2, p3, p4)) M
def fX13_sayDigits_B12 (k12 : Option Nat × Int32 × Int32 → Mem → Option (Unit × Mem)) (p0 : Option Nat) (p1 : Int32) (p2 : Int32) (M : Mem) : Option (Unit × Mem) :=
  if p1 ≤ p2 then (
    bo (pI M p0 13 56 0) fun M108 =>
    some ((), M108)
  ) else (
    bn (0) fun v18 =>
    bn (0) fun v20 =>
    fX13_sayDigits_L22 k12 p0 p1 p2 v18 v20 M
  )
def fX13_sayDigits_L12 (p0 : Option Nat) (p1 : Int32) (p2 : Int32) (M : Mem) : Option (Unit × Mem) :=
  lp (fun k12 (a : Option Nat × Int32 × Int32) M => fX13_sayDigits_B12 k12 a.1 a.2.1 a.2.2 M) FU ((p0, p1, p2)) M
def fX13_sayDigits (a0 : Option Nat) (M : Mem) : Option (Unit × Mem) :=
  bo (gI M a0 13 56) fun v1 =>
  bo (dv v1 8) fun v6 =>
  bn (v6 + 1) fun v9 =>
  bn (0) fun v11 =>
  fX13_sayDigits_L12 a0 v9 v11 M
def rmX13_sayDigits : Room := { frames := 1, cells := 0, slots := 0, locals := 24 }
set_option maxRecDepth 100000 in
set_option maxHeartbeats 4000000 in
theorem ctX13_sayDigits (l : Launch) (x : Cx) (a0 : Option Nat) (M : Mem) (v : Unit) (N : Mem) (h : fX13_sayDigits a0 M = some (v, N)) : CT l yX13_sayDigits cX13_sayDigits 6 (none) rmX13_sayDigits x [rv x a0] M none N := by
  refine ct_mk (enc := fun _ : Unit => none) (li := []) (ll := []) (lr := [(0, a0)]) (by decide +kernel) (by simp [lg_sl, rv_cat, cat_int, cat_long]) (by simp [flat, lv_args, rv_cat, cat_int, cat_long]) h ?_
  intro p e s m args below meth c E
  have hL85 : ∀ (k12 : Option Nat × Int32 × Int32 → Mem → Option (Unit × Mem)) (hk12 : ∀ a M, RT p l e rmX13_sayDigits s m args below meth c x 6 (QM below args s x (fun _ : Unit => none) rmX13_sayDigits.cells rmX13_sayDigits.slots) 0 0 (k12 a M) 12 [(1, a.2.1), (2, a.2.2)] [] [(0, a.1)] [] M) (k22 : Option Nat × Int32 × Int32 × Int32 × Int32 → Mem → Option (Unit × Mem)) (hk22 : ∀ a M, RT p l e rmX13_sayDigits s m args below meth c x 6 (QM below args s x (fun _ : Unit => none) rmX13_sayDigits.cells rmX13_sayDigits.slots) 0 0 (k22 a M) 22 [(1, a.2.1), (2, a.2.2.1), (3, a.2.2.2.1), (4, a.2.2.2.2)] [] [(0, a.1)] [] M) (p0 : Option Nat) (p1 : Int32) (p2 : Int32) (p4 : Int32) (q0 : Int32) (q1 : Int32) (M : Mem), RT p l e rmX13_sayDigits s m args below meth c x 6 (QM below args s x (fun _ : Unit => none) rmX13_sayDigits.cells rmX13_sayDigits.slots) 0 0 (fX13_sayDigits_L85 k12 k22 p0 p1 p2 p4 q0 q1 M) 85 [(1, p1), (2, p2), (4, p4)] [] [(0, p0)] [.int q1, .int q0] M := by
    intro k12 hk12 k22 hk22 p0 p1 p2 p4 q0 q1 M
    unfold fX13_sayDigits_L85
    refine r_ior (pc := 85) E dX13_sayDigits_85 ?_
    refine r_istore_n (pc := 86) (lf := fun v86 => [(3, v86), (1, p1), (2, p2), (4, p4)]) (lg := fun v86 => []) (lk := fun v86 => [(0, p0)]) E dX13_sayDigits_86 rfl (by decide) (fun _ => rfl) (fun _ => rfl) (fun _ => rfl) (fun v86 => ?_)
    refine r_iinc (pc := 87) (w := 1) (lf := fun v87 => [(4, v87), (3, v86), (1, p1), (2, p2)]) (ll' := []) (lr' := [(0, p0)]) E dX13_sayDigits_87 3 rfl (by decide) (by decide) (fun _ => rfl) rfl rfl (fun v87 => ?_)
    refine r_goto (pc := 90) (tgt := 22) E dX13_sayDigits_90 (by decide) ?_
    exact r_sub [2, 3, 1, 0] [] [0] rfl rfl rfl (hk22 ((p0, p1, p2, v86, v87)) _)
  have hL22 : ∀ (k12 : Option Nat × Int32 × Int32 → Mem → Option (Unit × Mem)) (hk12 : ∀ a M, RT p l e rmX13_sayDigits s m args below meth c x 6 (QM below args s x (fun _ : Unit => none) rmX13_sayDigits.cells rmX13_sayDigits.slots) 0 0 (k12 a M) 12 [(1, a.2.1), (2, a.2.2)] [] [(0, a.1)] [] M) (p0 : Option Nat) (p1 : Int32) (p2 : Int32) (p3 : Int32) (p4 : Int32) (M : Mem), RT p l e rmX13_sayDigits s m args below meth c x 6 (QM below args s x (fun _ : Unit => none) rmX13_sayDigits.cells rmX13_sayDigits.slots) 0 0 (fX13_sayDigits_L22 k12 p0 p1 p2 p3 p4 M) 22 [(1, p1), (2, p2), (3, p3), (4, p4)] [] [(0, p0)] [] M := by
    intro k12 hk12 p0 p1 p2 p3 p4 M
    refine r_lp (fi := fun a : Option Nat × Int32 × Int32 × Int32 × Int32 => [(1, a.2.1), (2, a.2.2.1), (3, a.2.2.2.1), (4, a.2.2.2.2)]) (fl := fun a : Option Nat × Int32 × Int32 × Int32 × Int32 => []) (fr := fun a : Option Nat × Int32 × Int32 × Int32 × Int32 => [(0, a.1)]) (fs := fun a : Option Nat × Int32 × Int32 × Int32 × Int32 => []) ?_ FU ((p0, p1, p2, p3, p4)) M
    intro k22 hk22 a M
    obtain ⟨p0, p1, p2, p3, p4⟩ := a
    show RT p l e rmX13_sayDigits s m args below meth c x 6 (QM below args s x (fun _ : Unit => none) rmX13_sayDigits.cells rmX13_sayDigits.slots) 0 0 (fX13_sayDigits_B22 k12 k22 p0 p1 p2 p3 p4 M) 22 [(1, p1), (2, p2), (3, p3), (4, p4)] [] [(0, p0)] [] M
    unfold fX13_sayDigits_B22
    refine r_iload (pc := 22) E dX13_sayDigits_22 3 rfl ?_
    refine r_bipush (pc := 24) (v := 8) E dX13_sayDigits_24 (by decide) ?_
    refine r_icmp_ge (pc := 26) (tgt := 93) E dX13_sayDigits_26 (by decide) ?_ ?_
    · refine r_aload_n (pc := 93) E dX13_sayDigits_93 rfl 0 rfl ?_
      refine r_iload_n (pc := 94) E dX13_sayDigits_94 rfl 2 rfl ?_
      refine r_i2l (pc := 95) E dX13_sayDigits_95 ?_
      refine r_iconst (pc := 96) (v := 1) E dX13_sayDigits_96 (by decide) ?_
      refine r_kVv (pc := 97) (As := [.long p3.toInt64, .int 1]) (rest := []) E wc_X13_say wi_RX13 hd_X13_say (ci := 13) rfl wl_RX13_418 wn_X13_say ws_X13_say dX13_sayDigits_97 (by decide) (Nat.le_of_ble_eq_true rfl) ⟨rfl, rfl⟩ (ctX13_say l x _ _ _ _) rfl (fun v97 M97 => ?_)
      refine r_iinc (pc := 100) (w := 1) (lf := fun v100 => [(2, v100), (1, p1), (3, p3), (4, p4)]) (ll' := []) (lr' := [(0, p0)]) E dX13_sayDigits_100 1 rfl (by decide) (by decide) (fun _ => rfl) rfl rfl (fun v100 => ?_)
      refine r_goto (pc := 103) (tgt := 12) E dX13_sayDigits_103 (by decide) ?_
      exact r_sub [1, 0] [] [0] rfl rfl rfl (hk12 ((p0, p1, v100)) _)
    · refine r_bipush (pc := 29) (v := 8) E dX13_sayDigits_29 (by decide) ?_
      refine r_iload_n (pc := 31) E dX13_sayDigits_31 rfl 1 rfl ?_
      refine r_imul (pc := 32) E dX13_sayDigits_32 ?_
      refine r_iload (pc := 33) E dX13_sayDigits_33 3 rfl ?_
      refine r_iadd (pc := 35) E dX13_sayDigits_35 ?_
      refine r_istore (pc := 36) (lf := fun v36 => [(5, v36), (1, p1), (2, p2), (3, p3), (4, p4)]) (lg := fun v36 => []) (lk := fun v36 => [(0, p0)]) E dX13_sayDigits_36 (by decide) (fun _ => rfl) (fun _ => rfl) (fun _ => rfl) (fun v36 => ?_)
      refine r_iload_n (pc := 38) E dX13_sayDigits_38 rfl 3 rfl ?_
      refine r_iload (pc := 39) E dX13_sayDigits_39 0 rfl ?_
      refine r_aload_n (pc := 41) E dX13_sayDigits_41 rfl 0 rfl ?_
      refine r_getI (pc := 42) E fd_13_56 wf_RX13_415 dX13_sayDigits_42 (fun v42 => ?_)
      refine r_icmp_ge (pc := 45) (tgt := 68) E dX13_sayDigits_45 (by decide) ?_ ?_
      · refine r_iload (pc := 68) E dX13_sayDigits_68 0 rfl ?_
        refine r_aload_n (pc := 70) E dX13_sayDigits_70 rfl 0 rfl ?_
        refine r_getI (pc := 71) E fd_13_56 wf_RX13_415 dX13_sayDigits_71 (fun v71 => ?_)
        refine r_icmp_ne (pc := 74) (tgt := 84) E dX13_sayDigits_74 (by decide) ?_ ?_
        · refine r_iconst (pc := 84) (v := 0) E dX13_sayDigits_84 (by decide) ?_
          exact r_sub [1, 2, 4] [] [0] rfl rfl rfl (hL85 k12 hk12 k22 hk22 p0 p1 p2 p4 p3 0 _)
        · refine r_iconst (pc := 77) (v := 1) E dX13_sayDigits_77 (by decide) ?_
          refine r_iload (pc := 78) E dX13_sayDigits_78 4 rfl ?_
          refine r_ishl (pc := 80) E dX13_sayDigits_80 ?_
          refine r_goto (pc := 81) (tgt := 85) E dX13_sayDigits_81 (by decide) ?_
          exact r_sub [1, 2, 4] [] [0] rfl rfl rfl (hL85 k12 hk12 k22 hk22 p0 p1 p2 p4 p3 (shlI 1 p4) _)
      · refine r_aload_n (pc := 48) E dX13_sayDigits_48 rfl 0 rfl ?_
        refine r_getA (pc := 49) E fd_13_55 wf_RX13_108 dX13_sayDigits_49 (fun v49 => ?_)
        refine r_aload_n (pc := 52) E dX13_sayDigits_52 rfl 0 rfl ?_
        refine r_getI (pc := 53) E fd_13_56 wf_RX13_415 dX13_sayDigits_53 (fun v53 => ?_)
        refine r_iconst (pc := 56) (v := 1) E dX13_sayDigits_56 (by decide) ?_
        refine r_isub (pc := 57) E dX13_sayDigits_57 ?_
        refine r_iload (pc := 58) E dX13_sayDigits_58 0 rfl ?_
        refine r_isub (pc := 60) E dX13_sayDigits_60 ?_
        refine r_baload (pc := 61) E dX13_sayDigits_61 (fun v61 => ?_)
        refine r_iload (pc := 62) E dX13_sayDigits_62 4 rfl ?_
        refine r_ishl (pc := 64) E dX13_sayDigits_64 ?_
        refine r_goto (pc := 65) (tgt := 85) E dX13_sayDigits_65 (by decide) ?_
        exact r_sub [1, 2, 4] [] [0] rfl rfl rfl (hL85 k12 hk12 k22 hk22 p0 p1 p2 p4 p3 (shlI v61 p4) _)
  have hL12 : ∀ (p0 : Option Nat) (p1 : Int32) (p2 : Int32) (M : Mem), RT p l e rmX13_sayDigits s m args below meth c x 6 (QM below args s x (fun _ : Unit => none) rmX13_sayDigits.cells rmX13_sayDigits.slots) 0 0 (fX13_sayDigits_L12 p0 p1 p2 M) 12 [(1, p1), (2, p2)] [] [(0, p0)] [] M := by
    intro p0 p1 p2 M
    refine r_lp (fi := fun a : Option Nat × Int32 × Int32 => [(1, a.2.1), (2, a.2.2)]) (fl := fun a : Option Nat × Int32 × Int32 => []) (fr := fun a : Option Nat × Int32 × Int32 => [(0, a.1)]) (fs := fun a : Option Nat × Int32 × Int32 => []) ?_ FU ((p0, p1, p2)) M
    intro k12 hk12 a M
    obtain ⟨p0, p1, p2⟩ := a
    show RT p l e rmX13_sayDigits s m args below meth c x 6 (QM below args s x (fun _ : Unit => none) rmX13_sayDigits.cells rmX13_sayDigits.slots) 0 0 (fX13_sayDigits_B12 k12 p0 p1 p2 M) 12 [(1, p1), (2, p2)] [] [(0, p0)] [] M
    unfold fX13_sayDigits_B12
    refine r_iload_n (pc := 12) E dX13_sayDigits_12 rfl 1 rfl ?_
    refine r_iload_n (pc := 13) E dX13_sayDigits_13 rfl 0 rfl ?_
    refine r_icmp_ge (pc := 14) (tgt := 106) E dX13_sayDigits_14 (by decide) ?_ ?_
    · refine r_aload_n (pc := 106) E dX13_sayDigits_106 rfl 0 rfl ?_
      refine r_iconst (pc := 107) (v := 0) E dX13_sayDigits_107 (by decide) ?_
      refine r_putI (pc := 108) E fd_13_56 wf_RX13_415 dX13_sayDigits_108 (Or.inl rfl) (fun M108 => ?_)
      exact e_void (pc := 111) E dX13_sayDigits_111
    · refine r_iconst (pc := 17) (v := 0) E dX13_sayDigits_17 (by decide) ?_
      refine r_istore_n (pc := 18) (lf := fun v18 => [(3, v18), (1, p1), (2, p2)]) (lg := fun v18 => []) (lk := fun v18 => [(0, p0)]) E dX13_sayDigits_18 rfl (by decide) (fun _ => rfl) (fun _ => rfl) (fun _ => rfl) (fun v18 => ?_)
      refine r_iconst (pc := 19) (v := 0) E dX13_sayDigits_19 (by decide) ?_
      refine r_istore (pc := 20) (lf := fun v20 => [(4, v20), (3, v18), (1, p1), (2, p2)]) (lg := fun v20 => []) (lk := fun v20 => [(0, p0)]) E dX13_sayDigits_20 (by decide) (fun _ => rfl) (fun _ => rfl) (fun _ => rfl) (fun v20 => ?_)
      exact r_sub [2, 3, 1, 0] [] [0] rfl rfl rfl (hL22 k12 hk12 p0 p1 p2 v18 v20 _)
  show RT p l e rmX13_sayDigits s m args below meth c x 6 (QM below args s x (fun _ : Unit => none) rmX13_sayDigits.cells rmX13_sayDigits.slots) 0 0 (fX13_sayDigits a0 M) 0 [] [] [(0, a0)] [] M
  unfold fX13_sayDigits
  refine r_aload_n (pc := 0) E dX13_sayDigits_0 rfl 0 rfl ?_
  refine r_getI (pc := 1) E fd_13_56 wf_RX13_415 dX13_sayDigits_1 (fun v1 => ?_)
  refine r_bipush (pc := 4) (v := 8) E dX13_sayDigits_4 (by decide) ?_
  refine r_idiv (pc := 6) E dX13_sayDigits_6 (fun v6 => ?_)
  refine r_iconst (pc := 7) (v := 1) E dX13_sayDigits_7 (by decide) ?_
  refine r_iadd (pc := 8) E dX13_sayDigits_8 ?_
  refine r_istore_n (pc := 9) (lf := fun v9 => [(1, v9)]) (lg := fun v9 => []) (lk := fun v9 => [(0, a0)]) E dX13_sayDigits_9 rfl (by decide) (fun _ => rfl) (fun _ => rfl) (fun _ => rfl) (fun v9 => ?_)
  refine r_iconst (pc := 10) (v := 0) E dX13_sayDigits_10 (by decide) ?_
  refine r_istore_n (pc := 11) (lf := fun v11 => [(2, v11), (1, v9)]) (lg := fun v11 => []) (lk := fun v11 => [(0, a0)]) E dX13_sayDigits_11 rfl (by decide) (fun _ => rfl) (fun _ => rfl) (fun _ => rfl) (fun v11 => ?_)
  exact r_sub [1, 0] [] [0] rfl rfl rfl (hL12 a0 v9 v11 _)
def fX13_areSame_L39 (q0 : Int32) (M : Mem) : Option (Int32 × Mem) :=
  rtZ q0 M
def fX13_areSame_B5 (k5 : Option Nat × Int32 × Int32 × Int32 → Mem → Option (Int32 × Mem)) (p1 : Option Nat) (p2 : Int32) (p3 : Int32) (p4 : Int32) (M : Mem) : Option (Int32 × Mem) :=
  if p3 ≤ p4 then (
    if p3 ≤ p2 then (
      fX13_areSame_L39 0 M
    ) else (
      fX13_areSame_L39 1 M
    )
  ) else (
    bo (aI M p1 14 p4) fun v14 =>
    bo (aI M p1 14 p2) fun v17 =>
    if v14 = v17 then (
      bn (p4 + 1) fun v23 =>
      k5 ((p1, p2, p3, v23)) M
    ) else (
      rtZ 0 M
    )
  )
def fX13_areSame_L5 (p1 : Option Nat) (p2 : Int32) (p3 : Int32) (p4 : Int32) (M : Mem) : Option (Int32 × Mem) :=
  lp (fun k5 (a : Option Nat × Int32 × Int32 × Int32) M => fX13_areSame_B5 k5 a.1 a.2.1 a.2.2.1 a.2.2.2 M) FU ((p1, p2, p3, p4)) M
def fX13_areSame (a0 : Option Nat) (a1 : Option Nat) (a2 : Int32) (a3 : Int32) (M : Mem) : Option (Int32 × Mem) :=
  bn (a2 + 1) fun v3 =>
  fX13_areSame_L5 a1 a2 a3 v3 M
def rmX13_areSame : Room := { frames := 0, cells := 0, slots := 0, locals := 0 }
set_option maxRecDepth 100000 in
set_option maxHeartbeats 4000000 in
theorem ctX13_areSame (l : Launch) (x : Cx) (a0 : Option Nat) (a1 : Option Nat) (a2 : Int32) (a3 : Int32) (M : Mem) (v : Int32) (N : Mem) (h : fX13_areSame a0 a1 a2 a3 M = some (v, N)) : CT l yX13_areSame cX13_areSame 5 (some (FieldType.boolean)) rmX13_areSame x [rv x a0, rv x a1, .int a2, .int a3] M (some (.int v)) N := by
  refine ct_mk (enc := fun v : Int32 => some (.int v)) (li := [(2, a2), (3, a3)]) (ll := []) (lr := [(0, a0), (1, a1)]) (by decide +kernel) (by simp [lg_sl, rv_cat, cat_int, cat_long]) (by simp [flat, lv_args, rv_cat, cat_int, cat_long]) h ?_
  intro p e s m args below meth c E
  have hL39 : ∀ (q0 : Int32) (M : Mem), RT p l e rmX13_areSame s m args below meth c x 5 (QM below args s x (fun v : Int32 => some (.int v)) rmX13_areSame.cells rmX13_areSame.slots) 0 0 (fX13_areSame_L39 q0 M) 39 [] [] [] [.int q0] M := by
    intro q0 M
    unfold fX13_areSame_L39
    exact e_bool (pc := 39) E dX13_areSame_39
  have hL5 : ∀ (p1 : Option Nat) (p2 : Int32) (p3 : Int32) (p4 : Int32) (M : Mem), RT p l e rmX13_areSame s m args below meth c x 5 (QM below args s x (fun v : Int32 => some (.int v)) rmX13_areSame.cells rmX13_areSame.slots) 0 0 (fX13_areSame_L5 p1 p2 p3 p4 M) 5 [(2, p2), (3, p3), (4, p4)] [] [(1, p1)] [] M := by
    intro p1 p2 p3 p4 M
    refine r_lp (fi := fun a : Option Nat × Int32 × Int32 × Int32 => [(2, a.2.1), (3, a.2.2.1), (4, a.2.2.2)]) (fl := fun a : Option Nat × Int32 × Int32 × Int32 => []) (fr := fun a : Option Nat × Int32 × Int32 × Int32 => [(1, a.1)]) (fs := fun a : Option Nat × Int32 × Int32 × Int32 => []) ?_ FU ((p1, p2, p3, p4)) M
    intro k5 hk5 a M
    obtain ⟨p1, p2, p3, p4⟩ := a
    show RT p l e rmX13_areSame s m args below meth c x 5 (QM below args s x (fun v : Int32 => some (.int v)) rmX13_areSame.cells rmX13_areSame.slots) 0 0 (fX13_areSame_B5 k5 p1 p2 p3 p4 M) 5 [(2, p2), (3, p3), (4, p4)] [] [(1, p1)] [] M
    unfold fX13_areSame_B5
    refine r_iload (pc := 5) E dX13_areSame_5 2 rfl ?_
    refine r_iload_n (pc := 7) E dX13_areSame_7 rfl 1 rfl ?_
    refine r_icmp_ge (pc := 8) (tgt := 29) E dX13_areSame_8 (by decide) ?_ ?_
    · refine r_iload_n (pc := 29) E dX13_areSame_29 rfl 1 rfl ?_
      refine r_iload_n (pc := 30) E dX13_areSame_30 rfl 0 rfl ?_
      refine r_icmp_le (pc := 31) (tgt := 38) E dX13_areSame_31 (by decide) ?_ ?_
      · refine r_iconst (pc := 38) (v := 0) E dX13_areSame_38 (by decide) ?_
        exact r_sub [] [] [] rfl rfl rfl (hL39 0 _)
      · refine r_iconst (pc := 34) (v := 1) E dX13_areSame_34 (by decide) ?_
        refine r_goto (pc := 35) (tgt := 39) E dX13_areSame_35 (by decide) ?_
        exact r_sub [] [] [] rfl rfl rfl (hL39 1 _)
    · refine r_aload_n (pc := 11) E dX13_areSame_11 rfl 0 rfl ?_
      refine r_iload (pc := 12) E dX13_areSame_12 2 rfl ?_
      refine r_baload (pc := 14) E dX13_areSame_14 (fun v14 => ?_)
      refine r_aload_n (pc := 15) E dX13_areSame_15 rfl 0 rfl ?_
      refine r_iload_n (pc := 16) E dX13_areSame_16 rfl 0 rfl ?_
      refine r_baload (pc := 17) E dX13_areSame_17 (fun v17 => ?_)
      refine r_icmp_eq (pc := 18) (tgt := 23) E dX13_areSame_18 (by decide) ?_ ?_
      · refine r_iinc (pc := 23) (w := 1) (lf := fun v23 => [(4, v23), (2, p2), (3, p3)]) (ll' := []) (lr' := [(1, p1)]) E dX13_areSame_23 2 rfl (by decide) (by decide) (fun _ => rfl) rfl rfl (fun v23 => ?_)
        refine r_goto (pc := 26) (tgt := 5) E dX13_areSame_26 (by decide) ?_
        exact r_sub [1, 2, 0] [] [0] rfl rfl rfl (hk5 ((p1, p2, p3, v23)) _)
      · refine r_iconst (pc := 21) (v := 0) E dX13_areSame_21 (by decide) ?_
        exact e_bool (pc := 22) E dX13_areSame_22
  show RT p l e rmX13_areSame s m args below meth c x 5 (QM below args s x (fun v : Int32 => some (.int v)) rmX13_areSame.cells rmX13_areSame.slots) 0 0 (fX13_areSame a0 a1 a2 a3 M) 0 [(2, a2), (3, a3)] [] [(0, a0), (1, a1)] [] M
  unfold fX13_areSame
  refine r_iload_n (pc := 0) E dX13_areSame_0 rfl 0 rfl ?_
  refine r_iconst (pc := 1) (v := 1) E dX13_areSame_1 (by decide) ?_
  refine r_iadd (pc := 2) E dX13_areSame_2 ?_
  refine r_istore (pc := 3) (lf := fun v3 => [(4, v3), (2, a2), (3, a3)]) (lg := fun v3 => []) (lk := fun v3 => [(0, a0), (1, a1)]) E dX13_areSame_3 (by decide) (fun _ => rfl) (fun _ => rfl) (fun _ => rfl) (fun v3 => ?_)
  exact r_sub [1, 2, 0] [] [1] rfl rfl rfl (hL5 a1 a2 a3 v3 _)
def fX13_valueOf_L39 (k2 : Option Nat × Int32 × Int32 × Int32 → Mem → Option (Int64 × Mem)) (p0 : Option Nat) (p1 : Int32) (p2 : Int32) (p3 : Int32) (q0 : Int64) (M : Mem) : Option (Int64 × Mem) :=
  if (lg_cmp q0 p1.toInt64) = 0 then (
    some (p3.toInt64, M)
  ) else (
    bn (p3 + 1) fun v48 =>
    k2 ((p0, p1, p2, v48)) M
  )
def fX13_valueOf_B2 (k2 : Option Nat × Int32 × Int32 × Int32 → Mem → Option (Int64 × Mem)) (p0 : Option Nat) (p1 : Int32) (p2 : Int32) (p3 : Int32) (M : Mem) : Option (Int64 × Mem) :=
  if 4 ≤ p3 then (
    some (p1.toInt64 + 3, M)
  ) else (
    bd (fX13_meant p3.toInt64 p2 M) fun v10 M10 =>
    bn (v10) fun v13 =>
    if v13 = 3 then (
      bo (gR M10 p0 13 59) fun v22 =>
      bo (aJ M10 v22 0) fun v26 =>
      fX13_valueOf_L39 k2 p0 p1 p2 p3 (v26 - 1) M10
    ) else (
      bo (gR M10 p0 13 59) fun v33 =>
      bo (aJ M10 v33 v13) fun v38 =>
      fX13_valueOf_L39 k2 p0 p1 p2 p3 v38 M10
    )
  )
def fX13_valueOf_L2 (p0 : Option Nat) (p1 : Int32) (p2 : Int32) (p3 : Int32) (M : Mem) : Option (Int64 × Mem) :=
  lp (fun k2 (a : Option Nat × Int32 × Int32 × Int32) M => fX13_valueOf_B2 k2 a.1 a.2.1 a.2.2.1 a.2.2.2 M) FU ((p0, p1, p2, p3)) M
def fX13_valueOf (a0 : Option Nat) (a1 : Int32) (a2 : Int32) (M : Mem) : Option (Int64 × Mem) :=
  bn (1) fun v1 =>
  fX13_valueOf_L2 a0 a1 a2 v1 M
def rmX13_valueOf : Room := { frames := 1, cells := 0, slots := 0, locals := 22 }
set_option maxRecDepth 100000 in
set_option maxHeartbeats 4000000 in
theorem ctX13_valueOf (l : Launch) (x : Cx) (a0 : Option Nat) (a1 : Int32) (a2 : Int32) (M : Mem) (v : Int64) (N : Mem) (h : fX13_valueOf a0 a1 a2 M = some (v, N)) : CT l yX13_valueOf cX13_valueOf 5 (some (FieldType.long)) rmX13_valueOf x [rv x a0, .int a1, .int a2] M (some (.long v)) N := by
  refine ct_mk (enc := fun v : Int64 => some (.long v)) (li := [(1, a1), (2, a2)]) (ll := []) (lr := [(0, a0)]) (by decide +kernel) (by simp [lg_sl, rv_cat, cat_int, cat_long]) (by simp [flat, lv_args, rv_cat, cat_int, cat_long]) h ?_
  intro p e s m args below meth c E
  have hL39 : ∀ (k2 : Option Nat × Int32 × Int32 × Int32 → Mem → Option (Int64 × Mem)) (hk2 : ∀ a M, RT p l e rmX13_valueOf s m args below meth c x 5 (QM below args s x (fun v : Int64 => some (.long v)) rmX13_valueOf.cells rmX13_valueOf.slots) 0 0 (k2 a M) 2 [(1, a.2.1), (2, a.2.2.1), (3, a.2.2.2)] [] [(0, a.1)] [] M) (p0 : Option Nat) (p1 : Int32) (p2 : Int32) (p3 : Int32) (q0 : Int64) (M : Mem), RT p l e rmX13_valueOf s m args below meth c x 5 (QM below args s x (fun v : Int64 => some (.long v)) rmX13_valueOf.cells rmX13_valueOf.slots) 0 0 (fX13_valueOf_L39 k2 p0 p1 p2 p3 q0 M) 39 [(1, p1), (2, p2), (3, p3)] [] [(0, p0)] [.long q0] M := by
    intro k2 hk2 p0 p1 p2 p3 q0 M
    unfold fX13_valueOf_L39
    refine r_iload_n (pc := 39) E dX13_valueOf_39 rfl 0 rfl ?_
    refine r_i2l (pc := 40) E dX13_valueOf_40 ?_
    refine r_lcmp (pc := 41) E dX13_valueOf_41 ?_
    refine r_if_ne (pc := 42) (tgt := 48) E dX13_valueOf_42 (by decide) ?_ ?_
    · refine r_iinc (pc := 48) (w := 1) (lf := fun v48 => [(3, v48), (1, p1), (2, p2)]) (ll' := []) (lr' := [(0, p0)]) E dX13_valueOf_48 2 rfl (by decide) (by decide) (fun _ => rfl) rfl rfl (fun v48 => ?_)
      refine r_goto (pc := 51) (tgt := 2) E dX13_valueOf_51 (by decide) ?_
      exact r_sub [1, 2, 0] [] [0] rfl rfl rfl (hk2 ((p0, p1, p2, v48)) _)
    · refine r_iload_n (pc := 45) E dX13_valueOf_45 rfl 2 rfl ?_
      refine r_i2l (pc := 46) E dX13_valueOf_46 ?_
      exact e_long (pc := 47) E dX13_valueOf_47
  have hL2 : ∀ (p0 : Option Nat) (p1 : Int32) (p2 : Int32) (p3 : Int32) (M : Mem), RT p l e rmX13_valueOf s m args below meth c x 5 (QM below args s x (fun v : Int64 => some (.long v)) rmX13_valueOf.cells rmX13_valueOf.slots) 0 0 (fX13_valueOf_L2 p0 p1 p2 p3 M) 2 [(1, p1), (2, p2), (3, p3)] [] [(0, p0)] [] M := by
    intro p0 p1 p2 p3 M
    refine r_lp (fi := fun a : Option Nat × Int32 × Int32 × Int32 => [(1, a.2.1), (2, a.2.2.1), (3, a.2.2.2)]) (fl := fun a : Option Nat × Int32 × Int32 × Int32 => []) (fr := fun a : Option Nat × Int32 × Int32 × Int32 => [(0, a.1)]) (fs := fun a : Option Nat × Int32 × Int32 × Int32 => []) ?_ FU ((p0, p1, p2, p3)) M
    intro k2 hk2 a M
    obtain ⟨p0, p1, p2, p3⟩ := a
    show RT p l e rmX13_valueOf s m args below meth c x 5 (QM below args s x (fun v : Int64 => some (.long v)) rmX13_valueOf.cells rmX13_valueOf.slots) 0 0 (fX13_valueOf_B2 k2 p0 p1 p2 p3 M) 2 [(1, p1), (2, p2), (3, p3)] [] [(0, p0)] [] M
    unfold fX13_valueOf_B2
    refine r_iload_n (pc := 2) E dX13_valueOf_2 rfl 2 rfl ?_
    refine r_iconst (pc := 3) (v := 4) E dX13_valueOf_3 (by decide) ?_
    refine r_icmp_ge (pc := 4) (tgt := 54) E dX13_valueOf_4 (by decide) ?_ ?_
    · refine r_iload_n (pc := 54) E dX13_valueOf_54 rfl 0 rfl ?_
      refine r_i2l (pc := 55) E dX13_valueOf_55 ?_
      refine r_ldc2 (pc := 56) E wk_RX13_402 dX13_valueOf_56 ?_
      refine r_ladd (pc := 59) E dX13_valueOf_59 ?_
      exact e_long (pc := 60) E dX13_valueOf_60
    · refine r_iload_n (pc := 7) E dX13_valueOf_7 rfl 2 rfl ?_
      refine r_i2l (pc := 8) E dX13_valueOf_8 ?_
      refine r_iload_n (pc := 9) E dX13_valueOf_9 rfl 1 rfl ?_
      refine r_kSi (pc := 10) (As := [.long p3.toInt64, .int p2]) (rest := []) E wc_X13_meant wi_RX13 hd_X13_meant wl_RX13_404 wt_X13_meant dX13_valueOf_10 (by decide) (Nat.le_of_ble_eq_true rfl) ⟨rfl, rfl⟩ (ctX13_meant l x _ _ _) rfl (fun v10 M10 => ?_)
      refine r_istore (pc := 13) (lf := fun v13 => [(4, v13), (1, p1), (2, p2), (3, p3)]) (lg := fun v13 => []) (lk := fun v13 => [(0, p0)]) E dX13_valueOf_13 (by decide) (fun _ => rfl) (fun _ => rfl) (fun _ => rfl) (fun v13 => ?_)
      refine r_iload (pc := 15) E dX13_valueOf_15 0 rfl ?_
      refine r_iconst (pc := 17) (v := 3) E dX13_valueOf_17 (by decide) ?_
      refine r_icmp_ne (pc := 18) (tgt := 32) E dX13_valueOf_18 (by decide) ?_ ?_
      · refine r_aload_n (pc := 32) E dX13_valueOf_32 rfl 0 rfl ?_
        refine r_getA (pc := 33) E fd_13_59 wf_RX13_114 dX13_valueOf_33 (fun v33 => ?_)
        refine r_iload (pc := 36) E dX13_valueOf_36 0 rfl ?_
        refine r_laload (pc := 38) E dX13_valueOf_38 (fun v38 => ?_)
        exact r_sub [1, 2, 3] [] [0] rfl rfl rfl (hL39 k2 hk2 p0 p1 p2 p3 v38 _)
      · refine r_aload_n (pc := 21) E dX13_valueOf_21 rfl 0 rfl ?_
        refine r_getA (pc := 22) E fd_13_59 wf_RX13_114 dX13_valueOf_22 (fun v22 => ?_)
        refine r_iconst (pc := 25) (v := 0) E dX13_valueOf_25 (by decide) ?_
        refine r_laload (pc := 26) E dX13_valueOf_26 (fun v26 => ?_)
        refine r_lconst (pc := 27) (v := 1) E dX13_valueOf_27 (by decide) ?_
        refine r_lsub (pc := 28) E dX13_valueOf_28 ?_
        refine r_goto (pc := 29) (tgt := 39) E dX13_valueOf_29 (by decide) ?_
        exact r_sub [1, 2, 3] [] [0] rfl rfl rfl (hL39 k2 hk2 p0 p1 p2 p3 (v26 - 1) _)
  show RT p l e rmX13_valueOf s m args below meth c x 5 (QM below args s x (fun v : Int64 => some (.long v)) rmX13_valueOf.cells rmX13_valueOf.slots) 0 0 (fX13_valueOf a0 a1 a2 M) 0 [(1, a1), (2, a2)] [] [(0, a0)] [] M
  unfold fX13_valueOf
  refine r_iconst (pc := 0) (v := 1) E dX13_valueOf_0 (by decide) ?_
  refine r_istore_n (pc := 1) (lf := fun v1 => [(3, v1), (1, a1), (2, a2)]) (lg := fun v1 => []) (lk := fun v1 => [(0, a0)]) E dX13_valueOf_1 rfl (by decide) (fun _ => rfl) (fun _ => rfl) (fun _ => rfl) (fun v1 => ?_)
  exact r_sub [1, 2, 0] [] [0] rfl rfl rfl (hL2 a0 a1 a2 v1 _)
def fX13_findActs_L278 (k15 : Option Nat × Int32 × Int32 × Int32 → Mem → Option (Unit × Mem)) (p0 : Option Nat) (p2 : Int32) (p3 : Int32) (p4 : Int32) (M : Mem) : Option (Unit × Mem) :=
  k15 ((p0, p2, p3, p4)) M
def fX13_findActs_L154 (k15 : Option Nat × Int32 × Int32 × Int32 → Mem → Option (Unit × Mem)) (p0 : Option Nat) (p2 : Int32) (p3 : Int32) (p4 : Int32) (p5 : Int32) (p6 : Int32) (M : Mem) : Option (Unit × Mem) :=
  if 0 ≤ p5 then (
    bo (gR M p0 13 62) fun v195 =>
    bo (gI M p0 13 61) fun v199 =>
    bo (wI M v195 v199 p3) fun M203 =>
    bo (gR M203 p0 13 63) fun v205 =>
    bo (gI M203 p0 13 61) fun v209 =>
    bo (wI M203 v205 v209 p6) fun M214 =>
    bo (gR M214 p0 13 64) fun v216 =>
    bo (gI M214 p0 13 61) fun v220 =>
    bo (gI M214 p0 13 58) fun v225 =>
    bo (chk M214 p0 13) fun _ => bd (fX13_valueOf p0 ((v225 + p4) - p5) p3 M214) fun v235 M235 =>
    bo (wJ M235 v216 v220 v235) fun M238 =>
    bo (gR M238 p0 13 59) fun v241 =>
    bo (gR M238 p0 13 64) fun v245 =>
    bo (gI M238 p0 13 61) fun v249 =>
    bo (aJ M238 v245 v249) fun v252 =>
    bo (chk M238 p0 13) fun _ => bd (fX13_offsetOf p0 v241 v252 p3 M238) fun v254 M254 =>
    bn (v254) fun v257 =>
    bo (gI M254 p0 13 61) fun v261 =>
    bo (pI M254 p0 13 61 (v261 + 1)) fun M266 =>
    bn (0) fun v270 =>
    bn (p4 + p6) fun v276 =>
    fX13_findActs_L278 k15 p0 p2 v270 v276 M266
  ) else (
    bo (gR M p0 13 67) fun v160 =>
    bo (gI M p0 13 68) fun v164 =>
    bo (gR M p0 13 0) fun v168 =>
    bo (aI M v168 14 p4) fun v173 =>
    bo (wB M v160 v164 v173) fun M174 =>
    bo (gI M174 p0 13 68) fun v177 =>
    bo (pI M174 p0 13 68 (v177 + 1)) fun M182 =>
    bn (p3 + 1) fun v185 =>
    bn (p4 + 1) fun v188 =>
    fX13_findActs_L278 k15 p0 p2 v185 v188 M182
  )
def fX13_findActs_L148 (k15 : Option Nat × Int32 × Int32 × Int32 → Mem → Option (Unit × Mem)) (k41 : Option Nat × Int32 × Int32 × Int32 × Int32 × Int32 × Int32 × Int32 → Mem → Option (Unit × Mem)) (p0 : Option Nat) (p2 : Int32) (p3 : Int32) (p4 : Int32) (p5 : Int32) (p6 : Int32) (p7 : Int32) (p8 : Int32) (M : Mem) : Option (Unit × Mem) :=
  bn (p8 + (-1)) fun v148 =>
  k41 ((p0, p2, p3, p4, p5, p6, p7, v148)) M
def fX13_findActs_L146 (k15 : Option Nat × Int32 × Int32 × Int32 → Mem → Option (Unit × Mem)) (k41 : Option Nat × Int32 × Int32 × Int32 × Int32 × Int32 × Int32 × Int32 → Mem → Option (Unit × Mem)) (p0 : Option Nat) (p2 : Int32) (p3 : Int32) (p4 : Int32) (p5 : Int32) (p7 : Int32) (p8 : Int32) (q0 : Int32) (M : Mem) : Option (Unit × Mem) :=
  bn (q0) fun v146 =>
  fX13_findActs_L148 k15 k41 p0 p2 p3 p4 p5 v146 p7 p8 M
def fX13_findActs_L130 (k15 : Option Nat × Int32 × Int32 × Int32 → Mem → Option (Unit × Mem)) (k41 : Option Nat × Int32 × Int32 × Int32 × Int32 × Int32 × Int32 × Int32 → Mem → Option (Unit × Mem)) (p0 : Option Nat) (p2 : Int32) (p3 : Int32) (p4 : Int32) (p6 : Int32) (p7 : Int32) (p8 : Int32) (p9 : Int32) (q0 : Int32) (M : Mem) : Option (Unit × Mem) :=
  bn (q0) fun v130 =>
  if p9 ≤ p6 then (
    fX13_findActs_L146 k15 k41 p0 p2 p3 p4 v130 p7 p8 p6 M
  ) else (
    fX13_findActs_L146 k15 k41 p0 p2 p3 p4 v130 p7 p8 p9 M
  )
def fX13_findActs_L107 (k15 : Option Nat × Int32 × Int32 × Int32 → Mem → Option (Unit × Mem)) (k41 : Option Nat × Int32 × Int32 × Int32 × Int32 × Int32 × Int32 × Int32 → Mem → Option (Unit × Mem)) (p0 : Option Nat) (p2 : Int32) (p3 : Int32) (p4 : Int32) (p5 : Int32) (p6 : Int32) (p7 : Int32) (p8 : Int32) (p9 : Int32) (M : Mem) : Option (Unit × Mem) :=
  if p9 < 4 then (
    fX13_findActs_L148 k15 k41 p0 p2 p3 p4 p5 p6 p7 p8 M
  ) else (
    bn (p7 + 1) fun v113 =>
    if p9 ≤ p6 then (
      fX13_findActs_L130 k15 k41 p0 p2 p3 p4 p6 v113 p8 p9 p5 M
    ) else (
      fX13_findActs_L130 k15 k41 p0 p2 p3 p4 p6 v113 p8 p9 p8 M
    )
  )
def fX13_findActs_B64 (k15 : Option Nat × Int32 × Int32 × Int32 → Mem → Option (Unit × Mem)) (k41 : Option Nat × Int32 × Int32 × Int32 × Int32 × Int32 × Int32 × Int32 → Mem → Option (Unit × Mem)) (k64 : Option Nat × Int32 × Int32 × Int32 × Int32 × Int32 × Int32 × Int32 × Int32 → Mem → Option (Unit × Mem)) (p0 : Option Nat) (p2 : Int32) (p3 : Int32) (p4 : Int32) (p5 : Int32) (p6 : Int32) (p7 : Int32) (p8 : Int32) (p9 : Int32) (M : Mem) : Option (Unit × Mem) :=
  if p2 ≤ (p4 + p9) then (
    fX13_findActs_L107 k15 k41 p0 p2 p3 p4 p5 p6 p7 p8 p9 M
  ) else (
    bo (gR M p0 13 57) fun v74 =>
    bo (aI M v74 14 (p8 + p9)) fun v82 =>
    bo (gR M p0 13 57) fun v84 =>
    bo (gI M p0 13 58) fun v88 =>
    bo (aI M v84 14 ((v88 + p4) + p9)) fun v97 =>
    if v82 = v97 then (
      bn (p9 + 1) fun v101 =>
      k64 ((p0, p2, p3, p4, p5, p6, p7, p8, v101)) M
    ) else (
      fX13_findActs_L107 k15 k41 p0 p2 p3 p4 p5 p6 p7 p8 p9 M
    )
  )
def fX13_findActs_L64 (k15 : Option Nat × Int32 × Int32 × Int32 → Mem → Option (Unit × Mem)) (k41 : Option Nat × Int32 × Int32 × Int32 × Int32 × Int32 × Int32 × Int32 → Mem → Option (Unit × Mem)) (p0 : Option Nat) (p2 : Int32) (p3 : Int32) (p4 : Int32) (p5 : Int32) (p6 : Int32) (p7 : Int32) (p8 : Int32) (p9 : Int32) (M : Mem) : Option (Unit × Mem) :=
  lp (fun k64 (a : Option Nat × Int32 × Int32 × Int32 × Int32 × Int32 × Int32 × Int32 × Int32) M => fX13_findActs_B64 k15 k41 k64 a.1 a.2.1 a.2.2.1 a.2.2.2.1 a.2.2.2.2.1 a.2.2.2.2.2.1 a.2.2.2.2.2.2.1 a.2.2.2.2.2.2.2.1 a.2.2.2.2.2.2.2.2 M) FU ((p0, p2, p3, p4, p5, p6, p7, p8, p9)) M
def fX13_findActs_B41 (k15 : Option Nat × Int32 × Int32 × Int32 → Mem → Option (Unit × Mem)) (k41 : Option Nat × Int32 × Int32 × Int32 × Int32 × Int32 × Int32 × Int32 → Mem → Option (Unit × Mem)) (p0 : Option Nat) (p2 : Int32) (p3 : Int32) (p4 : Int32) (p5 : Int32) (p6 : Int32) (p7 : Int32) (p8 : Int32) (M : Mem) : Option (Unit × Mem) :=
  if p8 < 0 then (
    fX13_findActs_L154 k15 p0 p2 p3 p4 p5 p6 M
  ) else (
    if 8 ≤ p7 then (
      fX13_findActs_L154 k15 p0 p2 p3 p4 p5 p6 M
    ) else (
      if p2 < (p4 + 4) then (
        fX13_findActs_L154 k15 p0 p2 p3 p4 p5 p6 M
      ) else (
        bn (0) fun v62 =>
        fX13_findActs_L64 k15 k41 p0 p2 p3 p4 p5 p6 p7 p8 v62 M
      )
    )
  )
def fX13_findActs_L41 (k15 : Option Nat × Int32 × Int32 × Int32 → Mem → Option (Unit × Mem)) (p0 : Option Nat) (p2 : Int32) (p3 : Int32) (p4 : Int32) (p5 : Int32) (p6 : Int32) (p7 : Int32) (p8 : Int32) (M : Mem) : Option (Unit × Mem) :=
  lp (fun k41 (a : Option Nat × Int32 × Int32 × Int32 × Int32 × Int32 × Int32 × Int32) M => fX13_findActs_B41 k15 k41 a.1 a.2.1 a.2.2.1 a.2.2.2.1 a.2.2.2.2.1 a.2.2.2.2.2.1 a.2.2.2.2.2.2.1 a.2.2.2.2.2.2.2 M) FU ((p0, p2, p3, p4, p5, p6, p7, p8)) M
def fX13_findActs_B15 (k15 : Option Nat × Int32 × Int32 × Int32 → Mem → Option (Unit × Mem)) (p0 : Option Nat) (p2 : Int32) (p3 : Int32) (p4 : Int32) (M : Mem) : Option (Unit × Mem) :=
  if p2 ≤ p4 then (
    some ((), M)
  ) else (
    bn ((-1)) fun v22 =>
    bn (0) fun v25 =>
    bn (0) fun v28 =>
    bo (gI M p0 13 58) fun v31 =>
    bn ((v31 + p4) - 1) fun v39 =>
    fX13_findActs_L41 k15 p0 p2 p3 p4 v22 v25 v28 v39 M
  )
def fX13_findActs_L15 (p0 : Option Nat) (p2 : Int32) (p3 : Int32) (p4 : Int32) (M : Mem) : Option (Unit × Mem) :=
  lp (fun k15 (a : Option Nat × Int32 × Int32 × Int32) M => fX13_findActs_B15 k15 a.1 a.2.1 a.2.2.1 a.2.2.2 M) FU ((p0, p2, p3, p4)) M
def fX13_findActs (a0 : Option Nat) (a1 : Int32) (a2 : Int32) (M : Mem) : Option (Unit × Mem) :=
  bo (pI M a0 13 61 0) fun M2 =>
  bo (pI M2 a0 13 68 0) fun M7 =>
  bn (0) fun v11 =>
  bn (a1) fun v13 =>
  fX13_findActs_L15 a0 a2 v11 v13 M7
def rmX13_findActs : Room := { frames := 2, cells := 0, slots := 0, locals := 49 }
set_option maxRecDepth 100000 in
set_option maxHeartbeats 4000000 in
theorem ctX13_findActs (l : Launch) (x : Cx) (a0 : Option Nat) (a1 : Int32) (a2 : Int32) (M : Mem) (v : Unit) (N : Mem) (h : fX13_findActs a0 a1 a2 M = some (v, N)) : CT l yX13_findActs cX13_findActs 10 (none) rmX13_findActs x [rv x a0, .int a1, .int a2] M none N := by
  refine ct_mk (enc := fun _ : Unit => none) (li := [(1, a1), (2, a2)]) (ll := []) (lr := [(0, a0)]) (by decide +kernel) (by simp [lg_sl, rv_cat, cat_int, cat_long]) (by simp [flat, lv_args, rv_cat, cat_int, cat_long]) h ?_
  intro p e s m args below meth c E
  have hL278 : ∀ (k15 : Option Nat × Int32 × Int32 × Int32 → Mem → Option (Unit × Mem)) (hk15 : ∀ a M, RT p l e rmX13_findActs s m args below meth c x 10 (QM below args s x (fun _ : Unit => none) rmX13_findActs.cells rmX13_findActs.slots) 0 0 (k15 a M) 15 [(2, a.2.1), (3, a.2.2.1), (4, a.2.2.2)] [] [(0, a.1)] [] M) (p0 : Option Nat) (p2 : Int32) (p3 : Int32) (p4 : Int32) (M : Mem), RT p l e rmX13_findActs s m args below meth c x 10 (QM below args s x (fun _ : Unit => none) rmX13_findActs.cells rmX13_findActs.slots) 0 0 (fX13_findActs_L278 k15 p0 p2 p3 p4 M) 278 [(2, p2), (3, p3), (4, p4)] [] [(0, p0)] [] M := by
    intro k15 hk15 p0 p2 p3 p4 M
    unfold fX13_findActs_L278
    refine r_goto (pc := 278) (tgt := 15) E dX13_findActs_278 (by decide) ?_
    exact r_sub [0, 1, 2] [] [0] rfl rfl rfl (hk15 ((p0, p2, p3, p4)) _)
  have hL154 : ∀ (k15 : Option Nat × Int32 × Int32 × Int32 → Mem → Option (Unit × Mem)) (hk15 : ∀ a M, RT p l e rmX13_findActs s m args below meth c x 10 (QM below args s x (fun _ : Unit => none) rmX13_findActs.cells rmX13_findActs.slots) 0 0 (k15 a M) 15 [(2, a.2.1), (3, a.2.2.1), (4, a.2.2.2)] [] [(0, a.1)] [] M) (p0 : Option Nat) (p2 : Int32) (p3 : Int32) (p4 : Int32) (p5 : Int32) (p6 : Int32) (M : Mem), RT p l e rmX13_findActs s m args below meth c x 10 (QM below args s x (fun _ : Unit => none) rmX13_findActs.cells rmX13_findActs.slots) 0 0 (fX13_findActs_L154 k15 p0 p2 p3 p4 p5 p6 M) 154 [(2, p2), (3, p3), (4, p4), (5, p5), (6, p6)] [] [(0, p0)] [] M := by
    intro k15 hk15 p0 p2 p3 p4 p5 p6 M
    unfold fX13_findActs_L154
    refine r_iload (pc := 154) E dX13_findActs_154 3 rfl ?_
    refine r_if_ge (pc := 156) (tgt := 194) E dX13_findActs_156 (by decide) ?_ ?_
    · refine r_aload_n (pc := 194) E dX13_findActs_194 rfl 0 rfl ?_
      refine r_getA (pc := 195) E fd_13_62 wf_RX13_120 dX13_findActs_195 (fun v195 => ?_)
      refine r_aload_n (pc := 198) E dX13_findActs_198 rfl 0 rfl ?_
      refine r_getI (pc := 199) E fd_13_61 wf_RX13_443 dX13_findActs_199 (fun v199 => ?_)
      refine r_iload_n (pc := 202) E dX13_findActs_202 rfl 1 rfl ?_
      refine r_iastore (pc := 203) E dX13_findActs_203 (fun M203 => ?_)
      refine r_aload_n (pc := 204) E dX13_findActs_204 rfl 0 rfl ?_
      refine r_getA (pc := 205) E fd_13_63 wf_RX13_123 dX13_findActs_205 (fun v205 => ?_)
      refine r_aload_n (pc := 208) E dX13_findActs_208 rfl 0 rfl ?_
      refine r_getI (pc := 209) E fd_13_61 wf_RX13_443 dX13_findActs_209 (fun v209 => ?_)
      refine r_iload (pc := 212) E dX13_findActs_212 4 rfl ?_
      refine r_iastore (pc := 214) E dX13_findActs_214 (fun M214 => ?_)
      refine r_aload_n (pc := 215) E dX13_findActs_215 rfl 0 rfl ?_
      refine r_getA (pc := 216) E fd_13_64 wf_RX13_126 dX13_findActs_216 (fun v216 => ?_)
      refine r_aload_n (pc := 219) E dX13_findActs_219 rfl 0 rfl ?_
      refine r_getI (pc := 220) E fd_13_61 wf_RX13_443 dX13_findActs_220 (fun v220 => ?_)
      refine r_aload_n (pc := 223) E dX13_findActs_223 rfl 0 rfl ?_
      refine r_aload_n (pc := 224) E dX13_findActs_224 rfl 0 rfl ?_
      refine r_getI (pc := 225) E fd_13_58 wf_RX13_424 dX13_findActs_225 (fun v225 => ?_)
      refine r_iload (pc := 228) E dX13_findActs_228 2 rfl ?_
      refine r_iadd (pc := 230) E dX13_findActs_230 ?_
      refine r_iload (pc := 231) E dX13_findActs_231 3 rfl ?_
      refine r_isub (pc := 233) E dX13_findActs_233 ?_
      refine r_iload_n (pc := 234) E dX13_findActs_234 rfl 1 rfl ?_
      refine r_kVl (pc := 235) (As := [.int ((v225 + p4) - p5), .int p3]) (rest := [.int v220, rv x v216]) E wc_X13_valueOf wi_RX13 hd_X13_valueOf (ci := 13) rfl wl_RX13_449 wn_X13_valueOf ws_X13_valueOf dX13_findActs_235 (by decide) (Nat.le_of_ble_eq_true rfl) ⟨rfl, rfl⟩ (ctX13_valueOf l x _ _ _ _) rfl (fun v235 M235 => ?_)
      refine r_lastore (pc := 238) E dX13_findActs_238 (fun M238 => ?_)
      refine r_aload_n (pc := 239) E dX13_findActs_239 rfl 0 rfl ?_
      refine r_aload_n (pc := 240) E dX13_findActs_240 rfl 0 rfl ?_
      refine r_getA (pc := 241) E fd_13_59 wf_RX13_114 dX13_findActs_241 (fun v241 => ?_)
      refine r_aload_n (pc := 244) E dX13_findActs_244 rfl 0 rfl ?_
      refine r_getA (pc := 245) E fd_13_64 wf_RX13_126 dX13_findActs_245 (fun v245 => ?_)
      refine r_aload_n (pc := 248) E dX13_findActs_248 rfl 0 rfl ?_
      refine r_getI (pc := 249) E fd_13_61 wf_RX13_443 dX13_findActs_249 (fun v249 => ?_)
      refine r_laload (pc := 252) E dX13_findActs_252 (fun v252 => ?_)
      refine r_iload_n (pc := 253) E dX13_findActs_253 rfl 1 rfl ?_
      refine r_kVl (pc := 254) (As := [rv x v241, .long v252, .int p3]) (rest := []) E wc_X13_offsetOf wi_RX13 hd_X13_offsetOf (ci := 13) rfl wl_RX13_408 wn_X13_offsetOf ws_X13_offsetOf dX13_findActs_254 (by decide) (Nat.le_of_ble_eq_true rfl) ⟨rfl, rfl⟩ (ctX13_offsetOf l x _ _ _ _ _) rfl (fun v254 M254 => ?_)
      refine r_lstore (pc := 257) (lf := fun v257 => [(2, p2), (3, p3), (4, p4), (5, p5), (6, p6)]) (lg := fun v257 => [(8, v257)]) (lk := fun v257 => [(0, p0)]) E dX13_findActs_257 (by decide) (fun _ => rfl) (fun _ => rfl) (fun _ => rfl) (fun v257 => ?_)
      refine r_aload_n (pc := 259) E dX13_findActs_259 rfl 0 rfl ?_
      refine r_dup (pc := 260) E dX13_findActs_260 (rv_cat _ _) ?_
      refine r_getI (pc := 261) E fd_13_61 wf_RX13_443 dX13_findActs_261 (fun v261 => ?_)
      refine r_iconst (pc := 264) (v := 1) E dX13_findActs_264 (by decide) ?_
      refine r_iadd (pc := 265) E dX13_findActs_265 ?_
      refine r_putI (pc := 266) E fd_13_61 wf_RX13_443 dX13_findActs_266 (Or.inl rfl) (fun M266 => ?_)
      refine r_iconst (pc := 269) (v := 0) E dX13_findActs_269 (by decide) ?_
      refine r_istore_n (pc := 270) (lf := fun v270 => [(3, v270), (2, p2), (4, p4), (5, p5), (6, p6)]) (lg := fun v270 => [(8, v257)]) (lk := fun v270 => [(0, p0)]) E dX13_findActs_270 rfl (by decide) (fun _ => rfl) (fun _ => rfl) (fun _ => rfl) (fun v270 => ?_)
      refine r_iload (pc := 271) E dX13_findActs_271 2 rfl ?_
      refine r_iload (pc := 273) E dX13_findActs_273 4 rfl ?_
      refine r_iadd (pc := 275) E dX13_findActs_275 ?_
      refine r_istore (pc := 276) (lf := fun v276 => [(4, v276), (3, v270), (2, p2), (5, p5), (6, p6)]) (lg := fun v276 => [(8, v257)]) (lk := fun v276 => [(0, p0)]) E dX13_findActs_276 (by decide) (fun _ => rfl) (fun _ => rfl) (fun _ => rfl) (fun v276 => ?_)
      exact r_sub [2, 1, 0] [] [0] rfl rfl rfl (hL278 k15 hk15 p0 p2 v270 v276 _)
    · refine r_aload_n (pc := 159) E dX13_findActs_159 rfl 0 rfl ?_
      refine r_getA (pc := 160) E fd_13_67 wf_RX13_135 dX13_findActs_160 (fun v160 => ?_)
      refine r_aload_n (pc := 163) E dX13_findActs_163 rfl 0 rfl ?_
      refine r_getI (pc := 164) E fd_13_68 wf_RX13_446 dX13_findActs_164 (fun v164 => ?_)
      refine r_aload_n (pc := 167) E dX13_findActs_167 rfl 0 rfl ?_
      refine r_getA (pc := 168) E fd_13_0 wf_RX13_7 dX13_findActs_168 (fun v168 => ?_)
      refine r_iload (pc := 171) E dX13_findActs_171 2 rfl ?_
      refine r_baload (pc := 173) E dX13_findActs_173 (fun v173 => ?_)
      refine r_bastore (pc := 174) E dX13_findActs_174 (fun M174 => ?_)
      refine r_aload_n (pc := 175) E dX13_findActs_175 rfl 0 rfl ?_
      refine r_dup (pc := 176) E dX13_findActs_176 (rv_cat _ _) ?_
      refine r_getI (pc := 177) E fd_13_68 wf_RX13_446 dX13_findActs_177 (fun v177 => ?_)
      refine r_iconst (pc := 180) (v := 1) E dX13_findActs_180 (by decide) ?_
      refine r_iadd (pc := 181) E dX13_findActs_181 ?_
      refine r_putI (pc := 182) E fd_13_68 wf_RX13_446 dX13_findActs_182 (Or.inl rfl) (fun M182 => ?_)
      refine r_iinc (pc := 185) (w := 1) (lf := fun v185 => [(3, v185), (2, p2), (4, p4), (5, p5), (6, p6)]) (ll' := []) (lr' := [(0, p0)]) E dX13_findActs_185 1 rfl (by decide) (by decide) (fun _ => rfl) rfl rfl (fun v185 => ?_)
      refine r_iinc (pc := 188) (w := 1) (lf := fun v188 => [(4, v188), (3, v185), (2, p2), (5, p5), (6, p6)]) (ll' := []) (lr' := [(0, p0)]) E dX13_findActs_188 2 rfl (by decide) (by decide) (fun _ => rfl) rfl rfl (fun v188 => ?_)
      refine r_goto (pc := 191) (tgt := 278) E dX13_findActs_191 (by decide) ?_
      exact r_sub [2, 1, 0] [] [0] rfl rfl rfl (hL278 k15 hk15 p0 p2 v185 v188 _)
  have hL148 : ∀ (k15 : Option Nat × Int32 × Int32 × Int32 → Mem → Option (Unit × Mem)) (hk15 : ∀ a M, RT p l e rmX13_findActs s m args below meth c x 10 (QM below args s x (fun _ : Unit => none) rmX13_findActs.cells rmX13_findActs.slots) 0 0 (k15 a M) 15 [(2, a.2.1), (3, a.2.2.1), (4, a.2.2.2)] [] [(0, a.1)] [] M) (k41 : Option Nat × Int32 × Int32 × Int32 × Int32 × Int32 × Int32 × Int32 → Mem → Option (Unit × Mem)) (hk41 : ∀ a M, RT p l e rmX13_findActs s m args below meth c x 10 (QM below args s x (fun _ : Unit => none) rmX13_findActs.cells rmX13_findActs.slots) 0 0 (k41 a M) 41 [(2, a.2.1), (3, a.2.2.1), (4, a.2.2.2.1), (5, a.2.2.2.2.1), (6, a.2.2.2.2.2.1), (7, a.2.2.2.2.2.2.1), (8, a.2.2.2.2.2.2.2)] [] [(0, a.1)] [] M) (p0 : Option Nat) (p2 : Int32) (p3 : Int32) (p4 : Int32) (p5 : Int32) (p6 : Int32) (p7 : Int32) (p8 : Int32) (M : Mem), RT p l e rmX13_findActs s m args below meth c x 10 (QM below args s x (fun _ : Unit => none) rmX13_findActs.cells rmX13_findActs.slots) 0 0 (fX13_findActs_L148 k15 k41 p0 p2 p3 p4 p5 p6 p7 p8 M) 148 [(2, p2), (3, p3), (4, p4), (5, p5), (6, p6), (7, p7), (8, p8)] [] [(0, p0)] [] M := by
    intro k15 hk15 k41 hk41 p0 p2 p3 p4 p5 p6 p7 p8 M
    unfold fX13_findActs_L148
    refine r_iinc (pc := 148) (w := (-1)) (lf := fun v148 => [(8, v148), (2, p2), (3, p3), (4, p4), (5, p5), (6, p6), (7, p7)]) (ll' := []) (lr' := [(0, p0)]) E dX13_findActs_148 6 rfl (by decide) (by decide) (fun _ => rfl) rfl rfl (fun v148 => ?_)
    refine r_goto (pc := 151) (tgt := 41) E dX13_findActs_151 (by decide) ?_
    exact r_sub [1, 2, 3, 4, 5, 6, 0] [] [0] rfl rfl rfl (hk41 ((p0, p2, p3, p4, p5, p6, p7, v148)) _)
  have hL146 : ∀ (k15 : Option Nat × Int32 × Int32 × Int32 → Mem → Option (Unit × Mem)) (hk15 : ∀ a M, RT p l e rmX13_findActs s m args below meth c x 10 (QM below args s x (fun _ : Unit => none) rmX13_findActs.cells rmX13_findActs.slots) 0 0 (k15 a M) 15 [(2, a.2.1), (3, a.2.2.1), (4, a.2.2.2)] [] [(0, a.1)] [] M) (k41 : Option Nat × Int32 × Int32 × Int32 × Int32 × Int32 × Int32 × Int32 → Mem → Option (Unit × Mem)) (hk41 : ∀ a M, RT p l e rmX13_findActs s m args below meth c x 10 (QM below args s x (fun _ : Unit => none) rmX13_findActs.cells rmX13_findActs.slots) 0 0 (k41 a M) 41 [(2, a.2.1), (3, a.2.2.1), (4, a.2.2.2.1), (5, a.2.2.2.2.1), (6, a.2.2.2.2.2.1), (7, a.2.2.2.2.2.2.1), (8, a.2.2.2.2.2.2.2)] [] [(0, a.1)] [] M) (p0 : Option Nat) (p2 : Int32) (p3 : Int32) (p4 : Int32) (p5 : Int32) (p7 : Int32) (p8 : Int32) (q0 : Int32) (M : Mem), RT p l e rmX13_findActs s m args below meth c x 10 (QM below args s x (fun _ : Unit => none) rmX13_findActs.cells rmX13_findActs.slots) 0 0 (fX13_findActs_L146 k15 k41 p0 p2 p3 p4 p5 p7 p8 q0 M) 146 [(2, p2), (3, p3), (4, p4), (5, p5), (7, p7), (8, p8)] [] [(0, p0)] [.int q0] M := by
    intro k15 hk15 k41 hk41 p0 p2 p3 p4 p5 p7 p8 q0 M
    unfold fX13_findActs_L146
    refine r_istore (pc := 146) (lf := fun v146 => [(6, v146), (2, p2), (3, p3), (4, p4), (5, p5), (7, p7), (8, p8)]) (lg := fun v146 => []) (lk := fun v146 => [(0, p0)]) E dX13_findActs_146 (by decide) (fun _ => rfl) (fun _ => rfl) (fun _ => rfl) (fun v146 => ?_)
    exact r_sub [1, 2, 3, 4, 0, 5, 6] [] [0] rfl rfl rfl (hL148 k15 hk15 k41 hk41 p0 p2 p3 p4 p5 v146 p7 p8 _)
  have hL130 : ∀ (k15 : Option Nat × Int32 × Int32 × Int32 → Mem → Option (Unit × Mem)) (hk15 : ∀ a M, RT p l e rmX13_findActs s m args below meth c x 10 (QM below args s x (fun _ : Unit => none) rmX13_findActs.cells rmX13_findActs.slots) 0 0 (k15 a M) 15 [(2, a.2.1), (3, a.2.2.1), (4, a.2.2.2)] [] [(0, a.1)] [] M) (k41 : Option Nat × Int32 × Int32 × Int32 × Int32 × Int32 × Int32 × Int32 → Mem → Option (Unit × Mem)) (hk41 : ∀ a M, RT p l e rmX13_findActs s m args below meth c x 10 (QM below args s x (fun _ : Unit => none) rmX13_findActs.cells rmX13_findActs.slots) 0 0 (k41 a M) 41 [(2, a.2.1), (3, a.2.2.1), (4, a.2.2.2.1), (5, a.2.2.2.2.1), (6, a.2.2.2.2.2.1), (7, a.2.2.2.2.2.2.1), (8, a.2.2.2.2.2.2.2)] [] [(0, a.1)] [] M) (p0 : Option Nat) (p2 : Int32) (p3 : Int32) (p4 : Int32) (p6 : Int32) (p7 : Int32) (p8 : Int32) (p9 : Int32) (q0 : Int32) (M : Mem), RT p l e rmX13_findActs s m args below meth c x 10 (QM below args s x (fun _ : Unit => none) rmX13_findActs.cells rmX13_findActs.slots) 0 0 (fX13_findActs_L130 k15 k41 p0 p2 p3 p4 p6 p7 p8 p9 q0 M) 130 [(2, p2), (3, p3), (4, p4), (6, p6), (7, p7), (8, p8), (9, p9)] [] [(0, p0)] [.int q0] M := by
    intro k15 hk15 k41 hk41 p0 p2 p3 p4 p6 p7 p8 p9 q0 M
    unfold fX13_findActs_L130
    refine r_istore (pc := 130) (lf := fun v130 => [(5, v130), (2, p2), (3, p3), (4, p4), (6, p6), (7, p7), (8, p8), (9, p9)]) (lg := fun v130 => []) (lk := fun v130 => [(0, p0)]) E dX13_findActs_130 (by decide) (fun _ => rfl) (fun _ => rfl) (fun _ => rfl) (fun v130 => ?_)
    refine r_iload (pc := 132) E dX13_findActs_132 7 rfl ?_
    refine r_iload (pc := 134) E dX13_findActs_134 4 rfl ?_
    refine r_icmp_le (pc := 136) (tgt := 144) E dX13_findActs_136 (by decide) ?_ ?_
    · refine r_iload (pc := 144) E dX13_findActs_144 4 rfl ?_
      exact r_sub [1, 2, 3, 0, 5, 6] [] [0] rfl rfl rfl (hL146 k15 hk15 k41 hk41 p0 p2 p3 p4 v130 p7 p8 p6 _)
    · refine r_iload (pc := 139) E dX13_findActs_139 7 rfl ?_
      refine r_goto (pc := 141) (tgt := 146) E dX13_findActs_141 (by decide) ?_
      exact r_sub [1, 2, 3, 0, 5, 6] [] [0] rfl rfl rfl (hL146 k15 hk15 k41 hk41 p0 p2 p3 p4 v130 p7 p8 p9 _)
  have hL107 : ∀ (k15 : Option Nat × Int32 × Int32 × Int32 → Mem → Option (Unit × Mem)) (hk15 : ∀ a M, RT p l e rmX13_findActs s m args below meth c x 10 (QM below args s x (fun _ : Unit => none) rmX13_findActs.cells rmX13_findActs.slots) 0 0 (k15 a M) 15 [(2, a.2.1), (3, a.2.2.1), (4, a.2.2.2)] [] [(0, a.1)] [] M) (k41 : Option Nat × Int32 × Int32 × Int32 × Int32 × Int32 × Int32 × Int32 → Mem → Option (Unit × Mem)) (hk41 : ∀ a M, RT p l e rmX13_findActs s m args below meth c x 10 (QM below args s x (fun _ : Unit => none) rmX13_findActs.cells rmX13_findActs.slots) 0 0 (k41 a M) 41 [(2, a.2.1), (3, a.2.2.1), (4, a.2.2.2.1), (5, a.2.2.2.2.1), (6, a.2.2.2.2.2.1), (7, a.2.2.2.2.2.2.1), (8, a.2.2.2.2.2.2.2)] [] [(0, a.1)] [] M) (p0 : Option Nat) (p2 : Int32) (p3 : Int32) (p4 : Int32) (p5 : Int32) (p6 : Int32) (p7 : Int32) (p8 : Int32) (p9 : Int32) (M : Mem), RT p l e rmX13_findActs s m args below meth c x 10 (QM below args s x (fun _ : Unit => none) rmX13_findActs.cells rmX13_findActs.slots) 0 0 (fX13_findActs_L107 k15 k41 p0 p2 p3 p4 p5 p6 p7 p8 p9 M) 107 [(2, p2), (3, p3), (4, p4), (5, p5), (6, p6), (7, p7), (8, p8), (9, p9)] [] [(0, p0)] [] M := by
    intro k15 hk15 k41 hk41 p0 p2 p3 p4 p5 p6 p7 p8 p9 M
    unfold fX13_findActs_L107
    refine r_iload (pc := 107) E dX13_findActs_107 7 rfl ?_
    refine r_iconst (pc := 109) (v := 4) E dX13_findActs_109 (by decide) ?_
    refine r_icmp_lt (pc := 110) (tgt := 148) E dX13_findActs_110 (by decide) ?_ ?_
    · exact r_sub [0, 1, 2, 3, 4, 5, 6] [] [0] rfl rfl rfl (hL148 k15 hk15 k41 hk41 p0 p2 p3 p4 p5 p6 p7 p8 _)
    · refine r_iinc (pc := 113) (w := 1) (lf := fun v113 => [(7, v113), (2, p2), (3, p3), (4, p4), (5, p5), (6, p6), (8, p8), (9, p9)]) (ll' := []) (lr' := [(0, p0)]) E dX13_findActs_113 5 rfl (by decide) (by decide) (fun _ => rfl) rfl rfl (fun v113 => ?_)
      refine r_iload (pc := 116) E dX13_findActs_116 7 rfl ?_
      refine r_iload (pc := 118) E dX13_findActs_118 5 rfl ?_
      refine r_icmp_le (pc := 120) (tgt := 128) E dX13_findActs_120 (by decide) ?_ ?_
      · refine r_iload (pc := 128) E dX13_findActs_128 4 rfl ?_
        exact r_sub [1, 2, 3, 5, 0, 6, 7] [] [0] rfl rfl rfl (hL130 k15 hk15 k41 hk41 p0 p2 p3 p4 p6 v113 p8 p9 p5 _)
      · refine r_iload (pc := 123) E dX13_findActs_123 6 rfl ?_
        refine r_goto (pc := 125) (tgt := 130) E dX13_findActs_125 (by decide) ?_
        exact r_sub [1, 2, 3, 5, 0, 6, 7] [] [0] rfl rfl rfl (hL130 k15 hk15 k41 hk41 p0 p2 p3 p4 p6 v113 p8 p9 p8 _)
  have hL64 : ∀ (k15 : Option Nat × Int32 × Int32 × Int32 → Mem → Option (Unit × Mem)) (hk15 : ∀ a M, RT p l e rmX13_findActs s m args below meth c x 10 (QM below args s x (fun _ : Unit => none) rmX13_findActs.cells rmX13_findActs.slots) 0 0 (k15 a M) 15 [(2, a.2.1), (3, a.2.2.1), (4, a.2.2.2)] [] [(0, a.1)] [] M) (k41 : Option Nat × Int32 × Int32 × Int32 × Int32 × Int32 × Int32 × Int32 → Mem → Option (Unit × Mem)) (hk41 : ∀ a M, RT p l e rmX13_findActs s m args below meth c x 10 (QM below args s x (fun _ : Unit => none) rmX13_findActs.cells rmX13_findActs.slots) 0 0 (k41 a M) 41 [(2, a.2.1), (3, a.2.2.1), (4, a.2.2.2.1), (5, a.2.2.2.2.1), (6, a.2.2.2.2.2.1), (7, a.2.2.2.2.2.2.1), (8, a.2.2.2.2.2.2.2)] [] [(0, a.1)] [] M) (p0 : Option Nat) (p2 : Int32) (p3 : Int32) (p4 : Int32) (p5 : Int32) (p6 : Int32) (p7 : Int32) (p8 : Int32) (p9 : Int32) (M : Mem), RT p l e rmX13_findActs s m args below meth c x 10 (QM below args s x (fun _ : Unit => none) rmX13_findActs.cells rmX13_findActs.slots) 0 0 (fX13_findActs_L64 k15 k41 p0 p2 p3 p4 p5 p6 p7 p8 p9 M) 64 [(2, p2), (3, p3), (4, p4), (5, p5), (6, p6), (7, p7), (8, p8), (9, p9)] [] [(0, p0)] [] M := by
    intro k15 hk15 k41 hk41 p0 p2 p3 p4 p5 p6 p7 p8 p9 M
    refine r_lp (fi := fun a : Option Nat × Int32 × Int32 × Int32 × Int32 × Int32 × Int32 × Int32 × Int32 => [(2, a.2.1), (3, a.2.2.1), (4, a.2.2.2.1), (5, a.2.2.2.2.1), (6, a.2.2.2.2.2.1), (7, a.2.2.2.2.2.2.1), (8, a.2.2.2.2.2.2.2.1), (9, a.2.2.2.2.2.2.2.2)]) (fl := fun a : Option Nat × Int32 × Int32 × Int32 × Int32 × Int32 × Int32 × Int32 × Int32 => []) (fr := fun a : Option Nat × Int32 × Int32 × Int32 × Int32 × Int32 × Int32 × Int32 × Int32 => [(0, a.1)]) (fs := fun a : Option Nat × Int32 × Int32 × Int32 × Int32 × Int32 × Int32 × Int32 × Int32 => []) ?_ FU ((p0, p2, p3, p4, p5, p6, p7, p8, p9)) M
    intro k64 hk64 a M
    obtain ⟨p0, p2, p3, p4, p5, p6, p7, p8, p9⟩ := a
    show RT p l e rmX13_findActs s m args below meth c x 10 (QM below args s x (fun _ : Unit => none) rmX13_findActs.cells rmX13_findActs.slots) 0 0 (fX13_findActs_B64 k15 k41 k64 p0 p2 p3 p4 p5 p6 p7 p8 p9 M) 64 [(2, p2), (3, p3), (4, p4), (5, p5), (6, p6), (7, p7), (8, p8), (9, p9)] [] [(0, p0)] [] M
    unfold fX13_findActs_B64
    refine r_iload (pc := 64) E dX13_findActs_64 2 rfl ?_
    refine r_iload (pc := 66) E dX13_findActs_66 7 rfl ?_
    refine r_iadd (pc := 68) E dX13_findActs_68 ?_
    refine r_iload_n (pc := 69) E dX13_findActs_69 rfl 0 rfl ?_
    refine r_icmp_ge (pc := 70) (tgt := 107) E dX13_findActs_70 (by decide) ?_ ?_
    · exact r_sub [0, 1, 2, 3, 4, 5, 6, 7] [] [0] rfl rfl rfl (hL107 k15 hk15 k41 hk41 p0 p2 p3 p4 p5 p6 p7 p8 p9 _)
    · refine r_aload_n (pc := 73) E dX13_findActs_73 rfl 0 rfl ?_
      refine r_getA (pc := 74) E fd_13_57 wf_RX13_111 dX13_findActs_74 (fun v74 => ?_)
      refine r_iload (pc := 77) E dX13_findActs_77 6 rfl ?_
      refine r_iload (pc := 79) E dX13_findActs_79 7 rfl ?_
      refine r_iadd (pc := 81) E dX13_findActs_81 ?_
      refine r_baload (pc := 82) E dX13_findActs_82 (fun v82 => ?_)
      refine r_aload_n (pc := 83) E dX13_findActs_83 rfl 0 rfl ?_
      refine r_getA (pc := 84) E fd_13_57 wf_RX13_111 dX13_findActs_84 (fun v84 => ?_)
      refine r_aload_n (pc := 87) E dX13_findActs_87 rfl 0 rfl ?_
      refine r_getI (pc := 88) E fd_13_58 wf_RX13_424 dX13_findActs_88 (fun v88 => ?_)
      refine r_iload (pc := 91) E dX13_findActs_91 2 rfl ?_
      refine r_iadd (pc := 93) E dX13_findActs_93 ?_
      refine r_iload (pc := 94) E dX13_findActs_94 7 rfl ?_
      refine r_iadd (pc := 96) E dX13_findActs_96 ?_
      refine r_baload (pc := 97) E dX13_findActs_97 (fun v97 => ?_)
      refine r_icmp_ne (pc := 98) (tgt := 107) E dX13_findActs_98 (by decide) ?_ ?_
      · exact r_sub [0, 1, 2, 3, 4, 5, 6, 7] [] [0] rfl rfl rfl (hL107 k15 hk15 k41 hk41 p0 p2 p3 p4 p5 p6 p7 p8 p9 _)
      · refine r_iinc (pc := 101) (w := 1) (lf := fun v101 => [(9, v101), (2, p2), (3, p3), (4, p4), (5, p5), (6, p6), (7, p7), (8, p8)]) (ll' := []) (lr' := [(0, p0)]) E dX13_findActs_101 7 rfl (by decide) (by decide) (fun _ => rfl) rfl rfl (fun v101 => ?_)
        refine r_goto (pc := 104) (tgt := 64) E dX13_findActs_104 (by decide) ?_
        exact r_sub [1, 2, 3, 4, 5, 6, 7, 0] [] [0] rfl rfl rfl (hk64 ((p0, p2, p3, p4, p5, p6, p7, p8, v101)) _)
  have hL41 : ∀ (k15 : Option Nat × Int32 × Int32 × Int32 → Mem → Option (Unit × Mem)) (hk15 : ∀ a M, RT p l e rmX13_findActs s m args below meth c x 10 (QM below args s x (fun _ : Unit => none) rmX13_findActs.cells rmX13_findActs.slots) 0 0 (k15 a M) 15 [(2, a.2.1), (3, a.2.2.1), (4, a.2.2.2)] [] [(0, a.1)] [] M) (p0 : Option Nat) (p2 : Int32) (p3 : Int32) (p4 : Int32) (p5 : Int32) (p6 : Int32) (p7 : Int32) (p8 : Int32) (M : Mem), RT p l e rmX13_findActs s m args below meth c x 10 (QM below args s x (fun _ : Unit => none) rmX13_findActs.cells rmX13_findActs.slots) 0 0 (fX13_findActs_L41 k15 p0 p2 p3 p4 p5 p6 p7 p8 M) 41 [(2, p2), (3, p3), (4, p4), (5, p5), (6, p6), (7, p7), (8, p8)] [] [(0, p0)] [] M := by
    intro k15 hk15 p0 p2 p3 p4 p5 p6 p7 p8 M
    refine r_lp (fi := fun a : Option Nat × Int32 × Int32 × Int32 × Int32 × Int32 × Int32 × Int32 => [(2, a.2.1), (3, a.2.2.1), (4, a.2.2.2.1), (5, a.2.2.2.2.1), (6, a.2.2.2.2.2.1), (7, a.2.2.2.2.2.2.1), (8, a.2.2.2.2.2.2.2)]) (fl := fun a : Option Nat × Int32 × Int32 × Int32 × Int32 × Int32 × Int32 × Int32 => []) (fr := fun a : Option Nat × Int32 × Int32 × Int32 × Int32 × Int32 × Int32 × Int32 => [(0, a.1)]) (fs := fun a : Option Nat × Int32 × Int32 × Int32 × Int32 × Int32 × Int32 × Int32 => []) ?_ FU ((p0, p2, p3, p4, p5, p6, p7, p8)) M
    intro k41 hk41 a M
    obtain ⟨p0, p2, p3, p4, p5, p6, p7, p8⟩ := a
    show RT p l e rmX13_findActs s m args below meth c x 10 (QM below args s x (fun _ : Unit => none) rmX13_findActs.cells rmX13_findActs.slots) 0 0 (fX13_findActs_B41 k15 k41 p0 p2 p3 p4 p5 p6 p7 p8 M) 41 [(2, p2), (3, p3), (4, p4), (5, p5), (6, p6), (7, p7), (8, p8)] [] [(0, p0)] [] M
    unfold fX13_findActs_B41
    refine r_iload (pc := 41) E dX13_findActs_41 6 rfl ?_
    refine r_if_lt (pc := 43) (tgt := 154) E dX13_findActs_43 (by decide) ?_ ?_
    · exact r_sub [0, 1, 2, 3, 4] [] [0] rfl rfl rfl (hL154 k15 hk15 p0 p2 p3 p4 p5 p6 _)
    · refine r_iload (pc := 46) E dX13_findActs_46 5 rfl ?_
      refine r_bipush (pc := 48) (v := 8) E dX13_findActs_48 (by decide) ?_
      refine r_icmp_ge (pc := 50) (tgt := 154) E dX13_findActs_50 (by decide) ?_ ?_
      · exact r_sub [0, 1, 2, 3, 4] [] [0] rfl rfl rfl (hL154 k15 hk15 p0 p2 p3 p4 p5 p6 _)
      · refine r_iload (pc := 53) E dX13_findActs_53 2 rfl ?_
        refine r_iconst (pc := 55) (v := 4) E dX13_findActs_55 (by decide) ?_
        refine r_iadd (pc := 56) E dX13_findActs_56 ?_
        refine r_iload_n (pc := 57) E dX13_findActs_57 rfl 0 rfl ?_
        refine r_icmp_gt (pc := 58) (tgt := 154) E dX13_findActs_58 (by decide) ?_ ?_
        · exact r_sub [0, 1, 2, 3, 4] [] [0] rfl rfl rfl (hL154 k15 hk15 p0 p2 p3 p4 p5 p6 _)
        · refine r_iconst (pc := 61) (v := 0) E dX13_findActs_61 (by decide) ?_
          refine r_istore (pc := 62) (lf := fun v62 => [(9, v62), (2, p2), (3, p3), (4, p4), (5, p5), (6, p6), (7, p7), (8, p8)]) (lg := fun v62 => []) (lk := fun v62 => [(0, p0)]) E dX13_findActs_62 (by decide) (fun _ => rfl) (fun _ => rfl) (fun _ => rfl) (fun v62 => ?_)
          exact r_sub [1, 2, 3, 4, 5, 6, 7, 0] [] [0] rfl rfl rfl (hL64 k15 hk15 k41 hk41 p0 p2 p3 p4 p5 p6 p7 p8 v62 _)
  have hL15 : ∀ (p0 : Option Nat) (p2 : Int32) (p3 : Int32) (p4 : Int32) (M : Mem), RT p l e rmX13_findActs s m args below meth c x 10 (QM below args s x (fun _ : Unit => none) rmX13_findActs.cells rmX13_findActs.slots) 0 0 (fX13_findActs_L15 p0 p2 p3 p4 M) 15 [(2, p2), (3, p3), (4, p4)] [] [(0, p0)] [] M := by
    intro p0 p2 p3 p4 M
    refine r_lp (fi := fun a : Option Nat × Int32 × Int32 × Int32 => [(2, a.2.1), (3, a.2.2.1), (4, a.2.2.2)]) (fl := fun a : Option Nat × Int32 × Int32 × Int32 => []) (fr := fun a : Option Nat × Int32 × Int32 × Int32 => [(0, a.1)]) (fs := fun a : Option Nat × Int32 × Int32 × Int32 => []) ?_ FU ((p0, p2, p3, p4)) M
    intro k15 hk15 a M
    obtain ⟨p0, p2, p3, p4⟩ := a
    show RT p l e rmX13_findActs s m args below meth c x 10 (QM below args s x (fun _ : Unit => none) rmX13_findActs.cells rmX13_findActs.slots) 0 0 (fX13_findActs_B15 k15 p0 p2 p3 p4 M) 15 [(2, p2), (3, p3), (4, p4)] [] [(0, p0)] [] M
    unfold fX13_findActs_B15
    refine r_iload (pc := 15) E dX13_findActs_15 2 rfl ?_
    refine r_iload_n (pc := 17) E dX13_findActs_17 rfl 0 rfl ?_
    refine r_icmp_ge (pc := 18) (tgt := 281) E dX13_findActs_18 (by decide) ?_ ?_
    · exact e_void (pc := 281) E dX13_findActs_281
    · refine r_iconst (pc := 21) (v := (-1)) E dX13_findActs_21 (by decide) ?_
      refine r_istore (pc := 22) (lf := fun v22 => [(5, v22), (2, p2), (3, p3), (4, p4)]) (lg := fun v22 => []) (lk := fun v22 => [(0, p0)]) E dX13_findActs_22 (by decide) (fun _ => rfl) (fun _ => rfl) (fun _ => rfl) (fun v22 => ?_)
      refine r_iconst (pc := 24) (v := 0) E dX13_findActs_24 (by decide) ?_
      refine r_istore (pc := 25) (lf := fun v25 => [(6, v25), (5, v22), (2, p2), (3, p3), (4, p4)]) (lg := fun v25 => []) (lk := fun v25 => [(0, p0)]) E dX13_findActs_25 (by decide) (fun _ => rfl) (fun _ => rfl) (fun _ => rfl) (fun v25 => ?_)
      refine r_iconst (pc := 27) (v := 0) E dX13_findActs_27 (by decide) ?_
      refine r_istore (pc := 28) (lf := fun v28 => [(7, v28), (6, v25), (5, v22), (2, p2), (3, p3), (4, p4)]) (lg := fun v28 => []) (lk := fun v28 => [(0, p0)]) E dX13_findActs_28 (by decide) (fun _ => rfl) (fun _ => rfl) (fun _ => rfl) (fun v28 => ?_)
      refine r_aload_n (pc := 30) E dX13_findActs_30 rfl 0 rfl ?_
      refine r_getI (pc := 31) E fd_13_58 wf_RX13_424 dX13_findActs_31 (fun v31 => ?_)
      refine r_iload (pc := 34) E dX13_findActs_34 5 rfl ?_
      refine r_iadd (pc := 36) E dX13_findActs_36 ?_
      refine r_iconst (pc := 37) (v := 1) E dX13_findActs_37 (by decide) ?_
      refine r_isub (pc := 38) E dX13_findActs_38 ?_
      refine r_istore (pc := 39) (lf := fun v39 => [(8, v39), (7, v28), (6, v25), (5, v22), (2, p2), (3, p3), (4, p4)]) (lg := fun v39 => []) (lk := fun v39 => [(0, p0)]) E dX13_findActs_39 (by decide) (fun _ => rfl) (fun _ => rfl) (fun _ => rfl) (fun v39 => ?_)
      exact r_sub [4, 5, 6, 3, 2, 1, 0] [] [0] rfl rfl rfl (hL41 k15 hk15 p0 p2 p3 p4 v22 v25 v28 v39 _)
  show RT p l e rmX13_findActs s m args below meth c x 10 (QM below args s x (fun _ : Unit => none) rmX13_findActs.cells rmX13_findActs.slots) 0 0 (fX13_findActs a0 a1 a2 M) 0 [(1, a1), (2, a2)] [] [(0, a0)] [] M
  unfold fX13_findActs
  refine r_aload_n (pc := 0) E dX13_findActs_0 rfl 0 rfl ?_
  refine r_iconst (pc := 1) (v := 0) E dX13_findActs_1 (by decide) ?_
  refine r_putI (pc := 2) E fd_13_61 wf_RX13_443 dX13_findActs_2 (Or.inl rfl) (fun M2 => ?_)
  refine r_aload_n (pc := 5) E dX13_findActs_5 rfl 0 rfl ?_
  refine r_iconst (pc := 6) (v := 0) E dX13_findActs_6 (by decide) ?_
  refine r_putI (pc := 7) E fd_13_68 wf_RX13_446 dX13_findActs_7 (Or.inl rfl) (fun M7 => ?_)
  refine r_iconst (pc := 10) (v := 0) E dX13_findActs_10 (by decide) ?_
  refine r_istore_n (pc := 11) (lf := fun v11 => [(3, v11), (1, a1), (2, a2)]) (lg := fun v11 => []) (lk := fun v11 => [(0, a0)]) E dX13_findActs_11 rfl (by decide) (fun _ => rfl) (fun _ => rfl) (fun _ => rfl) (fun v11 => ?_)
  refine r_iload_n (pc := 12) E dX13_findActs_12 rfl 1 rfl ?_
  refine r_istore (pc := 13) (lf := fun v13 => [(4, v13), (3, v11), (1, a1), (2, a2)]) (lg := fun v13 => []) (lk := fun v13 => [(0, a0)]) E dX13_findActs_13 (by decide) (fun _ => rfl) (fun _ => rfl) (fun _ => rfl) (fun v13 => ?_)
  exact r_sub [3, 1, 0] [] [0] rfl rfl rfl (hL15 a0 a2 v11 v13 _)
def fX13_sayHead_L44 (M : Mem) : Option (Unit × Mem) :=
  some ((), M)
def fX13_sayHead (a0 : Option Nat) (a1 : Int32) (M : Mem) : Option (Unit × Mem) :=
  bo (gI M a0 13 68) fun v1 =>
  if 32 ≤ v1 then (
    bo (gI M a0 13 68) fun v34 =>
    bo (chk M a0 13) fun _ => bd (fX13_say a0 (((a1 + 4) + (16 * v34)).toInt64) 2 M) fun v41 M41 =>
    fX13_sayHead_L44 M41
  ) else (
    bo (gI M a0 13 68) fun v14 =>
    bo (chk M a0 13) fun _ => bd (fX13_say a0 ((a1 + (8 * v14)).toInt64) 1 M) fun v21 M21 =>
    fX13_sayHead_L44 M21
  )
def rmX13_sayHead : Room := { frames := 1, cells := 0, slots := 0, locals := 24 }
set_option maxRecDepth 100000 in
set_option maxHeartbeats 4000000 in
theorem ctX13_sayHead (l : Launch) (x : Cx) (a0 : Option Nat) (a1 : Int32) (M : Mem) (v : Unit) (N : Mem) (h : fX13_sayHead a0 a1 M = some (v, N)) : CT l yX13_sayHead cX13_sayHead 2 (none) rmX13_sayHead x [rv x a0, .int a1] M none N := by
  refine ct_mk (enc := fun _ : Unit => none) (li := [(1, a1)]) (ll := []) (lr := [(0, a0)]) (by decide +kernel) (by simp [lg_sl, rv_cat, cat_int, cat_long]) (by simp [flat, lv_args, rv_cat, cat_int, cat_long]) h ?_
  intro p e s m args below meth c E
  have hL44 : ∀ (M : Mem), RT p l e rmX13_sayHead s m args below meth c x 2 (QM below args s x (fun _ : Unit => none) rmX13_sayHead.cells rmX13_sayHead.slots) 0 0 (fX13_sayHead_L44 M) 44 [] [] [] [] M := by
    intro M
    unfold fX13_sayHead_L44
    exact e_void (pc := 44) E dX13_sayHead_44
  show RT p l e rmX13_sayHead s m args below meth c x 2 (QM below args s x (fun _ : Unit => none) rmX13_sayHead.cells rmX13_sayHead.slots) 0 0 (fX13_sayHead a0 a1 M) 0 [(1, a1)] [] [(0, a0)] [] M
  unfold fX13_sayHead
  refine r_aload_n (pc := 0) E dX13_sayHead_0 rfl 0 rfl ?_
  refine r_getI (pc := 1) E fd_13_68 wf_RX13_446 dX13_sayHead_1 (fun v1 => ?_)
  refine r_bipush (pc := 4) (v := 32) E dX13_sayHead_4 (by decide) ?_
  refine r_icmp_ge (pc := 6) (tgt := 27) E dX13_sayHead_6 (by decide) ?_ ?_
  · refine r_aload_n (pc := 27) E dX13_sayHead_27 rfl 0 rfl ?_
    refine r_iload_n (pc := 28) E dX13_sayHead_28 rfl 0 rfl ?_
    refine r_iconst (pc := 29) (v := 4) E dX13_sayHead_29 (by decide) ?_
    refine r_iadd (pc := 30) E dX13_sayHead_30 ?_
    refine r_bipush (pc := 31) (v := 16) E dX13_sayHead_31 (by decide) ?_
    refine r_aload_n (pc := 33) E dX13_sayHead_33 rfl 0 rfl ?_
    refine r_getI (pc := 34) E fd_13_68 wf_RX13_446 dX13_sayHead_34 (fun v34 => ?_)
    refine r_imul (pc := 37) E dX13_sayHead_37 ?_
    refine r_iadd (pc := 38) E dX13_sayHead_38 ?_
    refine r_i2l (pc := 39) E dX13_sayHead_39 ?_
    refine r_iconst (pc := 40) (v := 2) E dX13_sayHead_40 (by decide) ?_
    refine r_kVv (pc := 41) (As := [.long (((a1 + 4) + (16 * v34)).toInt64), .int 2]) (rest := []) E wc_X13_say wi_RX13 hd_X13_say (ci := 13) rfl wl_RX13_418 wn_X13_say ws_X13_say dX13_sayHead_41 (by decide) (Nat.le_of_ble_eq_true rfl) ⟨rfl, rfl⟩ (ctX13_say l x _ _ _ _) rfl (fun v41 M41 => ?_)
    exact r_sub [] [] [] rfl rfl rfl (hL44 _)
  · refine r_aload_n (pc := 9) E dX13_sayHead_9 rfl 0 rfl ?_
    refine r_iload_n (pc := 10) E dX13_sayHead_10 rfl 0 rfl ?_
    refine r_bipush (pc := 11) (v := 8) E dX13_sayHead_11 (by decide) ?_
    refine r_aload_n (pc := 13) E dX13_sayHead_13 rfl 0 rfl ?_
    refine r_getI (pc := 14) E fd_13_68 wf_RX13_446 dX13_sayHead_14 (fun v14 => ?_)
    refine r_imul (pc := 17) E dX13_sayHead_17 ?_
    refine r_iadd (pc := 18) E dX13_sayHead_18 ?_
    refine r_i2l (pc := 19) E dX13_sayHead_19 ?_
    refine r_iconst (pc := 20) (v := 1) E dX13_sayHead_20 (by decide) ?_
    refine r_kVv (pc := 21) (As := [.long ((a1 + (8 * v14)).toInt64), .int 1]) (rest := []) E wc_X13_say wi_RX13 hd_X13_say (ci := 13) rfl wl_RX13_418 wn_X13_say ws_X13_say dX13_sayHead_21 (by decide) (Nat.le_of_ble_eq_true rfl) ⟨rfl, rfl⟩ (ctX13_say l x _ _ _ _) rfl (fun v21 M21 => ?_)
    refine r_goto (pc := 24) (tgt := 44) E dX13_sayHead_24 (by decide) ?_
    exact r_sub [] [] [] rfl rfl rfl (hL44 _)
def fX13_areCoded_L48 (q0 : Int32) (M : Mem) : Option (Int32 × Mem) :=
  rtZ q0 M
def fX13_areCoded_B2 (k2 : Option Nat × Int32 → Mem → Option (Int32 × Mem)) (p0 : Option Nat) (p1 : Int32) (M : Mem) : Option (Int32 × Mem) :=
  bo (gI M p0 13 68) fun v4 =>
  if v4 ≤ p1 then (
    bo (gR M p0 13 67) fun v29 =>
    bo (gI M p0 13 68) fun v34 =>
    bo (chk M p0 13) fun _ => bd (fX13_areSame p0 v29 0 v34 M) fun v37 M37 =>
    if v37 = 0 then (
      fX13_areCoded_L48 1 M37
    ) else (
      fX13_areCoded_L48 0 M37
    )
  ) else (
    bo (gR M p0 13 67) fun v11 =>
    bo (aI M v11 14 p1) fun v15 =>
    if 0 ≤ v15 then (
      bn (p1 + 1) fun v21 =>
      k2 ((p0, v21)) M
    ) else (
      rtZ 0 M
    )
  )
def fX13_areCoded_L2 (p0 : Option Nat) (p1 : Int32) (M : Mem) : Option (Int32 × Mem) :=
  lp (fun k2 (a : Option Nat × Int32) M => fX13_areCoded_B2 k2 a.1 a.2 M) FU ((p0, p1)) M
def fX13_areCoded (a0 : Option Nat) (M : Mem) : Option (Int32 × Mem) :=
  bn (0) fun v1 =>
  fX13_areCoded_L2 a0 v1 M
def rmX13_areCoded : Room := { frames := 1, cells := 0, slots := 0, locals := 24 }
set_option maxRecDepth 100000 in
set_option maxHeartbeats 4000000 in
theorem ctX13_areCoded (l : Launch) (x : Cx) (a0 : Option Nat) (M : Mem) (v : Int32) (N : Mem) (h : fX13_areCoded a0 M = some (v, N)) : CT l yX13_areCoded cX13_areCoded 2 (some (FieldType.boolean)) rmX13_areCoded x [rv x a0] M (some (.int v)) N := by
  refine ct_mk (enc := fun v : Int32 => some (.int v)) (li := []) (ll := []) (lr := [(0, a0)]) (by decide +kernel) (by simp [lg_sl, rv_cat, cat_int, cat_long]) (by simp [flat, lv_args, rv_cat, cat_int, cat_long]) h ?_
  intro p e s m args below meth c E
  have hL48 : ∀ (q0 : Int32) (M : Mem), RT p l e rmX13_areCoded s m args below meth c x 2 (QM below args s x (fun v : Int32 => some (.int v)) rmX13_areCoded.cells rmX13_areCoded.slots) 0 0 (fX13_areCoded_L48 q0 M) 48 [] [] [] [.int q0] M := by
    intro q0 M
    unfold fX13_areCoded_L48
    exact e_bool (pc := 48) E dX13_areCoded_48
  have hL2 : ∀ (p0 : Option Nat) (p1 : Int32) (M : Mem), RT p l e rmX13_areCoded s m args below meth c x 2 (QM below args s x (fun v : Int32 => some (.int v)) rmX13_areCoded.cells rmX13_areCoded.slots) 0 0 (fX13_areCoded_L2 p0 p1 M) 2 [(1, p1)] [] [(0, p0)] [] M := by
    intro p0 p1 M
    refine r_lp (fi := fun a : Option Nat × Int32 => [(1, a.2)]) (fl := fun a : Option Nat × Int32 => []) (fr := fun a : Option Nat × Int32 => [(0, a.1)]) (fs := fun a : Option Nat × Int32 => []) ?_ FU ((p0, p1)) M
    intro k2 hk2 a M
    obtain ⟨p0, p1⟩ := a
    show RT p l e rmX13_areCoded s m args below meth c x 2 (QM below args s x (fun v : Int32 => some (.int v)) rmX13_areCoded.cells rmX13_areCoded.slots) 0 0 (fX13_areCoded_B2 k2 p0 p1 M) 2 [(1, p1)] [] [(0, p0)] [] M
    unfold fX13_areCoded_B2
    refine r_iload_n (pc := 2) E dX13_areCoded_2 rfl 0 rfl ?_
    refine r_aload_n (pc := 3) E dX13_areCoded_3 rfl 0 rfl ?_
    refine r_getI (pc := 4) E fd_13_68 wf_RX13_446 dX13_areCoded_4 (fun v4 => ?_)
    refine r_icmp_ge (pc := 7) (tgt := 27) E dX13_areCoded_7 (by decide) ?_ ?_
    · refine r_aload_n (pc := 27) E dX13_areCoded_27 rfl 0 rfl ?_
      refine r_aload_n (pc := 28) E dX13_areCoded_28 rfl 0 rfl ?_
      refine r_getA (pc := 29) E fd_13_67 wf_RX13_135 dX13_areCoded_29 (fun v29 => ?_)
      refine r_iconst (pc := 32) (v := 0) E dX13_areCoded_32 (by decide) ?_
      refine r_aload_n (pc := 33) E dX13_areCoded_33 rfl 0 rfl ?_
      refine r_getI (pc := 34) E fd_13_68 wf_RX13_446 dX13_areCoded_34 (fun v34 => ?_)
      refine r_kVi (pc := 37) (As := [rv x v29, .int 0, .int v34]) (rest := []) E wc_X13_areSame wi_RX13 hd_X13_areSame (ci := 13) rfl wl_RX13_430 wn_X13_areSame ws_X13_areSame dX13_areCoded_37 (by decide) (Nat.le_of_ble_eq_true rfl) ⟨rfl, rfl⟩ (ctX13_areSame l x _ _ _ _ _) rfl (fun v37 M37 => ?_)
      refine r_if_ne (pc := 40) (tgt := 47) E dX13_areCoded_40 (by decide) ?_ ?_
      · refine r_iconst (pc := 47) (v := 0) E dX13_areCoded_47 (by decide) ?_
        exact r_sub [] [] [] rfl rfl rfl (hL48 0 _)
      · refine r_iconst (pc := 43) (v := 1) E dX13_areCoded_43 (by decide) ?_
        refine r_goto (pc := 44) (tgt := 48) E dX13_areCoded_44 (by decide) ?_
        exact r_sub [] [] [] rfl rfl rfl (hL48 1 _)
    · refine r_aload_n (pc := 10) E dX13_areCoded_10 rfl 0 rfl ?_
      refine r_getA (pc := 11) E fd_13_67 wf_RX13_135 dX13_areCoded_11 (fun v11 => ?_)
      refine r_iload_n (pc := 14) E dX13_areCoded_14 rfl 0 rfl ?_
      refine r_baload (pc := 15) E dX13_areCoded_15 (fun v15 => ?_)
      refine r_if_ge (pc := 16) (tgt := 21) E dX13_areCoded_16 (by decide) ?_ ?_
      · refine r_iinc (pc := 21) (w := 1) (lf := fun v21 => [(1, v21)]) (ll' := []) (lr' := [(0, p0)]) E dX13_areCoded_21 0 rfl (by decide) (by decide) (fun _ => rfl) rfl rfl (fun v21 => ?_)
        refine r_goto (pc := 24) (tgt := 2) E dX13_areCoded_24 (by decide) ?_
        exact r_sub [0] [] [0] rfl rfl rfl (hk2 ((p0, v21)) _)
      · refine r_iconst (pc := 19) (v := 0) E dX13_areCoded_19 (by decide) ?_
        exact e_bool (pc := 20) E dX13_areCoded_20
  show RT p l e rmX13_areCoded s m args below meth c x 2 (QM below args s x (fun v : Int32 => some (.int v)) rmX13_areCoded.cells rmX13_areCoded.slots) 0 0 (fX13_areCoded a0 M) 0 [] [] [(0, a0)] [] M
  unfold fX13_areCoded
  refine r_iconst (pc := 0) (v := 0) E dX13_areCoded_0 (by decide) ?_
  refine r_istore_n (pc := 1) (lf := fun v1 => [(1, v1)]) (lg := fun v1 => []) (lk := fun v1 => [(0, a0)]) E dX13_areCoded_1 rfl (by decide) (fun _ => rfl) (fun _ => rfl) (fun _ => rfl) (fun v1 => ?_)
  exact r_sub [0] [] [0] rfl rfl rfl (hL2 a0 v1 _)
def fX13_least_L40 (k4 : Option Nat × Int32 × Int32 × Int32 → Mem → Option (Int32 × Mem)) (p0 : Option Nat) (p1 : Int32) (p2 : Int32) (p3 : Int32) (M : Mem) : Option (Int32 × Mem) :=
  bn (p3 + 1) fun v40 =>
  k4 ((p0, p1, p2, v40)) M
def fX13_least_L38 (k4 : Option Nat × Int32 × Int32 × Int32 → Mem → Option (Int32 × Mem)) (p0 : Option Nat) (p1 : Int32) (p3 : Int32) (M : Mem) : Option (Int32 × Mem) :=
  bn (p3) fun v39 =>
  fX13_least_L40 k4 p0 p1 v39 p3 M
def fX13_least_B4 (k4 : Option Nat × Int32 × Int32 × Int32 → Mem → Option (Int32 × Mem)) (p0 : Option Nat) (p1 : Int32) (p2 : Int32) (p3 : Int32) (M : Mem) : Option (Int32 × Mem) :=
  if p1 ≤ p3 then (
    some (p2, M)
  ) else (
    bo (gR M p0 13 72) fun v10 =>
    bo (aI M v10 18 p3) fun v14 =>
    if v14 = 0 then (
      if p2 < 0 then (
        fX13_least_L38 k4 p0 p1 p3 M
      ) else (
        bo (gR M p0 13 70) fun v23 =>
        bo (aJ M v23 p3) fun v27 =>
        bo (gR M p0 13 70) fun v29 =>
        bo (aJ M v29 p2) fun v33 =>
        if 0 ≤ (lg_cmp v27 v33) then (
          fX13_least_L40 k4 p0 p1 p2 p3 M
        ) else (
          fX13_least_L38 k4 p0 p1 p3 M
        )
      )
    ) else (
      fX13_least_L40 k4 p0 p1 p2 p3 M
    )
  )
def fX13_least_L4 (p0 : Option Nat) (p1 : Int32) (p2 : Int32) (p3 : Int32) (M : Mem) : Option (Int32 × Mem) :=
  lp (fun k4 (a : Option Nat × Int32 × Int32 × Int32) M => fX13_least_B4 k4 a.1 a.2.1 a.2.2.1 a.2.2.2 M) FU ((p0, p1, p2, p3)) M
def fX13_least (a0 : Option Nat) (a1 : Int32) (M : Mem) : Option (Int32 × Mem) :=
  bn ((-1)) fun v1 =>
  bn (0) fun v3 =>
  fX13_least_L4 a0 a1 v1 v3 M
def rmX13_least : Room := { frames := 0, cells := 0, slots := 0, locals := 0 }
set_option maxRecDepth 100000 in
set_option maxHeartbeats 4000000 in
theorem ctX13_least (l : Launch) (x : Cx) (a0 : Option Nat) (a1 : Int32) (M : Mem) (v : Int32) (N : Mem) (h : fX13_least a0 a1 M = some (v, N)) : CT l yX13_least cX13_least 4 (some (FieldType.int)) rmX13_least x [rv x a0, .int a1] M (some (.int v)) N := by
  refine ct_mk (enc := fun v : Int32 => some (.int v)) (li := [(1, a1)]) (ll := []) (lr := [(0, a0)]) (by decide +kernel) (by simp [lg_sl, rv_cat, cat_int, cat_long]) (by simp [flat, lv_args, rv_cat, cat_int, cat_long]) h ?_
  intro p e s m args below meth c E
  have hL40 : ∀ (k4 : Option Nat × Int32 × Int32 × Int32 → Mem → Option (Int32 × Mem)) (hk4 : ∀ a M, RT p l e rmX13_least s m args below meth c x 4 (QM below args s x (fun v : Int32 => some (.int v)) rmX13_least.cells rmX13_least.slots) 0 0 (k4 a M) 4 [(1, a.2.1), (2, a.2.2.1), (3, a.2.2.2)] [] [(0, a.1)] [] M) (p0 : Option Nat) (p1 : Int32) (p2 : Int32) (p3 : Int32) (M : Mem), RT p l e rmX13_least s m args below meth c x 4 (QM below args s x (fun v : Int32 => some (.int v)) rmX13_least.cells rmX13_least.slots) 0 0 (fX13_least_L40 k4 p0 p1 p2 p3 M) 40 [(1, p1), (2, p2), (3, p3)] [] [(0, p0)] [] M := by
    intro k4 hk4 p0 p1 p2 p3 M
    unfold fX13_least_L40
    refine r_iinc (pc := 40) (w := 1) (lf := fun v40 => [(3, v40), (1, p1), (2, p2)]) (ll' := []) (lr' := [(0, p0)]) E dX13_least_40 2 rfl (by decide) (by decide) (fun _ => rfl) rfl rfl (fun v40 => ?_)
    refine r_goto (pc := 43) (tgt := 4) E dX13_least_43 (by decide) ?_
    exact r_sub [1, 2, 0] [] [0] rfl rfl rfl (hk4 ((p0, p1, p2, v40)) _)
  have hL38 : ∀ (k4 : Option Nat × Int32 × Int32 × Int32 → Mem → Option (Int32 × Mem)) (hk4 : ∀ a M, RT p l e rmX13_least s m args below meth c x 4 (QM below args s x (fun v : Int32 => some (.int v)) rmX13_least.cells rmX13_least.slots) 0 0 (k4 a M) 4 [(1, a.2.1), (2, a.2.2.1), (3, a.2.2.2)] [] [(0, a.1)] [] M) (p0 : Option Nat) (p1 : Int32) (p3 : Int32) (M : Mem), RT p l e rmX13_least s m args below meth c x 4 (QM below args s x (fun v : Int32 => some (.int v)) rmX13_least.cells rmX13_least.slots) 0 0 (fX13_least_L38 k4 p0 p1 p3 M) 38 [(1, p1), (3, p3)] [] [(0, p0)] [] M := by
    intro k4 hk4 p0 p1 p3 M
    unfold fX13_least_L38
    refine r_iload_n (pc := 38) E dX13_least_38 rfl 1 rfl ?_
    refine r_istore_n (pc := 39) (lf := fun v39 => [(2, v39), (1, p1), (3, p3)]) (lg := fun v39 => []) (lk := fun v39 => [(0, p0)]) E dX13_least_39 rfl (by decide) (fun _ => rfl) (fun _ => rfl) (fun _ => rfl) (fun v39 => ?_)
    exact r_sub [1, 0, 2] [] [0] rfl rfl rfl (hL40 k4 hk4 p0 p1 v39 p3 _)
  have hL4 : ∀ (p0 : Option Nat) (p1 : Int32) (p2 : Int32) (p3 : Int32) (M : Mem), RT p l e rmX13_least s m args below meth c x 4 (QM below args s x (fun v : Int32 => some (.int v)) rmX13_least.cells rmX13_least.slots) 0 0 (fX13_least_L4 p0 p1 p2 p3 M) 4 [(1, p1), (2, p2), (3, p3)] [] [(0, p0)] [] M := by
    intro p0 p1 p2 p3 M
    refine r_lp (fi := fun a : Option Nat × Int32 × Int32 × Int32 => [(1, a.2.1), (2, a.2.2.1), (3, a.2.2.2)]) (fl := fun a : Option Nat × Int32 × Int32 × Int32 => []) (fr := fun a : Option Nat × Int32 × Int32 × Int32 => [(0, a.1)]) (fs := fun a : Option Nat × Int32 × Int32 × Int32 => []) ?_ FU ((p0, p1, p2, p3)) M
    intro k4 hk4 a M
    obtain ⟨p0, p1, p2, p3⟩ := a
    show RT p l e rmX13_least s m args below meth c x 4 (QM below args s x (fun v : Int32 => some (.int v)) rmX13_least.cells rmX13_least.slots) 0 0 (fX13_least_B4 k4 p0 p1 p2 p3 M) 4 [(1, p1), (2, p2), (3, p3)] [] [(0, p0)] [] M
    unfold fX13_least_B4
    refine r_iload_n (pc := 4) E dX13_least_4 rfl 2 rfl ?_
    refine r_iload_n (pc := 5) E dX13_least_5 rfl 0 rfl ?_
    refine r_icmp_ge (pc := 6) (tgt := 46) E dX13_least_6 (by decide) ?_ ?_
    · refine r_iload_n (pc := 46) E dX13_least_46 rfl 1 rfl ?_
      exact e_int (pc := 47) E dX13_least_47
    · refine r_aload_n (pc := 9) E dX13_least_9 rfl 0 rfl ?_
      refine r_getA (pc := 10) E fd_13_72 wf_RX13_147 dX13_least_10 (fun v10 => ?_)
      refine r_iload_n (pc := 13) E dX13_least_13 rfl 2 rfl ?_
      refine r_zaload (pc := 14) E dX13_least_14 (fun v14 => ?_)
      refine r_if_ne (pc := 15) (tgt := 40) E dX13_least_15 (by decide) ?_ ?_
      · exact r_sub [0, 1, 2] [] [0] rfl rfl rfl (hL40 k4 hk4 p0 p1 p2 p3 _)
      · refine r_iload_n (pc := 18) E dX13_least_18 rfl 1 rfl ?_
        refine r_if_lt (pc := 19) (tgt := 38) E dX13_least_19 (by decide) ?_ ?_
        · exact r_sub [0, 2] [] [0] rfl rfl rfl (hL38 k4 hk4 p0 p1 p3 _)
        · refine r_aload_n (pc := 22) E dX13_least_22 rfl 0 rfl ?_
          refine r_getA (pc := 23) E fd_13_70 wf_RX13_141 dX13_least_23 (fun v23 => ?_)
          refine r_iload_n (pc := 26) E dX13_least_26 rfl 2 rfl ?_
          refine r_laload (pc := 27) E dX13_least_27 (fun v27 => ?_)
          refine r_aload_n (pc := 28) E dX13_least_28 rfl 0 rfl ?_
          refine r_getA (pc := 29) E fd_13_70 wf_RX13_141 dX13_least_29 (fun v29 => ?_)
          refine r_iload_n (pc := 32) E dX13_least_32 rfl 1 rfl ?_
          refine r_laload (pc := 33) E dX13_least_33 (fun v33 => ?_)
          refine r_lcmp (pc := 34) E dX13_least_34 ?_
          refine r_if_ge (pc := 35) (tgt := 40) E dX13_least_35 (by decide) ?_ ?_
          · exact r_sub [0, 1, 2] [] [0] rfl rfl rfl (hL40 k4 hk4 p0 p1 p2 p3 _)
          · exact r_sub [0, 2] [] [0] rfl rfl rfl (hL38 k4 hk4 p0 p1 p3 _)
  show RT p l e rmX13_least s m args below meth c x 4 (QM below args s x (fun v : Int32 => some (.int v)) rmX13_least.cells rmX13_least.slots) 0 0 (fX13_least a0 a1 M) 0 [(1, a1)] [] [(0, a0)] [] M
  unfold fX13_least
  refine r_iconst (pc := 0) (v := (-1)) E dX13_least_0 (by decide) ?_
  refine r_istore_n (pc := 1) (lf := fun v1 => [(2, v1), (1, a1)]) (lg := fun v1 => []) (lk := fun v1 => [(0, a0)]) E dX13_least_1 rfl (by decide) (fun _ => rfl) (fun _ => rfl) (fun _ => rfl) (fun v1 => ?_)
  refine r_iconst (pc := 2) (v := 0) E dX13_least_2 (by decide) ?_
  refine r_istore_n (pc := 3) (lf := fun v3 => [(3, v3), (2, v1), (1, a1)]) (lg := fun v3 => []) (lk := fun v3 => [(0, a0)]) E dX13_least_3 rfl (by decide) (fun _ => rfl) (fun _ => rfl) (fun _ => rfl) (fun v3 => ?_)
  exact r_sub [2, 1, 0] [] [0] rfl rfl rfl (hL4 a0 a1 v1 v3 _)
def fX13_depths_B299 (k53 : Option Nat → Mem → Option (Int32 × Mem)) (k299 : Option Nat × Int32 → Mem → Option (Int32 × Mem)) (p0 : Option Nat) (p4 : Int32) (M : Mem) : Option (Int32 × Mem) :=
  if 256 ≤ p4 then (
    k53 p0 M
  ) else (
    bo (gR M p0 13 70) fun v308 =>
    bo (gR M p0 13 70) fun v314 =>
    bo (aJ M v314 p4) fun v319 =>
    bo (dvL (v319 + 1) 2) fun v325 =>
    bo (wJ M v308 p4 v325) fun M326 =>
    bn (p4 + 1) fun v327 =>
    k299 ((p0, v327)) M326
  )
def fX13_depths_L299 (k53 : Option Nat → Mem → Option (Int32 × Mem)) (p0 : Option Nat) (p4 : Int32) (M : Mem) : Option (Int32 × Mem) :=
  lp (fun k299 (a : Option Nat × Int32) M => fX13_depths_B299 k53 k299 a.1 a.2 M) FU ((p0, p4)) M
def fX13_depths_L281 (k53 : Option Nat → Mem → Option (Int32 × Mem)) (k216 : Option Nat × Int32 × Int32 → Mem → Option (Int32 × Mem)) (p0 : Option Nat) (p4 : Int32) (q0 : Int32) (M : Mem) : Option (Int32 × Mem) :=
  bn (q0) fun v281 =>
  bn (p4 + 1) fun v282 =>
  k216 ((p0, v281, v282)) M
def fX13_depths_B236 (k53 : Option Nat → Mem → Option (Int32 × Mem)) (k216 : Option Nat × Int32 × Int32 → Mem → Option (Int32 × Mem)) (k236 : Option Nat × Int32 × Int32 × Int32 × Int32 → Mem → Option (Int32 × Mem)) (p0 : Option Nat) (p3 : Int32) (p4 : Int32) (p5 : Int32) (p6 : Int32) (M : Mem) : Option (Int32 × Mem) :=
  if p6 < 0 then (
    bo (gR M p0 13 20) fun v257 =>
    bo (wI M v257 (512 + p4) p5) fun M268 =>
    if p5 ≤ p3 then (
      fX13_depths_L281 k53 k216 p0 p4 p3 M268
    ) else (
      fX13_depths_L281 k53 k216 p0 p4 p5 M268
    )
  ) else (
    bn (p5 + 1) fun v241 =>
    bo (gR M p0 13 71) fun v245 =>
    bo (aI M v245 15 p6) fun v250 =>
    bn (v250) fun v251 =>
    k236 ((p0, p3, p4, v241, v251)) M
  )
def fX13_depths_L236 (k53 : Option Nat → Mem → Option (Int32 × Mem)) (k216 : Option Nat × Int32 × Int32 → Mem → Option (Int32 × Mem)) (p0 : Option Nat) (p3 : Int32) (p4 : Int32) (p5 : Int32) (p6 : Int32) (M : Mem) : Option (Int32 × Mem) :=
  lp (fun k236 (a : Option Nat × Int32 × Int32 × Int32 × Int32) M => fX13_depths_B236 k53 k216 k236 a.1 a.2.1 a.2.2.1 a.2.2.2.1 a.2.2.2.2 M) FU ((p0, p3, p4, p5, p6)) M
def fX13_depths_B216 (k53 : Option Nat → Mem → Option (Int32 × Mem)) (k216 : Option Nat × Int32 × Int32 → Mem → Option (Int32 × Mem)) (p0 : Option Nat) (p3 : Int32) (p4 : Int32) (M : Mem) : Option (Int32 × Mem) :=
  if 256 ≤ p4 then (
    if 11 < p3 then (
      bn (0) fun v297 =>
      fX13_depths_L299 k53 p0 v297 M
    ) else (
      some (p3, M)
    )
  ) else (
    bn (0) fun v225 =>
    bo (gR M p0 13 71) fun v228 =>
    bo (aI M v228 15 p4) fun v233 =>
    bn (v233) fun v234 =>
    fX13_depths_L236 k53 k216 p0 p3 p4 v225 v234 M
  )
def fX13_depths_L216 (k53 : Option Nat → Mem → Option (Int32 × Mem)) (p0 : Option Nat) (p3 : Int32) (p4 : Int32) (M : Mem) : Option (Int32 × Mem) :=
  lp (fun k216 (a : Option Nat × Int32 × Int32) M => fX13_depths_B216 k53 k216 a.1 a.2.1 a.2.2 M) FU ((p0, p3, p4)) M
def fX13_depths_B120 (k53 : Option Nat → Mem → Option (Int32 × Mem)) (k120 : Option Nat × Int32 × Int32 → Mem → Option (Int32 × Mem)) (p0 : Option Nat) (p1 : Int32) (p2 : Int32) (M : Mem) : Option (Int32 × Mem) :=
  if p1 ≤ 1 then (
    bn (0) fun v212 =>
    bn (0) fun v214 =>
    fX13_depths_L216 k53 p0 v212 v214 M
  ) else (
    bo (chk M p0 13) fun _ => bd (fX13_least p0 p2 M) fun v127 M127 =>
    bn (v127) fun v130 =>
    bo (gR M127 p0 13 72) fun v132 =>
    bo (wZ M127 v132 v130 1) fun M137 =>
    bo (chk M137 p0 13) fun _ => bd (fX13_least p0 p2 M137) fun v140 M140 =>
    bn (v140) fun v143 =>
    bo (gR M140 p0 13 72) fun v146 =>
    bo (wZ M140 v146 v143 1) fun M152 =>
    bo (gR M152 p0 13 70) fun v154 =>
    bo (gR M152 p0 13 70) fun v159 =>
    bo (aJ M152 v159 v130) fun v163 =>
    bo (gR M152 p0 13 70) fun v165 =>
    bo (aJ M152 v165 v143) fun v170 =>
    bo (wJ M152 v154 p2 (v163 + v170)) fun M172 =>
    bo (gR M172 p0 13 72) fun v174 =>
    bo (wZ M172 v174 p2 0) fun M179 =>
    bo (gR M179 p0 13 71) fun v181 =>
    bo (wI M179 v181 p2 ((-1))) fun M186 =>
    bo (gR M186 p0 13 71) fun v188 =>
    bo (wI M186 v188 v130 p2) fun M193 =>
    bo (gR M193 p0 13 71) fun v195 =>
    bo (wI M193 v195 v143 p2) fun M201 =>
    bn (p2 + 1) fun v202 =>
    bn (p1 + (-1)) fun v205 =>
    k120 ((p0, v205, v202)) M201
  )
def fX13_depths_L120 (k53 : Option Nat → Mem → Option (Int32 × Mem)) (p0 : Option Nat) (p1 : Int32) (p2 : Int32) (M : Mem) : Option (Int32 × Mem) :=
  lp (fun k120 (a : Option Nat × Int32 × Int32) M => fX13_depths_B120 k53 k120 a.1 a.2.1 a.2.2 M) FU ((p0, p1, p2)) M
def fX13_depths_L105 (k53 : Option Nat → Mem → Option (Int32 × Mem)) (k61 : Option Nat × Int32 × Int32 × Int32 → Mem → Option (Int32 × Mem)) (p0 : Option Nat) (p2 : Int32) (p3 : Int32) (q0 : Int32) (q1 : Int32) (M : Mem) : Option (Int32 × Mem) :=
  bn (q0 + q1) fun v106 =>
  bo (gR M p0 13 71) fun v108 =>
  bo (wI M v108 p3 ((-1))) fun M113 =>
  bn (p3 + 1) fun v114 =>
  k61 ((p0, v106, p2, v114)) M113
def fX13_depths_L89 (k53 : Option Nat → Mem → Option (Int32 × Mem)) (k61 : Option Nat × Int32 × Int32 × Int32 → Mem → Option (Int32 × Mem)) (p0 : Option Nat) (p1 : Int32) (p2 : Int32) (p3 : Int32) (q0 : Option Nat) (q1 : Int32) (q2 : Int32) (M : Mem) : Option (Int32 × Mem) :=
  bo (wZ M q0 q1 q2) fun M89 =>
  bo (gR M89 p0 13 72) fun v92 =>
  bo (aI M89 v92 18 p3) fun v96 =>
  if v96 = 0 then (
    fX13_depths_L105 k53 k61 p0 p2 p3 p1 1 M89
  ) else (
    fX13_depths_L105 k53 k61 p0 p2 p3 p1 0 M89
  )
def fX13_depths_B61 (k53 : Option Nat → Mem → Option (Int32 × Mem)) (k61 : Option Nat × Int32 × Int32 × Int32 → Mem → Option (Int32 × Mem)) (p0 : Option Nat) (p1 : Int32) (p2 : Int32) (p3 : Int32) (M : Mem) : Option (Int32 × Mem) :=
  if 256 ≤ p3 then (
    fX13_depths_L120 k53 p0 p1 p2 M
  ) else (
    bo (gR M p0 13 72) fun v69 =>
    bo (gR M p0 13 70) fun v74 =>
    bo (aJ M v74 p3) fun v78 =>
    if (lg_cmp v78 0) = 0 then (
      fX13_depths_L89 k53 k61 p0 p1 p2 p3 v69 p3 1 M
    ) else (
      fX13_depths_L89 k53 k61 p0 p1 p2 p3 v69 p3 0 M
    )
  )
def fX13_depths_L61 (k53 : Option Nat → Mem → Option (Int32 × Mem)) (p0 : Option Nat) (p1 : Int32) (p2 : Int32) (p3 : Int32) (M : Mem) : Option (Int32 × Mem) :=
  lp (fun k61 (a : Option Nat × Int32 × Int32 × Int32) M => fX13_depths_B61 k53 k61 a.1 a.2.1 a.2.2.1 a.2.2.2 M) FU ((p0, p1, p2, p3)) M
def fX13_depths_B53 (k53 : Option Nat → Mem → Option (Int32 × Mem)) (p0 : Option Nat) (M : Mem) : Option (Int32 × Mem) :=
  bn (0) fun v54 =>
  bn (256) fun v58 =>
  bn (0) fun v60 =>
  fX13_depths_L61 k53 p0 v54 v58 v60 M
def fX13_depths_L53 (p0 : Option Nat) (M : Mem) : Option (Int32 × Mem) :=
  lp (fun k53 (a : Option Nat) M => fX13_depths_B53 k53 a M) FU p0 M
def fX13_depths_B24 (k24 : Option Nat × Int32 → Mem → Option (Int32 × Mem)) (p0 : Option Nat) (p1 : Int32) (M : Mem) : Option (Int32 × Mem) :=
  bo (gI M p0 13 68) fun v26 =>
  if v26 ≤ p1 then (
    fX13_depths_L53 p0 M
  ) else (
    bo (gR M p0 13 70) fun v33 =>
    bo (gR M p0 13 67) fun v37 =>
    bo (aI M v37 14 p1) fun v41 =>
    bo (aJ M v33 v41) fun v43 =>
    bo (wJ M v33 v41 (v43 + 1)) fun M46 =>
    bn (p1 + 1) fun v47 =>
    k24 ((p0, v47)) M46
  )
def fX13_depths_L24 (p0 : Option Nat) (p1 : Int32) (M : Mem) : Option (Int32 × Mem) :=
  lp (fun k24 (a : Option Nat × Int32) M => fX13_depths_B24 k24 a.1 a.2 M) FU ((p0, p1)) M
def fX13_depths_B2 (k2 : Option Nat × Int32 → Mem → Option (Int32 × Mem)) (p0 : Option Nat) (p1 : Int32) (M : Mem) : Option (Int32 × Mem) :=
  if 256 ≤ p1 then (
    bn (0) fun v23 =>
    fX13_depths_L24 p0 v23 M
  ) else (
    bo (gR M p0 13 70) fun v10 =>
    bo (wJ M v10 p1 0) fun M15 =>
    bn (p1 + 1) fun v16 =>
    k2 ((p0, v16)) M15
  )
def fX13_depths_L2 (p0 : Option Nat) (p1 : Int32) (M : Mem) : Option (Int32 × Mem) :=
  lp (fun k2 (a : Option Nat × Int32) M => fX13_depths_B2 k2 a.1 a.2 M) FU ((p0, p1)) M
def fX13_depths (a0 : Option Nat) (M : Mem) : Option (Int32 × Mem) :=
  bn (0) fun v1 =>
  fX13_depths_L2 a0 v1 M
def rmX13_depths : Room := { frames := 1, cells := 0, slots := 0, locals := 23 }
set_option maxRecDepth 100000 in
set_option maxHeartbeats 4000000 in
theorem ctX13_depths (l : Launch) (x : Cx) (a0 : Option Nat) (M : Mem) (v : Int32) (N : Mem) (h : fX13_depths a0 M = some (v, N)) : CT l yX13_depths cX13_depths 7 (some (FieldType.int)) rmX13_depths x [rv x a0] M (some (.int v)) N := by
  refine ct_mk (enc := fun v : Int32 => some (.int v)) (li := []) (ll := []) (lr := [(0, a0)]) (by decide +kernel) (by simp [lg_sl, rv_cat, cat_int, cat_long]) (by simp [flat, lv_args, rv_cat, cat_int, cat_long]) h ?_
  intro p e s m args below meth c E
  have hL299 : ∀ (k53 : Option Nat → Mem → Option (Int32 × Mem)) (hk53 : ∀ a M, RT p l e rmX13_depths s m args below meth c x 7 (QM below args s x (fun v : Int32 => some (.int v)) rmX13_depths.cells rmX13_depths.slots) 0 0 (k53 a M) 53 [] [] [(0, a)] [] M) (p0 : Option Nat) (p4 : Int32) (M : Mem), RT p l e rmX13_depths s m args below meth c x 7 (QM below args s x (fun v : Int32 => some (.int v)) rmX13_depths.cells rmX13_depths.slots) 0 0 (fX13_depths_L299 k53 p0 p4 M) 299 [(4, p4)] [] [(0, p0)] [] M := by
    intro k53 hk53 p0 p4 M
    refine r_lp (fi := fun a : Option Nat × Int32 => [(4, a.2)]) (fl := fun a : Option Nat × Int32 => []) (fr := fun a : Option Nat × Int32 => [(0, a.1)]) (fs := fun a : Option Nat × Int32 => []) ?_ FU ((p0, p4)) M
    intro k299 hk299 a M
    obtain ⟨p0, p4⟩ := a
    show RT p l e rmX13_depths s m args below meth c x 7 (QM below args s x (fun v : Int32 => some (.int v)) rmX13_depths.cells rmX13_depths.slots) 0 0 (fX13_depths_B299 k53 k299 p0 p4 M) 299 [(4, p4)] [] [(0, p0)] [] M
    unfold fX13_depths_B299
    refine r_iload (pc := 299) E dX13_depths_299 0 rfl ?_
    refine r_sipush (pc := 301) (v := 256) E dX13_depths_301 (by decide) ?_
    refine r_icmp_ge (pc := 304) (tgt := 333) E dX13_depths_304 (by decide) ?_ ?_
    · refine r_goto (pc := 333) (tgt := 53) E dX13_depths_333 (by decide) ?_
      exact r_sub [] [] [0] rfl rfl rfl (hk53 p0 _)
    · refine r_aload_n (pc := 307) E dX13_depths_307 rfl 0 rfl ?_
      refine r_getA (pc := 308) E fd_13_70 wf_RX13_141 dX13_depths_308 (fun v308 => ?_)
      refine r_iload (pc := 311) E dX13_depths_311 0 rfl ?_
      refine r_aload_n (pc := 313) E dX13_depths_313 rfl 0 rfl ?_
      refine r_getA (pc := 314) E fd_13_70 wf_RX13_141 dX13_depths_314 (fun v314 => ?_)
      refine r_iload (pc := 317) E dX13_depths_317 0 rfl ?_
      refine r_laload (pc := 319) E dX13_depths_319 (fun v319 => ?_)
      refine r_lconst (pc := 320) (v := 1) E dX13_depths_320 (by decide) ?_
      refine r_ladd (pc := 321) E dX13_depths_321 ?_
      refine r_ldc2 (pc := 322) E wk_RX13_465 dX13_depths_322 ?_
      refine r_ldiv (pc := 325) E dX13_depths_325 (fun v325 => ?_)
      refine r_lastore (pc := 326) E dX13_depths_326 (fun M326 => ?_)
      refine r_iinc (pc := 327) (w := 1) (lf := fun v327 => [(4, v327)]) (ll' := []) (lr' := [(0, p0)]) E dX13_depths_327 0 rfl (by decide) (by decide) (fun _ => rfl) rfl rfl (fun v327 => ?_)
      refine r_goto (pc := 330) (tgt := 299) E dX13_depths_330 (by decide) ?_
      exact r_sub [0] [] [0] rfl rfl rfl (hk299 ((p0, v327)) _)
  have hL281 : ∀ (k53 : Option Nat → Mem → Option (Int32 × Mem)) (hk53 : ∀ a M, RT p l e rmX13_depths s m args below meth c x 7 (QM below args s x (fun v : Int32 => some (.int v)) rmX13_depths.cells rmX13_depths.slots) 0 0 (k53 a M) 53 [] [] [(0, a)] [] M) (k216 : Option Nat × Int32 × Int32 → Mem → Option (Int32 × Mem)) (hk216 : ∀ a M, RT p l e rmX13_depths s m args below meth c x 7 (QM below args s x (fun v : Int32 => some (.int v)) rmX13_depths.cells rmX13_depths.slots) 0 0 (k216 a M) 216 [(3, a.2.1), (4, a.2.2)] [] [(0, a.1)] [] M) (p0 : Option Nat) (p4 : Int32) (q0 : Int32) (M : Mem), RT p l e rmX13_depths s m args below meth c x 7 (QM below args s x (fun v : Int32 => some (.int v)) rmX13_depths.cells rmX13_depths.slots) 0 0 (fX13_depths_L281 k53 k216 p0 p4 q0 M) 281 [(4, p4)] [] [(0, p0)] [.int q0] M := by
    intro k53 hk53 k216 hk216 p0 p4 q0 M
    unfold fX13_depths_L281
    refine r_istore_n (pc := 281) (lf := fun v281 => [(3, v281), (4, p4)]) (lg := fun v281 => []) (lk := fun v281 => [(0, p0)]) E dX13_depths_281 rfl (by decide) (fun _ => rfl) (fun _ => rfl) (fun _ => rfl) (fun v281 => ?_)
    refine r_iinc (pc := 282) (w := 1) (lf := fun v282 => [(4, v282), (3, v281)]) (ll' := []) (lr' := [(0, p0)]) E dX13_depths_282 1 rfl (by decide) (by decide) (fun _ => rfl) rfl rfl (fun v282 => ?_)
    refine r_goto (pc := 285) (tgt := 216) E dX13_depths_285 (by decide) ?_
    exact r_sub [1, 0] [] [0] rfl rfl rfl (hk216 ((p0, v281, v282)) _)
  have hL236 : ∀ (k53 : Option Nat → Mem → Option (Int32 × Mem)) (hk53 : ∀ a M, RT p l e rmX13_depths s m args below meth c x 7 (QM below args s x (fun v : Int32 => some (.int v)) rmX13_depths.cells rmX13_depths.slots) 0 0 (k53 a M) 53 [] [] [(0, a)] [] M) (k216 : Option Nat × Int32 × Int32 → Mem → Option (Int32 × Mem)) (hk216 : ∀ a M, RT p l e rmX13_depths s m args below meth c x 7 (QM below args s x (fun v : Int32 => some (.int v)) rmX13_depths.cells rmX13_depths.slots) 0 0 (k216 a M) 216 [(3, a.2.1), (4, a.2.2)] [] [(0, a.1)] [] M) (p0 : Option Nat) (p3 : Int32) (p4 : Int32) (p5 : Int32) (p6 : Int32) (M : Mem), RT p l e rmX13_depths s m args below meth c x 7 (QM below args s x (fun v : Int32 => some (.int v)) rmX13_depths.cells rmX13_depths.slots) 0 0 (fX13_depths_L236 k53 k216 p0 p3 p4 p5 p6 M) 236 [(3, p3), (4, p4), (5, p5), (6, p6)] [] [(0, p0)] [] M := by
    intro k53 hk53 k216 hk216 p0 p3 p4 p5 p6 M
    refine r_lp (fi := fun a : Option Nat × Int32 × Int32 × Int32 × Int32 => [(3, a.2.1), (4, a.2.2.1), (5, a.2.2.2.1), (6, a.2.2.2.2)]) (fl := fun a : Option Nat × Int32 × Int32 × Int32 × Int32 => []) (fr := fun a : Option Nat × Int32 × Int32 × Int32 × Int32 => [(0, a.1)]) (fs := fun a : Option Nat × Int32 × Int32 × Int32 × Int32 => []) ?_ FU ((p0, p3, p4, p5, p6)) M
    intro k236 hk236 a M
    obtain ⟨p0, p3, p4, p5, p6⟩ := a
    show RT p l e rmX13_depths s m args below meth c x 7 (QM below args s x (fun v : Int32 => some (.int v)) rmX13_depths.cells rmX13_depths.slots) 0 0 (fX13_depths_B236 k53 k216 k236 p0 p3 p4 p5 p6 M) 236 [(3, p3), (4, p4), (5, p5), (6, p6)] [] [(0, p0)] [] M
    unfold fX13_depths_B236
    refine r_iload (pc := 236) E dX13_depths_236 3 rfl ?_
    refine r_if_lt (pc := 238) (tgt := 256) E dX13_depths_238 (by decide) ?_ ?_
    · refine r_aload_n (pc := 256) E dX13_depths_256 rfl 0 rfl ?_
      refine r_getA (pc := 257) E fd_13_20 wf_RX13_47 dX13_depths_257 (fun v257 => ?_)
      refine r_sipush (pc := 260) (v := 512) E dX13_depths_260 (by decide) ?_
      refine r_iload (pc := 263) E dX13_depths_263 1 rfl ?_
      refine r_iadd (pc := 265) E dX13_depths_265 ?_
      refine r_iload (pc := 266) E dX13_depths_266 2 rfl ?_
      refine r_iastore (pc := 268) E dX13_depths_268 (fun M268 => ?_)
      refine r_iload (pc := 269) E dX13_depths_269 2 rfl ?_
      refine r_iload_n (pc := 271) E dX13_depths_271 rfl 0 rfl ?_
      refine r_icmp_le (pc := 272) (tgt := 280) E dX13_depths_272 (by decide) ?_ ?_
      · refine r_iload_n (pc := 280) E dX13_depths_280 rfl 0 rfl ?_
        exact r_sub [1] [] [0] rfl rfl rfl (hL281 k53 hk53 k216 hk216 p0 p4 p3 _)
      · refine r_iload (pc := 275) E dX13_depths_275 2 rfl ?_
        refine r_goto (pc := 277) (tgt := 281) E dX13_depths_277 (by decide) ?_
        exact r_sub [1] [] [0] rfl rfl rfl (hL281 k53 hk53 k216 hk216 p0 p4 p5 _)
    · refine r_iinc (pc := 241) (w := 1) (lf := fun v241 => [(5, v241), (3, p3), (4, p4), (6, p6)]) (ll' := []) (lr' := [(0, p0)]) E dX13_depths_241 2 rfl (by decide) (by decide) (fun _ => rfl) rfl rfl (fun v241 => ?_)
      refine r_aload_n (pc := 244) E dX13_depths_244 rfl 0 rfl ?_
      refine r_getA (pc := 245) E fd_13_71 wf_RX13_144 dX13_depths_245 (fun v245 => ?_)
      refine r_iload (pc := 248) E dX13_depths_248 3 rfl ?_
      refine r_iaload (pc := 250) E dX13_depths_250 (fun v250 => ?_)
      refine r_istore (pc := 251) (lf := fun v251 => [(6, v251), (5, v241), (3, p3), (4, p4)]) (lg := fun v251 => []) (lk := fun v251 => [(0, p0)]) E dX13_depths_251 (by decide) (fun _ => rfl) (fun _ => rfl) (fun _ => rfl) (fun v251 => ?_)
      refine r_goto (pc := 253) (tgt := 236) E dX13_depths_253 (by decide) ?_
      exact r_sub [2, 3, 1, 0] [] [0] rfl rfl rfl (hk236 ((p0, p3, p4, v241, v251)) _)
  have hL216 : ∀ (k53 : Option Nat → Mem → Option (Int32 × Mem)) (hk53 : ∀ a M, RT p l e rmX13_depths s m args below meth c x 7 (QM below args s x (fun v : Int32 => some (.int v)) rmX13_depths.cells rmX13_depths.slots) 0 0 (k53 a M) 53 [] [] [(0, a)] [] M) (p0 : Option Nat) (p3 : Int32) (p4 : Int32) (M : Mem), RT p l e rmX13_depths s m args below meth c x 7 (QM below args s x (fun v : Int32 => some (.int v)) rmX13_depths.cells rmX13_depths.slots) 0 0 (fX13_depths_L216 k53 p0 p3 p4 M) 216 [(3, p3), (4, p4)] [] [(0, p0)] [] M := by
    intro k53 hk53 p0 p3 p4 M
    refine r_lp (fi := fun a : Option Nat × Int32 × Int32 => [(3, a.2.1), (4, a.2.2)]) (fl := fun a : Option Nat × Int32 × Int32 => []) (fr := fun a : Option Nat × Int32 × Int32 => [(0, a.1)]) (fs := fun a : Option Nat × Int32 × Int32 => []) ?_ FU ((p0, p3, p4)) M
    intro k216 hk216 a M
    obtain ⟨p0, p3, p4⟩ := a
    show RT p l e rmX13_depths s m args below meth c x 7 (QM below args s x (fun v : Int32 => some (.int v)) rmX13_depths.cells rmX13_depths.slots) 0 0 (fX13_depths_B216 k53 k216 p0 p3 p4 M) 216 [(3, p3), (4, p4)] [] [(0, p0)] [] M
    unfold fX13_depths_B216
    refine r_iload (pc := 216) E dX13_depths_216 1 rfl ?_
    refine r_sipush (pc := 218) (v := 256) E dX13_depths_218 (by decide) ?_
    refine r_icmp_ge (pc := 221) (tgt := 288) E dX13_depths_221 (by decide) ?_ ?_
    · refine r_iload_n (pc := 288) E dX13_depths_288 rfl 0 rfl ?_
      refine r_bipush (pc := 289) (v := 11) E dX13_depths_289 (by decide) ?_
      refine r_icmp_gt (pc := 291) (tgt := 296) E dX13_depths_291 (by decide) ?_ ?_
      · refine r_iconst (pc := 296) (v := 0) E dX13_depths_296 (by decide) ?_
        refine r_istore (pc := 297) (lf := fun v297 => [(4, v297), (3, p3)]) (lg := fun v297 => []) (lk := fun v297 => [(0, p0)]) E dX13_depths_297 (by decide) (fun _ => rfl) (fun _ => rfl) (fun _ => rfl) (fun v297 => ?_)
        exact r_sub [0] [] [0] rfl rfl rfl (hL299 k53 hk53 p0 v297 _)
      · refine r_iload_n (pc := 294) E dX13_depths_294 rfl 0 rfl ?_
        exact e_int (pc := 295) E dX13_depths_295
    · refine r_iconst (pc := 224) (v := 0) E dX13_depths_224 (by decide) ?_
      refine r_istore (pc := 225) (lf := fun v225 => [(5, v225), (3, p3), (4, p4)]) (lg := fun v225 => []) (lk := fun v225 => [(0, p0)]) E dX13_depths_225 (by decide) (fun _ => rfl) (fun _ => rfl) (fun _ => rfl) (fun v225 => ?_)
      refine r_aload_n (pc := 227) E dX13_depths_227 rfl 0 rfl ?_
      refine r_getA (pc := 228) E fd_13_71 wf_RX13_144 dX13_depths_228 (fun v228 => ?_)
      refine r_iload (pc := 231) E dX13_depths_231 2 rfl ?_
      refine r_iaload (pc := 233) E dX13_depths_233 (fun v233 => ?_)
      refine r_istore (pc := 234) (lf := fun v234 => [(6, v234), (5, v225), (3, p3), (4, p4)]) (lg := fun v234 => []) (lk := fun v234 => [(0, p0)]) E dX13_depths_234 (by decide) (fun _ => rfl) (fun _ => rfl) (fun _ => rfl) (fun v234 => ?_)
      exact r_sub [2, 3, 1, 0] [] [0] rfl rfl rfl (hL236 k53 hk53 k216 hk216 p0 p3 p4 v225 v234 _)
  have hL120 : ∀ (k53 : Option Nat → Mem → Option (Int32 × Mem)) (hk53 : ∀ a M, RT p l e rmX13_depths s m args below meth c x 7 (QM below args s x (fun v : Int32 => some (.int v)) rmX13_depths.cells rmX13_depths.slots) 0 0 (k53 a M) 53 [] [] [(0, a)] [] M) (p0 : Option Nat) (p1 : Int32) (p2 : Int32) (M : Mem), RT p l e rmX13_depths s m args below meth c x 7 (QM below args s x (fun v : Int32 => some (.int v)) rmX13_depths.cells rmX13_depths.slots) 0 0 (fX13_depths_L120 k53 p0 p1 p2 M) 120 [(1, p1), (2, p2)] [] [(0, p0)] [] M := by
    intro k53 hk53 p0 p1 p2 M
    refine r_lp (fi := fun a : Option Nat × Int32 × Int32 => [(1, a.2.1), (2, a.2.2)]) (fl := fun a : Option Nat × Int32 × Int32 => []) (fr := fun a : Option Nat × Int32 × Int32 => [(0, a.1)]) (fs := fun a : Option Nat × Int32 × Int32 => []) ?_ FU ((p0, p1, p2)) M
    intro k120 hk120 a M
    obtain ⟨p0, p1, p2⟩ := a
    show RT p l e rmX13_depths s m args below meth c x 7 (QM below args s x (fun v : Int32 => some (.int v)) rmX13_depths.cells rmX13_depths.slots) 0 0 (fX13_depths_B120 k53 k120 p0 p1 p2 M) 120 [(1, p1), (2, p2)] [] [(0, p0)] [] M
    unfold fX13_depths_B120
    refine r_iload_n (pc := 120) E dX13_depths_120 rfl 0 rfl ?_
    refine r_iconst (pc := 121) (v := 1) E dX13_depths_121 (by decide) ?_
    refine r_icmp_le (pc := 122) (tgt := 211) E dX13_depths_122 (by decide) ?_ ?_
    · refine r_iconst (pc := 211) (v := 0) E dX13_depths_211 (by decide) ?_
      refine r_istore_n (pc := 212) (lf := fun v212 => [(3, v212), (1, p1), (2, p2)]) (lg := fun v212 => []) (lk := fun v212 => [(0, p0)]) E dX13_depths_212 rfl (by decide) (fun _ => rfl) (fun _ => rfl) (fun _ => rfl) (fun v212 => ?_)
      refine r_iconst (pc := 213) (v := 0) E dX13_depths_213 (by decide) ?_
      refine r_istore (pc := 214) (lf := fun v214 => [(4, v214), (3, v212), (1, p1), (2, p2)]) (lg := fun v214 => []) (lk := fun v214 => [(0, p0)]) E dX13_depths_214 (by decide) (fun _ => rfl) (fun _ => rfl) (fun _ => rfl) (fun v214 => ?_)
      exact r_sub [1, 0] [] [0] rfl rfl rfl (hL216 k53 hk53 p0 v212 v214 _)
    · refine r_aload_n (pc := 125) E dX13_depths_125 rfl 0 rfl ?_
      refine r_iload_n (pc := 126) E dX13_depths_126 rfl 1 rfl ?_
      refine r_kVi (pc := 127) (As := [.int p2]) (rest := []) E wc_X13_least wi_RX13 hd_X13_least (ci := 13) rfl wl_RX13_467 wn_X13_least ws_X13_least dX13_depths_127 (by decide) (Nat.le_of_ble_eq_true rfl) ⟨rfl, rfl⟩ (ctX13_least l x _ _ _) rfl (fun v127 M127 => ?_)
      refine r_istore_n (pc := 130) (lf := fun v130 => [(3, v130), (1, p1), (2, p2)]) (lg := fun v130 => []) (lk := fun v130 => [(0, p0)]) E dX13_depths_130 rfl (by decide) (fun _ => rfl) (fun _ => rfl) (fun _ => rfl) (fun v130 => ?_)
      refine r_aload_n (pc := 131) E dX13_depths_131 rfl 0 rfl ?_
      refine r_getA (pc := 132) E fd_13_72 wf_RX13_147 dX13_depths_132 (fun v132 => ?_)
      refine r_iload_n (pc := 135) E dX13_depths_135 rfl 0 rfl ?_
      refine r_iconst (pc := 136) (v := 1) E dX13_depths_136 (by decide) ?_
      refine r_zastore (pc := 137) E dX13_depths_137 (fun M137 => ?_)
      refine r_aload_n (pc := 138) E dX13_depths_138 rfl 0 rfl ?_
      refine r_iload_n (pc := 139) E dX13_depths_139 rfl 2 rfl ?_
      refine r_kVi (pc := 140) (As := [.int p2]) (rest := []) E wc_X13_least wi_RX13 hd_X13_least (ci := 13) rfl wl_RX13_467 wn_X13_least ws_X13_least dX13_depths_140 (by decide) (Nat.le_of_ble_eq_true rfl) ⟨rfl, rfl⟩ (ctX13_least l x _ _ _) rfl (fun v140 M140 => ?_)
      refine r_istore (pc := 143) (lf := fun v143 => [(4, v143), (3, v130), (1, p1), (2, p2)]) (lg := fun v143 => []) (lk := fun v143 => [(0, p0)]) E dX13_depths_143 (by decide) (fun _ => rfl) (fun _ => rfl) (fun _ => rfl) (fun v143 => ?_)
      refine r_aload_n (pc := 145) E dX13_depths_145 rfl 0 rfl ?_
      refine r_getA (pc := 146) E fd_13_72 wf_RX13_147 dX13_depths_146 (fun v146 => ?_)
      refine r_iload (pc := 149) E dX13_depths_149 0 rfl ?_
      refine r_iconst (pc := 151) (v := 1) E dX13_depths_151 (by decide) ?_
      refine r_zastore (pc := 152) E dX13_depths_152 (fun M152 => ?_)
      refine r_aload_n (pc := 153) E dX13_depths_153 rfl 0 rfl ?_
      refine r_getA (pc := 154) E fd_13_70 wf_RX13_141 dX13_depths_154 (fun v154 => ?_)
      refine r_iload_n (pc := 157) E dX13_depths_157 rfl 3 rfl ?_
      refine r_aload_n (pc := 158) E dX13_depths_158 rfl 0 rfl ?_
      refine r_getA (pc := 159) E fd_13_70 wf_RX13_141 dX13_depths_159 (fun v159 => ?_)
      refine r_iload_n (pc := 162) E dX13_depths_162 rfl 1 rfl ?_
      refine r_laload (pc := 163) E dX13_depths_163 (fun v163 => ?_)
      refine r_aload_n (pc := 164) E dX13_depths_164 rfl 0 rfl ?_
      refine r_getA (pc := 165) E fd_13_70 wf_RX13_141 dX13_depths_165 (fun v165 => ?_)
      refine r_iload (pc := 168) E dX13_depths_168 0 rfl ?_
      refine r_laload (pc := 170) E dX13_depths_170 (fun v170 => ?_)
      refine r_ladd (pc := 171) E dX13_depths_171 ?_
      refine r_lastore (pc := 172) E dX13_depths_172 (fun M172 => ?_)
      refine r_aload_n (pc := 173) E dX13_depths_173 rfl 0 rfl ?_
      refine r_getA (pc := 174) E fd_13_72 wf_RX13_147 dX13_depths_174 (fun v174 => ?_)
      refine r_iload_n (pc := 177) E dX13_depths_177 rfl 3 rfl ?_
      refine r_iconst (pc := 178) (v := 0) E dX13_depths_178 (by decide) ?_
      refine r_zastore (pc := 179) E dX13_depths_179 (fun M179 => ?_)
      refine r_aload_n (pc := 180) E dX13_depths_180 rfl 0 rfl ?_
      refine r_getA (pc := 181) E fd_13_71 wf_RX13_144 dX13_depths_181 (fun v181 => ?_)
      refine r_iload_n (pc := 184) E dX13_depths_184 rfl 3 rfl ?_
      refine r_iconst (pc := 185) (v := (-1)) E dX13_depths_185 (by decide) ?_
      refine r_iastore (pc := 186) E dX13_depths_186 (fun M186 => ?_)
      refine r_aload_n (pc := 187) E dX13_depths_187 rfl 0 rfl ?_
      refine r_getA (pc := 188) E fd_13_71 wf_RX13_144 dX13_depths_188 (fun v188 => ?_)
      refine r_iload_n (pc := 191) E dX13_depths_191 rfl 1 rfl ?_
      refine r_iload_n (pc := 192) E dX13_depths_192 rfl 3 rfl ?_
      refine r_iastore (pc := 193) E dX13_depths_193 (fun M193 => ?_)
      refine r_aload_n (pc := 194) E dX13_depths_194 rfl 0 rfl ?_
      refine r_getA (pc := 195) E fd_13_71 wf_RX13_144 dX13_depths_195 (fun v195 => ?_)
      refine r_iload (pc := 198) E dX13_depths_198 0 rfl ?_
      refine r_iload_n (pc := 200) E dX13_depths_200 rfl 3 rfl ?_
      refine r_iastore (pc := 201) E dX13_depths_201 (fun M201 => ?_)
      refine r_iinc (pc := 202) (w := 1) (lf := fun v202 => [(2, v202), (4, v143), (3, v130), (1, p1)]) (ll' := []) (lr' := [(0, p0)]) E dX13_depths_202 3 rfl (by decide) (by decide) (fun _ => rfl) rfl rfl (fun v202 => ?_)
      refine r_iinc (pc := 205) (w := (-1)) (lf := fun v205 => [(1, v205), (2, v202), (4, v143), (3, v130)]) (ll' := []) (lr' := [(0, p0)]) E dX13_depths_205 3 rfl (by decide) (by decide) (fun _ => rfl) rfl rfl (fun v205 => ?_)
      refine r_goto (pc := 208) (tgt := 120) E dX13_depths_208 (by decide) ?_
      exact r_sub [0, 1] [] [0] rfl rfl rfl (hk120 ((p0, v205, v202)) _)
  have hL105 : ∀ (k53 : Option Nat → Mem → Option (Int32 × Mem)) (hk53 : ∀ a M, RT p l e rmX13_depths s m args below meth c x 7 (QM below args s x (fun v : Int32 => some (.int v)) rmX13_depths.cells rmX13_depths.slots) 0 0 (k53 a M) 53 [] [] [(0, a)] [] M) (k61 : Option Nat × Int32 × Int32 × Int32 → Mem → Option (Int32 × Mem)) (hk61 : ∀ a M, RT p l e rmX13_depths s m args below meth c x 7 (QM below args s x (fun v : Int32 => some (.int v)) rmX13_depths.cells rmX13_depths.slots) 0 0 (k61 a M) 61 [(1, a.2.1), (2, a.2.2.1), (3, a.2.2.2)] [] [(0, a.1)] [] M) (p0 : Option Nat) (p2 : Int32) (p3 : Int32) (q0 : Int32) (q1 : Int32) (M : Mem), RT p l e rmX13_depths s m args below meth c x 7 (QM below args s x (fun v : Int32 => some (.int v)) rmX13_depths.cells rmX13_depths.slots) 0 0 (fX13_depths_L105 k53 k61 p0 p2 p3 q0 q1 M) 105 [(2, p2), (3, p3)] [] [(0, p0)] [.int q1, .int q0] M := by
    intro k53 hk53 k61 hk61 p0 p2 p3 q0 q1 M
    unfold fX13_depths_L105
    refine r_iadd (pc := 105) E dX13_depths_105 ?_
    refine r_istore_n (pc := 106) (lf := fun v106 => [(1, v106), (2, p2), (3, p3)]) (lg := fun v106 => []) (lk := fun v106 => [(0, p0)]) E dX13_depths_106 rfl (by decide) (fun _ => rfl) (fun _ => rfl) (fun _ => rfl) (fun v106 => ?_)
    refine r_aload_n (pc := 107) E dX13_depths_107 rfl 0 rfl ?_
    refine r_getA (pc := 108) E fd_13_71 wf_RX13_144 dX13_depths_108 (fun v108 => ?_)
    refine r_iload_n (pc := 111) E dX13_depths_111 rfl 2 rfl ?_
    refine r_iconst (pc := 112) (v := (-1)) E dX13_depths_112 (by decide) ?_
    refine r_iastore (pc := 113) E dX13_depths_113 (fun M113 => ?_)
    refine r_iinc (pc := 114) (w := 1) (lf := fun v114 => [(3, v114), (1, v106), (2, p2)]) (ll' := []) (lr' := [(0, p0)]) E dX13_depths_114 2 rfl (by decide) (by decide) (fun _ => rfl) rfl rfl (fun v114 => ?_)
    refine r_goto (pc := 117) (tgt := 61) E dX13_depths_117 (by decide) ?_
    exact r_sub [1, 2, 0] [] [0] rfl rfl rfl (hk61 ((p0, v106, p2, v114)) _)
  have hL89 : ∀ (k53 : Option Nat → Mem → Option (Int32 × Mem)) (hk53 : ∀ a M, RT p l e rmX13_depths s m args below meth c x 7 (QM below args s x (fun v : Int32 => some (.int v)) rmX13_depths.cells rmX13_depths.slots) 0 0 (k53 a M) 53 [] [] [(0, a)] [] M) (k61 : Option Nat × Int32 × Int32 × Int32 → Mem → Option (Int32 × Mem)) (hk61 : ∀ a M, RT p l e rmX13_depths s m args below meth c x 7 (QM below args s x (fun v : Int32 => some (.int v)) rmX13_depths.cells rmX13_depths.slots) 0 0 (k61 a M) 61 [(1, a.2.1), (2, a.2.2.1), (3, a.2.2.2)] [] [(0, a.1)] [] M) (p0 : Option Nat) (p1 : Int32) (p2 : Int32) (p3 : Int32) (q0 : Option Nat) (q1 : Int32) (q2 : Int32) (M : Mem), RT p l e rmX13_depths s m args below meth c x 7 (QM below args s x (fun v : Int32 => some (.int v)) rmX13_depths.cells rmX13_depths.slots) 0 0 (fX13_depths_L89 k53 k61 p0 p1 p2 p3 q0 q1 q2 M) 89 [(1, p1), (2, p2), (3, p3)] [] [(0, p0)] [.int q2, .int q1, rv x q0] M := by
    intro k53 hk53 k61 hk61 p0 p1 p2 p3 q0 q1 q2 M
    unfold fX13_depths_L89
    refine r_zastore (pc := 89) E dX13_depths_89 (fun M89 => ?_)
    refine r_iload_n (pc := 90) E dX13_depths_90 rfl 0 rfl ?_
    refine r_aload_n (pc := 91) E dX13_depths_91 rfl 0 rfl ?_
    refine r_getA (pc := 92) E fd_13_72 wf_RX13_147 dX13_depths_92 (fun v92 => ?_)
    refine r_iload_n (pc := 95) E dX13_depths_95 rfl 2 rfl ?_
    refine r_zaload (pc := 96) E dX13_depths_96 (fun v96 => ?_)
    refine r_if_eq (pc := 97) (tgt := 104) E dX13_depths_97 (by decide) ?_ ?_
    · refine r_iconst (pc := 104) (v := 1) E dX13_depths_104 (by decide) ?_
      exact r_sub [1, 2] [] [0] rfl rfl rfl (hL105 k53 hk53 k61 hk61 p0 p2 p3 p1 1 _)
    · refine r_iconst (pc := 100) (v := 0) E dX13_depths_100 (by decide) ?_
      refine r_goto (pc := 101) (tgt := 105) E dX13_depths_101 (by decide) ?_
      exact r_sub [1, 2] [] [0] rfl rfl rfl (hL105 k53 hk53 k61 hk61 p0 p2 p3 p1 0 _)
  have hL61 : ∀ (k53 : Option Nat → Mem → Option (Int32 × Mem)) (hk53 : ∀ a M, RT p l e rmX13_depths s m args below meth c x 7 (QM below args s x (fun v : Int32 => some (.int v)) rmX13_depths.cells rmX13_depths.slots) 0 0 (k53 a M) 53 [] [] [(0, a)] [] M) (p0 : Option Nat) (p1 : Int32) (p2 : Int32) (p3 : Int32) (M : Mem), RT p l e rmX13_depths s m args below meth c x 7 (QM below args s x (fun v : Int32 => some (.int v)) rmX13_depths.cells rmX13_depths.slots) 0 0 (fX13_depths_L61 k53 p0 p1 p2 p3 M) 61 [(1, p1), (2, p2), (3, p3)] [] [(0, p0)] [] M := by
    intro k53 hk53 p0 p1 p2 p3 M
    refine r_lp (fi := fun a : Option Nat × Int32 × Int32 × Int32 => [(1, a.2.1), (2, a.2.2.1), (3, a.2.2.2)]) (fl := fun a : Option Nat × Int32 × Int32 × Int32 => []) (fr := fun a : Option Nat × Int32 × Int32 × Int32 => [(0, a.1)]) (fs := fun a : Option Nat × Int32 × Int32 × Int32 => []) ?_ FU ((p0, p1, p2, p3)) M
    intro k61 hk61 a M
    obtain ⟨p0, p1, p2, p3⟩ := a
    show RT p l e rmX13_depths s m args below meth c x 7 (QM below args s x (fun v : Int32 => some (.int v)) rmX13_depths.cells rmX13_depths.slots) 0 0 (fX13_depths_B61 k53 k61 p0 p1 p2 p3 M) 61 [(1, p1), (2, p2), (3, p3)] [] [(0, p0)] [] M
    unfold fX13_depths_B61
    refine r_iload_n (pc := 61) E dX13_depths_61 rfl 2 rfl ?_
    refine r_sipush (pc := 62) (v := 256) E dX13_depths_62 (by decide) ?_
    refine r_icmp_ge (pc := 65) (tgt := 120) E dX13_depths_65 (by decide) ?_ ?_
    · exact r_sub [0, 1] [] [0] rfl rfl rfl (hL120 k53 hk53 p0 p1 p2 _)
    · refine r_aload_n (pc := 68) E dX13_depths_68 rfl 0 rfl ?_
      refine r_getA (pc := 69) E fd_13_72 wf_RX13_147 dX13_depths_69 (fun v69 => ?_)
      refine r_iload_n (pc := 72) E dX13_depths_72 rfl 2 rfl ?_
      refine r_aload_n (pc := 73) E dX13_depths_73 rfl 0 rfl ?_
      refine r_getA (pc := 74) E fd_13_70 wf_RX13_141 dX13_depths_74 (fun v74 => ?_)
      refine r_iload_n (pc := 77) E dX13_depths_77 rfl 2 rfl ?_
      refine r_laload (pc := 78) E dX13_depths_78 (fun v78 => ?_)
      refine r_lconst (pc := 79) (v := 0) E dX13_depths_79 (by decide) ?_
      refine r_lcmp (pc := 80) E dX13_depths_80 ?_
      refine r_if_ne (pc := 81) (tgt := 88) E dX13_depths_81 (by decide) ?_ ?_
      · refine r_iconst (pc := 88) (v := 0) E dX13_depths_88 (by decide) ?_
        exact r_sub [0, 1, 2] [] [0] rfl rfl rfl (hL89 k53 hk53 k61 hk61 p0 p1 p2 p3 v69 p3 0 _)
      · refine r_iconst (pc := 84) (v := 1) E dX13_depths_84 (by decide) ?_
        refine r_goto (pc := 85) (tgt := 89) E dX13_depths_85 (by decide) ?_
        exact r_sub [0, 1, 2] [] [0] rfl rfl rfl (hL89 k53 hk53 k61 hk61 p0 p1 p2 p3 v69 p3 1 _)
  have hL53 : ∀ (p0 : Option Nat) (M : Mem), RT p l e rmX13_depths s m args below meth c x 7 (QM below args s x (fun v : Int32 => some (.int v)) rmX13_depths.cells rmX13_depths.slots) 0 0 (fX13_depths_L53 p0 M) 53 [] [] [(0, p0)] [] M := by
    intro p0 M
    refine r_lp (fi := fun a : Option Nat => []) (fl := fun a : Option Nat => []) (fr := fun a : Option Nat => [(0, a)]) (fs := fun a : Option Nat => []) ?_ FU p0 M
    intro k53 hk53 a M
    obtain ⟨p0, rfl⟩ : ∃ z, z = a := ⟨_, rfl⟩
    show RT p l e rmX13_depths s m args below meth c x 7 (QM below args s x (fun v : Int32 => some (.int v)) rmX13_depths.cells rmX13_depths.slots) 0 0 (fX13_depths_B53 k53 p0 M) 53 [] [] [(0, p0)] [] M
    unfold fX13_depths_B53
    refine r_iconst (pc := 53) (v := 0) E dX13_depths_53 (by decide) ?_
    refine r_istore_n (pc := 54) (lf := fun v54 => [(1, v54)]) (lg := fun v54 => []) (lk := fun v54 => [(0, p0)]) E dX13_depths_54 rfl (by decide) (fun _ => rfl) (fun _ => rfl) (fun _ => rfl) (fun v54 => ?_)
    refine r_sipush (pc := 55) (v := 256) E dX13_depths_55 (by decide) ?_
    refine r_istore_n (pc := 58) (lf := fun v58 => [(2, v58), (1, v54)]) (lg := fun v58 => []) (lk := fun v58 => [(0, p0)]) E dX13_depths_58 rfl (by decide) (fun _ => rfl) (fun _ => rfl) (fun _ => rfl) (fun v58 => ?_)
    refine r_iconst (pc := 59) (v := 0) E dX13_depths_59 (by decide) ?_
    refine r_istore_n (pc := 60) (lf := fun v60 => [(3, v60), (2, v58), (1, v54)]) (lg := fun v60 => []) (lk := fun v60 => [(0, p0)]) E dX13_depths_60 rfl (by decide) (fun _ => rfl) (fun _ => rfl) (fun _ => rfl) (fun v60 => ?_)
    exact r_sub [2, 1, 0] [] [0] rfl rfl rfl (hL61 k53 hk53 p0 v54 v58 v60 _)
  have hL24 : ∀ (p0 : Option Nat) (p1 : Int32) (M : Mem), RT p l e rmX13_depths s m args below meth c x 7 (QM below args s x (fun v : Int32 => some (.int v)) rmX13_depths.cells rmX13_depths.slots) 0 0 (fX13_depths_L24 p0 p1 M) 24 [(1, p1)] [] [(0, p0)] [] M := by
    intro p0 p1 M
    refine r_lp (fi := fun a : Option Nat × Int32 => [(1, a.2)]) (fl := fun a : Option Nat × Int32 => []) (fr := fun a : Option Nat × Int32 => [(0, a.1)]) (fs := fun a : Option Nat × Int32 => []) ?_ FU ((p0, p1)) M
    intro k24 hk24 a M
    obtain ⟨p0, p1⟩ := a
    show RT p l e rmX13_depths s m args below meth c x 7 (QM below args s x (fun v : Int32 => some (.int v)) rmX13_depths.cells rmX13_depths.slots) 0 0 (fX13_depths_B24 k24 p0 p1 M) 24 [(1, p1)] [] [(0, p0)] [] M
    unfold fX13_depths_B24
    refine r_iload_n (pc := 24) E dX13_depths_24 rfl 0 rfl ?_
    refine r_aload_n (pc := 25) E dX13_depths_25 rfl 0 rfl ?_
    refine r_getI (pc := 26) E fd_13_68 wf_RX13_446 dX13_depths_26 (fun v26 => ?_)
    refine r_icmp_ge (pc := 29) (tgt := 53) E dX13_depths_29 (by decide) ?_ ?_
    · exact r_sub [] [] [0] rfl rfl rfl (hL53 p0 _)
    · refine r_aload_n (pc := 32) E dX13_depths_32 rfl 0 rfl ?_
      refine r_getA (pc := 33) E fd_13_70 wf_RX13_141 dX13_depths_33 (fun v33 => ?_)
      refine r_aload_n (pc := 36) E dX13_depths_36 rfl 0 rfl ?_
      refine r_getA (pc := 37) E fd_13_67 wf_RX13_135 dX13_depths_37 (fun v37 => ?_)
      refine r_iload_n (pc := 40) E dX13_depths_40 rfl 0 rfl ?_
      refine r_baload (pc := 41) E dX13_depths_41 (fun v41 => ?_)
      refine r_dup2 (pc := 42) E dX13_depths_42 rfl (rv_cat _ _) ?_
      refine r_laload (pc := 43) E dX13_depths_43 (fun v43 => ?_)
      refine r_lconst (pc := 44) (v := 1) E dX13_depths_44 (by decide) ?_
      refine r_ladd (pc := 45) E dX13_depths_45 ?_
      refine r_lastore (pc := 46) E dX13_depths_46 (fun M46 => ?_)
      refine r_iinc (pc := 47) (w := 1) (lf := fun v47 => [(1, v47)]) (ll' := []) (lr' := [(0, p0)]) E dX13_depths_47 0 rfl (by decide) (by decide) (fun _ => rfl) rfl rfl (fun v47 => ?_)
      refine r_goto (pc := 50) (tgt := 24) E dX13_depths_50 (by decide) ?_
      exact r_sub [0] [] [0] rfl rfl rfl (hk24 ((p0, v47)) _)
  have hL2 : ∀ (p0 : Option Nat) (p1 : Int32) (M : Mem), RT p l e rmX13_depths s m args below meth c x 7 (QM below args s x (fun v : Int32 => some (.int v)) rmX13_depths.cells rmX13_depths.slots) 0 0 (fX13_depths_L2 p0 p1 M) 2 [(1, p1)] [] [(0, p0)] [] M := by
    intro p0 p1 M
    refine r_lp (fi := fun a : Option Nat × Int32 => [(1, a.2)]) (fl := fun a : Option Nat × Int32 => []) (fr := fun a : Option Nat × Int32 => [(0, a.1)]) (fs := fun a : Option Nat × Int32 => []) ?_ FU ((p0, p1)) M
    intro k2 hk2 a M
    obtain ⟨p0, p1⟩ := a
    show RT p l e rmX13_depths s m args below meth c x 7 (QM below args s x (fun v : Int32 => some (.int v)) rmX13_depths.cells rmX13_depths.slots) 0 0 (fX13_depths_B2 k2 p0 p1 M) 2 [(1, p1)] [] [(0, p0)] [] M
    unfold fX13_depths_B2
    refine r_iload_n (pc := 2) E dX13_depths_2 rfl 0 rfl ?_
    refine r_sipush (pc := 3) (v := 256) E dX13_depths_3 (by decide) ?_
    refine r_icmp_ge (pc := 6) (tgt := 22) E dX13_depths_6 (by decide) ?_ ?_
    · refine r_iconst (pc := 22) (v := 0) E dX13_depths_22 (by decide) ?_
      refine r_istore_n (pc := 23) (lf := fun v23 => [(1, v23)]) (lg := fun v23 => []) (lk := fun v23 => [(0, p0)]) E dX13_depths_23 rfl (by decide) (fun _ => rfl) (fun _ => rfl) (fun _ => rfl) (fun v23 => ?_)
      exact r_sub [0] [] [0] rfl rfl rfl (hL24 p0 v23 _)
    · refine r_aload_n (pc := 9) E dX13_depths_9 rfl 0 rfl ?_
      refine r_getA (pc := 10) E fd_13_70 wf_RX13_141 dX13_depths_10 (fun v10 => ?_)
      refine r_iload_n (pc := 13) E dX13_depths_13 rfl 0 rfl ?_
      refine r_lconst (pc := 14) (v := 0) E dX13_depths_14 (by decide) ?_
      refine r_lastore (pc := 15) E dX13_depths_15 (fun M15 => ?_)
      refine r_iinc (pc := 16) (w := 1) (lf := fun v16 => [(1, v16)]) (ll' := []) (lr' := [(0, p0)]) E dX13_depths_16 0 rfl (by decide) (by decide) (fun _ => rfl) rfl rfl (fun v16 => ?_)
      refine r_goto (pc := 19) (tgt := 2) E dX13_depths_19 (by decide) ?_
      exact r_sub [0] [] [0] rfl rfl rfl (hk2 ((p0, v16)) _)
  show RT p l e rmX13_depths s m args below meth c x 7 (QM below args s x (fun v : Int32 => some (.int v)) rmX13_depths.cells rmX13_depths.slots) 0 0 (fX13_depths a0 M) 0 [] [] [(0, a0)] [] M
  unfold fX13_depths
  refine r_iconst (pc := 0) (v := 0) E dX13_depths_0 (by decide) ?_
  refine r_istore_n (pc := 1) (lf := fun v1 => [(1, v1)]) (lg := fun v1 => []) (lk := fun v1 => [(0, a0)]) E dX13_depths_1 rfl (by decide) (fun _ => rfl) (fun _ => rfl) (fun _ => rfl) (fun v1 => ?_)
  exact r_sub [0] [] [0] rfl rfl rfl (hL2 a0 v1 _)
def fX13_sayCode_L126 (k92 : Option Nat × Int32 × Int32 → Mem → Option (Unit × Mem)) (p0 : Option Nat) (p2 : Int32) (p3 : Int32) (q0 : Option Nat) (q1 : Int32) (q2 : Int32) (M : Mem) : Option (Unit × Mem) :=
  bo (chk M q0 13) fun _ => bd (fX13_say q0 ((q1 + q2).toInt64) 1 M) fun v129 M129 =>
  bn (p3 + 2) fun v132 =>
  k92 ((p0, p2, v132)) M129
def fX13_sayCode_B92 (k92 : Option Nat × Int32 × Int32 → Mem → Option (Unit × Mem)) (p0 : Option Nat) (p2 : Int32) (p3 : Int32) (M : Mem) : Option (Unit × Mem) :=
  if p2 ≤ p3 then (
    bo (chk M p0 13) fun _ => bd (fX13_codeOf p0 2 p2 M) fun v141 M141 =>
    bn (v141) fun v144 =>
    some ((), M141)
  ) else (
    bo (gR M p0 13 24) fun v99 =>
    bo (aI M v99 15 p3) fun v103 =>
    if p2 ≤ (p3 + 1) then (
      fX13_sayCode_L126 k92 p0 p2 p3 p0 (v103 * 16) 0 M
    ) else (
      bo (gR M p0 13 24) fun v115 =>
      bo (aI M v115 15 (p3 + 1)) fun v121 =>
      fX13_sayCode_L126 k92 p0 p2 p3 p0 (v103 * 16) v121 M
    )
  )
def fX13_sayCode_L92 (p0 : Option Nat) (p2 : Int32) (p3 : Int32) (M : Mem) : Option (Unit × Mem) :=
  lp (fun k92 (a : Option Nat × Int32 × Int32) M => fX13_sayCode_B92 k92 a.1 a.2.1 a.2.2 M) FU ((p0, p2, p3)) M
def fX13_sayCode_L73 (k30 : Option Nat × Int32 × Int32 × Int32 → Mem → Option (Unit × Mem)) (p0 : Option Nat) (p1 : Int32) (p2 : Int32) (p3 : Int32) (q0 : Option Nat) (q1 : Int32) (q2 : Int32) (M : Mem) : Option (Unit × Mem) :=
  bo (wI M q0 q1 q2) fun M73 =>
  bn (p3 + 1) fun v74 =>
  k30 ((p0, p1, p2, v74)) M73
def fX13_sayCode_B30 (k30 : Option Nat × Int32 × Int32 × Int32 → Mem → Option (Unit × Mem)) (p0 : Option Nat) (p1 : Int32) (p2 : Int32) (p3 : Int32) (M : Mem) : Option (Unit × Mem) :=
  if 256 ≤ p3 then (
    bo (chk M p0 13) fun _ => bd (fX13_say p0 ((127 + p2).toInt64) 1 M) fun v87 M87 =>
    bn (0) fun v91 =>
    fX13_sayCode_L92 p0 p2 v91 M87
  ) else (
    bo (gR M p0 13 24) fun v38 =>
    bo (gR M p0 13 20) fun v43 =>
    bo (aI M v43 15 (512 + p3)) fun v51 =>
    if v51 ≤ 0 then (
      fX13_sayCode_L73 k30 p0 p1 p2 p3 v38 p3 0 M
    ) else (
      bo (gR M p0 13 20) fun v59 =>
      bo (aI M v59 15 (512 + p3)) fun v67 =>
      fX13_sayCode_L73 k30 p0 p1 p2 p3 v38 p3 ((p1 + 1) - v67) M
    )
  )
def fX13_sayCode_L30 (p0 : Option Nat) (p1 : Int32) (p2 : Int32) (p3 : Int32) (M : Mem) : Option (Unit × Mem) :=
  lp (fun k30 (a : Option Nat × Int32 × Int32 × Int32) M => fX13_sayCode_B30 k30 a.1 a.2.1 a.2.2.1 a.2.2.2 M) FU ((p0, p1, p2, p3)) M
def fX13_sayCode_B9 (k9 : Option Nat × Int32 × Int32 → Mem → Option (Unit × Mem)) (p0 : Option Nat) (p1 : Int32) (p2 : Int32) (M : Mem) : Option (Unit × Mem) :=
  bo (gR M p0 13 20) fun v10 =>
  bo (aI M v10 15 (512 + p2)) fun v18 =>
  if v18 = 0 then (
    bn (p2 + (-1)) fun v22 =>
    k9 ((p0, p1, v22)) M
  ) else (
    bn (0) fun v29 =>
    fX13_sayCode_L30 p0 p1 p2 v29 M
  )
def fX13_sayCode_L9 (p0 : Option Nat) (p1 : Int32) (p2 : Int32) (M : Mem) : Option (Unit × Mem) :=
  lp (fun k9 (a : Option Nat × Int32 × Int32) M => fX13_sayCode_B9 k9 a.1 a.2.1 a.2.2 M) FU ((p0, p1, p2)) M
def fX13_sayCode (a0 : Option Nat) (M : Mem) : Option (Unit × Mem) :=
  bo (chk M a0 13) fun _ => bd (fX13_depths a0 M) fun v1 M1 =>
  bn (v1) fun v4 =>
  bn (255) fun v8 =>
  fX13_sayCode_L9 a0 v4 v8 M1
def rmX13_sayCode : Room := { frames := 2, cells := 0, slots := 0, locals := 50 }
set_option maxRecDepth 100000 in
set_option maxHeartbeats 4000000 in
theorem ctX13_sayCode (l : Launch) (x : Cx) (a0 : Option Nat) (M : Mem) (v : Unit) (N : Mem) (h : fX13_sayCode a0 M = some (v, N)) : CT l yX13_sayCode cX13_sayCode 4 (none) rmX13_sayCode x [rv x a0] M none N := by
  refine ct_mk (enc := fun _ : Unit => none) (li := []) (ll := []) (lr := [(0, a0)]) (by decide +kernel) (by simp [lg_sl, rv_cat, cat_int, cat_long]) (by simp [flat, lv_args, rv_cat, cat_int, cat_long]) h ?_
  intro p e s m args below meth c E
  have hL126 : ∀ (k92 : Option Nat × Int32 × Int32 → Mem → Option (Unit × Mem)) (hk92 : ∀ a M, RT p l e rmX13_sayCode s m args below meth c x 4 (QM below args s x (fun _ : Unit => none) rmX13_sayCode.cells rmX13_sayCode.slots) 0 0 (k92 a M) 92 [(2, a.2.1), (3, a.2.2)] [] [(0, a.1)] [] M) (p0 : Option Nat) (p2 : Int32) (p3 : Int32) (q0 : Option Nat) (q1 : Int32) (q2 : Int32) (M : Mem), RT p l e rmX13_sayCode s m args below meth c x 4 (QM below args s x (fun _ : Unit => none) rmX13_sayCode.cells rmX13_sayCode.slots) 0 0 (fX13_sayCode_L126 k92 p0 p2 p3 q0 q1 q2 M) 126 [(2, p2), (3, p3)] [] [(0, p0)] [.int q2, .int q1, rv x q0] M := by
    intro k92 hk92 p0 p2 p3 q0 q1 q2 M
    unfold fX13_sayCode_L126
    refine r_iadd (pc := 126) E dX13_sayCode_126 ?_
    refine r_i2l (pc := 127) E dX13_sayCode_127 ?_
    refine r_iconst (pc := 128) (v := 1) E dX13_sayCode_128 (by decide) ?_
    refine r_kVv (pc := 129) (As := [.long ((q1 + q2).toInt64), .int 1]) (rest := []) E wc_X13_say wi_RX13 hd_X13_say (ci := 13) rfl wl_RX13_418 wn_X13_say ws_X13_say dX13_sayCode_129 (by decide) (Nat.le_of_ble_eq_true rfl) ⟨rfl, rfl⟩ (ctX13_say l x _ _ _ _) rfl (fun v129 M129 => ?_)
    refine r_iinc (pc := 132) (w := 2) (lf := fun v132 => [(3, v132), (2, p2)]) (ll' := []) (lr' := [(0, p0)]) E dX13_sayCode_132 1 rfl (by decide) (by decide) (fun _ => rfl) rfl rfl (fun v132 => ?_)
    refine r_goto (pc := 135) (tgt := 92) E dX13_sayCode_135 (by decide) ?_
    exact r_sub [1, 0] [] [0] rfl rfl rfl (hk92 ((p0, p2, v132)) _)
  have hL92 : ∀ (p0 : Option Nat) (p2 : Int32) (p3 : Int32) (M : Mem), RT p l e rmX13_sayCode s m args below meth c x 4 (QM below args s x (fun _ : Unit => none) rmX13_sayCode.cells rmX13_sayCode.slots) 0 0 (fX13_sayCode_L92 p0 p2 p3 M) 92 [(2, p2), (3, p3)] [] [(0, p0)] [] M := by
    intro p0 p2 p3 M
    refine r_lp (fi := fun a : Option Nat × Int32 × Int32 => [(2, a.2.1), (3, a.2.2)]) (fl := fun a : Option Nat × Int32 × Int32 => []) (fr := fun a : Option Nat × Int32 × Int32 => [(0, a.1)]) (fs := fun a : Option Nat × Int32 × Int32 => []) ?_ FU ((p0, p2, p3)) M
    intro k92 hk92 a M
    obtain ⟨p0, p2, p3⟩ := a
    show RT p l e rmX13_sayCode s m args below meth c x 4 (QM below args s x (fun _ : Unit => none) rmX13_sayCode.cells rmX13_sayCode.slots) 0 0 (fX13_sayCode_B92 k92 p0 p2 p3 M) 92 [(2, p2), (3, p3)] [] [(0, p0)] [] M
    unfold fX13_sayCode_B92
    refine r_iload_n (pc := 92) E dX13_sayCode_92 rfl 1 rfl ?_
    refine r_iload_n (pc := 93) E dX13_sayCode_93 rfl 0 rfl ?_
    refine r_icmp_ge (pc := 94) (tgt := 138) E dX13_sayCode_94 (by decide) ?_ ?_
    · refine r_aload_n (pc := 138) E dX13_sayCode_138 rfl 0 rfl ?_
      refine r_iconst (pc := 139) (v := 2) E dX13_sayCode_139 (by decide) ?_
      refine r_iload_n (pc := 140) E dX13_sayCode_140 rfl 0 rfl ?_
      refine r_kVi (pc := 141) (As := [.int 2, .int p2]) (rest := []) E wc_X13_codeOf wi_RX13 hd_X13_codeOf (ci := 13) rfl wl_RX13_242 wn_X13_codeOf ws_X13_codeOf dX13_sayCode_141 (by decide) (Nat.le_of_ble_eq_true rfl) ⟨rfl, rfl⟩ (ctX13_codeOf l x _ _ _ _) rfl (fun v141 M141 => ?_)
      refine r_istore_n (pc := 144) (lf := fun v144 => [(3, v144), (2, p2)]) (lg := fun v144 => []) (lk := fun v144 => [(0, p0)]) E dX13_sayCode_144 rfl (by decide) (fun _ => rfl) (fun _ => rfl) (fun _ => rfl) (fun v144 => ?_)
      exact e_void (pc := 145) E dX13_sayCode_145
    · refine r_aload_n (pc := 97) E dX13_sayCode_97 rfl 0 rfl ?_
      refine r_aload_n (pc := 98) E dX13_sayCode_98 rfl 0 rfl ?_
      refine r_getA (pc := 99) E fd_13_24 wf_RX13_59 dX13_sayCode_99 (fun v99 => ?_)
      refine r_iload_n (pc := 102) E dX13_sayCode_102 rfl 1 rfl ?_
      refine r_iaload (pc := 103) E dX13_sayCode_103 (fun v103 => ?_)
      refine r_bipush (pc := 104) (v := 16) E dX13_sayCode_104 (by decide) ?_
      refine r_imul (pc := 106) E dX13_sayCode_106 ?_
      refine r_iload_n (pc := 107) E dX13_sayCode_107 rfl 1 rfl ?_
      refine r_iconst (pc := 108) (v := 1) E dX13_sayCode_108 (by decide) ?_
      refine r_iadd (pc := 109) E dX13_sayCode_109 ?_
      refine r_iload_n (pc := 110) E dX13_sayCode_110 rfl 0 rfl ?_
      refine r_icmp_ge (pc := 111) (tgt := 125) E dX13_sayCode_111 (by decide) ?_ ?_
      · refine r_iconst (pc := 125) (v := 0) E dX13_sayCode_125 (by decide) ?_
        exact r_sub [0, 1] [] [0] rfl rfl rfl (hL126 k92 hk92 p0 p2 p3 p0 (v103 * 16) 0 _)
      · refine r_aload_n (pc := 114) E dX13_sayCode_114 rfl 0 rfl ?_
        refine r_getA (pc := 115) E fd_13_24 wf_RX13_59 dX13_sayCode_115 (fun v115 => ?_)
        refine r_iload_n (pc := 118) E dX13_sayCode_118 rfl 1 rfl ?_
        refine r_iconst (pc := 119) (v := 1) E dX13_sayCode_119 (by decide) ?_
        refine r_iadd (pc := 120) E dX13_sayCode_120 ?_
        refine r_iaload (pc := 121) E dX13_sayCode_121 (fun v121 => ?_)
        refine r_goto (pc := 122) (tgt := 126) E dX13_sayCode_122 (by decide) ?_
        exact r_sub [0, 1] [] [0] rfl rfl rfl (hL126 k92 hk92 p0 p2 p3 p0 (v103 * 16) v121 _)
  have hL73 : ∀ (k30 : Option Nat × Int32 × Int32 × Int32 → Mem → Option (Unit × Mem)) (hk30 : ∀ a M, RT p l e rmX13_sayCode s m args below meth c x 4 (QM below args s x (fun _ : Unit => none) rmX13_sayCode.cells rmX13_sayCode.slots) 0 0 (k30 a M) 30 [(1, a.2.1), (2, a.2.2.1), (3, a.2.2.2)] [] [(0, a.1)] [] M) (p0 : Option Nat) (p1 : Int32) (p2 : Int32) (p3 : Int32) (q0 : Option Nat) (q1 : Int32) (q2 : Int32) (M : Mem), RT p l e rmX13_sayCode s m args below meth c x 4 (QM below args s x (fun _ : Unit => none) rmX13_sayCode.cells rmX13_sayCode.slots) 0 0 (fX13_sayCode_L73 k30 p0 p1 p2 p3 q0 q1 q2 M) 73 [(1, p1), (2, p2), (3, p3)] [] [(0, p0)] [.int q2, .int q1, rv x q0] M := by
    intro k30 hk30 p0 p1 p2 p3 q0 q1 q2 M
    unfold fX13_sayCode_L73
    refine r_iastore (pc := 73) E dX13_sayCode_73 (fun M73 => ?_)
    refine r_iinc (pc := 74) (w := 1) (lf := fun v74 => [(3, v74), (1, p1), (2, p2)]) (ll' := []) (lr' := [(0, p0)]) E dX13_sayCode_74 2 rfl (by decide) (by decide) (fun _ => rfl) rfl rfl (fun v74 => ?_)
    refine r_goto (pc := 77) (tgt := 30) E dX13_sayCode_77 (by decide) ?_
    exact r_sub [1, 2, 0] [] [0] rfl rfl rfl (hk30 ((p0, p1, p2, v74)) _)
  have hL30 : ∀ (p0 : Option Nat) (p1 : Int32) (p2 : Int32) (p3 : Int32) (M : Mem), RT p l e rmX13_sayCode s m args below meth c x 4 (QM below args s x (fun _ : Unit => none) rmX13_sayCode.cells rmX13_sayCode.slots) 0 0 (fX13_sayCode_L30 p0 p1 p2 p3 M) 30 [(1, p1), (2, p2), (3, p3)] [] [(0, p0)] [] M := by
    intro p0 p1 p2 p3 M
    refine r_lp (fi := fun a : Option Nat × Int32 × Int32 × Int32 => [(1, a.2.1), (2, a.2.2.1), (3, a.2.2.2)]) (fl := fun a : Option Nat × Int32 × Int32 × Int32 => []) (fr := fun a : Option Nat × Int32 × Int32 × Int32 => [(0, a.1)]) (fs := fun a : Option Nat × Int32 × Int32 × Int32 => []) ?_ FU ((p0, p1, p2, p3)) M
    intro k30 hk30 a M
    obtain ⟨p0, p1, p2, p3⟩ := a
    show RT p l e rmX13_sayCode s m args below meth c x 4 (QM below args s x (fun _ : Unit => none) rmX13_sayCode.cells rmX13_sayCode.slots) 0 0 (fX13_sayCode_B30 k30 p0 p1 p2 p3 M) 30 [(1, p1), (2, p2), (3, p3)] [] [(0, p0)] [] M
    unfold fX13_sayCode_B30
    refine r_iload_n (pc := 30) E dX13_sayCode_30 rfl 2 rfl ?_
    refine r_sipush (pc := 31) (v := 256) E dX13_sayCode_31 (by decide) ?_
    refine r_icmp_ge (pc := 34) (tgt := 80) E dX13_sayCode_34 (by decide) ?_ ?_
    · refine r_aload_n (pc := 80) E dX13_sayCode_80 rfl 0 rfl ?_
      refine r_bipush (pc := 81) (v := 127) E dX13_sayCode_81 (by decide) ?_
      refine r_iload_n (pc := 83) E dX13_sayCode_83 rfl 1 rfl ?_
      refine r_iadd (pc := 84) E dX13_sayCode_84 ?_
      refine r_i2l (pc := 85) E dX13_sayCode_85 ?_
      refine r_iconst (pc := 86) (v := 1) E dX13_sayCode_86 (by decide) ?_
      refine r_kVv (pc := 87) (As := [.long ((127 + p2).toInt64), .int 1]) (rest := []) E wc_X13_say wi_RX13 hd_X13_say (ci := 13) rfl wl_RX13_418 wn_X13_say ws_X13_say dX13_sayCode_87 (by decide) (Nat.le_of_ble_eq_true rfl) ⟨rfl, rfl⟩ (ctX13_say l x _ _ _ _) rfl (fun v87 M87 => ?_)
      refine r_iconst (pc := 90) (v := 0) E dX13_sayCode_90 (by decide) ?_
      refine r_istore_n (pc := 91) (lf := fun v91 => [(3, v91), (1, p1), (2, p2)]) (lg := fun v91 => []) (lk := fun v91 => [(0, p0)]) E dX13_sayCode_91 rfl (by decide) (fun _ => rfl) (fun _ => rfl) (fun _ => rfl) (fun v91 => ?_)
      exact r_sub [2, 0] [] [0] rfl rfl rfl (hL92 p0 p2 v91 _)
    · refine r_aload_n (pc := 37) E dX13_sayCode_37 rfl 0 rfl ?_
      refine r_getA (pc := 38) E fd_13_24 wf_RX13_59 dX13_sayCode_38 (fun v38 => ?_)
      refine r_iload_n (pc := 41) E dX13_sayCode_41 rfl 2 rfl ?_
      refine r_aload_n (pc := 42) E dX13_sayCode_42 rfl 0 rfl ?_
      refine r_getA (pc := 43) E fd_13_20 wf_RX13_47 dX13_sayCode_43 (fun v43 => ?_)
      refine r_sipush (pc := 46) (v := 512) E dX13_sayCode_46 (by decide) ?_
      refine r_iload_n (pc := 49) E dX13_sayCode_49 rfl 2 rfl ?_
      refine r_iadd (pc := 50) E dX13_sayCode_50 ?_
      refine r_iaload (pc := 51) E dX13_sayCode_51 (fun v51 => ?_)
      refine r_if_le (pc := 52) (tgt := 72) E dX13_sayCode_52 (by decide) ?_ ?_
      · refine r_iconst (pc := 72) (v := 0) E dX13_sayCode_72 (by decide) ?_
        exact r_sub [0, 1, 2] [] [0] rfl rfl rfl (hL73 k30 hk30 p0 p1 p2 p3 v38 p3 0 _)
      · refine r_iload_n (pc := 55) E dX13_sayCode_55 rfl 0 rfl ?_
        refine r_iconst (pc := 56) (v := 1) E dX13_sayCode_56 (by decide) ?_
        refine r_iadd (pc := 57) E dX13_sayCode_57 ?_
        refine r_aload_n (pc := 58) E dX13_sayCode_58 rfl 0 rfl ?_
        refine r_getA (pc := 59) E fd_13_20 wf_RX13_47 dX13_sayCode_59 (fun v59 => ?_)
        refine r_sipush (pc := 62) (v := 512) E dX13_sayCode_62 (by decide) ?_
        refine r_iload_n (pc := 65) E dX13_sayCode_65 rfl 2 rfl ?_
        refine r_iadd (pc := 66) E dX13_sayCode_66 ?_
        refine r_iaload (pc := 67) E dX13_sayCode_67 (fun v67 => ?_)
        refine r_isub (pc := 68) E dX13_sayCode_68 ?_
        refine r_goto (pc := 69) (tgt := 73) E dX13_sayCode_69 (by decide) ?_
        exact r_sub [0, 1, 2] [] [0] rfl rfl rfl (hL73 k30 hk30 p0 p1 p2 p3 v38 p3 ((p1 + 1) - v67) _)
  have hL9 : ∀ (p0 : Option Nat) (p1 : Int32) (p2 : Int32) (M : Mem), RT p l e rmX13_sayCode s m args below meth c x 4 (QM below args s x (fun _ : Unit => none) rmX13_sayCode.cells rmX13_sayCode.slots) 0 0 (fX13_sayCode_L9 p0 p1 p2 M) 9 [(1, p1), (2, p2)] [] [(0, p0)] [] M := by
    intro p0 p1 p2 M
    refine r_lp (fi := fun a : Option Nat × Int32 × Int32 => [(1, a.2.1), (2, a.2.2)]) (fl := fun a : Option Nat × Int32 × Int32 => []) (fr := fun a : Option Nat × Int32 × Int32 => [(0, a.1)]) (fs := fun a : Option Nat × Int32 × Int32 => []) ?_ FU ((p0, p1, p2)) M
    intro k9 hk9 a M
    obtain ⟨p0, p1, p2⟩ := a
    show RT p l e rmX13_sayCode s m args below meth c x 4 (QM below args s x (fun _ : Unit => none) rmX13_sayCode.cells rmX13_sayCode.slots) 0 0 (fX13_sayCode_B9 k9 p0 p1 p2 M) 9 [(1, p1), (2, p2)] [] [(0, p0)] [] M
    unfold fX13_sayCode_B9
    refine r_aload_n (pc := 9) E dX13_sayCode_9 rfl 0 rfl ?_
    refine r_getA (pc := 10) E fd_13_20 wf_RX13_47 dX13_sayCode_10 (fun v10 => ?_)
    refine r_sipush (pc := 13) (v := 512) E dX13_sayCode_13 (by decide) ?_
    refine r_iload_n (pc := 16) E dX13_sayCode_16 rfl 1 rfl ?_
    refine r_iadd (pc := 17) E dX13_sayCode_17 ?_
    refine r_iaload (pc := 18) E dX13_sayCode_18 (fun v18 => ?_)
    refine r_if_ne (pc := 19) (tgt := 28) E dX13_sayCode_19 (by decide) ?_ ?_
    · refine r_iconst (pc := 28) (v := 0) E dX13_sayCode_28 (by decide) ?_
      refine r_istore_n (pc := 29) (lf := fun v29 => [(3, v29), (1, p1), (2, p2)]) (lg := fun v29 => []) (lk := fun v29 => [(0, p0)]) E dX13_sayCode_29 rfl (by decide) (fun _ => rfl) (fun _ => rfl) (fun _ => rfl) (fun v29 => ?_)
      exact r_sub [1, 2, 0] [] [0] rfl rfl rfl (hL30 p0 p1 p2 v29 _)
    · refine r_iinc (pc := 22) (w := (-1)) (lf := fun v22 => [(2, v22), (1, p1)]) (ll' := []) (lr' := [(0, p0)]) E dX13_sayCode_22 1 rfl (by decide) (by decide) (fun _ => rfl) rfl rfl (fun v22 => ?_)
      refine r_goto (pc := 25) (tgt := 9) E dX13_sayCode_25 (by decide) ?_
      exact r_sub [1, 0] [] [0] rfl rfl rfl (hk9 ((p0, p1, v22)) _)
  show RT p l e rmX13_sayCode s m args below meth c x 4 (QM below args s x (fun _ : Unit => none) rmX13_sayCode.cells rmX13_sayCode.slots) 0 0 (fX13_sayCode a0 M) 0 [] [] [(0, a0)] [] M
  unfold fX13_sayCode
  refine r_aload_n (pc := 0) E dX13_sayCode_0 rfl 0 rfl ?_
  refine r_kVi (pc := 1) (As := []) (rest := []) E wc_X13_depths wi_RX13 hd_X13_depths (ci := 13) rfl wl_RX13_470 wn_X13_depths ws_X13_depths dX13_sayCode_1 (by decide) (Nat.le_of_ble_eq_true rfl) ⟨rfl, rfl⟩ (ctX13_depths l x _ _) rfl (fun v1 M1 => ?_)
  refine r_istore_n (pc := 4) (lf := fun v4 => [(1, v4)]) (lg := fun v4 => []) (lk := fun v4 => [(0, a0)]) E dX13_sayCode_4 rfl (by decide) (fun _ => rfl) (fun _ => rfl) (fun _ => rfl) (fun v4 => ?_)
  refine r_sipush (pc := 5) (v := 255) E dX13_sayCode_5 (by decide) ?_
  refine r_istore_n (pc := 8) (lf := fun v8 => [(2, v8), (1, v4)]) (lg := fun v8 => []) (lk := fun v8 => [(0, a0)]) E dX13_sayCode_8 rfl (by decide) (fun _ => rfl) (fun _ => rfl) (fun _ => rfl) (fun v8 => ?_)
  exact r_sub [1, 0] [] [0] rfl rfl rfl (hL9 a0 v4 v8 _)
def fX13_stream__B37 (k10 : Option Nat × Int32 × Int32 × Int32 → Mem → Option (Unit × Mem)) (k37 : Option Nat × Int32 × Int32 × Int32 × Int32 × Int32 → Mem → Option (Unit × Mem)) (p0 : Option Nat) (p2 : Int32) (p3 : Int32) (p4 : Int32) (p5 : Int32) (p6 : Int32) (M : Mem) : Option (Unit × Mem) :=
  bo (gR M p0 13 23) fun v38 =>
  bo (aI M v38 17 (4096 + p6)) fun v47 =>
  bo (gR M p0 13 67) fun v49 =>
  bo (aI M v49 14 p4) fun v54 =>
  if v47 = v54 then (
    bo (chk M p0 13) fun _ => bd (fX13_digit p0 ((shrI p6 (p3 - p5)).toInt64) p5 M) fun v75 M75 =>
    bn (p4 + 1) fun v78 =>
    k10 ((p0, p2, p3, v78)) M75
  ) else (
    bn (p6 + 1) fun v58 =>
    k37 ((p0, p2, p3, p4, p5, v58)) M
  )
def fX13_stream__L37 (k10 : Option Nat × Int32 × Int32 × Int32 → Mem → Option (Unit × Mem)) (p0 : Option Nat) (p2 : Int32) (p3 : Int32) (p4 : Int32) (p5 : Int32) (p6 : Int32) (M : Mem) : Option (Unit × Mem) :=
  lp (fun k37 (a : Option Nat × Int32 × Int32 × Int32 × Int32 × Int32) M => fX13_stream__B37 k10 k37 a.1 a.2.1 a.2.2.1 a.2.2.2.1 a.2.2.2.2.1 a.2.2.2.2.2 M) FU ((p0, p2, p3, p4, p5, p6)) M
def fX13_stream__B10 (k10 : Option Nat × Int32 × Int32 × Int32 → Mem → Option (Unit × Mem)) (p0 : Option Nat) (p2 : Int32) (p3 : Int32) (p4 : Int32) (M : Mem) : Option (Unit × Mem) :=
  if p2 ≤ p4 then (
    bo (chk M p0 13) fun _ => bd (fX13_sayDigits p0 M) fun v85 M85 =>
    some ((), M85)
  ) else (
    bo (gR M p0 13 20) fun v17 =>
    bo (gR M p0 13 67) fun v24 =>
    bo (aI M v24 14 p4) fun v29 =>
    bo (aI M v17 15 (512 + v29)) fun v31 =>
    bn (v31) fun v32 =>
    bn (0) fun v35 =>
    fX13_stream__L37 k10 p0 p2 p3 p4 v32 v35 M
  )
def fX13_stream__L10 (p0 : Option Nat) (p2 : Int32) (p3 : Int32) (p4 : Int32) (M : Mem) : Option (Unit × Mem) :=
  lp (fun k10 (a : Option Nat × Int32 × Int32 × Int32) M => fX13_stream__B10 k10 a.1 a.2.1 a.2.2.1 a.2.2.2 M) FU ((p0, p2, p3, p4)) M
def fX13_stream_ (a0 : Option Nat) (a1 : Int32) (a2 : Int32) (M : Mem) : Option (Unit × Mem) :=
  bo (gR M a0 13 22) fun v1 =>
  bo (aI M v1 15 2) fun v5 =>
  bn (v5) fun v6 =>
  bn (a1) fun v8 =>
  fX13_stream__L10 a0 a2 v6 v8 M
def rmX13_stream_ : Room := { frames := 2, cells := 0, slots := 0, locals := 49 }
set_option maxRecDepth 100000 in
set_option maxHeartbeats 4000000 in
theorem ctX13_stream_ (l : Launch) (x : Cx) (a0 : Option Nat) (a1 : Int32) (a2 : Int32) (M : Mem) (v : Unit) (N : Mem) (h : fX13_stream_ a0 a1 a2 M = some (v, N)) : CT l yX13_stream_ cX13_stream_ 7 (none) rmX13_stream_ x [rv x a0, .int a1, .int a2] M none N := by
  refine ct_mk (enc := fun _ : Unit => none) (li := [(1, a1), (2, a2)]) (ll := []) (lr := [(0, a0)]) (by decide +kernel) (by simp [lg_sl, rv_cat, cat_int, cat_long]) (by simp [flat, lv_args, rv_cat, cat_int, cat_long]) h ?_
  intro p e s m args below meth c E
  have hL37 : ∀ (k10 : Option Nat × Int32 × Int32 × Int32 → Mem → Option (Unit × Mem)) (hk10 : ∀ a M, RT p l e rmX13_stream_ s m args below meth c x 7 (QM below args s x (fun _ : Unit => none) rmX13_stream_.cells rmX13_stream_.slots) 0 0 (k10 a M) 10 [(2, a.2.1), (3, a.2.2.1), (4, a.2.2.2)] [] [(0, a.1)] [] M) (p0 : Option Nat) (p2 : Int32) (p3 : Int32) (p4 : Int32) (p5 : Int32) (p6 : Int32) (M : Mem), RT p l e rmX13_stream_ s m args below meth c x 7 (QM below args s x (fun _ : Unit => none) rmX13_stream_.cells rmX13_stream_.slots) 0 0 (fX13_stream__L37 k10 p0 p2 p3 p4 p5 p6 M) 37 [(2, p2), (3, p3), (4, p4), (5, p5), (6, p6)] [] [(0, p0)] [] M := by
    intro k10 hk10 p0 p2 p3 p4 p5 p6 M
    refine r_lp (fi := fun a : Option Nat × Int32 × Int32 × Int32 × Int32 × Int32 => [(2, a.2.1), (3, a.2.2.1), (4, a.2.2.2.1), (5, a.2.2.2.2.1), (6, a.2.2.2.2.2)]) (fl := fun a : Option Nat × Int32 × Int32 × Int32 × Int32 × Int32 => []) (fr := fun a : Option Nat × Int32 × Int32 × Int32 × Int32 × Int32 => [(0, a.1)]) (fs := fun a : Option Nat × Int32 × Int32 × Int32 × Int32 × Int32 => []) ?_ FU ((p0, p2, p3, p4, p5, p6)) M
    intro k37 hk37 a M
    obtain ⟨p0, p2, p3, p4, p5, p6⟩ := a
    show RT p l e rmX13_stream_ s m args below meth c x 7 (QM below args s x (fun _ : Unit => none) rmX13_stream_.cells rmX13_stream_.slots) 0 0 (fX13_stream__B37 k10 k37 p0 p2 p3 p4 p5 p6 M) 37 [(2, p2), (3, p3), (4, p4), (5, p5), (6, p6)] [] [(0, p0)] [] M
    unfold fX13_stream__B37
    refine r_aload_n (pc := 37) E dX13_stream__37 rfl 0 rfl ?_
    refine r_getA (pc := 38) E fd_13_23 wf_RX13_56 dX13_stream__38 (fun v38 => ?_)
    refine r_sipush (pc := 41) (v := 4096) E dX13_stream__41 (by decide) ?_
    refine r_iload (pc := 44) E dX13_stream__44 4 rfl ?_
    refine r_iadd (pc := 46) E dX13_stream__46 ?_
    refine r_saload (pc := 47) E dX13_stream__47 (fun v47 => ?_)
    refine r_aload_n (pc := 48) E dX13_stream__48 rfl 0 rfl ?_
    refine r_getA (pc := 49) E fd_13_67 wf_RX13_135 dX13_stream__49 (fun v49 => ?_)
    refine r_iload (pc := 52) E dX13_stream__52 2 rfl ?_
    refine r_baload (pc := 54) E dX13_stream__54 (fun v54 => ?_)
    refine r_icmp_eq (pc := 55) (tgt := 64) E dX13_stream__55 (by decide) ?_ ?_
    · refine r_aload_n (pc := 64) E dX13_stream__64 rfl 0 rfl ?_
      refine r_iload (pc := 65) E dX13_stream__65 4 rfl ?_
      refine r_iload_n (pc := 67) E dX13_stream__67 rfl 1 rfl ?_
      refine r_iload (pc := 68) E dX13_stream__68 3 rfl ?_
      refine r_isub (pc := 70) E dX13_stream__70 ?_
      refine r_ishr (pc := 71) E dX13_stream__71 ?_
      refine r_i2l (pc := 72) E dX13_stream__72 ?_
      refine r_iload (pc := 73) E dX13_stream__73 3 rfl ?_
      refine r_kVv (pc := 75) (As := [.long ((shrI p6 (p3 - p5)).toInt64), .int p5]) (rest := []) E wc_X13_digit wi_RX13 hd_X13_digit (ci := 13) rfl wl_RX13_473 wn_X13_digit ws_X13_digit dX13_stream__75 (by decide) (Nat.le_of_ble_eq_true rfl) ⟨rfl, rfl⟩ (ctX13_digit l x _ _ _ _) rfl (fun v75 M75 => ?_)
      refine r_iinc (pc := 78) (w := 1) (lf := fun v78 => [(4, v78), (2, p2), (3, p3), (5, p5), (6, p6)]) (ll' := []) (lr' := [(0, p0)]) E dX13_stream__78 2 rfl (by decide) (by decide) (fun _ => rfl) rfl rfl (fun v78 => ?_)
      refine r_goto (pc := 81) (tgt := 10) E dX13_stream__81 (by decide) ?_
      exact r_sub [1, 2, 0] [] [0] rfl rfl rfl (hk10 ((p0, p2, p3, v78)) _)
    · refine r_iinc (pc := 58) (w := 1) (lf := fun v58 => [(6, v58), (2, p2), (3, p3), (4, p4), (5, p5)]) (ll' := []) (lr' := [(0, p0)]) E dX13_stream__58 4 rfl (by decide) (by decide) (fun _ => rfl) rfl rfl (fun v58 => ?_)
      refine r_goto (pc := 61) (tgt := 37) E dX13_stream__61 (by decide) ?_
      exact r_sub [1, 2, 3, 4, 0] [] [0] rfl rfl rfl (hk37 ((p0, p2, p3, p4, p5, v58)) _)
  have hL10 : ∀ (p0 : Option Nat) (p2 : Int32) (p3 : Int32) (p4 : Int32) (M : Mem), RT p l e rmX13_stream_ s m args below meth c x 7 (QM below args s x (fun _ : Unit => none) rmX13_stream_.cells rmX13_stream_.slots) 0 0 (fX13_stream__L10 p0 p2 p3 p4 M) 10 [(2, p2), (3, p3), (4, p4)] [] [(0, p0)] [] M := by
    intro p0 p2 p3 p4 M
    refine r_lp (fi := fun a : Option Nat × Int32 × Int32 × Int32 => [(2, a.2.1), (3, a.2.2.1), (4, a.2.2.2)]) (fl := fun a : Option Nat × Int32 × Int32 × Int32 => []) (fr := fun a : Option Nat × Int32 × Int32 × Int32 => [(0, a.1)]) (fs := fun a : Option Nat × Int32 × Int32 × Int32 => []) ?_ FU ((p0, p2, p3, p4)) M
    intro k10 hk10 a M
    obtain ⟨p0, p2, p3, p4⟩ := a
    show RT p l e rmX13_stream_ s m args below meth c x 7 (QM below args s x (fun _ : Unit => none) rmX13_stream_.cells rmX13_stream_.slots) 0 0 (fX13_stream__B10 k10 p0 p2 p3 p4 M) 10 [(2, p2), (3, p3), (4, p4)] [] [(0, p0)] [] M
    unfold fX13_stream__B10
    refine r_iload (pc := 10) E dX13_stream__10 2 rfl ?_
    refine r_iload_n (pc := 12) E dX13_stream__12 rfl 0 rfl ?_
    refine r_icmp_ge (pc := 13) (tgt := 84) E dX13_stream__13 (by decide) ?_ ?_
    · refine r_aload_n (pc := 84) E dX13_stream__84 rfl 0 rfl ?_
      refine r_kVv (pc := 85) (As := []) (rest := []) E wc_X13_sayDigits wi_RX13 hd_X13_sayDigits (ci := 13) rfl wl_RX13_476 wn_X13_sayDigits ws_X13_sayDigits dX13_stream__85 (by decide) (Nat.le_of_ble_eq_true rfl) ⟨rfl, rfl⟩ (ctX13_sayDigits l x _ _) rfl (fun v85 M85 => ?_)
      exact e_void (pc := 88) E dX13_stream__88
    · refine r_aload_n (pc := 16) E dX13_stream__16 rfl 0 rfl ?_
      refine r_getA (pc := 17) E fd_13_20 wf_RX13_47 dX13_stream__17 (fun v17 => ?_)
      refine r_sipush (pc := 20) (v := 512) E dX13_stream__20 (by decide) ?_
      refine r_aload_n (pc := 23) E dX13_stream__23 rfl 0 rfl ?_
      refine r_getA (pc := 24) E fd_13_67 wf_RX13_135 dX13_stream__24 (fun v24 => ?_)
      refine r_iload (pc := 27) E dX13_stream__27 2 rfl ?_
      refine r_baload (pc := 29) E dX13_stream__29 (fun v29 => ?_)
      refine r_iadd (pc := 30) E dX13_stream__30 ?_
      refine r_iaload (pc := 31) E dX13_stream__31 (fun v31 => ?_)
      refine r_istore (pc := 32) (lf := fun v32 => [(5, v32), (2, p2), (3, p3), (4, p4)]) (lg := fun v32 => []) (lk := fun v32 => [(0, p0)]) E dX13_stream__32 (by decide) (fun _ => rfl) (fun _ => rfl) (fun _ => rfl) (fun v32 => ?_)
      refine r_iconst (pc := 34) (v := 0) E dX13_stream__34 (by decide) ?_
      refine r_istore (pc := 35) (lf := fun v35 => [(6, v35), (5, v32), (2, p2), (3, p3), (4, p4)]) (lg := fun v35 => []) (lk := fun v35 => [(0, p0)]) E dX13_stream__35 (by decide) (fun _ => rfl) (fun _ => rfl) (fun _ => rfl) (fun v35 => ?_)
      exact r_sub [2, 3, 4, 1, 0] [] [0] rfl rfl rfl (hL37 k10 hk10 p0 p2 p3 p4 v32 v35 _)
  show RT p l e rmX13_stream_ s m args below meth c x 7 (QM below args s x (fun _ : Unit => none) rmX13_stream_.cells rmX13_stream_.slots) 0 0 (fX13_stream_ a0 a1 a2 M) 0 [(1, a1), (2, a2)] [] [(0, a0)] [] M
  unfold fX13_stream_
  refine r_aload_n (pc := 0) E dX13_stream__0 rfl 0 rfl ?_
  refine r_getA (pc := 1) E fd_13_22 wf_RX13_53 dX13_stream__1 (fun v1 => ?_)
  refine r_iconst (pc := 4) (v := 2) E dX13_stream__4 (by decide) ?_
  refine r_iaload (pc := 5) E dX13_stream__5 (fun v5 => ?_)
  refine r_istore_n (pc := 6) (lf := fun v6 => [(3, v6), (1, a1), (2, a2)]) (lg := fun v6 => []) (lk := fun v6 => [(0, a0)]) E dX13_stream__6 rfl (by decide) (fun _ => rfl) (fun _ => rfl) (fun _ => rfl) (fun v6 => ?_)
  refine r_iload_n (pc := 7) E dX13_stream__7 rfl 1 rfl ?_
  refine r_istore (pc := 8) (lf := fun v8 => [(4, v8), (3, v6), (1, a1), (2, a2)]) (lg := fun v8 => []) (lk := fun v8 => [(0, a0)]) E dX13_stream__8 (by decide) (fun _ => rfl) (fun _ => rfl) (fun _ => rfl) (fun v8 => ?_)
  exact r_sub [3, 1, 0] [] [0] rfl rfl rfl (hL10 a0 a2 v6 v8 _)
def fX13_sayStreams_L168 (q0 : Int32) (M : Mem) : Option (Int32 × Mem) :=
  some (q0, M)
def fX13_sayStreams_L167 (M : Mem) : Option (Int32 × Mem) :=
  fX13_sayStreams_L168 2 M
def fX13_sayStreams_L133 (k45 : Option Nat × Int32 × Int32 × Int32 × Int32 → Mem → Option (Int32 × Mem)) (p0 : Option Nat) (p1 : Int32) (p2 : Int32) (p3 : Int32) (p4 : Int32) (M : Mem) : Option (Int32 × Mem) :=
  bn (p4 + 1) fun v133 =>
  k45 ((p0, p1, p2, p3, v133)) M
def fX13_sayStreams_B87 (k45 : Option Nat × Int32 × Int32 × Int32 × Int32 → Mem → Option (Int32 × Mem)) (k87 : Option Nat × Int32 × Int32 × Int32 × Int32 × Int32 × Int32 → Mem → Option (Int32 × Mem)) (p0 : Option Nat) (p1 : Int32) (p2 : Int32) (p3 : Int32) (p4 : Int32) (p5 : Int32) (p6 : Int32) (M : Mem) : Option (Int32 × Mem) :=
  if 2 ≤ p6 then (
    fX13_sayStreams_L133 k45 p0 p1 p2 p3 p4 M
  ) else (
    if 3 ≤ p4 then (
      fX13_sayStreams_L133 k45 p0 p1 p2 p3 p4 M
    ) else (
      bo (gR M p0 13 53) fun v100 =>
      bo (gI M p0 13 54) fun v113 =>
      bo (wB M v100 ((p2 + (2 * p4)) + p6) (i2b (shrI (v113 - p5) (8 * p6)))) fun M126 =>
      bn (p6 + 1) fun v127 =>
      k87 ((p0, p1, p2, p3, p4, p5, v127)) M126
    )
  )
def fX13_sayStreams_L87 (k45 : Option Nat × Int32 × Int32 × Int32 × Int32 → Mem → Option (Int32 × Mem)) (p0 : Option Nat) (p1 : Int32) (p2 : Int32) (p3 : Int32) (p4 : Int32) (p5 : Int32) (p6 : Int32) (M : Mem) : Option (Int32 × Mem) :=
  lp (fun k87 (a : Option Nat × Int32 × Int32 × Int32 × Int32 × Int32 × Int32) M => fX13_sayStreams_B87 k45 k87 a.1 a.2.1 a.2.2.1 a.2.2.2.1 a.2.2.2.2.1 a.2.2.2.2.2.1 a.2.2.2.2.2.2 M) FU ((p0, p1, p2, p3, p4, p5, p6)) M
def fX13_sayStreams_L81 (k45 : Option Nat × Int32 × Int32 × Int32 × Int32 → Mem → Option (Int32 × Mem)) (p0 : Option Nat) (p1 : Int32) (p2 : Int32) (p3 : Int32) (p4 : Int32) (p5 : Int32) (q0 : Option Nat) (q1 : Int32) (q2 : Int32) (M : Mem) : Option (Int32 × Mem) :=
  bo (chk M q0 13) fun _ => bd (fX13_stream_ q0 q1 q2 M) fun v81 M81 =>
  bn (0) fun v85 =>
  fX13_sayStreams_L87 k45 p0 p1 p2 p3 p4 p5 v85 M81
def fX13_sayStreams_B45 (k45 : Option Nat × Int32 × Int32 × Int32 × Int32 → Mem → Option (Int32 × Mem)) (p0 : Option Nat) (p1 : Int32) (p2 : Int32) (p3 : Int32) (p4 : Int32) (M : Mem) : Option (Int32 × Mem) :=
  if 4 ≤ p4 then (
    bo (gI M p0 13 54) fun v140 =>
    if 1024 ≤ ((v140 - p1) - 3) then (
      fX13_sayStreams_L167 M
    ) else (
      bo (gI M p0 13 68) fun v154 =>
      if 1024 ≤ v154 then (
        fX13_sayStreams_L167 M
      ) else (
        fX13_sayStreams_L168 1 M
      )
    )
  ) else (
    bo (gI M p0 13 54) fun v52 =>
    bn (v52) fun v55 =>
    if 3 ≤ p4 then (
      bo (gI M p0 13 68) fun v78 =>
      fX13_sayStreams_L81 k45 p0 p1 p2 p3 p4 v55 p0 (p4 * p3) v78 M
    ) else (
      fX13_sayStreams_L81 k45 p0 p1 p2 p3 p4 v55 p0 (p4 * p3) ((p4 + 1) * p3) M
    )
  )
def fX13_sayStreams_L45 (p0 : Option Nat) (p1 : Int32) (p2 : Int32) (p3 : Int32) (p4 : Int32) (M : Mem) : Option (Int32 × Mem) :=
  lp (fun k45 (a : Option Nat × Int32 × Int32 × Int32 × Int32) M => fX13_sayStreams_B45 k45 a.1 a.2.1 a.2.2.1 a.2.2.2.1 a.2.2.2.2 M) FU ((p0, p1, p2, p3, p4)) M
def fX13_sayStreams (a0 : Option Nat) (a1 : Int32) (M : Mem) : Option (Int32 × Mem) :=
  bo (gI M a0 13 68) fun v1 =>
  if 256 ≤ v1 then (
    bo (gI M a0 13 54) fun v22 =>
    bn (v22) fun v25 =>
    bo (chk M a0 13) fun _ => bd (fX13_say a0 0 6 M) fun v30 M30 =>
    bo (gI M30 a0 13 68) fun v34 =>
    bo (dv (v34 + 3) 4) fun v40 =>
    bn (v40) fun v41 =>
    bn (0) fun v43 =>
    fX13_sayStreams_L45 a0 a1 v25 v41 v43 M30
  ) else (
    bo (gI M a0 13 68) fun v13 =>
    bo (chk M a0 13) fun _ => bd (fX13_stream_ a0 0 v13 M) fun v16 M16 =>
    some (0, M16)
  )
def rmX13_sayStreams : Room := { frames := 3, cells := 0, slots := 0, locals := 75 }
set_option maxRecDepth 100000 in
set_option maxHeartbeats 4000000 in
theorem ctX13_sayStreams (l : Launch) (x : Cx) (a0 : Option Nat) (a1 : Int32) (M : Mem) (v : Int32) (N : Mem) (h : fX13_sayStreams a0 a1 M = some (v, N)) : CT l yX13_sayStreams cX13_sayStreams 7 (some (FieldType.int)) rmX13_sayStreams x [rv x a0, .int a1] M (some (.int v)) N := by
  refine ct_mk (enc := fun v : Int32 => some (.int v)) (li := [(1, a1)]) (ll := []) (lr := [(0, a0)]) (by decide +kernel) (by simp [lg_sl, rv_cat, cat_int, cat_long]) (by simp [flat, lv_args, rv_cat, cat_int, cat_long]) h ?_
  intro p e s m args below meth c E
  have hL168 : ∀ (q0 : Int32) (M : Mem), RT p l e rmX13_sayStreams s m args below meth c x 7 (QM below args s x (fun v : Int32 => some (.int v)) rmX13_sayStreams.cells rmX13_sayStreams.slots) 0 0 (fX13_sayStreams_L168 q0 M) 168 [] [] [] [.int q0] M := by
    intro q0 M
    unfold fX13_sayStreams_L168
    exact e_int (pc := 168) E dX13_sayStreams_168
  have hL167 : ∀ (M : Mem), RT p l e rmX13_sayStreams s m args below meth c x 7 (QM below args s x (fun v : Int32 => some (.int v)) rmX13_sayStreams.cells rmX13_sayStreams.slots) 0 0 (fX13_sayStreams_L167 M) 167 [] [] [] [] M := by
    intro M
    unfold fX13_sayStreams_L167
    refine r_iconst (pc := 167) (v := 2) E dX13_sayStreams_167 (by decide) ?_
    exact r_sub [] [] [] rfl rfl rfl (hL168 2 _)
  have hL133 : ∀ (k45 : Option Nat × Int32 × Int32 × Int32 × Int32 → Mem → Option (Int32 × Mem)) (hk45 : ∀ a M, RT p l e rmX13_sayStreams s m args below meth c x 7 (QM below args s x (fun v : Int32 => some (.int v)) rmX13_sayStreams.cells rmX13_sayStreams.slots) 0 0 (k45 a M) 45 [(1, a.2.1), (2, a.2.2.1), (3, a.2.2.2.1), (4, a.2.2.2.2)] [] [(0, a.1)] [] M) (p0 : Option Nat) (p1 : Int32) (p2 : Int32) (p3 : Int32) (p4 : Int32) (M : Mem), RT p l e rmX13_sayStreams s m args below meth c x 7 (QM below args s x (fun v : Int32 => some (.int v)) rmX13_sayStreams.cells rmX13_sayStreams.slots) 0 0 (fX13_sayStreams_L133 k45 p0 p1 p2 p3 p4 M) 133 [(1, p1), (2, p2), (3, p3), (4, p4)] [] [(0, p0)] [] M := by
    intro k45 hk45 p0 p1 p2 p3 p4 M
    unfold fX13_sayStreams_L133
    refine r_iinc (pc := 133) (w := 1) (lf := fun v133 => [(4, v133), (1, p1), (2, p2), (3, p3)]) (ll' := []) (lr' := [(0, p0)]) E dX13_sayStreams_133 3 rfl (by decide) (by decide) (fun _ => rfl) rfl rfl (fun v133 => ?_)
    refine r_goto (pc := 136) (tgt := 45) E dX13_sayStreams_136 (by decide) ?_
    exact r_sub [1, 2, 3, 0] [] [0] rfl rfl rfl (hk45 ((p0, p1, p2, p3, v133)) _)
  have hL87 : ∀ (k45 : Option Nat × Int32 × Int32 × Int32 × Int32 → Mem → Option (Int32 × Mem)) (hk45 : ∀ a M, RT p l e rmX13_sayStreams s m args below meth c x 7 (QM below args s x (fun v : Int32 => some (.int v)) rmX13_sayStreams.cells rmX13_sayStreams.slots) 0 0 (k45 a M) 45 [(1, a.2.1), (2, a.2.2.1), (3, a.2.2.2.1), (4, a.2.2.2.2)] [] [(0, a.1)] [] M) (p0 : Option Nat) (p1 : Int32) (p2 : Int32) (p3 : Int32) (p4 : Int32) (p5 : Int32) (p6 : Int32) (M : Mem), RT p l e rmX13_sayStreams s m args below meth c x 7 (QM below args s x (fun v : Int32 => some (.int v)) rmX13_sayStreams.cells rmX13_sayStreams.slots) 0 0 (fX13_sayStreams_L87 k45 p0 p1 p2 p3 p4 p5 p6 M) 87 [(1, p1), (2, p2), (3, p3), (4, p4), (5, p5), (6, p6)] [] [(0, p0)] [] M := by
    intro k45 hk45 p0 p1 p2 p3 p4 p5 p6 M
    refine r_lp (fi := fun a : Option Nat × Int32 × Int32 × Int32 × Int32 × Int32 × Int32 => [(1, a.2.1), (2, a.2.2.1), (3, a.2.2.2.1), (4, a.2.2.2.2.1), (5, a.2.2.2.2.2.1), (6, a.2.2.2.2.2.2)]) (fl := fun a : Option Nat × Int32 × Int32 × Int32 × Int32 × Int32 × Int32 => []) (fr := fun a : Option Nat × Int32 × Int32 × Int32 × Int32 × Int32 × Int32 => [(0, a.1)]) (fs := fun a : Option Nat × Int32 × Int32 × Int32 × Int32 × Int32 × Int32 => []) ?_ FU ((p0, p1, p2, p3, p4, p5, p6)) M
    intro k87 hk87 a M
    obtain ⟨p0, p1, p2, p3, p4, p5, p6⟩ := a
    show RT p l e rmX13_sayStreams s m args below meth c x 7 (QM below args s x (fun v : Int32 => some (.int v)) rmX13_sayStreams.cells rmX13_sayStreams.slots) 0 0 (fX13_sayStreams_B87 k45 k87 p0 p1 p2 p3 p4 p5 p6 M) 87 [(1, p1), (2, p2), (3, p3), (4, p4), (5, p5), (6, p6)] [] [(0, p0)] [] M
    unfold fX13_sayStreams_B87
    refine r_iload (pc := 87) E dX13_sayStreams_87 5 rfl ?_
    refine r_iconst (pc := 89) (v := 2) E dX13_sayStreams_89 (by decide) ?_
    refine r_icmp_ge (pc := 90) (tgt := 133) E dX13_sayStreams_90 (by decide) ?_ ?_
    · exact r_sub [0, 1, 2, 3] [] [0] rfl rfl rfl (hL133 k45 hk45 p0 p1 p2 p3 p4 _)
    · refine r_iload (pc := 93) E dX13_sayStreams_93 3 rfl ?_
      refine r_iconst (pc := 95) (v := 3) E dX13_sayStreams_95 (by decide) ?_
      refine r_icmp_ge (pc := 96) (tgt := 133) E dX13_sayStreams_96 (by decide) ?_ ?_
      · exact r_sub [0, 1, 2, 3] [] [0] rfl rfl rfl (hL133 k45 hk45 p0 p1 p2 p3 p4 _)
      · refine r_aload_n (pc := 99) E dX13_sayStreams_99 rfl 0 rfl ?_
        refine r_getA (pc := 100) E fd_13_53 wf_RX13_104 dX13_sayStreams_100 (fun v100 => ?_)
        refine r_iload_n (pc := 103) E dX13_sayStreams_103 rfl 1 rfl ?_
        refine r_iconst (pc := 104) (v := 2) E dX13_sayStreams_104 (by decide) ?_
        refine r_iload (pc := 105) E dX13_sayStreams_105 3 rfl ?_
        refine r_imul (pc := 107) E dX13_sayStreams_107 ?_
        refine r_iadd (pc := 108) E dX13_sayStreams_108 ?_
        refine r_iload (pc := 109) E dX13_sayStreams_109 5 rfl ?_
        refine r_iadd (pc := 111) E dX13_sayStreams_111 ?_
        refine r_aload_n (pc := 112) E dX13_sayStreams_112 rfl 0 rfl ?_
        refine r_getI (pc := 113) E fd_13_54 wf_RX13_412 dX13_sayStreams_113 (fun v113 => ?_)
        refine r_iload (pc := 116) E dX13_sayStreams_116 4 rfl ?_
        refine r_isub (pc := 118) E dX13_sayStreams_118 ?_
        refine r_bipush (pc := 119) (v := 8) E dX13_sayStreams_119 (by decide) ?_
        refine r_iload (pc := 121) E dX13_sayStreams_121 5 rfl ?_
        refine r_imul (pc := 123) E dX13_sayStreams_123 ?_
        refine r_ishr (pc := 124) E dX13_sayStreams_124 ?_
        refine r_i2b (pc := 125) E dX13_sayStreams_125 ?_
        refine r_bastore (pc := 126) E dX13_sayStreams_126 (fun M126 => ?_)
        refine r_iinc (pc := 127) (w := 1) (lf := fun v127 => [(6, v127), (1, p1), (2, p2), (3, p3), (4, p4), (5, p5)]) (ll' := []) (lr' := [(0, p0)]) E dX13_sayStreams_127 5 rfl (by decide) (by decide) (fun _ => rfl) rfl rfl (fun v127 => ?_)
        refine r_goto (pc := 130) (tgt := 87) E dX13_sayStreams_130 (by decide) ?_
        exact r_sub [1, 2, 3, 4, 5, 0] [] [0] rfl rfl rfl (hk87 ((p0, p1, p2, p3, p4, p5, v127)) _)
  have hL81 : ∀ (k45 : Option Nat × Int32 × Int32 × Int32 × Int32 → Mem → Option (Int32 × Mem)) (hk45 : ∀ a M, RT p l e rmX13_sayStreams s m args below meth c x 7 (QM below args s x (fun v : Int32 => some (.int v)) rmX13_sayStreams.cells rmX13_sayStreams.slots) 0 0 (k45 a M) 45 [(1, a.2.1), (2, a.2.2.1), (3, a.2.2.2.1), (4, a.2.2.2.2)] [] [(0, a.1)] [] M) (p0 : Option Nat) (p1 : Int32) (p2 : Int32) (p3 : Int32) (p4 : Int32) (p5 : Int32) (q0 : Option Nat) (q1 : Int32) (q2 : Int32) (M : Mem), RT p l e rmX13_sayStreams s m args below meth c x 7 (QM below args s x (fun v : Int32 => some (.int v)) rmX13_sayStreams.cells rmX13_sayStreams.slots) 0 0 (fX13_sayStreams_L81 k45 p0 p1 p2 p3 p4 p5 q0 q1 q2 M) 81 [(1, p1), (2, p2), (3, p3), (4, p4), (5, p5)] [] [(0, p0)] [.int q2, .int q1, rv x q0] M := by
    intro k45 hk45 p0 p1 p2 p3 p4 p5 q0 q1 q2 M
    unfold fX13_sayStreams_L81
    refine r_kVv (pc := 81) (As := [.int q1, .int q2]) (rest := []) E wc_X13_stream_ wi_RX13 hd_X13_stream_ (ci := 13) rfl wl_RX13_479 wn_X13_stream_ ws_X13_stream_ dX13_sayStreams_81 (by decide) (Nat.le_of_ble_eq_true rfl) ⟨rfl, rfl⟩ (ctX13_stream_ l x _ _ _ _) rfl (fun v81 M81 => ?_)
    refine r_iconst (pc := 84) (v := 0) E dX13_sayStreams_84 (by decide) ?_
    refine r_istore (pc := 85) (lf := fun v85 => [(6, v85), (1, p1), (2, p2), (3, p3), (4, p4), (5, p5)]) (lg := fun v85 => []) (lk := fun v85 => [(0, p0)]) E dX13_sayStreams_85 (by decide) (fun _ => rfl) (fun _ => rfl) (fun _ => rfl) (fun v85 => ?_)
    exact r_sub [1, 2, 3, 4, 5, 0] [] [0] rfl rfl rfl (hL87 k45 hk45 p0 p1 p2 p3 p4 p5 v85 _)
  have hL45 : ∀ (p0 : Option Nat) (p1 : Int32) (p2 : Int32) (p3 : Int32) (p4 : Int32) (M : Mem), RT p l e rmX13_sayStreams s m args below meth c x 7 (QM below args s x (fun v : Int32 => some (.int v)) rmX13_sayStreams.cells rmX13_sayStreams.slots) 0 0 (fX13_sayStreams_L45 p0 p1 p2 p3 p4 M) 45 [(1, p1), (2, p2), (3, p3), (4, p4)] [] [(0, p0)] [] M := by
    intro p0 p1 p2 p3 p4 M
    refine r_lp (fi := fun a : Option Nat × Int32 × Int32 × Int32 × Int32 => [(1, a.2.1), (2, a.2.2.1), (3, a.2.2.2.1), (4, a.2.2.2.2)]) (fl := fun a : Option Nat × Int32 × Int32 × Int32 × Int32 => []) (fr := fun a : Option Nat × Int32 × Int32 × Int32 × Int32 => [(0, a.1)]) (fs := fun a : Option Nat × Int32 × Int32 × Int32 × Int32 => []) ?_ FU ((p0, p1, p2, p3, p4)) M
    intro k45 hk45 a M
    obtain ⟨p0, p1, p2, p3, p4⟩ := a
    show RT p l e rmX13_sayStreams s m args below meth c x 7 (QM below args s x (fun v : Int32 => some (.int v)) rmX13_sayStreams.cells rmX13_sayStreams.slots) 0 0 (fX13_sayStreams_B45 k45 p0 p1 p2 p3 p4 M) 45 [(1, p1), (2, p2), (3, p3), (4, p4)] [] [(0, p0)] [] M
    unfold fX13_sayStreams_B45
    refine r_iload (pc := 45) E dX13_sayStreams_45 3 rfl ?_
    refine r_iconst (pc := 47) (v := 4) E dX13_sayStreams_47 (by decide) ?_
    refine r_icmp_ge (pc := 48) (tgt := 139) E dX13_sayStreams_48 (by decide) ?_ ?_
    · refine r_aload_n (pc := 139) E dX13_sayStreams_139 rfl 0 rfl ?_
      refine r_getI (pc := 140) E fd_13_54 wf_RX13_412 dX13_sayStreams_140 (fun v140 => ?_)
      refine r_iload_n (pc := 143) E dX13_sayStreams_143 rfl 0 rfl ?_
      refine r_isub (pc := 144) E dX13_sayStreams_144 ?_
      refine r_iconst (pc := 145) (v := 3) E dX13_sayStreams_145 (by decide) ?_
      refine r_isub (pc := 146) E dX13_sayStreams_146 ?_
      refine r_sipush (pc := 147) (v := 1024) E dX13_sayStreams_147 (by decide) ?_
      refine r_icmp_ge (pc := 150) (tgt := 167) E dX13_sayStreams_150 (by decide) ?_ ?_
      · exact r_sub [] [] [] rfl rfl rfl (hL167 _)
      · refine r_aload_n (pc := 153) E dX13_sayStreams_153 rfl 0 rfl ?_
        refine r_getI (pc := 154) E fd_13_68 wf_RX13_446 dX13_sayStreams_154 (fun v154 => ?_)
        refine r_sipush (pc := 157) (v := 1024) E dX13_sayStreams_157 (by decide) ?_
        refine r_icmp_ge (pc := 160) (tgt := 167) E dX13_sayStreams_160 (by decide) ?_ ?_
        · exact r_sub [] [] [] rfl rfl rfl (hL167 _)
        · refine r_iconst (pc := 163) (v := 1) E dX13_sayStreams_163 (by decide) ?_
          refine r_goto (pc := 164) (tgt := 168) E dX13_sayStreams_164 (by decide) ?_
          exact r_sub [] [] [] rfl rfl rfl (hL168 1 _)
    · refine r_aload_n (pc := 51) E dX13_sayStreams_51 rfl 0 rfl ?_
      refine r_getI (pc := 52) E fd_13_54 wf_RX13_412 dX13_sayStreams_52 (fun v52 => ?_)
      refine r_istore (pc := 55) (lf := fun v55 => [(5, v55), (1, p1), (2, p2), (3, p3), (4, p4)]) (lg := fun v55 => []) (lk := fun v55 => [(0, p0)]) E dX13_sayStreams_55 (by decide) (fun _ => rfl) (fun _ => rfl) (fun _ => rfl) (fun v55 => ?_)
      refine r_aload_n (pc := 57) E dX13_sayStreams_57 rfl 0 rfl ?_
      refine r_iload (pc := 58) E dX13_sayStreams_58 4 rfl ?_
      refine r_iload_n (pc := 60) E dX13_sayStreams_60 rfl 3 rfl ?_
      refine r_imul (pc := 61) E dX13_sayStreams_61 ?_
      refine r_iload (pc := 62) E dX13_sayStreams_62 4 rfl ?_
      refine r_iconst (pc := 64) (v := 3) E dX13_sayStreams_64 (by decide) ?_
      refine r_icmp_ge (pc := 65) (tgt := 77) E dX13_sayStreams_65 (by decide) ?_ ?_
      · refine r_aload_n (pc := 77) E dX13_sayStreams_77 rfl 0 rfl ?_
        refine r_getI (pc := 78) E fd_13_68 wf_RX13_446 dX13_sayStreams_78 (fun v78 => ?_)
        exact r_sub [1, 2, 3, 4, 0] [] [0] rfl rfl rfl (hL81 k45 hk45 p0 p1 p2 p3 p4 v55 p0 (p4 * p3) v78 _)
      · refine r_iload (pc := 68) E dX13_sayStreams_68 4 rfl ?_
        refine r_iconst (pc := 70) (v := 1) E dX13_sayStreams_70 (by decide) ?_
        refine r_iadd (pc := 71) E dX13_sayStreams_71 ?_
        refine r_iload_n (pc := 72) E dX13_sayStreams_72 rfl 3 rfl ?_
        refine r_imul (pc := 73) E dX13_sayStreams_73 ?_
        refine r_goto (pc := 74) (tgt := 81) E dX13_sayStreams_74 (by decide) ?_
        exact r_sub [1, 2, 3, 4, 0] [] [0] rfl rfl rfl (hL81 k45 hk45 p0 p1 p2 p3 p4 v55 p0 (p4 * p3) ((p4 + 1) * p3) _)
  show RT p l e rmX13_sayStreams s m args below meth c x 7 (QM below args s x (fun v : Int32 => some (.int v)) rmX13_sayStreams.cells rmX13_sayStreams.slots) 0 0 (fX13_sayStreams a0 a1 M) 0 [(1, a1)] [] [(0, a0)] [] M
  unfold fX13_sayStreams
  refine r_aload_n (pc := 0) E dX13_sayStreams_0 rfl 0 rfl ?_
  refine r_getI (pc := 1) E fd_13_68 wf_RX13_446 dX13_sayStreams_1 (fun v1 => ?_)
  refine r_sipush (pc := 4) (v := 256) E dX13_sayStreams_4 (by decide) ?_
  refine r_icmp_ge (pc := 7) (tgt := 21) E dX13_sayStreams_7 (by decide) ?_ ?_
  · refine r_aload_n (pc := 21) E dX13_sayStreams_21 rfl 0 rfl ?_
    refine r_getI (pc := 22) E fd_13_54 wf_RX13_412 dX13_sayStreams_22 (fun v22 => ?_)
    refine r_istore_n (pc := 25) (lf := fun v25 => [(2, v25), (1, a1)]) (lg := fun v25 => []) (lk := fun v25 => [(0, a0)]) E dX13_sayStreams_25 rfl (by decide) (fun _ => rfl) (fun _ => rfl) (fun _ => rfl) (fun v25 => ?_)
    refine r_aload_n (pc := 26) E dX13_sayStreams_26 rfl 0 rfl ?_
    refine r_lconst (pc := 27) (v := 0) E dX13_sayStreams_27 (by decide) ?_
    refine r_bipush (pc := 28) (v := 6) E dX13_sayStreams_28 (by decide) ?_
    refine r_kVv (pc := 30) (As := [.long 0, .int 6]) (rest := []) E wc_X13_say wi_RX13 hd_X13_say (ci := 13) rfl wl_RX13_418 wn_X13_say ws_X13_say dX13_sayStreams_30 (by decide) (Nat.le_of_ble_eq_true rfl) ⟨rfl, rfl⟩ (ctX13_say l x _ _ _ _) rfl (fun v30 M30 => ?_)
    refine r_aload_n (pc := 33) E dX13_sayStreams_33 rfl 0 rfl ?_
    refine r_getI (pc := 34) E fd_13_68 wf_RX13_446 dX13_sayStreams_34 (fun v34 => ?_)
    refine r_iconst (pc := 37) (v := 3) E dX13_sayStreams_37 (by decide) ?_
    refine r_iadd (pc := 38) E dX13_sayStreams_38 ?_
    refine r_iconst (pc := 39) (v := 4) E dX13_sayStreams_39 (by decide) ?_
    refine r_idiv (pc := 40) E dX13_sayStreams_40 (fun v40 => ?_)
    refine r_istore_n (pc := 41) (lf := fun v41 => [(3, v41), (2, v25), (1, a1)]) (lg := fun v41 => []) (lk := fun v41 => [(0, a0)]) E dX13_sayStreams_41 rfl (by decide) (fun _ => rfl) (fun _ => rfl) (fun _ => rfl) (fun v41 => ?_)
    refine r_iconst (pc := 42) (v := 0) E dX13_sayStreams_42 (by decide) ?_
    refine r_istore (pc := 43) (lf := fun v43 => [(4, v43), (3, v41), (2, v25), (1, a1)]) (lg := fun v43 => []) (lk := fun v43 => [(0, a0)]) E dX13_sayStreams_43 (by decide) (fun _ => rfl) (fun _ => rfl) (fun _ => rfl) (fun v43 => ?_)
    exact r_sub [3, 2, 1, 0] [] [0] rfl rfl rfl (hL45 a0 a1 v25 v41 v43 _)
  · refine r_aload_n (pc := 10) E dX13_sayStreams_10 rfl 0 rfl ?_
    refine r_iconst (pc := 11) (v := 0) E dX13_sayStreams_11 (by decide) ?_
    refine r_aload_n (pc := 12) E dX13_sayStreams_12 rfl 0 rfl ?_
    refine r_getI (pc := 13) E fd_13_68 wf_RX13_446 dX13_sayStreams_13 (fun v13 => ?_)
    refine r_kVv (pc := 16) (As := [.int 0, .int v13]) (rest := []) E wc_X13_stream_ wi_RX13 hd_X13_stream_ (ci := 13) rfl wl_RX13_479 wn_X13_stream_ ws_X13_stream_ dX13_sayStreams_16 (by decide) (Nat.le_of_ble_eq_true rfl) ⟨rfl, rfl⟩ (ctX13_stream_ l x _ _ _ _) rfl (fun v16 M16 => ?_)
    refine r_iconst (pc := 19) (v := 0) E dX13_sayStreams_19 (by decide) ?_
    exact e_int (pc := 20) E dX13_sayStreams_20
def fX13_sayLetters_B268 (k268 : Option Nat × Int32 → Mem → Option (Unit × Mem)) (p0 : Option Nat) (p2 : Int32) (M : Mem) : Option (Unit × Mem) :=
  bo (gI M p0 13 68) fun v270 =>
  if v270 ≤ p2 then (
    some ((), M)
  ) else (
    bo (gR M p0 13 67) fun v278 =>
    bo (aI M v278 14 p2) fun v282 =>
    bo (chk M p0 13) fun _ => bd (fX13_say p0 v282.toInt64 1 M) fun v285 M285 =>
    bn (p2 + 1) fun v288 =>
    k268 ((p0, v288)) M285
  )
def fX13_sayLetters_L268 (p0 : Option Nat) (p2 : Int32) (M : Mem) : Option (Unit × Mem) :=
  lp (fun k268 (a : Option Nat × Int32) M => fX13_sayLetters_B268 k268 a.1 a.2 M) FU ((p0, p2)) M
def fX13_sayLetters_L261 (p0 : Option Nat) (M : Mem) : Option (Unit × Mem) :=
  bo (chk M p0 13) fun _ => bd (fX13_sayHead p0 0 M) fun v263 M263 =>
  bn (0) fun v267 =>
  fX13_sayLetters_L268 p0 v267 M263
def fX13_sayLetters_L227 (k214 : Option Nat × Int32 × Int32 × Int64 × Int32 → Mem → Option (Unit × Mem)) (p0 : Option Nat) (p2 : Int32) (p4 : Int32) (p6 : Int64) (p8 : Int32) (q0 : Int32) (q1 : Int32) (M : Mem) : Option (Unit × Mem) :=
  if q1 ≤ q0 then (
    some ((), M)
  ) else (
    bo (gR M p0 13 53) fun v231 =>
    bo (wB M v231 (p2 + p8) (i2b ((shrJ p6 (8 * p8)).toInt32))) fun M248 =>
    bn (p8 + 1) fun v249 =>
    k214 ((p0, p2, p4, p6, v249)) M248
  )
def fX13_sayLetters_B214 (k214 : Option Nat × Int32 × Int32 × Int64 × Int32 → Mem → Option (Unit × Mem)) (p0 : Option Nat) (p2 : Int32) (p4 : Int32) (p6 : Int64) (p8 : Int32) (M : Mem) : Option (Unit × Mem) :=
  if p4 = 2 then (
    fX13_sayLetters_L227 k214 p0 p2 p4 p6 p8 p8 4 M
  ) else (
    fX13_sayLetters_L227 k214 p0 p2 p4 p6 p8 p8 3 M
  )
def fX13_sayLetters_L214 (p0 : Option Nat) (p2 : Int32) (p4 : Int32) (p6 : Int64) (p8 : Int32) (M : Mem) : Option (Unit × Mem) :=
  lp (fun k214 (a : Option Nat × Int32 × Int32 × Int64 × Int32) M => fX13_sayLetters_B214 k214 a.1 a.2.1 a.2.2.1 a.2.2.2.1 a.2.2.2.2 M) FU ((p0, p2, p4, p6, p8)) M
def fX13_sayLetters_L207 (p0 : Option Nat) (p2 : Int32) (p4 : Int32) (q0 : Int64) (q1 : Int64) (q2 : Int32) (M : Mem) : Option (Unit × Mem) :=
  bn (q0 + (shlJ q1 q2)) fun v209 =>
  bn (0) fun v212 =>
  fX13_sayLetters_L214 p0 p2 p4 v209 v212 M
def fX13_sayLetters_L172 (p0 : Option Nat) (p2 : Int32) (p4 : Int32) (p5 : Int32) (M : Mem) : Option (Unit × Mem) :=
  bo (gI M p0 13 68) fun v184 =>
  if p4 = 2 then (
    fX13_sayLetters_L207 p0 p2 p4 ((2 + (4 * p4.toInt64)) + (shlJ v184.toInt64 4)) p5.toInt64 18 M
  ) else (
    fX13_sayLetters_L207 p0 p2 p4 ((2 + (4 * p4.toInt64)) + (shlJ v184.toInt64 4)) p5.toInt64 14 M
  )
def fX13_sayLetters_B132 (k132 : Option Nat × Int32 × Int32 × Int32 × Int32 → Mem → Option (Unit × Mem)) (p0 : Option Nat) (p2 : Int32) (p4 : Int32) (p5 : Int32) (p6 : Int32) (M : Mem) : Option (Unit × Mem) :=
  if p6 ≤ (p2 + 3) then (
    bo (gI M p0 13 54) fun v164 =>
    bo (pI M p0 13 54 (v164 + 1)) fun M169 =>
    fX13_sayLetters_L172 p0 p2 p4 p5 M169
  ) else (
    bo (gR M p0 13 53) fun v141 =>
    bo (gR M p0 13 53) fun v147 =>
    bo (aI M v147 14 (p6 - 1)) fun v154 =>
    bo (wB M v141 p6 v154) fun M155 =>
    bn (p6 + (-1)) fun v156 =>
    k132 ((p0, p2, p4, p5, v156)) M155
  )
def fX13_sayLetters_L132 (p0 : Option Nat) (p2 : Int32) (p4 : Int32) (p5 : Int32) (p6 : Int32) (M : Mem) : Option (Unit × Mem) :=
  lp (fun k132 (a : Option Nat × Int32 × Int32 × Int32 × Int32) M => fX13_sayLetters_B132 k132 a.1 a.2.1 a.2.2.1 a.2.2.2.1 a.2.2.2.2 M) FU ((p0, p2, p4, p5, p6)) M
def fX13_sayLetters_L83 (p0 : Option Nat) (p2 : Int32) (q0 : Int32) (M : Mem) : Option (Unit × Mem) :=
  bn (q0) fun v83 =>
  bo (chk M p0 13) fun _ => bd (fX13_say p0 0 v83 M) fun v87 M87 =>
  bo (chk M87 p0 13) fun _ => bd (fX13_sayCode p0 M87) fun v91 M91 =>
  bo (chk M91 p0 13) fun _ => bd (fX13_sayStreams p0 p2 M91) fun v96 M96 =>
  bn (v96) fun v99 =>
  bo (gI M96 p0 13 54) fun v102 =>
  bn ((v102 - p2) - 3) fun v109 =>
  bo (gI M96 p0 13 68) fun v114 =>
  if v114 ≤ v109 then (
    bo (pI M96 p0 13 54 p2) fun M258 =>
    fX13_sayLetters_L261 p0 M258
  ) else (
    if v99 = 2 then (
      bo (gI M96 p0 13 54) fun v127 =>
      bn (v127) fun v130 =>
      fX13_sayLetters_L132 p0 p2 v99 v109 v130 M96
    ) else (
      fX13_sayLetters_L172 p0 p2 v99 v109 M96
    )
  )
def fX13_sayLetters_L42 (p0 : Option Nat) (p1 : Int32) (M : Mem) : Option (Unit × Mem) :=
  if p1 = 2 then (
    bo (gI M p0 13 68) fun v48 =>
    if v48 < 32 then (
      fX13_sayLetters_L261 p0 M
    ) else (
      bo (chk M p0 13) fun _ => bd (fX13_areCoded p0 M) fun v57 M57 =>
      if v57 = 0 then (
        fX13_sayLetters_L261 p0 M57
      ) else (
        bo (gI M57 p0 13 54) fun v64 =>
        bn (v64) fun v67 =>
        bo (gI M57 p0 13 68) fun v69 =>
        if 256 ≤ v69 then (
          fX13_sayLetters_L83 p0 v67 3 M57
        ) else (
          fX13_sayLetters_L83 p0 v67 3 M57
        )
      )
    )
  ) else (
    fX13_sayLetters_L261 p0 M
  )
def fX13_sayLetters (a0 : Option Nat) (a1 : Int32) (M : Mem) : Option (Unit × Mem) :=
  bo (gI M a0 13 68) fun v1 =>
  if v1 ≤ 1 then (
    fX13_sayLetters_L42 a0 a1 M
  ) else (
    bo (gR M a0 13 67) fun v10 =>
    bo (gI M a0 13 68) fun v15 =>
    bo (chk M a0 13) fun _ => bd (fX13_areSame a0 v10 0 v15 M) fun v18 M18 =>
    if v18 = 0 then (
      fX13_sayLetters_L42 a0 a1 M18
    ) else (
      bo (chk M18 a0 13) fun _ => bd (fX13_sayHead a0 1 M18) fun v26 M26 =>
      bo (gR M26 a0 13 67) fun v31 =>
      bo (aI M26 v31 14 0) fun v35 =>
      bo (chk M26 a0 13) fun _ => bd (fX13_say a0 v35.toInt64 1 M26) fun v38 M38 =>
      some ((), M38)
    )
  )
def rmX13_sayLetters : Room := { frames := 4, cells := 0, slots := 0, locals := 101 }
set_option maxRecDepth 100000 in
set_option maxHeartbeats 4000000 in
theorem ctX13_sayLetters (l : Launch) (x : Cx) (a0 : Option Nat) (a1 : Int32) (M : Mem) (v : Unit) (N : Mem) (h : fX13_sayLetters a0 a1 M = some (v, N)) : CT l yX13_sayLetters cX13_sayLetters 9 (none) rmX13_sayLetters x [rv x a0, .int a1] M none N := by
  refine ct_mk (enc := fun _ : Unit => none) (li := [(1, a1)]) (ll := []) (lr := [(0, a0)]) (by decide +kernel) (by simp [lg_sl, rv_cat, cat_int, cat_long]) (by simp [flat, lv_args, rv_cat, cat_int, cat_long]) h ?_
  intro p e s m args below meth c E
  have hL268 : ∀ (p0 : Option Nat) (p2 : Int32) (M : Mem), RT p l e rmX13_sayLetters s m args below meth c x 9 (QM below args s x (fun _ : Unit => none) rmX13_sayLetters.cells rmX13_sayLetters.slots) 0 0 (fX13_sayLetters_L268 p0 p2 M) 268 [(2, p2)] [] [(0, p0)] [] M := by
    intro p0 p2 M
    refine r_lp (fi := fun a : Option Nat × Int32 => [(2, a.2)]) (fl := fun a : Option Nat × Int32 => []) (fr := fun a : Option Nat × Int32 => [(0, a.1)]) (fs := fun a : Option Nat × Int32 => []) ?_ FU ((p0, p2)) M
    intro k268 hk268 a M
    obtain ⟨p0, p2⟩ := a
    show RT p l e rmX13_sayLetters s m args below meth c x 9 (QM below args s x (fun _ : Unit => none) rmX13_sayLetters.cells rmX13_sayLetters.slots) 0 0 (fX13_sayLetters_B268 k268 p0 p2 M) 268 [(2, p2)] [] [(0, p0)] [] M
    unfold fX13_sayLetters_B268
    refine r_iload_n (pc := 268) E dX13_sayLetters_268 rfl 0 rfl ?_
    refine r_aload_n (pc := 269) E dX13_sayLetters_269 rfl 0 rfl ?_
    refine r_getI (pc := 270) E fd_13_68 wf_RX13_446 dX13_sayLetters_270 (fun v270 => ?_)
    refine r_icmp_ge (pc := 273) (tgt := 294) E dX13_sayLetters_273 (by decide) ?_ ?_
    · exact e_void (pc := 294) E dX13_sayLetters_294
    · refine r_aload_n (pc := 276) E dX13_sayLetters_276 rfl 0 rfl ?_
      refine r_aload_n (pc := 277) E dX13_sayLetters_277 rfl 0 rfl ?_
      refine r_getA (pc := 278) E fd_13_67 wf_RX13_135 dX13_sayLetters_278 (fun v278 => ?_)
      refine r_iload_n (pc := 281) E dX13_sayLetters_281 rfl 0 rfl ?_
      refine r_baload (pc := 282) E dX13_sayLetters_282 (fun v282 => ?_)
      refine r_i2l (pc := 283) E dX13_sayLetters_283 ?_
      refine r_iconst (pc := 284) (v := 1) E dX13_sayLetters_284 (by decide) ?_
      refine r_kVv (pc := 285) (As := [.long v282.toInt64, .int 1]) (rest := []) E wc_X13_say wi_RX13 hd_X13_say (ci := 13) rfl wl_RX13_418 wn_X13_say ws_X13_say dX13_sayLetters_285 (by decide) (Nat.le_of_ble_eq_true rfl) ⟨rfl, rfl⟩ (ctX13_say l x _ _ _ _) rfl (fun v285 M285 => ?_)
      refine r_iinc (pc := 288) (w := 1) (lf := fun v288 => [(2, v288)]) (ll' := []) (lr' := [(0, p0)]) E dX13_sayLetters_288 0 rfl (by decide) (by decide) (fun _ => rfl) rfl rfl (fun v288 => ?_)
      refine r_goto (pc := 291) (tgt := 268) E dX13_sayLetters_291 (by decide) ?_
      exact r_sub [0] [] [0] rfl rfl rfl (hk268 ((p0, v288)) _)
  have hL261 : ∀ (p0 : Option Nat) (M : Mem), RT p l e rmX13_sayLetters s m args below meth c x 9 (QM below args s x (fun _ : Unit => none) rmX13_sayLetters.cells rmX13_sayLetters.slots) 0 0 (fX13_sayLetters_L261 p0 M) 261 [] [] [(0, p0)] [] M := by
    intro p0 M
    unfold fX13_sayLetters_L261
    refine r_aload_n (pc := 261) E dX13_sayLetters_261 rfl 0 rfl ?_
    refine r_iconst (pc := 262) (v := 0) E dX13_sayLetters_262 (by decide) ?_
    refine r_kVv (pc := 263) (As := [.int 0]) (rest := []) E wc_X13_sayHead wi_RX13 hd_X13_sayHead (ci := 13) rfl wl_RX13_453 wn_X13_sayHead ws_X13_sayHead dX13_sayLetters_263 (by decide) (Nat.le_of_ble_eq_true rfl) ⟨rfl, rfl⟩ (ctX13_sayHead l x _ _ _) rfl (fun v263 M263 => ?_)
    refine r_iconst (pc := 266) (v := 0) E dX13_sayLetters_266 (by decide) ?_
    refine r_istore_n (pc := 267) (lf := fun v267 => [(2, v267)]) (lg := fun v267 => []) (lk := fun v267 => [(0, p0)]) E dX13_sayLetters_267 rfl (by decide) (fun _ => rfl) (fun _ => rfl) (fun _ => rfl) (fun v267 => ?_)
    exact r_sub [0] [] [0] rfl rfl rfl (hL268 p0 v267 _)
  have hL227 : ∀ (k214 : Option Nat × Int32 × Int32 × Int64 × Int32 → Mem → Option (Unit × Mem)) (hk214 : ∀ a M, RT p l e rmX13_sayLetters s m args below meth c x 9 (QM below args s x (fun _ : Unit => none) rmX13_sayLetters.cells rmX13_sayLetters.slots) 0 0 (k214 a M) 214 [(2, a.2.1), (4, a.2.2.1), (8, a.2.2.2.2)] [(6, a.2.2.2.1)] [(0, a.1)] [] M) (p0 : Option Nat) (p2 : Int32) (p4 : Int32) (p6 : Int64) (p8 : Int32) (q0 : Int32) (q1 : Int32) (M : Mem), RT p l e rmX13_sayLetters s m args below meth c x 9 (QM below args s x (fun _ : Unit => none) rmX13_sayLetters.cells rmX13_sayLetters.slots) 0 0 (fX13_sayLetters_L227 k214 p0 p2 p4 p6 p8 q0 q1 M) 227 [(2, p2), (4, p4), (8, p8)] [(6, p6)] [(0, p0)] [.int q1, .int q0] M := by
    intro k214 hk214 p0 p2 p4 p6 p8 q0 q1 M
    unfold fX13_sayLetters_L227
    refine r_icmp_ge (pc := 227) (tgt := 255) E dX13_sayLetters_227 (by decide) ?_ ?_
    · exact e_void (pc := 255) E dX13_sayLetters_255
    · refine r_aload_n (pc := 230) E dX13_sayLetters_230 rfl 0 rfl ?_
      refine r_getA (pc := 231) E fd_13_53 wf_RX13_104 dX13_sayLetters_231 (fun v231 => ?_)
      refine r_iload_n (pc := 234) E dX13_sayLetters_234 rfl 0 rfl ?_
      refine r_iload (pc := 235) E dX13_sayLetters_235 2 rfl ?_
      refine r_iadd (pc := 237) E dX13_sayLetters_237 ?_
      refine r_lload (pc := 238) E dX13_sayLetters_238 0 rfl ?_
      refine r_bipush (pc := 240) (v := 8) E dX13_sayLetters_240 (by decide) ?_
      refine r_iload (pc := 242) E dX13_sayLetters_242 2 rfl ?_
      refine r_imul (pc := 244) E dX13_sayLetters_244 ?_
      refine r_lshr (pc := 245) E dX13_sayLetters_245 ?_
      refine r_l2i (pc := 246) E dX13_sayLetters_246 ?_
      refine r_i2b (pc := 247) E dX13_sayLetters_247 ?_
      refine r_bastore (pc := 248) E dX13_sayLetters_248 (fun M248 => ?_)
      refine r_iinc (pc := 249) (w := 1) (lf := fun v249 => [(8, v249), (2, p2), (4, p4)]) (ll' := [(6, p6)]) (lr' := [(0, p0)]) E dX13_sayLetters_249 2 rfl (by decide) (by decide) (fun _ => rfl) rfl rfl (fun v249 => ?_)
      refine r_goto (pc := 252) (tgt := 214) E dX13_sayLetters_252 (by decide) ?_
      exact r_sub [1, 2, 0] [0] [0] rfl rfl rfl (hk214 ((p0, p2, p4, p6, v249)) _)
  have hL214 : ∀ (p0 : Option Nat) (p2 : Int32) (p4 : Int32) (p6 : Int64) (p8 : Int32) (M : Mem), RT p l e rmX13_sayLetters s m args below meth c x 9 (QM below args s x (fun _ : Unit => none) rmX13_sayLetters.cells rmX13_sayLetters.slots) 0 0 (fX13_sayLetters_L214 p0 p2 p4 p6 p8 M) 214 [(2, p2), (4, p4), (8, p8)] [(6, p6)] [(0, p0)] [] M := by
    intro p0 p2 p4 p6 p8 M
    refine r_lp (fi := fun a : Option Nat × Int32 × Int32 × Int64 × Int32 => [(2, a.2.1), (4, a.2.2.1), (8, a.2.2.2.2)]) (fl := fun a : Option Nat × Int32 × Int32 × Int64 × Int32 => [(6, a.2.2.2.1)]) (fr := fun a : Option Nat × Int32 × Int32 × Int64 × Int32 => [(0, a.1)]) (fs := fun a : Option Nat × Int32 × Int32 × Int64 × Int32 => []) ?_ FU ((p0, p2, p4, p6, p8)) M
    intro k214 hk214 a M
    obtain ⟨p0, p2, p4, p6, p8⟩ := a
    show RT p l e rmX13_sayLetters s m args below meth c x 9 (QM below args s x (fun _ : Unit => none) rmX13_sayLetters.cells rmX13_sayLetters.slots) 0 0 (fX13_sayLetters_B214 k214 p0 p2 p4 p6 p8 M) 214 [(2, p2), (4, p4), (8, p8)] [(6, p6)] [(0, p0)] [] M
    unfold fX13_sayLetters_B214
    refine r_iload (pc := 214) E dX13_sayLetters_214 2 rfl ?_
    refine r_iload (pc := 216) E dX13_sayLetters_216 1 rfl ?_
    refine r_iconst (pc := 218) (v := 2) E dX13_sayLetters_218 (by decide) ?_
    refine r_icmp_ne (pc := 219) (tgt := 226) E dX13_sayLetters_219 (by decide) ?_ ?_
    · refine r_iconst (pc := 226) (v := 3) E dX13_sayLetters_226 (by decide) ?_
      exact r_sub [0, 1, 2] [0] [0] rfl rfl rfl (hL227 k214 hk214 p0 p2 p4 p6 p8 p8 3 _)
    · refine r_iconst (pc := 222) (v := 4) E dX13_sayLetters_222 (by decide) ?_
      refine r_goto (pc := 223) (tgt := 227) E dX13_sayLetters_223 (by decide) ?_
      exact r_sub [0, 1, 2] [0] [0] rfl rfl rfl (hL227 k214 hk214 p0 p2 p4 p6 p8 p8 4 _)
  have hL207 : ∀ (p0 : Option Nat) (p2 : Int32) (p4 : Int32) (q0 : Int64) (q1 : Int64) (q2 : Int32) (M : Mem), RT p l e rmX13_sayLetters s m args below meth c x 9 (QM below args s x (fun _ : Unit => none) rmX13_sayLetters.cells rmX13_sayLetters.slots) 0 0 (fX13_sayLetters_L207 p0 p2 p4 q0 q1 q2 M) 207 [(2, p2), (4, p4)] [] [(0, p0)] [.int q2, .long q1, .long q0] M := by
    intro p0 p2 p4 q0 q1 q2 M
    unfold fX13_sayLetters_L207
    refine r_lshl (pc := 207) E dX13_sayLetters_207 ?_
    refine r_ladd (pc := 208) E dX13_sayLetters_208 ?_
    refine r_lstore (pc := 209) (lf := fun v209 => [(2, p2), (4, p4)]) (lg := fun v209 => [(6, v209)]) (lk := fun v209 => [(0, p0)]) E dX13_sayLetters_209 (by decide) (fun _ => rfl) (fun _ => rfl) (fun _ => rfl) (fun v209 => ?_)
    refine r_iconst (pc := 211) (v := 0) E dX13_sayLetters_211 (by decide) ?_
    refine r_istore (pc := 212) (lf := fun v212 => [(8, v212), (2, p2), (4, p4)]) (lg := fun v212 => [(6, v209)]) (lk := fun v212 => [(0, p0)]) E dX13_sayLetters_212 (by decide) (fun _ => rfl) (fun _ => rfl) (fun _ => rfl) (fun v212 => ?_)
    exact r_sub [1, 2, 0] [0] [0] rfl rfl rfl (hL214 p0 p2 p4 v209 v212 _)
  have hL172 : ∀ (p0 : Option Nat) (p2 : Int32) (p4 : Int32) (p5 : Int32) (M : Mem), RT p l e rmX13_sayLetters s m args below meth c x 9 (QM below args s x (fun _ : Unit => none) rmX13_sayLetters.cells rmX13_sayLetters.slots) 0 0 (fX13_sayLetters_L172 p0 p2 p4 p5 M) 172 [(2, p2), (4, p4), (5, p5)] [] [(0, p0)] [] M := by
    intro p0 p2 p4 p5 M
    unfold fX13_sayLetters_L172
    refine r_ldc2 (pc := 172) E wk_RX13_465 dX13_sayLetters_172 ?_
    refine r_ldc2 (pc := 175) E wk_RX13_342 dX13_sayLetters_175 ?_
    refine r_iload (pc := 178) E dX13_sayLetters_178 1 rfl ?_
    refine r_i2l (pc := 180) E dX13_sayLetters_180 ?_
    refine r_lmul (pc := 181) E dX13_sayLetters_181 ?_
    refine r_ladd (pc := 182) E dX13_sayLetters_182 ?_
    refine r_aload_n (pc := 183) E dX13_sayLetters_183 rfl 0 rfl ?_
    refine r_getI (pc := 184) E fd_13_68 wf_RX13_446 dX13_sayLetters_184 (fun v184 => ?_)
    refine r_i2l (pc := 187) E dX13_sayLetters_187 ?_
    refine r_iconst (pc := 188) (v := 4) E dX13_sayLetters_188 (by decide) ?_
    refine r_lshl (pc := 189) E dX13_sayLetters_189 ?_
    refine r_ladd (pc := 190) E dX13_sayLetters_190 ?_
    refine r_iload (pc := 191) E dX13_sayLetters_191 2 rfl ?_
    refine r_i2l (pc := 193) E dX13_sayLetters_193 ?_
    refine r_iload (pc := 194) E dX13_sayLetters_194 1 rfl ?_
    refine r_iconst (pc := 196) (v := 2) E dX13_sayLetters_196 (by decide) ?_
    refine r_icmp_ne (pc := 197) (tgt := 205) E dX13_sayLetters_197 (by decide) ?_ ?_
    · refine r_bipush (pc := 205) (v := 14) E dX13_sayLetters_205 (by decide) ?_
      exact r_sub [0, 1] [] [0] rfl rfl rfl (hL207 p0 p2 p4 ((2 + (4 * p4.toInt64)) + (shlJ v184.toInt64 4)) p5.toInt64 14 _)
    · refine r_bipush (pc := 200) (v := 18) E dX13_sayLetters_200 (by decide) ?_
      refine r_goto (pc := 202) (tgt := 207) E dX13_sayLetters_202 (by decide) ?_
      exact r_sub [0, 1] [] [0] rfl rfl rfl (hL207 p0 p2 p4 ((2 + (4 * p4.toInt64)) + (shlJ v184.toInt64 4)) p5.toInt64 18 _)
  have hL132 : ∀ (p0 : Option Nat) (p2 : Int32) (p4 : Int32) (p5 : Int32) (p6 : Int32) (M : Mem), RT p l e rmX13_sayLetters s m args below meth c x 9 (QM below args s x (fun _ : Unit => none) rmX13_sayLetters.cells rmX13_sayLetters.slots) 0 0 (fX13_sayLetters_L132 p0 p2 p4 p5 p6 M) 132 [(2, p2), (4, p4), (5, p5), (6, p6)] [] [(0, p0)] [] M := by
    intro p0 p2 p4 p5 p6 M
    refine r_lp (fi := fun a : Option Nat × Int32 × Int32 × Int32 × Int32 => [(2, a.2.1), (4, a.2.2.1), (5, a.2.2.2.1), (6, a.2.2.2.2)]) (fl := fun a : Option Nat × Int32 × Int32 × Int32 × Int32 => []) (fr := fun a : Option Nat × Int32 × Int32 × Int32 × Int32 => [(0, a.1)]) (fs := fun a : Option Nat × Int32 × Int32 × Int32 × Int32 => []) ?_ FU ((p0, p2, p4, p5, p6)) M
    intro k132 hk132 a M
    obtain ⟨p0, p2, p4, p5, p6⟩ := a
    show RT p l e rmX13_sayLetters s m args below meth c x 9 (QM below args s x (fun _ : Unit => none) rmX13_sayLetters.cells rmX13_sayLetters.slots) 0 0 (fX13_sayLetters_B132 k132 p0 p2 p4 p5 p6 M) 132 [(2, p2), (4, p4), (5, p5), (6, p6)] [] [(0, p0)] [] M
    unfold fX13_sayLetters_B132
    refine r_iload (pc := 132) E dX13_sayLetters_132 3 rfl ?_
    refine r_iload_n (pc := 134) E dX13_sayLetters_134 rfl 0 rfl ?_
    refine r_iconst (pc := 135) (v := 3) E dX13_sayLetters_135 (by decide) ?_
    refine r_iadd (pc := 136) E dX13_sayLetters_136 ?_
    refine r_icmp_le (pc := 137) (tgt := 162) E dX13_sayLetters_137 (by decide) ?_ ?_
    · refine r_aload_n (pc := 162) E dX13_sayLetters_162 rfl 0 rfl ?_
      refine r_dup (pc := 163) E dX13_sayLetters_163 (rv_cat _ _) ?_
      refine r_getI (pc := 164) E fd_13_54 wf_RX13_412 dX13_sayLetters_164 (fun v164 => ?_)
      refine r_iconst (pc := 167) (v := 1) E dX13_sayLetters_167 (by decide) ?_
      refine r_iadd (pc := 168) E dX13_sayLetters_168 ?_
      refine r_putI (pc := 169) E fd_13_54 wf_RX13_412 dX13_sayLetters_169 (Or.inl rfl) (fun M169 => ?_)
      exact r_sub [0, 1, 2] [] [0] rfl rfl rfl (hL172 p0 p2 p4 p5 _)
    · refine r_aload_n (pc := 140) E dX13_sayLetters_140 rfl 0 rfl ?_
      refine r_getA (pc := 141) E fd_13_53 wf_RX13_104 dX13_sayLetters_141 (fun v141 => ?_)
      refine r_iload (pc := 144) E dX13_sayLetters_144 3 rfl ?_
      refine r_aload_n (pc := 146) E dX13_sayLetters_146 rfl 0 rfl ?_
      refine r_getA (pc := 147) E fd_13_53 wf_RX13_104 dX13_sayLetters_147 (fun v147 => ?_)
      refine r_iload (pc := 150) E dX13_sayLetters_150 3 rfl ?_
      refine r_iconst (pc := 152) (v := 1) E dX13_sayLetters_152 (by decide) ?_
      refine r_isub (pc := 153) E dX13_sayLetters_153 ?_
      refine r_baload (pc := 154) E dX13_sayLetters_154 (fun v154 => ?_)
      refine r_bastore (pc := 155) E dX13_sayLetters_155 (fun M155 => ?_)
      refine r_iinc (pc := 156) (w := (-1)) (lf := fun v156 => [(6, v156), (2, p2), (4, p4), (5, p5)]) (ll' := []) (lr' := [(0, p0)]) E dX13_sayLetters_156 3 rfl (by decide) (by decide) (fun _ => rfl) rfl rfl (fun v156 => ?_)
      refine r_goto (pc := 159) (tgt := 132) E dX13_sayLetters_159 (by decide) ?_
      exact r_sub [1, 2, 3, 0] [] [0] rfl rfl rfl (hk132 ((p0, p2, p4, p5, v156)) _)
  have hL83 : ∀ (p0 : Option Nat) (p2 : Int32) (q0 : Int32) (M : Mem), RT p l e rmX13_sayLetters s m args below meth c x 9 (QM below args s x (fun _ : Unit => none) rmX13_sayLetters.cells rmX13_sayLetters.slots) 0 0 (fX13_sayLetters_L83 p0 p2 q0 M) 83 [(2, p2)] [] [(0, p0)] [.int q0] M := by
    intro p0 p2 q0 M
    unfold fX13_sayLetters_L83
    refine r_istore_n (pc := 83) (lf := fun v83 => [(3, v83), (2, p2)]) (lg := fun v83 => []) (lk := fun v83 => [(0, p0)]) E dX13_sayLetters_83 rfl (by decide) (fun _ => rfl) (fun _ => rfl) (fun _ => rfl) (fun v83 => ?_)
    refine r_aload_n (pc := 84) E dX13_sayLetters_84 rfl 0 rfl ?_
    refine r_lconst (pc := 85) (v := 0) E dX13_sayLetters_85 (by decide) ?_
    refine r_iload_n (pc := 86) E dX13_sayLetters_86 rfl 0 rfl ?_
    refine r_kVv (pc := 87) (As := [.long 0, .int v83]) (rest := []) E wc_X13_say wi_RX13 hd_X13_say (ci := 13) rfl wl_RX13_418 wn_X13_say ws_X13_say dX13_sayLetters_87 (by decide) (Nat.le_of_ble_eq_true rfl) ⟨rfl, rfl⟩ (ctX13_say l x _ _ _ _) rfl (fun v87 M87 => ?_)
    refine r_aload_n (pc := 90) E dX13_sayLetters_90 rfl 0 rfl ?_
    refine r_kVv (pc := 91) (As := []) (rest := []) E wc_X13_sayCode wi_RX13 hd_X13_sayCode (ci := 13) rfl wl_RX13_459 wn_X13_sayCode ws_X13_sayCode dX13_sayLetters_91 (by decide) (Nat.le_of_ble_eq_true rfl) ⟨rfl, rfl⟩ (ctX13_sayCode l x _ _) rfl (fun v91 M91 => ?_)
    refine r_aload_n (pc := 94) E dX13_sayLetters_94 rfl 0 rfl ?_
    refine r_iload_n (pc := 95) E dX13_sayLetters_95 rfl 1 rfl ?_
    refine r_kVi (pc := 96) (As := [.int p2]) (rest := []) E wc_X13_sayStreams wi_RX13 hd_X13_sayStreams (ci := 13) rfl wl_RX13_462 wn_X13_sayStreams ws_X13_sayStreams dX13_sayLetters_96 (by decide) (Nat.le_of_ble_eq_true rfl) ⟨rfl, rfl⟩ (ctX13_sayStreams l x _ _ _) rfl (fun v96 M96 => ?_)
    refine r_istore (pc := 99) (lf := fun v99 => [(4, v99), (3, v83), (2, p2)]) (lg := fun v99 => []) (lk := fun v99 => [(0, p0)]) E dX13_sayLetters_99 (by decide) (fun _ => rfl) (fun _ => rfl) (fun _ => rfl) (fun v99 => ?_)
    refine r_aload_n (pc := 101) E dX13_sayLetters_101 rfl 0 rfl ?_
    refine r_getI (pc := 102) E fd_13_54 wf_RX13_412 dX13_sayLetters_102 (fun v102 => ?_)
    refine r_iload_n (pc := 105) E dX13_sayLetters_105 rfl 2 rfl ?_
    refine r_isub (pc := 106) E dX13_sayLetters_106 ?_
    refine r_iconst (pc := 107) (v := 3) E dX13_sayLetters_107 (by decide) ?_
    refine r_isub (pc := 108) E dX13_sayLetters_108 ?_
    refine r_istore (pc := 109) (lf := fun v109 => [(5, v109), (4, v99), (3, v83), (2, p2)]) (lg := fun v109 => []) (lk := fun v109 => [(0, p0)]) E dX13_sayLetters_109 (by decide) (fun _ => rfl) (fun _ => rfl) (fun _ => rfl) (fun v109 => ?_)
    refine r_iload (pc := 111) E dX13_sayLetters_111 0 rfl ?_
    refine r_aload_n (pc := 113) E dX13_sayLetters_113 rfl 0 rfl ?_
    refine r_getI (pc := 114) E fd_13_68 wf_RX13_446 dX13_sayLetters_114 (fun v114 => ?_)
    refine r_icmp_ge (pc := 117) (tgt := 256) E dX13_sayLetters_117 (by decide) ?_ ?_
    · refine r_aload_n (pc := 256) E dX13_sayLetters_256 rfl 0 rfl ?_
      refine r_iload_n (pc := 257) E dX13_sayLetters_257 rfl 3 rfl ?_
      refine r_putI (pc := 258) E fd_13_54 wf_RX13_412 dX13_sayLetters_258 (Or.inl rfl) (fun M258 => ?_)
      exact r_sub [] [] [0] rfl rfl rfl (hL261 p0 _)
    · refine r_iload (pc := 120) E dX13_sayLetters_120 1 rfl ?_
      refine r_iconst (pc := 122) (v := 2) E dX13_sayLetters_122 (by decide) ?_
      refine r_icmp_ne (pc := 123) (tgt := 172) E dX13_sayLetters_123 (by decide) ?_ ?_
      · exact r_sub [3, 1, 0] [] [0] rfl rfl rfl (hL172 p0 p2 v99 v109 _)
      · refine r_aload_n (pc := 126) E dX13_sayLetters_126 rfl 0 rfl ?_
        refine r_getI (pc := 127) E fd_13_54 wf_RX13_412 dX13_sayLetters_127 (fun v127 => ?_)
        refine r_istore (pc := 130) (lf := fun v130 => [(6, v130), (5, v109), (4, v99), (3, v83), (2, p2)]) (lg := fun v130 => []) (lk := fun v130 => [(0, p0)]) E dX13_sayLetters_130 (by decide) (fun _ => rfl) (fun _ => rfl) (fun _ => rfl) (fun v130 => ?_)
        exact r_sub [4, 2, 1, 0] [] [0] rfl rfl rfl (hL132 p0 p2 v99 v109 v130 _)
  have hL42 : ∀ (p0 : Option Nat) (p1 : Int32) (M : Mem), RT p l e rmX13_sayLetters s m args below meth c x 9 (QM below args s x (fun _ : Unit => none) rmX13_sayLetters.cells rmX13_sayLetters.slots) 0 0 (fX13_sayLetters_L42 p0 p1 M) 42 [(1, p1)] [] [(0, p0)] [] M := by
    intro p0 p1 M
    unfold fX13_sayLetters_L42
    refine r_iload_n (pc := 42) E dX13_sayLetters_42 rfl 0 rfl ?_
    refine r_iconst (pc := 43) (v := 2) E dX13_sayLetters_43 (by decide) ?_
    refine r_icmp_ne (pc := 44) (tgt := 261) E dX13_sayLetters_44 (by decide) ?_ ?_
    · exact r_sub [] [] [0] rfl rfl rfl (hL261 p0 _)
    · refine r_aload_n (pc := 47) E dX13_sayLetters_47 rfl 0 rfl ?_
      refine r_getI (pc := 48) E fd_13_68 wf_RX13_446 dX13_sayLetters_48 (fun v48 => ?_)
      refine r_bipush (pc := 51) (v := 32) E dX13_sayLetters_51 (by decide) ?_
      refine r_icmp_lt (pc := 53) (tgt := 261) E dX13_sayLetters_53 (by decide) ?_ ?_
      · exact r_sub [] [] [0] rfl rfl rfl (hL261 p0 _)
      · refine r_aload_n (pc := 56) E dX13_sayLetters_56 rfl 0 rfl ?_
        refine r_kVi (pc := 57) (As := []) (rest := []) E wc_X13_areCoded wi_RX13 hd_X13_areCoded (ci := 13) rfl wl_RX13_456 wn_X13_areCoded ws_X13_areCoded dX13_sayLetters_57 (by decide) (Nat.le_of_ble_eq_true rfl) ⟨rfl, rfl⟩ (ctX13_areCoded l x _ _) rfl (fun v57 M57 => ?_)
        refine r_if_eq (pc := 60) (tgt := 261) E dX13_sayLetters_60 (by decide) ?_ ?_
        · exact r_sub [] [] [0] rfl rfl rfl (hL261 p0 _)
        · refine r_aload_n (pc := 63) E dX13_sayLetters_63 rfl 0 rfl ?_
          refine r_getI (pc := 64) E fd_13_54 wf_RX13_412 dX13_sayLetters_64 (fun v64 => ?_)
          refine r_istore_n (pc := 67) (lf := fun v67 => [(2, v67), (1, p1)]) (lg := fun v67 => []) (lk := fun v67 => [(0, p0)]) E dX13_sayLetters_67 rfl (by decide) (fun _ => rfl) (fun _ => rfl) (fun _ => rfl) (fun v67 => ?_)
          refine r_aload_n (pc := 68) E dX13_sayLetters_68 rfl 0 rfl ?_
          refine r_getI (pc := 69) E fd_13_68 wf_RX13_446 dX13_sayLetters_69 (fun v69 => ?_)
          refine r_sipush (pc := 72) (v := 256) E dX13_sayLetters_72 (by decide) ?_
          refine r_icmp_ge (pc := 75) (tgt := 82) E dX13_sayLetters_75 (by decide) ?_ ?_
          · refine r_iconst (pc := 82) (v := 3) E dX13_sayLetters_82 (by decide) ?_
            exact r_sub [0] [] [0] rfl rfl rfl (hL83 p0 v67 3 _)
          · refine r_iconst (pc := 78) (v := 3) E dX13_sayLetters_78 (by decide) ?_
            refine r_goto (pc := 79) (tgt := 83) E dX13_sayLetters_79 (by decide) ?_
            exact r_sub [0] [] [0] rfl rfl rfl (hL83 p0 v67 3 _)
  show RT p l e rmX13_sayLetters s m args below meth c x 9 (QM below args s x (fun _ : Unit => none) rmX13_sayLetters.cells rmX13_sayLetters.slots) 0 0 (fX13_sayLetters a0 a1 M) 0 [(1, a1)] [] [(0, a0)] [] M
  unfold fX13_sayLetters
  refine r_aload_n (pc := 0) E dX13_sayLetters_0 rfl 0 rfl ?_
  refine r_getI (pc := 1) E fd_13_68 wf_RX13_446 dX13_sayLetters_1 (fun v1 => ?_)
  refine r_iconst (pc := 4) (v := 1) E dX13_sayLetters_4 (by decide) ?_
  refine r_icmp_le (pc := 5) (tgt := 42) E dX13_sayLetters_5 (by decide) ?_ ?_
  · exact r_sub [0] [] [0] rfl rfl rfl (hL42 a0 a1 _)
  · refine r_aload_n (pc := 8) E dX13_sayLetters_8 rfl 0 rfl ?_
    refine r_aload_n (pc := 9) E dX13_sayLetters_9 rfl 0 rfl ?_
    refine r_getA (pc := 10) E fd_13_67 wf_RX13_135 dX13_sayLetters_10 (fun v10 => ?_)
    refine r_iconst (pc := 13) (v := 0) E dX13_sayLetters_13 (by decide) ?_
    refine r_aload_n (pc := 14) E dX13_sayLetters_14 rfl 0 rfl ?_
    refine r_getI (pc := 15) E fd_13_68 wf_RX13_446 dX13_sayLetters_15 (fun v15 => ?_)
    refine r_kVi (pc := 18) (As := [rv x v10, .int 0, .int v15]) (rest := []) E wc_X13_areSame wi_RX13 hd_X13_areSame (ci := 13) rfl wl_RX13_430 wn_X13_areSame ws_X13_areSame dX13_sayLetters_18 (by decide) (Nat.le_of_ble_eq_true rfl) ⟨rfl, rfl⟩ (ctX13_areSame l x _ _ _ _ _) rfl (fun v18 M18 => ?_)
    refine r_if_eq (pc := 21) (tgt := 42) E dX13_sayLetters_21 (by decide) ?_ ?_
    · exact r_sub [0] [] [0] rfl rfl rfl (hL42 a0 a1 _)
    · refine r_aload_n (pc := 24) E dX13_sayLetters_24 rfl 0 rfl ?_
      refine r_iconst (pc := 25) (v := 1) E dX13_sayLetters_25 (by decide) ?_
      refine r_kVv (pc := 26) (As := [.int 1]) (rest := []) E wc_X13_sayHead wi_RX13 hd_X13_sayHead (ci := 13) rfl wl_RX13_453 wn_X13_sayHead ws_X13_sayHead dX13_sayLetters_26 (by decide) (Nat.le_of_ble_eq_true rfl) ⟨rfl, rfl⟩ (ctX13_sayHead l x _ _ _) rfl (fun v26 M26 => ?_)
      refine r_aload_n (pc := 29) E dX13_sayLetters_29 rfl 0 rfl ?_
      refine r_aload_n (pc := 30) E dX13_sayLetters_30 rfl 0 rfl ?_
      refine r_getA (pc := 31) E fd_13_67 wf_RX13_135 dX13_sayLetters_31 (fun v31 => ?_)
      refine r_iconst (pc := 34) (v := 0) E dX13_sayLetters_34 (by decide) ?_
      refine r_baload (pc := 35) E dX13_sayLetters_35 (fun v35 => ?_)
      refine r_i2l (pc := 36) E dX13_sayLetters_36 ?_
      refine r_iconst (pc := 37) (v := 1) E dX13_sayLetters_37 (by decide) ?_
      refine r_kVv (pc := 38) (As := [.long v35.toInt64, .int 1]) (rest := []) E wc_X13_say wi_RX13 hd_X13_say (ci := 13) rfl wl_RX13_418 wn_X13_say ws_X13_say dX13_sayLetters_38 (by decide) (Nat.le_of_ble_eq_true rfl) ⟨rfl, rfl⟩ (ctX13_say l x _ _ _ _) rfl (fun v38 M38 => ?_)
      exact e_void (pc := 41) E dX13_sayLetters_41
def fX13_letterSymbol_B3 (k3 : Int32 × Int32 → Mem → Option (Int32 × Mem)) (p0 : Int32) (p1 : Int32) (M : Mem) : Option (Int32 × Mem) :=
  bd (fX13_letterBase p1 M) fun v4 M4 =>
  if v4 ≤ p0 then (
    some (p1, M4)
  ) else (
    bn (p1 + (-1)) fun v11 =>
    k3 ((p0, v11)) M4
  )
def fX13_letterSymbol_L3 (p0 : Int32) (p1 : Int32) (M : Mem) : Option (Int32 × Mem) :=
  lp (fun k3 (a : Int32 × Int32) M => fX13_letterSymbol_B3 k3 a.1 a.2 M) FU ((p0, p1)) M
def fX13_letterSymbol (a0 : Int32) (M : Mem) : Option (Int32 × Mem) :=
  bn (35) fun v2 =>
  fX13_letterSymbol_L3 a0 v2 M
def rmX13_letterSymbol : Room := { frames := 1, cells := 0, slots := 0, locals := 20 }
set_option maxRecDepth 100000 in
set_option maxHeartbeats 4000000 in
theorem ctX13_letterSymbol (l : Launch) (x : Cx) (a0 : Int32) (M : Mem) (v : Int32) (N : Mem) (h : fX13_letterSymbol a0 M = some (v, N)) : CT l yX13_letterSymbol cX13_letterSymbol 2 (some (FieldType.int)) rmX13_letterSymbol x [.int a0] M (some (.int v)) N := by
  refine ct_mk (enc := fun v : Int32 => some (.int v)) (li := [(0, a0)]) (ll := []) (lr := []) (by decide +kernel) (by simp [lg_sl, rv_cat, cat_int, cat_long]) (by simp [flat, lv_args, rv_cat, cat_int, cat_long]) h ?_
  intro p e s m args below meth c E
  have hL3 : ∀ (p0 : Int32) (p1 : Int32) (M : Mem), RT p l e rmX13_letterSymbol s m args below meth c x 2 (QM below args s x (fun v : Int32 => some (.int v)) rmX13_letterSymbol.cells rmX13_letterSymbol.slots) 0 0 (fX13_letterSymbol_L3 p0 p1 M) 3 [(0, p0), (1, p1)] [] [] [] M := by
    intro p0 p1 M
    refine r_lp (fi := fun a : Int32 × Int32 => [(0, a.1), (1, a.2)]) (fl := fun a : Int32 × Int32 => []) (fr := fun a : Int32 × Int32 => []) (fs := fun a : Int32 × Int32 => []) ?_ FU ((p0, p1)) M
    intro k3 hk3 a M
    obtain ⟨p0, p1⟩ := a
    show RT p l e rmX13_letterSymbol s m args below meth c x 2 (QM below args s x (fun v : Int32 => some (.int v)) rmX13_letterSymbol.cells rmX13_letterSymbol.slots) 0 0 (fX13_letterSymbol_B3 k3 p0 p1 M) 3 [(0, p0), (1, p1)] [] [] [] M
    unfold fX13_letterSymbol_B3
    refine r_iload_n (pc := 3) E dX13_letterSymbol_3 rfl 1 rfl ?_
    refine r_kSi (pc := 4) (As := [.int p1]) (rest := []) E wc_X13_letterBase wi_RX13 hd_X13_letterBase wl_RX13_392 wt_X13_letterBase dX13_letterSymbol_4 (by decide) (Nat.le_of_ble_eq_true rfl) ⟨rfl, rfl⟩ (ctX13_letterBase l x _ _) rfl (fun v4 M4 => ?_)
    refine r_iload_n (pc := 7) E dX13_letterSymbol_7 rfl 0 rfl ?_
    refine r_icmp_le (pc := 8) (tgt := 17) E dX13_letterSymbol_8 (by decide) ?_ ?_
    · refine r_iload_n (pc := 17) E dX13_letterSymbol_17 rfl 1 rfl ?_
      exact e_int (pc := 18) E dX13_letterSymbol_18
    · refine r_iinc (pc := 11) (w := (-1)) (lf := fun v11 => [(1, v11), (0, p0)]) (ll' := []) (lr' := []) E dX13_letterSymbol_11 1 rfl (by decide) (by decide) (fun _ => rfl) rfl rfl (fun v11 => ?_)
      refine r_goto (pc := 14) (tgt := 3) E dX13_letterSymbol_14 (by decide) ?_
      exact r_sub [1, 0] [] [] rfl rfl rfl (hk3 ((p0, v11)) _)
  show RT p l e rmX13_letterSymbol s m args below meth c x 2 (QM below args s x (fun v : Int32 => some (.int v)) rmX13_letterSymbol.cells rmX13_letterSymbol.slots) 0 0 (fX13_letterSymbol a0 M) 0 [(0, a0)] [] [] [] M
  unfold fX13_letterSymbol
  refine r_bipush (pc := 0) (v := 35) E dX13_letterSymbol_0 (by decide) ?_
  refine r_istore_n (pc := 2) (lf := fun v2 => [(1, v2), (0, a0)]) (lg := fun v2 => []) (lk := fun v2 => []) E dX13_letterSymbol_2 rfl (by decide) (fun _ => rfl) (fun _ => rfl) (fun _ => rfl) (fun v2 => ?_)
  exact r_sub [1, 0] [] [] rfl rfl rfl (hL3 a0 v2 _)
def fX13_logLong_B2 (k2 : Int64 × Int32 → Mem → Option (Int32 × Mem)) (p0 : Int64) (p2 : Int32) (M : Mem) : Option (Int32 × Mem) :=
  if (lg_cmp (ushJ p0 p2) 1) ≤ 0 then (
    some (p2, M)
  ) else (
    bn (p2 + 1) fun v10 =>
    k2 ((p0, v10)) M
  )
def fX13_logLong_L2 (p0 : Int64) (p2 : Int32) (M : Mem) : Option (Int32 × Mem) :=
  lp (fun k2 (a : Int64 × Int32) M => fX13_logLong_B2 k2 a.1 a.2 M) FU ((p0, p2)) M
def fX13_logLong (a0 : Int64) (M : Mem) : Option (Int32 × Mem) :=
  bn (0) fun v1 =>
  fX13_logLong_L2 a0 v1 M
def rmX13_logLong : Room := { frames := 0, cells := 0, slots := 0, locals := 0 }
set_option maxRecDepth 100000 in
set_option maxHeartbeats 4000000 in
theorem ctX13_logLong (l : Launch) (x : Cx) (a0 : Int64) (M : Mem) (v : Int32) (N : Mem) (h : fX13_logLong a0 M = some (v, N)) : CT l yX13_logLong cX13_logLong 3 (some (FieldType.int)) rmX13_logLong x [.long a0] M (some (.int v)) N := by
  refine ct_mk (enc := fun v : Int32 => some (.int v)) (li := []) (ll := [(0, a0)]) (lr := []) (by decide +kernel) (by simp [lg_sl, rv_cat, cat_int, cat_long]) (by simp [flat, lv_args, rv_cat, cat_int, cat_long]) h ?_
  intro p e s m args below meth c E
  have hL2 : ∀ (p0 : Int64) (p2 : Int32) (M : Mem), RT p l e rmX13_logLong s m args below meth c x 3 (QM below args s x (fun v : Int32 => some (.int v)) rmX13_logLong.cells rmX13_logLong.slots) 0 0 (fX13_logLong_L2 p0 p2 M) 2 [(2, p2)] [(0, p0)] [] [] M := by
    intro p0 p2 M
    refine r_lp (fi := fun a : Int64 × Int32 => [(2, a.2)]) (fl := fun a : Int64 × Int32 => [(0, a.1)]) (fr := fun a : Int64 × Int32 => []) (fs := fun a : Int64 × Int32 => []) ?_ FU ((p0, p2)) M
    intro k2 hk2 a M
    obtain ⟨p0, p2⟩ := a
    show RT p l e rmX13_logLong s m args below meth c x 3 (QM below args s x (fun v : Int32 => some (.int v)) rmX13_logLong.cells rmX13_logLong.slots) 0 0 (fX13_logLong_B2 k2 p0 p2 M) 2 [(2, p2)] [(0, p0)] [] [] M
    unfold fX13_logLong_B2
    refine r_lload_n (pc := 2) E dX13_logLong_2 rfl 0 rfl ?_
    refine r_iload_n (pc := 3) E dX13_logLong_3 rfl 0 rfl ?_
    refine r_lushr (pc := 4) E dX13_logLong_4 ?_
    refine r_lconst (pc := 5) (v := 1) E dX13_logLong_5 (by decide) ?_
    refine r_lcmp (pc := 6) E dX13_logLong_6 ?_
    refine r_if_le (pc := 7) (tgt := 16) E dX13_logLong_7 (by decide) ?_ ?_
    · refine r_iload_n (pc := 16) E dX13_logLong_16 rfl 0 rfl ?_
      exact e_int (pc := 17) E dX13_logLong_17
    · refine r_iinc (pc := 10) (w := 1) (lf := fun v10 => [(2, v10)]) (ll' := [(0, p0)]) (lr' := []) E dX13_logLong_10 0 rfl (by decide) (by decide) (fun _ => rfl) rfl rfl (fun v10 => ?_)
      refine r_goto (pc := 13) (tgt := 2) E dX13_logLong_13 (by decide) ?_
      exact r_sub [0] [0] [] rfl rfl rfl (hk2 ((p0, v10)) _)
  show RT p l e rmX13_logLong s m args below meth c x 3 (QM below args s x (fun v : Int32 => some (.int v)) rmX13_logLong.cells rmX13_logLong.slots) 0 0 (fX13_logLong a0 M) 0 [] [(0, a0)] [] [] M
  unfold fX13_logLong
  refine r_iconst (pc := 0) (v := 0) E dX13_logLong_0 (by decide) ?_
  refine r_istore_n (pc := 1) (lf := fun v1 => [(2, v1)]) (lg := fun v1 => [(0, a0)]) (lk := fun v1 => []) E dX13_logLong_1 rfl (by decide) (fun _ => rfl) (fun _ => rfl) (fun _ => rfl) (fun v1 => ?_)
  exact r_sub [0] [0] [] rfl rfl rfl (hL2 a0 v1 _)
def fX13_copySymbol_B3 (k3 : Int32 × Int32 → Mem → Option (Int32 × Mem)) (p0 : Int32) (p1 : Int32) (M : Mem) : Option (Int32 × Mem) :=
  bd (fX13_copyBase p1 M) fun v4 M4 =>
  if v4 ≤ p0 then (
    some (p1, M4)
  ) else (
    bn (p1 + (-1)) fun v11 =>
    k3 ((p0, v11)) M4
  )
def fX13_copySymbol_L3 (p0 : Int32) (p1 : Int32) (M : Mem) : Option (Int32 × Mem) :=
  lp (fun k3 (a : Int32 × Int32) M => fX13_copySymbol_B3 k3 a.1 a.2 M) FU ((p0, p1)) M
def fX13_copySymbol (a0 : Int32) (M : Mem) : Option (Int32 × Mem) :=
  bn (52) fun v2 =>
  fX13_copySymbol_L3 a0 v2 M
def rmX13_copySymbol : Room := { frames := 1, cells := 0, slots := 0, locals := 20 }
set_option maxRecDepth 100000 in
set_option maxHeartbeats 4000000 in
theorem ctX13_copySymbol (l : Launch) (x : Cx) (a0 : Int32) (M : Mem) (v : Int32) (N : Mem) (h : fX13_copySymbol a0 M = some (v, N)) : CT l yX13_copySymbol cX13_copySymbol 2 (some (FieldType.int)) rmX13_copySymbol x [.int a0] M (some (.int v)) N := by
  refine ct_mk (enc := fun v : Int32 => some (.int v)) (li := [(0, a0)]) (ll := []) (lr := []) (by decide +kernel) (by simp [lg_sl, rv_cat, cat_int, cat_long]) (by simp [flat, lv_args, rv_cat, cat_int, cat_long]) h ?_
  intro p e s m args below meth c E
  have hL3 : ∀ (p0 : Int32) (p1 : Int32) (M : Mem), RT p l e rmX13_copySymbol s m args below meth c x 2 (QM below args s x (fun v : Int32 => some (.int v)) rmX13_copySymbol.cells rmX13_copySymbol.slots) 0 0 (fX13_copySymbol_L3 p0 p1 M) 3 [(0, p0), (1, p1)] [] [] [] M := by
    intro p0 p1 M
    refine r_lp (fi := fun a : Int32 × Int32 => [(0, a.1), (1, a.2)]) (fl := fun a : Int32 × Int32 => []) (fr := fun a : Int32 × Int32 => []) (fs := fun a : Int32 × Int32 => []) ?_ FU ((p0, p1)) M
    intro k3 hk3 a M
    obtain ⟨p0, p1⟩ := a
    show RT p l e rmX13_copySymbol s m args below meth c x 2 (QM below args s x (fun v : Int32 => some (.int v)) rmX13_copySymbol.cells rmX13_copySymbol.slots) 0 0 (fX13_copySymbol_B3 k3 p0 p1 M) 3 [(0, p0), (1, p1)] [] [] [] M
    unfold fX13_copySymbol_B3
    refine r_iload_n (pc := 3) E dX13_copySymbol_3 rfl 1 rfl ?_
    refine r_kSi (pc := 4) (As := [.int p1]) (rest := []) E wc_X13_copyBase wi_RX13 hd_X13_copyBase wl_RX13_386 wt_X13_copyBase dX13_copySymbol_4 (by decide) (Nat.le_of_ble_eq_true rfl) ⟨rfl, rfl⟩ (ctX13_copyBase l x _ _) rfl (fun v4 M4 => ?_)
    refine r_iload_n (pc := 7) E dX13_copySymbol_7 rfl 0 rfl ?_
    refine r_icmp_le (pc := 8) (tgt := 17) E dX13_copySymbol_8 (by decide) ?_ ?_
    · refine r_iload_n (pc := 17) E dX13_copySymbol_17 rfl 1 rfl ?_
      exact e_int (pc := 18) E dX13_copySymbol_18
    · refine r_iinc (pc := 11) (w := (-1)) (lf := fun v11 => [(1, v11), (0, p0)]) (ll' := []) (lr' := []) E dX13_copySymbol_11 1 rfl (by decide) (by decide) (fun _ => rfl) rfl rfl (fun v11 => ?_)
      refine r_goto (pc := 14) (tgt := 3) E dX13_copySymbol_14 (by decide) ?_
      exact r_sub [1, 0] [] [] rfl rfl rfl (hk3 ((p0, v11)) _)
  show RT p l e rmX13_copySymbol s m args below meth c x 2 (QM below args s x (fun v : Int32 => some (.int v)) rmX13_copySymbol.cells rmX13_copySymbol.slots) 0 0 (fX13_copySymbol a0 M) 0 [(0, a0)] [] [] [] M
  unfold fX13_copySymbol
  refine r_bipush (pc := 0) (v := 52) E dX13_copySymbol_0 (by decide) ?_
  refine r_istore_n (pc := 2) (lf := fun v2 => [(1, v2), (0, a0)]) (lg := fun v2 => []) (lk := fun v2 => []) E dX13_copySymbol_2 rfl (by decide) (fun _ => rfl) (fun _ => rfl) (fun _ => rfl) (fun v2 => ?_)
  exact r_sub [1, 0] [] [] rfl rfl rfl (hL3 a0 v2 _)
def fX13_bit_L65 (k2 : Option Nat × Int32 × Int32 × Int32 → Mem → Option (Unit × Mem)) (p0 : Option Nat) (p1 : Int32) (p2 : Int32) (p3 : Int32) (M : Mem) : Option (Unit × Mem) :=
  bn (p3 + 1) fun v65 =>
  k2 ((p0, p1, p2, v65)) M
def fX13_bit_B2 (k2 : Option Nat × Int32 × Int32 × Int32 → Mem → Option (Unit × Mem)) (p0 : Option Nat) (p1 : Int32) (p2 : Int32) (p3 : Int32) (M : Mem) : Option (Unit × Mem) :=
  if p2 ≤ p3 then (
    some ((), M)
  ) else (
    bo (gI M p0 13 73) fun v9 =>
    bo (gI M p0 13 74) fun v18 =>
    bo (pI M p0 13 73 (v9 ||| (shlI ((shrI p1 p3) &&& 1) v18))) fun M23 =>
    bo (gI M23 p0 13 74) fun v28 =>
    bo (pI M23 p0 13 74 (v28 + 1)) fun M33 =>
    bo (gI M33 p0 13 74) fun v37 =>
    if v37 = 8 then (
      bo (gI M33 p0 13 73) fun v47 =>
      bo (chk M33 p0 13) fun _ => bd (fX13_say p0 v47.toInt64 1 M33) fun v52 M52 =>
      bo (pI M52 p0 13 73 0) fun M57 =>
      bo (pI M57 p0 13 74 0) fun M62 =>
      fX13_bit_L65 k2 p0 p1 p2 p3 M62
    ) else (
      fX13_bit_L65 k2 p0 p1 p2 p3 M33
    )
  )
def fX13_bit_L2 (p0 : Option Nat) (p1 : Int32) (p2 : Int32) (p3 : Int32) (M : Mem) : Option (Unit × Mem) :=
  lp (fun k2 (a : Option Nat × Int32 × Int32 × Int32) M => fX13_bit_B2 k2 a.1 a.2.1 a.2.2.1 a.2.2.2 M) FU ((p0, p1, p2, p3)) M
def fX13_bit (a0 : Option Nat) (a1 : Int32) (a2 : Int32) (M : Mem) : Option (Unit × Mem) :=
  bn (0) fun v1 =>
  fX13_bit_L2 a0 a1 a2 v1 M
def rmX13_bit : Room := { frames := 1, cells := 0, slots := 0, locals := 24 }
set_option maxRecDepth 100000 in
set_option maxHeartbeats 4000000 in
theorem ctX13_bit (l : Launch) (x : Cx) (a0 : Option Nat) (a1 : Int32) (a2 : Int32) (M : Mem) (v : Unit) (N : Mem) (h : fX13_bit a0 a1 a2 M = some (v, N)) : CT l yX13_bit cX13_bit 4 (none) rmX13_bit x [rv x a0, .int a1, .int a2] M none N := by
  refine ct_mk (enc := fun _ : Unit => none) (li := [(1, a1), (2, a2)]) (ll := []) (lr := [(0, a0)]) (by decide +kernel) (by simp [lg_sl, rv_cat, cat_int, cat_long]) (by simp [flat, lv_args, rv_cat, cat_int, cat_long]) h ?_
  intro p e s m args below meth c E
  have hL65 : ∀ (k2 : Option Nat × Int32 × Int32 × Int32 → Mem → Option (Unit × Mem)) (hk2 : ∀ a M, RT p l e rmX13_bit s m args below meth c x 4 (QM below args s x (fun _ : Unit => none) rmX13_bit.cells rmX13_bit.slots) 0 0 (k2 a M) 2 [(1, a.2.1), (2, a.2.2.1), (3, a.2.2.2)] [] [(0, a.1)] [] M) (p0 : Option Nat) (p1 : Int32) (p2 : Int32) (p3 : Int32) (M : Mem), RT p l e rmX13_bit s m args below meth c x 4 (QM below args s x (fun _ : Unit => none) rmX13_bit.cells rmX13_bit.slots) 0 0 (fX13_bit_L65 k2 p0 p1 p2 p3 M) 65 [(1, p1), (2, p2), (3, p3)] [] [(0, p0)] [] M := by
    intro k2 hk2 p0 p1 p2 p3 M
    unfold fX13_bit_L65
    refine r_iinc (pc := 65) (w := 1) (lf := fun v65 => [(3, v65), (1, p1), (2, p2)]) (ll' := []) (lr' := [(0, p0)]) E dX13_bit_65 2 rfl (by decide) (by decide) (fun _ => rfl) rfl rfl (fun v65 => ?_)
    refine r_goto (pc := 68) (tgt := 2) E dX13_bit_68 (by decide) ?_
    exact r_sub [1, 2, 0] [] [0] rfl rfl rfl (hk2 ((p0, p1, p2, v65)) _)
  have hL2 : ∀ (p0 : Option Nat) (p1 : Int32) (p2 : Int32) (p3 : Int32) (M : Mem), RT p l e rmX13_bit s m args below meth c x 4 (QM below args s x (fun _ : Unit => none) rmX13_bit.cells rmX13_bit.slots) 0 0 (fX13_bit_L2 p0 p1 p2 p3 M) 2 [(1, p1), (2, p2), (3, p3)] [] [(0, p0)] [] M := by
    intro p0 p1 p2 p3 M
    refine r_lp (fi := fun a : Option Nat × Int32 × Int32 × Int32 => [(1, a.2.1), (2, a.2.2.1), (3, a.2.2.2)]) (fl := fun a : Option Nat × Int32 × Int32 × Int32 => []) (fr := fun a : Option Nat × Int32 × Int32 × Int32 => [(0, a.1)]) (fs := fun a : Option Nat × Int32 × Int32 × Int32 => []) ?_ FU ((p0, p1, p2, p3)) M
    intro k2 hk2 a M
    obtain ⟨p0, p1, p2, p3⟩ := a
    show RT p l e rmX13_bit s m args below meth c x 4 (QM below args s x (fun _ : Unit => none) rmX13_bit.cells rmX13_bit.slots) 0 0 (fX13_bit_B2 k2 p0 p1 p2 p3 M) 2 [(1, p1), (2, p2), (3, p3)] [] [(0, p0)] [] M
    unfold fX13_bit_B2
    refine r_iload_n (pc := 2) E dX13_bit_2 rfl 2 rfl ?_
    refine r_iload_n (pc := 3) E dX13_bit_3 rfl 1 rfl ?_
    refine r_icmp_ge (pc := 4) (tgt := 71) E dX13_bit_4 (by decide) ?_ ?_
    · exact e_void (pc := 71) E dX13_bit_71
    · refine r_aload_n (pc := 7) E dX13_bit_7 rfl 0 rfl ?_
      refine r_dup (pc := 8) E dX13_bit_8 (rv_cat _ _) ?_
      refine r_getI (pc := 9) E fd_13_73 wf_RX13_503 dX13_bit_9 (fun v9 => ?_)
      refine r_iload_n (pc := 12) E dX13_bit_12 rfl 0 rfl ?_
      refine r_iload_n (pc := 13) E dX13_bit_13 rfl 2 rfl ?_
      refine r_ishr (pc := 14) E dX13_bit_14 ?_
      refine r_iconst (pc := 15) (v := 1) E dX13_bit_15 (by decide) ?_
      refine r_iand (pc := 16) E dX13_bit_16 ?_
      refine r_aload_n (pc := 17) E dX13_bit_17 rfl 0 rfl ?_
      refine r_getI (pc := 18) E fd_13_74 wf_RX13_506 dX13_bit_18 (fun v18 => ?_)
      refine r_ishl (pc := 21) E dX13_bit_21 ?_
      refine r_ior (pc := 22) E dX13_bit_22 ?_
      refine r_putI (pc := 23) E fd_13_73 wf_RX13_503 dX13_bit_23 (Or.inl rfl) (fun M23 => ?_)
      refine r_aload_n (pc := 26) E dX13_bit_26 rfl 0 rfl ?_
      refine r_dup (pc := 27) E dX13_bit_27 (rv_cat _ _) ?_
      refine r_getI (pc := 28) E fd_13_74 wf_RX13_506 dX13_bit_28 (fun v28 => ?_)
      refine r_iconst (pc := 31) (v := 1) E dX13_bit_31 (by decide) ?_
      refine r_iadd (pc := 32) E dX13_bit_32 ?_
      refine r_putI (pc := 33) E fd_13_74 wf_RX13_506 dX13_bit_33 (Or.inl rfl) (fun M33 => ?_)
      refine r_aload_n (pc := 36) E dX13_bit_36 rfl 0 rfl ?_
      refine r_getI (pc := 37) E fd_13_74 wf_RX13_506 dX13_bit_37 (fun v37 => ?_)
      refine r_bipush (pc := 40) (v := 8) E dX13_bit_40 (by decide) ?_
      refine r_icmp_ne (pc := 42) (tgt := 65) E dX13_bit_42 (by decide) ?_ ?_
      · exact r_sub [0, 1, 2] [] [0] rfl rfl rfl (hL65 k2 hk2 p0 p1 p2 p3 _)
      · refine r_aload_n (pc := 45) E dX13_bit_45 rfl 0 rfl ?_
        refine r_aload_n (pc := 46) E dX13_bit_46 rfl 0 rfl ?_
        refine r_getI (pc := 47) E fd_13_73 wf_RX13_503 dX13_bit_47 (fun v47 => ?_)
        refine r_i2l (pc := 50) E dX13_bit_50 ?_
        refine r_iconst (pc := 51) (v := 1) E dX13_bit_51 (by decide) ?_
        refine r_kVv (pc := 52) (As := [.long v47.toInt64, .int 1]) (rest := []) E wc_X13_say wi_RX13 hd_X13_say (ci := 13) rfl wl_RX13_418 wn_X13_say ws_X13_say dX13_bit_52 (by decide) (Nat.le_of_ble_eq_true rfl) ⟨rfl, rfl⟩ (ctX13_say l x _ _ _ _) rfl (fun v52 M52 => ?_)
        refine r_aload_n (pc := 55) E dX13_bit_55 rfl 0 rfl ?_
        refine r_iconst (pc := 56) (v := 0) E dX13_bit_56 (by decide) ?_
        refine r_putI (pc := 57) E fd_13_73 wf_RX13_503 dX13_bit_57 (Or.inl rfl) (fun M57 => ?_)
        refine r_aload_n (pc := 60) E dX13_bit_60 rfl 0 rfl ?_
        refine r_iconst (pc := 61) (v := 0) E dX13_bit_61 (by decide) ?_
        refine r_putI (pc := 62) E fd_13_74 wf_RX13_506 dX13_bit_62 (Or.inl rfl) (fun M62 => ?_)
        exact r_sub [0, 1, 2] [] [0] rfl rfl rfl (hL65 k2 hk2 p0 p1 p2 p3 _)
  show RT p l e rmX13_bit s m args below meth c x 4 (QM below args s x (fun _ : Unit => none) rmX13_bit.cells rmX13_bit.slots) 0 0 (fX13_bit a0 a1 a2 M) 0 [(1, a1), (2, a2)] [] [(0, a0)] [] M
  unfold fX13_bit
  refine r_iconst (pc := 0) (v := 0) E dX13_bit_0 (by decide) ?_
  refine r_istore_n (pc := 1) (lf := fun v1 => [(3, v1), (1, a1), (2, a2)]) (lg := fun v1 => []) (lk := fun v1 => [(0, a0)]) E dX13_bit_1 rfl (by decide) (fun _ => rfl) (fun _ => rfl) (fun _ => rfl) (fun v1 => ?_)
  exact r_sub [1, 2, 0] [] [0] rfl rfl rfl (hL2 a0 a1 a2 v1 _)
