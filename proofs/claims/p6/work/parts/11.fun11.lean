def fX13_sayCounts_L246 (M : Mem) : Option (Unit × Mem) :=
  some ((), M)
def fX13_sayCounts_L224 (k30 : Option Nat × Int32 × Int32 × Int32 → Mem → Option (Unit × Mem)) (p0 : Option Nat) (p1 : Int32) (p2 : Int32) (p3 : Int32) (M : Mem) : Option (Unit × Mem) :=
  k30 ((p0, p1, p2, p3)) M
def fX13_sayCounts_B199 (k30 : Option Nat × Int32 × Int32 × Int32 → Mem → Option (Unit × Mem)) (k199 : Option Nat × Int32 × Int32 × Int32 × Int32 → Mem → Option (Unit × Mem)) (p0 : Option Nat) (p1 : Int32) (p2 : Int32) (p3 : Int32) (p9 : Int32) (M : Mem) : Option (Unit × Mem) :=
  if p9 < 3 then (
    bo (chk M p0 13) fun _ => bd (fX13_bit p0 p9 2 M) fun v221 M221 =>
    fX13_sayCounts_L224 k30 p0 p1 p2 p3 M221
  ) else (
    bo (chk M p0 13) fun _ => bd (fX13_bit p0 3 2 M) fun v208 M208 =>
    bn (p9 + (-3)) fun v211 =>
    k199 ((p0, p1, p2, p3, v211)) M208
  )
def fX13_sayCounts_L199 (k30 : Option Nat × Int32 × Int32 × Int32 → Mem → Option (Unit × Mem)) (p0 : Option Nat) (p1 : Int32) (p2 : Int32) (p3 : Int32) (p9 : Int32) (M : Mem) : Option (Unit × Mem) :=
  lp (fun k199 (a : Option Nat × Int32 × Int32 × Int32 × Int32) M => fX13_sayCounts_B199 k30 k199 a.1 a.2.1 a.2.2.1 a.2.2.2.1 a.2.2.2.2 M) FU ((p0, p1, p2, p3, p9)) M
def fX13_sayCounts_L194 (k30 : Option Nat × Int32 × Int32 × Int32 → Mem → Option (Unit × Mem)) (p0 : Option Nat) (p1 : Int32) (p2 : Int32) (p3 : Int32) (p9 : Int32) (M : Mem) : Option (Unit × Mem) :=
  bn (p3 + p9) fun v198 =>
  fX13_sayCounts_L199 k30 p0 p1 p2 v198 p9 M
def fX13_sayCounts_B168 (k30 : Option Nat × Int32 × Int32 × Int32 → Mem → Option (Unit × Mem)) (k168 : Option Nat × Int32 × Int32 × Int32 × Int32 → Mem → Option (Unit × Mem)) (p0 : Option Nat) (p1 : Int32) (p2 : Int32) (p3 : Int32) (p9 : Int32) (M : Mem) : Option (Unit × Mem) :=
  if p1 < (p3 + p9) then (
    fX13_sayCounts_L194 k30 p0 p1 p2 p3 p9 M
  ) else (
    bo (gR M p0 13 12) fun v177 =>
    bo (aI M v177 15 (p3 + p9)) fun v184 =>
    if v184 = 0 then (
      bn (p9 + 1) fun v188 =>
      k168 ((p0, p1, p2, p3, v188)) M
    ) else (
      fX13_sayCounts_L194 k30 p0 p1 p2 p3 p9 M
    )
  )
def fX13_sayCounts_L168 (k30 : Option Nat × Int32 × Int32 × Int32 → Mem → Option (Unit × Mem)) (p0 : Option Nat) (p1 : Int32) (p2 : Int32) (p3 : Int32) (p9 : Int32) (M : Mem) : Option (Unit × Mem) :=
  lp (fun k168 (a : Option Nat × Int32 × Int32 × Int32 × Int32) M => fX13_sayCounts_B168 k30 k168 a.1 a.2.1 a.2.2.1 a.2.2.2.1 a.2.2.2.2 M) FU ((p0, p1, p2, p3, p9)) M
def fX13_sayCounts_L155 (k30 : Option Nat × Int32 × Int32 × Int32 → Mem → Option (Unit × Mem)) (p0 : Option Nat) (p1 : Int32) (p2 : Int32) (p3 : Int32) (q0 : Int32) (M : Mem) : Option (Unit × Mem) :=
  bn (q0) fun v155 =>
  bn (p3 + 1) fun v157 =>
  if v155 = 0 then (
    fX13_sayCounts_L224 k30 p0 p1 p2 v157 M
  ) else (
    bn (0) fun v166 =>
    fX13_sayCounts_L168 k30 p0 p1 p2 v157 v166 M
  )
def fX13_sayCounts_L132 (k30 : Option Nat × Int32 × Int32 × Int32 → Mem → Option (Unit × Mem)) (p0 : Option Nat) (p1 : Int32) (p2 : Int32) (p3 : Int32) (M : Mem) : Option (Unit × Mem) :=
  bo (gR M p0 13 12) fun v134 =>
  bo (aI M v134 15 p3) fun v138 =>
  bn (p2 - v138) fun v140 =>
  bo (gR M p0 13 12) fun v142 =>
  bo (aI M v142 15 p3) fun v146 =>
  if v146 = 0 then (
    fX13_sayCounts_L155 k30 p0 p1 v140 p3 1 M
  ) else (
    fX13_sayCounts_L155 k30 p0 p1 v140 p3 0 M
  )
def fX13_sayCounts_B30 (k30 : Option Nat × Int32 × Int32 × Int32 → Mem → Option (Unit × Mem)) (p0 : Option Nat) (p1 : Int32) (p2 : Int32) (p3 : Int32) (M : Mem) : Option (Unit × Mem) :=
  if p2 ≤ 0 then (
    bo (gI M p0 13 74) fun v228 =>
    if v228 ≤ 0 then (
      fX13_sayCounts_L246 M
    ) else (
      bo (gI M p0 13 74) fun v239 =>
      bo (chk M p0 13) fun _ => bd (fX13_bit p0 0 (8 - v239) M) fun v243 M243 =>
      fX13_sayCounts_L246 M243
    )
  ) else (
    bd (fX13_log (p2 + 1) M) fun v37 M37 =>
    bn (v37 + 1) fun v42 =>
    bn (((shlI 1 v42) - 2) - p2) fun v52 =>
    bn (shlI 1 (v42 - 1)) fun v60 =>
    bo (gR M37 p0 13 12) fun v63 =>
    bo (aI M37 v63 15 p3) fun v67 =>
    bn (v67 + 1) fun v70 =>
    if v52 ≤ v70 then (
      if v60 ≤ v70 then (
        bo (chk M37 p0 13) fun _ => bd (fX13_bit p0 ((v70 - v60) + v52) (v42 - 1) M37) fun v123 M123 =>
        bo (chk M123 p0 13) fun _ => bd (fX13_bit p0 1 1 M123) fun v129 M129 =>
        fX13_sayCounts_L132 k30 p0 p1 p2 p3 M129
      ) else (
        bo (chk M37 p0 13) fun _ => bd (fX13_bit p0 v70 v42 M37) fun v104 M104 =>
        fX13_sayCounts_L132 k30 p0 p1 p2 p3 M104
      )
    ) else (
      bo (chk M37 p0 13) fun _ => bd (fX13_bit p0 v70 (v42 - 1) M37) fun v86 M86 =>
      fX13_sayCounts_L132 k30 p0 p1 p2 p3 M86
    )
  )
def fX13_sayCounts_L30 (p0 : Option Nat) (p1 : Int32) (p2 : Int32) (p3 : Int32) (M : Mem) : Option (Unit × Mem) :=
  lp (fun k30 (a : Option Nat × Int32 × Int32 × Int32) M => fX13_sayCounts_B30 k30 a.1 a.2.1 a.2.2.1 a.2.2.2 M) FU ((p0, p1, p2, p3)) M
def fX13_sayCounts (a0 : Option Nat) (a1 : Int32) (M : Mem) : Option (Unit × Mem) :=
  bo (pI M a0 13 73 0) fun M2 =>
  bo (pI M2 a0 13 74 0) fun M7 =>
  bo (gI M7 a0 13 13) fun v12 =>
  bo (chk M7 a0 13) fun _ => bd (fX13_bit a0 (v12 - 5) 4 M7) fun v18 M18 =>
  bo (gI M18 a0 13 13) fun v23 =>
  bn (shlI 1 v23) fun v27 =>
  bn (0) fun v29 =>
  fX13_sayCounts_L30 a0 a1 v27 v29 M18
def rmX13_sayCounts : Room := { frames := 2, cells := 0, slots := 0, locals := 47 }
set_option maxRecDepth 100000 in
set_option maxHeartbeats 4000000 in
theorem ctX13_sayCounts (l : Launch) (x : Cx) (a0 : Option Nat) (a1 : Int32) (M : Mem) (v : Unit) (N : Mem) (h : fX13_sayCounts a0 a1 M = some (v, N)) : CT l yX13_sayCounts cX13_sayCounts 10 (none) rmX13_sayCounts x [rv x a0, .int a1] M none N := by
  refine ct_mk (enc := fun _ : Unit => none) (li := [(1, a1)]) (ll := []) (lr := [(0, a0)]) (by decide +kernel) (by simp [lg_sl, rv_cat, cat_int, cat_long]) (by simp [flat, lv_args, rv_cat, cat_int, cat_long]) h ?_
  intro p e s m args below meth c E
  have hL246 : ∀ (M : Mem), RT p l e rmX13_sayCounts s m args below meth c x 10 (QM below args s x (fun _ : Unit => none) rmX13_sayCounts.cells rmX13_sayCounts.slots) 0 0 (fX13_sayCounts_L246 M) 246 [] [] [] [] M := by
    intro M
    unfold fX13_sayCounts_L246
    exact e_void (pc := 246) E dX13_sayCounts_246
  have hL224 : ∀ (k30 : Option Nat × Int32 × Int32 × Int32 → Mem → Option (Unit × Mem)) (hk30 : ∀ a M, RT p l e rmX13_sayCounts s m args below meth c x 10 (QM below args s x (fun _ : Unit => none) rmX13_sayCounts.cells rmX13_sayCounts.slots) 0 0 (k30 a M) 30 [(1, a.2.1), (2, a.2.2.1), (3, a.2.2.2)] [] [(0, a.1)] [] M) (p0 : Option Nat) (p1 : Int32) (p2 : Int32) (p3 : Int32) (M : Mem), RT p l e rmX13_sayCounts s m args below meth c x 10 (QM below args s x (fun _ : Unit => none) rmX13_sayCounts.cells rmX13_sayCounts.slots) 0 0 (fX13_sayCounts_L224 k30 p0 p1 p2 p3 M) 224 [(1, p1), (2, p2), (3, p3)] [] [(0, p0)] [] M := by
    intro k30 hk30 p0 p1 p2 p3 M
    unfold fX13_sayCounts_L224
    refine r_goto (pc := 224) (tgt := 30) E dX13_sayCounts_224 (by decide) ?_
    exact r_sub [0, 1, 2] [] [0] rfl rfl rfl (hk30 ((p0, p1, p2, p3)) _)
  have hL199 : ∀ (k30 : Option Nat × Int32 × Int32 × Int32 → Mem → Option (Unit × Mem)) (hk30 : ∀ a M, RT p l e rmX13_sayCounts s m args below meth c x 10 (QM below args s x (fun _ : Unit => none) rmX13_sayCounts.cells rmX13_sayCounts.slots) 0 0 (k30 a M) 30 [(1, a.2.1), (2, a.2.2.1), (3, a.2.2.2)] [] [(0, a.1)] [] M) (p0 : Option Nat) (p1 : Int32) (p2 : Int32) (p3 : Int32) (p9 : Int32) (M : Mem), RT p l e rmX13_sayCounts s m args below meth c x 10 (QM below args s x (fun _ : Unit => none) rmX13_sayCounts.cells rmX13_sayCounts.slots) 0 0 (fX13_sayCounts_L199 k30 p0 p1 p2 p3 p9 M) 199 [(1, p1), (2, p2), (3, p3), (9, p9)] [] [(0, p0)] [] M := by
    intro k30 hk30 p0 p1 p2 p3 p9 M
    refine r_lp (fi := fun a : Option Nat × Int32 × Int32 × Int32 × Int32 => [(1, a.2.1), (2, a.2.2.1), (3, a.2.2.2.1), (9, a.2.2.2.2)]) (fl := fun a : Option Nat × Int32 × Int32 × Int32 × Int32 => []) (fr := fun a : Option Nat × Int32 × Int32 × Int32 × Int32 => [(0, a.1)]) (fs := fun a : Option Nat × Int32 × Int32 × Int32 × Int32 => []) ?_ FU ((p0, p1, p2, p3, p9)) M
    intro k199 hk199 a M
    obtain ⟨p0, p1, p2, p3, p9⟩ := a
    show RT p l e rmX13_sayCounts s m args below meth c x 10 (QM below args s x (fun _ : Unit => none) rmX13_sayCounts.cells rmX13_sayCounts.slots) 0 0 (fX13_sayCounts_B199 k30 k199 p0 p1 p2 p3 p9 M) 199 [(1, p1), (2, p2), (3, p3), (9, p9)] [] [(0, p0)] [] M
    unfold fX13_sayCounts_B199
    refine r_iload (pc := 199) E dX13_sayCounts_199 3 rfl ?_
    refine r_iconst (pc := 201) (v := 3) E dX13_sayCounts_201 (by decide) ?_
    refine r_icmp_lt (pc := 202) (tgt := 217) E dX13_sayCounts_202 (by decide) ?_ ?_
    · refine r_aload_n (pc := 217) E dX13_sayCounts_217 rfl 0 rfl ?_
      refine r_iload (pc := 218) E dX13_sayCounts_218 3 rfl ?_
      refine r_iconst (pc := 220) (v := 2) E dX13_sayCounts_220 (by decide) ?_
      refine r_kVv (pc := 221) (As := [.int p9, .int 2]) (rest := []) E wc_X13_bit wi_RX13 hd_X13_bit (ci := 13) rfl wl_RX13_509 wn_X13_bit ws_X13_bit dX13_sayCounts_221 (by decide) (Nat.le_of_ble_eq_true rfl) ⟨rfl, rfl⟩ (ctX13_bit l x _ _ _ _) rfl (fun v221 M221 => ?_)
      exact r_sub [0, 1, 2] [] [0] rfl rfl rfl (hL224 k30 hk30 p0 p1 p2 p3 _)
    · refine r_aload_n (pc := 205) E dX13_sayCounts_205 rfl 0 rfl ?_
      refine r_iconst (pc := 206) (v := 3) E dX13_sayCounts_206 (by decide) ?_
      refine r_iconst (pc := 207) (v := 2) E dX13_sayCounts_207 (by decide) ?_
      refine r_kVv (pc := 208) (As := [.int 3, .int 2]) (rest := []) E wc_X13_bit wi_RX13 hd_X13_bit (ci := 13) rfl wl_RX13_509 wn_X13_bit ws_X13_bit dX13_sayCounts_208 (by decide) (Nat.le_of_ble_eq_true rfl) ⟨rfl, rfl⟩ (ctX13_bit l x _ _ _ _) rfl (fun v208 M208 => ?_)
      refine r_iinc (pc := 211) (w := (-3)) (lf := fun v211 => [(9, v211), (1, p1), (2, p2), (3, p3)]) (ll' := []) (lr' := [(0, p0)]) E dX13_sayCounts_211 3 rfl (by decide) (by decide) (fun _ => rfl) rfl rfl (fun v211 => ?_)
      refine r_goto (pc := 214) (tgt := 199) E dX13_sayCounts_214 (by decide) ?_
      exact r_sub [1, 2, 3, 0] [] [0] rfl rfl rfl (hk199 ((p0, p1, p2, p3, v211)) _)
  have hL194 : ∀ (k30 : Option Nat × Int32 × Int32 × Int32 → Mem → Option (Unit × Mem)) (hk30 : ∀ a M, RT p l e rmX13_sayCounts s m args below meth c x 10 (QM below args s x (fun _ : Unit => none) rmX13_sayCounts.cells rmX13_sayCounts.slots) 0 0 (k30 a M) 30 [(1, a.2.1), (2, a.2.2.1), (3, a.2.2.2)] [] [(0, a.1)] [] M) (p0 : Option Nat) (p1 : Int32) (p2 : Int32) (p3 : Int32) (p9 : Int32) (M : Mem), RT p l e rmX13_sayCounts s m args below meth c x 10 (QM below args s x (fun _ : Unit => none) rmX13_sayCounts.cells rmX13_sayCounts.slots) 0 0 (fX13_sayCounts_L194 k30 p0 p1 p2 p3 p9 M) 194 [(1, p1), (2, p2), (3, p3), (9, p9)] [] [(0, p0)] [] M := by
    intro k30 hk30 p0 p1 p2 p3 p9 M
    unfold fX13_sayCounts_L194
    refine r_iload_n (pc := 194) E dX13_sayCounts_194 rfl 2 rfl ?_
    refine r_iload (pc := 195) E dX13_sayCounts_195 3 rfl ?_
    refine r_iadd (pc := 197) E dX13_sayCounts_197 ?_
    refine r_istore_n (pc := 198) (lf := fun v198 => [(3, v198), (1, p1), (2, p2), (9, p9)]) (lg := fun v198 => []) (lk := fun v198 => [(0, p0)]) E dX13_sayCounts_198 rfl (by decide) (fun _ => rfl) (fun _ => rfl) (fun _ => rfl) (fun v198 => ?_)
    exact r_sub [1, 2, 0, 3] [] [0] rfl rfl rfl (hL199 k30 hk30 p0 p1 p2 v198 p9 _)
  have hL168 : ∀ (k30 : Option Nat × Int32 × Int32 × Int32 → Mem → Option (Unit × Mem)) (hk30 : ∀ a M, RT p l e rmX13_sayCounts s m args below meth c x 10 (QM below args s x (fun _ : Unit => none) rmX13_sayCounts.cells rmX13_sayCounts.slots) 0 0 (k30 a M) 30 [(1, a.2.1), (2, a.2.2.1), (3, a.2.2.2)] [] [(0, a.1)] [] M) (p0 : Option Nat) (p1 : Int32) (p2 : Int32) (p3 : Int32) (p9 : Int32) (M : Mem), RT p l e rmX13_sayCounts s m args below meth c x 10 (QM below args s x (fun _ : Unit => none) rmX13_sayCounts.cells rmX13_sayCounts.slots) 0 0 (fX13_sayCounts_L168 k30 p0 p1 p2 p3 p9 M) 168 [(1, p1), (2, p2), (3, p3), (9, p9)] [] [(0, p0)] [] M := by
    intro k30 hk30 p0 p1 p2 p3 p9 M
    refine r_lp (fi := fun a : Option Nat × Int32 × Int32 × Int32 × Int32 => [(1, a.2.1), (2, a.2.2.1), (3, a.2.2.2.1), (9, a.2.2.2.2)]) (fl := fun a : Option Nat × Int32 × Int32 × Int32 × Int32 => []) (fr := fun a : Option Nat × Int32 × Int32 × Int32 × Int32 => [(0, a.1)]) (fs := fun a : Option Nat × Int32 × Int32 × Int32 × Int32 => []) ?_ FU ((p0, p1, p2, p3, p9)) M
    intro k168 hk168 a M
    obtain ⟨p0, p1, p2, p3, p9⟩ := a
    show RT p l e rmX13_sayCounts s m args below meth c x 10 (QM below args s x (fun _ : Unit => none) rmX13_sayCounts.cells rmX13_sayCounts.slots) 0 0 (fX13_sayCounts_B168 k30 k168 p0 p1 p2 p3 p9 M) 168 [(1, p1), (2, p2), (3, p3), (9, p9)] [] [(0, p0)] [] M
    unfold fX13_sayCounts_B168
    refine r_iload_n (pc := 168) E dX13_sayCounts_168 rfl 2 rfl ?_
    refine r_iload (pc := 169) E dX13_sayCounts_169 3 rfl ?_
    refine r_iadd (pc := 171) E dX13_sayCounts_171 ?_
    refine r_iload_n (pc := 172) E dX13_sayCounts_172 rfl 0 rfl ?_
    refine r_icmp_gt (pc := 173) (tgt := 194) E dX13_sayCounts_173 (by decide) ?_ ?_
    · exact r_sub [0, 1, 2, 3] [] [0] rfl rfl rfl (hL194 k30 hk30 p0 p1 p2 p3 p9 _)
    · refine r_aload_n (pc := 176) E dX13_sayCounts_176 rfl 0 rfl ?_
      refine r_getA (pc := 177) E fd_13_12 wf_RX13_23 dX13_sayCounts_177 (fun v177 => ?_)
      refine r_iload_n (pc := 180) E dX13_sayCounts_180 rfl 2 rfl ?_
      refine r_iload (pc := 181) E dX13_sayCounts_181 3 rfl ?_
      refine r_iadd (pc := 183) E dX13_sayCounts_183 ?_
      refine r_iaload (pc := 184) E dX13_sayCounts_184 (fun v184 => ?_)
      refine r_if_ne (pc := 185) (tgt := 194) E dX13_sayCounts_185 (by decide) ?_ ?_
      · exact r_sub [0, 1, 2, 3] [] [0] rfl rfl rfl (hL194 k30 hk30 p0 p1 p2 p3 p9 _)
      · refine r_iinc (pc := 188) (w := 1) (lf := fun v188 => [(9, v188), (1, p1), (2, p2), (3, p3)]) (ll' := []) (lr' := [(0, p0)]) E dX13_sayCounts_188 3 rfl (by decide) (by decide) (fun _ => rfl) rfl rfl (fun v188 => ?_)
        refine r_goto (pc := 191) (tgt := 168) E dX13_sayCounts_191 (by decide) ?_
        exact r_sub [1, 2, 3, 0] [] [0] rfl rfl rfl (hk168 ((p0, p1, p2, p3, v188)) _)
  have hL155 : ∀ (k30 : Option Nat × Int32 × Int32 × Int32 → Mem → Option (Unit × Mem)) (hk30 : ∀ a M, RT p l e rmX13_sayCounts s m args below meth c x 10 (QM below args s x (fun _ : Unit => none) rmX13_sayCounts.cells rmX13_sayCounts.slots) 0 0 (k30 a M) 30 [(1, a.2.1), (2, a.2.2.1), (3, a.2.2.2)] [] [(0, a.1)] [] M) (p0 : Option Nat) (p1 : Int32) (p2 : Int32) (p3 : Int32) (q0 : Int32) (M : Mem), RT p l e rmX13_sayCounts s m args below meth c x 10 (QM below args s x (fun _ : Unit => none) rmX13_sayCounts.cells rmX13_sayCounts.slots) 0 0 (fX13_sayCounts_L155 k30 p0 p1 p2 p3 q0 M) 155 [(1, p1), (2, p2), (3, p3)] [] [(0, p0)] [.int q0] M := by
    intro k30 hk30 p0 p1 p2 p3 q0 M
    unfold fX13_sayCounts_L155
    refine r_istore (pc := 155) (lf := fun v155 => [(8, v155), (1, p1), (2, p2), (3, p3)]) (lg := fun v155 => []) (lk := fun v155 => [(0, p0)]) E dX13_sayCounts_155 (by decide) (fun _ => rfl) (fun _ => rfl) (fun _ => rfl) (fun v155 => ?_)
    refine r_iinc (pc := 157) (w := 1) (lf := fun v157 => [(3, v157), (8, v155), (1, p1), (2, p2)]) (ll' := []) (lr' := [(0, p0)]) E dX13_sayCounts_157 3 rfl (by decide) (by decide) (fun _ => rfl) rfl rfl (fun v157 => ?_)
    refine r_iload (pc := 160) E dX13_sayCounts_160 1 rfl ?_
    refine r_if_eq (pc := 162) (tgt := 224) E dX13_sayCounts_162 (by decide) ?_ ?_
    · exact r_sub [2, 3, 0] [] [0] rfl rfl rfl (hL224 k30 hk30 p0 p1 p2 v157 _)
    · refine r_iconst (pc := 165) (v := 0) E dX13_sayCounts_165 (by decide) ?_
      refine r_istore (pc := 166) (lf := fun v166 => [(9, v166), (3, v157), (8, v155), (1, p1), (2, p2)]) (lg := fun v166 => []) (lk := fun v166 => [(0, p0)]) E dX13_sayCounts_166 (by decide) (fun _ => rfl) (fun _ => rfl) (fun _ => rfl) (fun v166 => ?_)
      exact r_sub [3, 4, 1, 0] [] [0] rfl rfl rfl (hL168 k30 hk30 p0 p1 p2 v157 v166 _)
  have hL132 : ∀ (k30 : Option Nat × Int32 × Int32 × Int32 → Mem → Option (Unit × Mem)) (hk30 : ∀ a M, RT p l e rmX13_sayCounts s m args below meth c x 10 (QM below args s x (fun _ : Unit => none) rmX13_sayCounts.cells rmX13_sayCounts.slots) 0 0 (k30 a M) 30 [(1, a.2.1), (2, a.2.2.1), (3, a.2.2.2)] [] [(0, a.1)] [] M) (p0 : Option Nat) (p1 : Int32) (p2 : Int32) (p3 : Int32) (M : Mem), RT p l e rmX13_sayCounts s m args below meth c x 10 (QM below args s x (fun _ : Unit => none) rmX13_sayCounts.cells rmX13_sayCounts.slots) 0 0 (fX13_sayCounts_L132 k30 p0 p1 p2 p3 M) 132 [(1, p1), (2, p2), (3, p3)] [] [(0, p0)] [] M := by
    intro k30 hk30 p0 p1 p2 p3 M
    unfold fX13_sayCounts_L132
    refine r_iload_n (pc := 132) E dX13_sayCounts_132 rfl 1 rfl ?_
    refine r_aload_n (pc := 133) E dX13_sayCounts_133 rfl 0 rfl ?_
    refine r_getA (pc := 134) E fd_13_12 wf_RX13_23 dX13_sayCounts_134 (fun v134 => ?_)
    refine r_iload_n (pc := 137) E dX13_sayCounts_137 rfl 2 rfl ?_
    refine r_iaload (pc := 138) E dX13_sayCounts_138 (fun v138 => ?_)
    refine r_isub (pc := 139) E dX13_sayCounts_139 ?_
    refine r_istore_n (pc := 140) (lf := fun v140 => [(2, v140), (1, p1), (3, p3)]) (lg := fun v140 => []) (lk := fun v140 => [(0, p0)]) E dX13_sayCounts_140 rfl (by decide) (fun _ => rfl) (fun _ => rfl) (fun _ => rfl) (fun v140 => ?_)
    refine r_aload_n (pc := 141) E dX13_sayCounts_141 rfl 0 rfl ?_
    refine r_getA (pc := 142) E fd_13_12 wf_RX13_23 dX13_sayCounts_142 (fun v142 => ?_)
    refine r_iload_n (pc := 145) E dX13_sayCounts_145 rfl 2 rfl ?_
    refine r_iaload (pc := 146) E dX13_sayCounts_146 (fun v146 => ?_)
    refine r_if_ne (pc := 147) (tgt := 154) E dX13_sayCounts_147 (by decide) ?_ ?_
    · refine r_iconst (pc := 154) (v := 0) E dX13_sayCounts_154 (by decide) ?_
      exact r_sub [1, 0, 2] [] [0] rfl rfl rfl (hL155 k30 hk30 p0 p1 v140 p3 0 _)
    · refine r_iconst (pc := 150) (v := 1) E dX13_sayCounts_150 (by decide) ?_
      refine r_goto (pc := 151) (tgt := 155) E dX13_sayCounts_151 (by decide) ?_
      exact r_sub [1, 0, 2] [] [0] rfl rfl rfl (hL155 k30 hk30 p0 p1 v140 p3 1 _)
  have hL30 : ∀ (p0 : Option Nat) (p1 : Int32) (p2 : Int32) (p3 : Int32) (M : Mem), RT p l e rmX13_sayCounts s m args below meth c x 10 (QM below args s x (fun _ : Unit => none) rmX13_sayCounts.cells rmX13_sayCounts.slots) 0 0 (fX13_sayCounts_L30 p0 p1 p2 p3 M) 30 [(1, p1), (2, p2), (3, p3)] [] [(0, p0)] [] M := by
    intro p0 p1 p2 p3 M
    refine r_lp (fi := fun a : Option Nat × Int32 × Int32 × Int32 => [(1, a.2.1), (2, a.2.2.1), (3, a.2.2.2)]) (fl := fun a : Option Nat × Int32 × Int32 × Int32 => []) (fr := fun a : Option Nat × Int32 × Int32 × Int32 => [(0, a.1)]) (fs := fun a : Option Nat × Int32 × Int32 × Int32 => []) ?_ FU ((p0, p1, p2, p3)) M
    intro k30 hk30 a M
    obtain ⟨p0, p1, p2, p3⟩ := a
    show RT p l e rmX13_sayCounts s m args below meth c x 10 (QM below args s x (fun _ : Unit => none) rmX13_sayCounts.cells rmX13_sayCounts.slots) 0 0 (fX13_sayCounts_B30 k30 p0 p1 p2 p3 M) 30 [(1, p1), (2, p2), (3, p3)] [] [(0, p0)] [] M
    unfold fX13_sayCounts_B30
    refine r_iload_n (pc := 30) E dX13_sayCounts_30 rfl 1 rfl ?_
    refine r_if_le (pc := 31) (tgt := 227) E dX13_sayCounts_31 (by decide) ?_ ?_
    · refine r_aload_n (pc := 227) E dX13_sayCounts_227 rfl 0 rfl ?_
      refine r_getI (pc := 228) E fd_13_74 wf_RX13_506 dX13_sayCounts_228 (fun v228 => ?_)
      refine r_if_le (pc := 231) (tgt := 246) E dX13_sayCounts_231 (by decide) ?_ ?_
      · exact r_sub [] [] [] rfl rfl rfl (hL246 _)
      · refine r_aload_n (pc := 234) E dX13_sayCounts_234 rfl 0 rfl ?_
        refine r_iconst (pc := 235) (v := 0) E dX13_sayCounts_235 (by decide) ?_
        refine r_bipush (pc := 236) (v := 8) E dX13_sayCounts_236 (by decide) ?_
        refine r_aload_n (pc := 238) E dX13_sayCounts_238 rfl 0 rfl ?_
        refine r_getI (pc := 239) E fd_13_74 wf_RX13_506 dX13_sayCounts_239 (fun v239 => ?_)
        refine r_isub (pc := 242) E dX13_sayCounts_242 ?_
        refine r_kVv (pc := 243) (As := [.int 0, .int (8 - v239)]) (rest := []) E wc_X13_bit wi_RX13 hd_X13_bit (ci := 13) rfl wl_RX13_509 wn_X13_bit ws_X13_bit dX13_sayCounts_243 (by decide) (Nat.le_of_ble_eq_true rfl) ⟨rfl, rfl⟩ (ctX13_bit l x _ _ _ _) rfl (fun v243 M243 => ?_)
        exact r_sub [] [] [] rfl rfl rfl (hL246 _)
    · refine r_iload_n (pc := 34) E dX13_sayCounts_34 rfl 1 rfl ?_
      refine r_iconst (pc := 35) (v := 1) E dX13_sayCounts_35 (by decide) ?_
      refine r_iadd (pc := 36) E dX13_sayCounts_36 ?_
      refine r_kSi (pc := 37) (As := [.int (p2 + 1)]) (rest := []) E wc_X13_log wi_RX13 hd_X13_log wl_RX13_206 wt_X13_log dX13_sayCounts_37 (by decide) (Nat.le_of_ble_eq_true rfl) ⟨rfl, rfl⟩ (ctX13_log l x _ _) rfl (fun v37 M37 => ?_)
      refine r_iconst (pc := 40) (v := 1) E dX13_sayCounts_40 (by decide) ?_
      refine r_iadd (pc := 41) E dX13_sayCounts_41 ?_
      refine r_istore (pc := 42) (lf := fun v42 => [(4, v42), (1, p1), (2, p2), (3, p3)]) (lg := fun v42 => []) (lk := fun v42 => [(0, p0)]) E dX13_sayCounts_42 (by decide) (fun _ => rfl) (fun _ => rfl) (fun _ => rfl) (fun v42 => ?_)
      refine r_iconst (pc := 44) (v := 1) E dX13_sayCounts_44 (by decide) ?_
      refine r_iload (pc := 45) E dX13_sayCounts_45 0 rfl ?_
      refine r_ishl (pc := 47) E dX13_sayCounts_47 ?_
      refine r_iconst (pc := 48) (v := 2) E dX13_sayCounts_48 (by decide) ?_
      refine r_isub (pc := 49) E dX13_sayCounts_49 ?_
      refine r_iload_n (pc := 50) E dX13_sayCounts_50 rfl 2 rfl ?_
      refine r_isub (pc := 51) E dX13_sayCounts_51 ?_
      refine r_istore (pc := 52) (lf := fun v52 => [(5, v52), (4, v42), (1, p1), (2, p2), (3, p3)]) (lg := fun v52 => []) (lk := fun v52 => [(0, p0)]) E dX13_sayCounts_52 (by decide) (fun _ => rfl) (fun _ => rfl) (fun _ => rfl) (fun v52 => ?_)
      refine r_iconst (pc := 54) (v := 1) E dX13_sayCounts_54 (by decide) ?_
      refine r_iload (pc := 55) E dX13_sayCounts_55 1 rfl ?_
      refine r_iconst (pc := 57) (v := 1) E dX13_sayCounts_57 (by decide) ?_
      refine r_isub (pc := 58) E dX13_sayCounts_58 ?_
      refine r_ishl (pc := 59) E dX13_sayCounts_59 ?_
      refine r_istore (pc := 60) (lf := fun v60 => [(6, v60), (5, v52), (4, v42), (1, p1), (2, p2), (3, p3)]) (lg := fun v60 => []) (lk := fun v60 => [(0, p0)]) E dX13_sayCounts_60 (by decide) (fun _ => rfl) (fun _ => rfl) (fun _ => rfl) (fun v60 => ?_)
      refine r_aload_n (pc := 62) E dX13_sayCounts_62 rfl 0 rfl ?_
      refine r_getA (pc := 63) E fd_13_12 wf_RX13_23 dX13_sayCounts_63 (fun v63 => ?_)
      refine r_iload_n (pc := 66) E dX13_sayCounts_66 rfl 5 rfl ?_
      refine r_iaload (pc := 67) E dX13_sayCounts_67 (fun v67 => ?_)
      refine r_iconst (pc := 68) (v := 1) E dX13_sayCounts_68 (by decide) ?_
      refine r_iadd (pc := 69) E dX13_sayCounts_69 ?_
      refine r_istore (pc := 70) (lf := fun v70 => [(7, v70), (6, v60), (5, v52), (4, v42), (1, p1), (2, p2), (3, p3)]) (lg := fun v70 => []) (lk := fun v70 => [(0, p0)]) E dX13_sayCounts_70 (by decide) (fun _ => rfl) (fun _ => rfl) (fun _ => rfl) (fun v70 => ?_)
      refine r_iload (pc := 72) E dX13_sayCounts_72 0 rfl ?_
      refine r_iload (pc := 74) E dX13_sayCounts_74 2 rfl ?_
      refine r_icmp_ge (pc := 76) (tgt := 92) E dX13_sayCounts_76 (by decide) ?_ ?_
      · refine r_iload (pc := 92) E dX13_sayCounts_92 0 rfl ?_
        refine r_iload (pc := 94) E dX13_sayCounts_94 1 rfl ?_
        refine r_icmp_ge (pc := 96) (tgt := 110) E dX13_sayCounts_96 (by decide) ?_ ?_
        · refine r_aload_n (pc := 110) E dX13_sayCounts_110 rfl 0 rfl ?_
          refine r_iload (pc := 111) E dX13_sayCounts_111 0 rfl ?_
          refine r_iload (pc := 113) E dX13_sayCounts_113 1 rfl ?_
          refine r_isub (pc := 115) E dX13_sayCounts_115 ?_
          refine r_iload (pc := 116) E dX13_sayCounts_116 2 rfl ?_
          refine r_iadd (pc := 118) E dX13_sayCounts_118 ?_
          refine r_iload (pc := 119) E dX13_sayCounts_119 3 rfl ?_
          refine r_iconst (pc := 121) (v := 1) E dX13_sayCounts_121 (by decide) ?_
          refine r_isub (pc := 122) E dX13_sayCounts_122 ?_
          refine r_kVv (pc := 123) (As := [.int ((v70 - v60) + v52), .int (v42 - 1)]) (rest := []) E wc_X13_bit wi_RX13 hd_X13_bit (ci := 13) rfl wl_RX13_509 wn_X13_bit ws_X13_bit dX13_sayCounts_123 (by decide) (Nat.le_of_ble_eq_true rfl) ⟨rfl, rfl⟩ (ctX13_bit l x _ _ _ _) rfl (fun v123 M123 => ?_)
          refine r_aload_n (pc := 126) E dX13_sayCounts_126 rfl 0 rfl ?_
          refine r_iconst (pc := 127) (v := 1) E dX13_sayCounts_127 (by decide) ?_
          refine r_iconst (pc := 128) (v := 1) E dX13_sayCounts_128 (by decide) ?_
          refine r_kVv (pc := 129) (As := [.int 1, .int 1]) (rest := []) E wc_X13_bit wi_RX13 hd_X13_bit (ci := 13) rfl wl_RX13_509 wn_X13_bit ws_X13_bit dX13_sayCounts_129 (by decide) (Nat.le_of_ble_eq_true rfl) ⟨rfl, rfl⟩ (ctX13_bit l x _ _ _ _) rfl (fun v129 M129 => ?_)
          exact r_sub [4, 5, 6] [] [0] rfl rfl rfl (hL132 k30 hk30 p0 p1 p2 p3 _)
        · refine r_aload_n (pc := 99) E dX13_sayCounts_99 rfl 0 rfl ?_
          refine r_iload (pc := 100) E dX13_sayCounts_100 0 rfl ?_
          refine r_iload (pc := 102) E dX13_sayCounts_102 3 rfl ?_
          refine r_kVv (pc := 104) (As := [.int v70, .int v42]) (rest := []) E wc_X13_bit wi_RX13 hd_X13_bit (ci := 13) rfl wl_RX13_509 wn_X13_bit ws_X13_bit dX13_sayCounts_104 (by decide) (Nat.le_of_ble_eq_true rfl) ⟨rfl, rfl⟩ (ctX13_bit l x _ _ _ _) rfl (fun v104 M104 => ?_)
          refine r_goto (pc := 107) (tgt := 132) E dX13_sayCounts_107 (by decide) ?_
          exact r_sub [4, 5, 6] [] [0] rfl rfl rfl (hL132 k30 hk30 p0 p1 p2 p3 _)
      · refine r_aload_n (pc := 79) E dX13_sayCounts_79 rfl 0 rfl ?_
        refine r_iload (pc := 80) E dX13_sayCounts_80 0 rfl ?_
        refine r_iload (pc := 82) E dX13_sayCounts_82 3 rfl ?_
        refine r_iconst (pc := 84) (v := 1) E dX13_sayCounts_84 (by decide) ?_
        refine r_isub (pc := 85) E dX13_sayCounts_85 ?_
        refine r_kVv (pc := 86) (As := [.int v70, .int (v42 - 1)]) (rest := []) E wc_X13_bit wi_RX13 hd_X13_bit (ci := 13) rfl wl_RX13_509 wn_X13_bit ws_X13_bit dX13_sayCounts_86 (by decide) (Nat.le_of_ble_eq_true rfl) ⟨rfl, rfl⟩ (ctX13_bit l x _ _ _ _) rfl (fun v86 M86 => ?_)
        refine r_goto (pc := 89) (tgt := 132) E dX13_sayCounts_89 (by decide) ?_
        exact r_sub [4, 5, 6] [] [0] rfl rfl rfl (hL132 k30 hk30 p0 p1 p2 p3 _)
  show RT p l e rmX13_sayCounts s m args below meth c x 10 (QM below args s x (fun _ : Unit => none) rmX13_sayCounts.cells rmX13_sayCounts.slots) 0 0 (fX13_sayCounts a0 a1 M) 0 [(1, a1)] [] [(0, a0)] [] M
  unfold fX13_sayCounts
  refine r_aload_n (pc := 0) E dX13_sayCounts_0 rfl 0 rfl ?_
  refine r_iconst (pc := 1) (v := 0) E dX13_sayCounts_1 (by decide) ?_
  refine r_putI (pc := 2) E fd_13_73 wf_RX13_503 dX13_sayCounts_2 (Or.inl rfl) (fun M2 => ?_)
  refine r_aload_n (pc := 5) E dX13_sayCounts_5 rfl 0 rfl ?_
  refine r_iconst (pc := 6) (v := 0) E dX13_sayCounts_6 (by decide) ?_
  refine r_putI (pc := 7) E fd_13_74 wf_RX13_506 dX13_sayCounts_7 (Or.inl rfl) (fun M7 => ?_)
  refine r_aload_n (pc := 10) E dX13_sayCounts_10 rfl 0 rfl ?_
  refine r_aload_n (pc := 11) E dX13_sayCounts_11 rfl 0 rfl ?_
  refine r_getI (pc := 12) E fd_13_13 wf_RX13_210 dX13_sayCounts_12 (fun v12 => ?_)
  refine r_iconst (pc := 15) (v := 5) E dX13_sayCounts_15 (by decide) ?_
  refine r_isub (pc := 16) E dX13_sayCounts_16 ?_
  refine r_iconst (pc := 17) (v := 4) E dX13_sayCounts_17 (by decide) ?_
  refine r_kVv (pc := 18) (As := [.int (v12 - 5), .int 4]) (rest := []) E wc_X13_bit wi_RX13 hd_X13_bit (ci := 13) rfl wl_RX13_509 wn_X13_bit ws_X13_bit dX13_sayCounts_18 (by decide) (Nat.le_of_ble_eq_true rfl) ⟨rfl, rfl⟩ (ctX13_bit l x _ _ _ _) rfl (fun v18 M18 => ?_)
  refine r_iconst (pc := 21) (v := 1) E dX13_sayCounts_21 (by decide) ?_
  refine r_aload_n (pc := 22) E dX13_sayCounts_22 rfl 0 rfl ?_
  refine r_getI (pc := 23) E fd_13_13 wf_RX13_210 dX13_sayCounts_23 (fun v23 => ?_)
  refine r_ishl (pc := 26) E dX13_sayCounts_26 ?_
  refine r_istore_n (pc := 27) (lf := fun v27 => [(2, v27), (1, a1)]) (lg := fun v27 => []) (lk := fun v27 => [(0, a0)]) E dX13_sayCounts_27 rfl (by decide) (fun _ => rfl) (fun _ => rfl) (fun _ => rfl) (fun v27 => ?_)
  refine r_iconst (pc := 28) (v := 0) E dX13_sayCounts_28 (by decide) ?_
  refine r_istore_n (pc := 29) (lf := fun v29 => [(3, v29), (2, v27), (1, a1)]) (lg := fun v29 => []) (lk := fun v29 => [(0, a0)]) E dX13_sayCounts_29 rfl (by decide) (fun _ => rfl) (fun _ => rfl) (fun _ => rfl) (fun v29 => ?_)
  exact r_sub [2, 1, 0] [] [0] rfl rfl rfl (hL30 a0 a1 v27 v29 _)
def fX13_sayTable_L14 (p0 : Option Nat) (p2 : Int32) (M : Mem) : Option (Int32 × Mem) :=
  bo (chk M p0 13) fun _ => bd (fX13_defaults p0 p2 (7 + p2) M) fun v20 M20 =>
  some (0, M20)
def fX13_sayTable_L343 (k260 : Option Nat × Int32 × Int32 × Int32 → Mem → Option (Int32 × Mem)) (p0 : Option Nat) (p2 : Int32) (p3 : Int32) (q0 : Int32) (M : Mem) : Option (Int32 × Mem) :=
  bn (q0) fun v343 =>
  k260 ((p0, p2, p3, v343)) M
def fX13_sayTable_L328 (k260 : Option Nat × Int32 × Int32 × Int32 → Mem → Option (Int32 × Mem)) (p0 : Option Nat) (p2 : Int32) (p3 : Int32) (p4 : Int32) (q0 : Option Nat) (q1 : Int32) (q2 : Int32) (q3 : Int32) (M : Mem) : Option (Int32 × Mem) :=
  bo (wI M q0 q1 (q2 + q3)) fun M329 =>
  if p4 ≤ 0 then (
    fX13_sayTable_L343 k260 p0 p2 p3 (p4 + 1) M329
  ) else (
    fX13_sayTable_L343 k260 p0 p2 p3 0 M329
  )
def fX13_sayTable_L301 (k260 : Option Nat × Int32 × Int32 × Int32 → Mem → Option (Int32 × Mem)) (k271 : Option Nat × Int32 × Int32 × Int32 × Int32 × Int32 → Mem → Option (Int32 × Mem)) (p0 : Option Nat) (p2 : Int32) (p3 : Int32) (p4 : Int32) (p6 : Int32) (q0 : Int32) (M : Mem) : Option (Int32 × Mem) :=
  bn (q0) fun v301 =>
  bn (p6 + 1) fun v303 =>
  k271 ((p0, p2, p3, p4, v301, v303)) M
def fX13_sayTable_B271 (k260 : Option Nat × Int32 × Int32 × Int32 → Mem → Option (Int32 × Mem)) (k271 : Option Nat × Int32 × Int32 × Int32 × Int32 × Int32 → Mem → Option (Int32 × Mem)) (p0 : Option Nat) (p2 : Int32) (p3 : Int32) (p4 : Int32) (p5 : Int32) (p6 : Int32) (M : Mem) : Option (Int32 × Mem) :=
  if p3 < p6 then (
    bo (gR M p0 13 12) fun v310 =>
    bo (aI M v310 15 p5) fun v316 =>
    if p4 ≤ 0 then (
      fX13_sayTable_L328 k260 p0 p2 p3 p4 v310 p5 v316 ((-1)) M
    ) else (
      fX13_sayTable_L328 k260 p0 p2 p3 p4 v310 p5 v316 p4 M
    )
  ) else (
    bo (gR M p0 13 12) fun v278 =>
    bo (aI M v278 15 p6) fun v283 =>
    bo (gR M p0 13 12) fun v285 =>
    bo (aI M v285 15 p5) fun v290 =>
    if v283 ≤ v290 then (
      fX13_sayTable_L301 k260 k271 p0 p2 p3 p4 p6 p5 M
    ) else (
      fX13_sayTable_L301 k260 k271 p0 p2 p3 p4 p6 p6 M
    )
  )
def fX13_sayTable_L271 (k260 : Option Nat × Int32 × Int32 × Int32 → Mem → Option (Int32 × Mem)) (p0 : Option Nat) (p2 : Int32) (p3 : Int32) (p4 : Int32) (p5 : Int32) (p6 : Int32) (M : Mem) : Option (Int32 × Mem) :=
  lp (fun k271 (a : Option Nat × Int32 × Int32 × Int32 × Int32 × Int32) M => fX13_sayTable_B271 k260 k271 a.1 a.2.1 a.2.2.1 a.2.2.2.1 a.2.2.2.2.1 a.2.2.2.2.2 M) FU ((p0, p2, p3, p4, p5, p6)) M
def fX13_sayTable_B260 (k260 : Option Nat × Int32 × Int32 × Int32 → Mem → Option (Int32 × Mem)) (p0 : Option Nat) (p2 : Int32) (p3 : Int32) (p4 : Int32) (M : Mem) : Option (Int32 × Mem) :=
  if p4 = 0 then (
    bo (chk M p0 13) fun _ => bd (fX13_sayCounts p0 p3 M) fun v350 M350 =>
    bo (chk M350 p0 13) fun _ => bd (fX13_table p0 (7 + p2) M350) fun v358 M358 =>
    some (2, M358)
  ) else (
    bn (0) fun v266 =>
    bn (0) fun v269 =>
    fX13_sayTable_L271 k260 p0 p2 p3 p4 v266 v269 M
  )
def fX13_sayTable_L260 (p0 : Option Nat) (p2 : Int32) (p3 : Int32) (p4 : Int32) (M : Mem) : Option (Int32 × Mem) :=
  lp (fun k260 (a : Option Nat × Int32 × Int32 × Int32) M => fX13_sayTable_B260 k260 a.1 a.2.1 a.2.2.1 a.2.2.2 M) FU ((p0, p2, p3, p4)) M
def fX13_sayTable_L241 (k189 : Option Nat × Int32 × Int32 × Int32 × Int32 → Mem → Option (Int32 × Mem)) (p0 : Option Nat) (p2 : Int32) (p3 : Int32) (p4 : Int32) (p5 : Int32) (q0 : Option Nat) (q1 : Int32) (q2 : Int32) (M : Mem) : Option (Int32 × Mem) :=
  bo (wI M q0 q1 q2) fun M241 =>
  bo (gR M241 p0 13 12) fun v245 =>
  bo (aI M241 v245 15 p5) fun v250 =>
  bn (p4 - v250) fun v252 =>
  bn (p5 + 1) fun v254 =>
  k189 ((p0, p2, p3, v252, v254)) M241
def fX13_sayTable_L239 (k189 : Option Nat × Int32 × Int32 × Int32 × Int32 → Mem → Option (Int32 × Mem)) (p0 : Option Nat) (p2 : Int32) (p3 : Int32) (p4 : Int32) (p5 : Int32) (p6 : Int32) (q0 : Option Nat) (q1 : Int32) (M : Mem) : Option (Int32 × Mem) :=
  fX13_sayTable_L241 k189 p0 p2 p3 p4 p5 q0 q1 p6 M
def fX13_sayTable_B189 (k189 : Option Nat × Int32 × Int32 × Int32 × Int32 → Mem → Option (Int32 × Mem)) (p0 : Option Nat) (p2 : Int32) (p3 : Int32) (p4 : Int32) (p5 : Int32) (M : Mem) : Option (Int32 × Mem) :=
  if p3 < p5 then (
    fX13_sayTable_L260 p0 p2 p3 p4 M
  ) else (
    bo (gR M p0 13 69) fun v196 =>
    bo (aI M v196 15 p5) fun v201 =>
    bo (gI M p0 13 13) fun v203 =>
    bo (gI M p0 13 61) fun v208 =>
    bo (dv (shlI v201 v203) v208) fun v211 =>
    bn (v211) fun v212 =>
    bo (gR M p0 13 12) fun v215 =>
    bo (gR M p0 13 69) fun v221 =>
    bo (aI M v221 15 p5) fun v226 =>
    if v226 ≤ 0 then (
      fX13_sayTable_L239 k189 p0 p2 p3 p4 p5 v212 v215 p5 M
    ) else (
      if v212 = 0 then (
        fX13_sayTable_L241 k189 p0 p2 p3 p4 p5 v215 p5 1 M
      ) else (
        fX13_sayTable_L239 k189 p0 p2 p3 p4 p5 v212 v215 p5 M
      )
    )
  )
def fX13_sayTable_L189 (p0 : Option Nat) (p2 : Int32) (p3 : Int32) (p4 : Int32) (p5 : Int32) (M : Mem) : Option (Int32 × Mem) :=
  lp (fun k189 (a : Option Nat × Int32 × Int32 × Int32 × Int32) M => fX13_sayTable_B189 k189 a.1 a.2.1 a.2.2.1 a.2.2.2.1 a.2.2.2.2 M) FU ((p0, p2, p3, p4, p5)) M
def fX13_sayTable_L171 (p0 : Option Nat) (p2 : Int32) (p3 : Int32) (q0 : Option Nat) (q1 : Int32) (M : Mem) : Option (Int32 × Mem) :=
  bo (pI M q0 13 13 q1) fun M171 =>
  bo (gI M171 p0 13 13) fun v176 =>
  bn (shlI 1 v176) fun v180 =>
  bo (chk M171 p0 13) fun _ => bd (fX13_noCounts p0 M171) fun v183 M183 =>
  bn (0) fun v187 =>
  fX13_sayTable_L189 p0 p2 p3 v180 v187 M183
def fX13_sayTable_L102 (k55 : Option Nat × Int32 × Int32 × Int32 → Mem → Option (Int32 × Mem)) (p0 : Option Nat) (p2 : Int32) (p4 : Int32) (q0 : Int32) (M : Mem) : Option (Int32 × Mem) :=
  bn (q0) fun v102 =>
  bn (p4 + 1) fun v103 =>
  k55 ((p0, p2, v102, v103)) M
def fX13_sayTable_B55 (k55 : Option Nat × Int32 × Int32 × Int32 → Mem → Option (Int32 × Mem)) (p0 : Option Nat) (p2 : Int32) (p3 : Int32) (p4 : Int32) (M : Mem) : Option (Int32 × Mem) :=
  bo (gI M p0 13 61) fun v58 =>
  if v58 ≤ p4 then (
    bo (gR M p0 13 69) fun v110 =>
    bo (aI M v110 15 p3) fun v114 =>
    bo (gI M p0 13 61) fun v116 =>
    if v114 = v116 then (
      bo (chk M p0 13) fun _ => bd (fX13_alone p0 (7 + p2) p3 M) fun v128 M128 =>
      bo (chk M128 p0 13) fun _ => bd (fX13_say p0 p3.toInt64 1 M128) fun v135 M135 =>
      some (1, M135)
    ) else (
      bo (gI M p0 13 61) fun v142 =>
      if 32 ≤ v142 then (
        bo (gI M p0 13 61) fun v155 =>
        if 128 ≤ v155 then (
          fX13_sayTable_L171 p0 p2 p3 p0 7 M
        ) else (
          fX13_sayTable_L171 p0 p2 p3 p0 6 M
        )
      ) else (
        fX13_sayTable_L171 p0 p2 p3 p0 5 M
      )
    )
  ) else (
    bo (gR M p0 13 65) fun v65 =>
    bo (aI M v65 15 ((600 * p2) + p4)) fun v76 =>
    bn (v76) fun v77 =>
    bo (gR M p0 13 69) fun v80 =>
    bo (aI M v80 15 v77) fun v86 =>
    bo (wI M v80 v77 (v86 + 1)) fun M89 =>
    if v77 ≤ p3 then (
      fX13_sayTable_L102 k55 p0 p2 p4 p3 M89
    ) else (
      fX13_sayTable_L102 k55 p0 p2 p4 v77 M89
    )
  )
def fX13_sayTable_L55 (p0 : Option Nat) (p2 : Int32) (p3 : Int32) (p4 : Int32) (M : Mem) : Option (Int32 × Mem) :=
  lp (fun k55 (a : Option Nat × Int32 × Int32 × Int32) M => fX13_sayTable_B55 k55 a.1 a.2.1 a.2.2.1 a.2.2.2 M) FU ((p0, p2, p3, p4)) M
def fX13_sayTable_B30 (k30 : Option Nat × Int32 × Int32 × Int32 → Mem → Option (Int32 × Mem)) (p0 : Option Nat) (p2 : Int32) (p3 : Int32) (p4 : Int32) (M : Mem) : Option (Int32 × Mem) :=
  if 256 ≤ p4 then (
    bn (0) fun v53 =>
    fX13_sayTable_L55 p0 p2 p3 v53 M
  ) else (
    bo (gR M p0 13 69) fun v39 =>
    bo (wI M v39 p4 0) fun M45 =>
    bn (p4 + 1) fun v46 =>
    k30 ((p0, p2, p3, v46)) M45
  )
def fX13_sayTable_L30 (p0 : Option Nat) (p2 : Int32) (p3 : Int32) (p4 : Int32) (M : Mem) : Option (Int32 × Mem) :=
  lp (fun k30 (a : Option Nat × Int32 × Int32 × Int32) M => fX13_sayTable_B30 k30 a.1 a.2.1 a.2.2.1 a.2.2.2 M) FU ((p0, p2, p3, p4)) M
def fX13_sayTable (a0 : Option Nat) (a1 : Int32) (a2 : Int32) (M : Mem) : Option (Int32 × Mem) :=
  if a1 = 1 then (
    fX13_sayTable_L14 a0 a2 M
  ) else (
    bo (gI M a0 13 61) fun v6 =>
    if 8 ≤ v6 then (
      bn (0) fun v26 =>
      bn (0) fun v28 =>
      fX13_sayTable_L30 a0 a2 v26 v28 M
    ) else (
      fX13_sayTable_L14 a0 a2 M
    )
  )
def rmX13_sayTable : Room := { frames := 3, cells := 0, slots := 0, locals := 76 }
set_option maxRecDepth 100000 in
set_option maxHeartbeats 4000000 in
theorem ctX13_sayTable (l : Launch) (x : Cx) (a0 : Option Nat) (a1 : Int32) (a2 : Int32) (M : Mem) (v : Int32) (N : Mem) (h : fX13_sayTable a0 a1 a2 M = some (v, N)) : CT l yX13_sayTable cX13_sayTable 7 (some (FieldType.int)) rmX13_sayTable x [rv x a0, .int a1, .int a2] M (some (.int v)) N := by
  refine ct_mk (enc := fun v : Int32 => some (.int v)) (li := [(1, a1), (2, a2)]) (ll := []) (lr := [(0, a0)]) (by decide +kernel) (by simp [lg_sl, rv_cat, cat_int, cat_long]) (by simp [flat, lv_args, rv_cat, cat_int, cat_long]) h ?_
  intro p e s m args below meth c E
  have hL14 : ∀ (p0 : Option Nat) (p2 : Int32) (M : Mem), RT p l e rmX13_sayTable s m args below meth c x 7 (QM below args s x (fun v : Int32 => some (.int v)) rmX13_sayTable.cells rmX13_sayTable.slots) 0 0 (fX13_sayTable_L14 p0 p2 M) 14 [(2, p2)] [] [(0, p0)] [] M := by
    intro p0 p2 M
    unfold fX13_sayTable_L14
    refine r_aload_n (pc := 14) E dX13_sayTable_14 rfl 0 rfl ?_
    refine r_iload_n (pc := 15) E dX13_sayTable_15 rfl 0 rfl ?_
    refine r_bipush (pc := 16) (v := 7) E dX13_sayTable_16 (by decide) ?_
    refine r_iload_n (pc := 18) E dX13_sayTable_18 rfl 0 rfl ?_
    refine r_iadd (pc := 19) E dX13_sayTable_19 ?_
    refine r_kVv (pc := 20) (As := [.int p2, .int (7 + p2)]) (rest := []) E wc_X13_defaults wi_RX13 hd_X13_defaults (ci := 13) rfl wl_RX13_367 wn_X13_defaults ws_X13_defaults dX13_sayTable_20 (by decide) (Nat.le_of_ble_eq_true rfl) ⟨rfl, rfl⟩ (ctX13_defaults l x _ _ _ _) rfl (fun v20 M20 => ?_)
    refine r_iconst (pc := 23) (v := 0) E dX13_sayTable_23 (by decide) ?_
    exact e_int (pc := 24) E dX13_sayTable_24
  have hL343 : ∀ (k260 : Option Nat × Int32 × Int32 × Int32 → Mem → Option (Int32 × Mem)) (hk260 : ∀ a M, RT p l e rmX13_sayTable s m args below meth c x 7 (QM below args s x (fun v : Int32 => some (.int v)) rmX13_sayTable.cells rmX13_sayTable.slots) 0 0 (k260 a M) 260 [(2, a.2.1), (3, a.2.2.1), (4, a.2.2.2)] [] [(0, a.1)] [] M) (p0 : Option Nat) (p2 : Int32) (p3 : Int32) (q0 : Int32) (M : Mem), RT p l e rmX13_sayTable s m args below meth c x 7 (QM below args s x (fun v : Int32 => some (.int v)) rmX13_sayTable.cells rmX13_sayTable.slots) 0 0 (fX13_sayTable_L343 k260 p0 p2 p3 q0 M) 343 [(2, p2), (3, p3)] [] [(0, p0)] [.int q0] M := by
    intro k260 hk260 p0 p2 p3 q0 M
    unfold fX13_sayTable_L343
    refine r_istore (pc := 343) (lf := fun v343 => [(4, v343), (2, p2), (3, p3)]) (lg := fun v343 => []) (lk := fun v343 => [(0, p0)]) E dX13_sayTable_343 (by decide) (fun _ => rfl) (fun _ => rfl) (fun _ => rfl) (fun v343 => ?_)
    refine r_goto (pc := 345) (tgt := 260) E dX13_sayTable_345 (by decide) ?_
    exact r_sub [1, 2, 0] [] [0] rfl rfl rfl (hk260 ((p0, p2, p3, v343)) _)
  have hL328 : ∀ (k260 : Option Nat × Int32 × Int32 × Int32 → Mem → Option (Int32 × Mem)) (hk260 : ∀ a M, RT p l e rmX13_sayTable s m args below meth c x 7 (QM below args s x (fun v : Int32 => some (.int v)) rmX13_sayTable.cells rmX13_sayTable.slots) 0 0 (k260 a M) 260 [(2, a.2.1), (3, a.2.2.1), (4, a.2.2.2)] [] [(0, a.1)] [] M) (p0 : Option Nat) (p2 : Int32) (p3 : Int32) (p4 : Int32) (q0 : Option Nat) (q1 : Int32) (q2 : Int32) (q3 : Int32) (M : Mem), RT p l e rmX13_sayTable s m args below meth c x 7 (QM below args s x (fun v : Int32 => some (.int v)) rmX13_sayTable.cells rmX13_sayTable.slots) 0 0 (fX13_sayTable_L328 k260 p0 p2 p3 p4 q0 q1 q2 q3 M) 328 [(2, p2), (3, p3), (4, p4)] [] [(0, p0)] [.int q3, .int q2, .int q1, rv x q0] M := by
    intro k260 hk260 p0 p2 p3 p4 q0 q1 q2 q3 M
    unfold fX13_sayTable_L328
    refine r_iadd (pc := 328) E dX13_sayTable_328 ?_
    refine r_iastore (pc := 329) E dX13_sayTable_329 (fun M329 => ?_)
    refine r_iload (pc := 330) E dX13_sayTable_330 2 rfl ?_
    refine r_if_le (pc := 332) (tgt := 339) E dX13_sayTable_332 (by decide) ?_ ?_
    · refine r_iload (pc := 339) E dX13_sayTable_339 2 rfl ?_
      refine r_iconst (pc := 341) (v := 1) E dX13_sayTable_341 (by decide) ?_
      refine r_iadd (pc := 342) E dX13_sayTable_342 ?_
      exact r_sub [0, 1] [] [0] rfl rfl rfl (hL343 k260 hk260 p0 p2 p3 (p4 + 1) _)
    · refine r_iconst (pc := 335) (v := 0) E dX13_sayTable_335 (by decide) ?_
      refine r_goto (pc := 336) (tgt := 343) E dX13_sayTable_336 (by decide) ?_
      exact r_sub [0, 1] [] [0] rfl rfl rfl (hL343 k260 hk260 p0 p2 p3 0 _)
  have hL301 : ∀ (k260 : Option Nat × Int32 × Int32 × Int32 → Mem → Option (Int32 × Mem)) (hk260 : ∀ a M, RT p l e rmX13_sayTable s m args below meth c x 7 (QM below args s x (fun v : Int32 => some (.int v)) rmX13_sayTable.cells rmX13_sayTable.slots) 0 0 (k260 a M) 260 [(2, a.2.1), (3, a.2.2.1), (4, a.2.2.2)] [] [(0, a.1)] [] M) (k271 : Option Nat × Int32 × Int32 × Int32 × Int32 × Int32 → Mem → Option (Int32 × Mem)) (hk271 : ∀ a M, RT p l e rmX13_sayTable s m args below meth c x 7 (QM below args s x (fun v : Int32 => some (.int v)) rmX13_sayTable.cells rmX13_sayTable.slots) 0 0 (k271 a M) 271 [(2, a.2.1), (3, a.2.2.1), (4, a.2.2.2.1), (5, a.2.2.2.2.1), (6, a.2.2.2.2.2)] [] [(0, a.1)] [] M) (p0 : Option Nat) (p2 : Int32) (p3 : Int32) (p4 : Int32) (p6 : Int32) (q0 : Int32) (M : Mem), RT p l e rmX13_sayTable s m args below meth c x 7 (QM below args s x (fun v : Int32 => some (.int v)) rmX13_sayTable.cells rmX13_sayTable.slots) 0 0 (fX13_sayTable_L301 k260 k271 p0 p2 p3 p4 p6 q0 M) 301 [(2, p2), (3, p3), (4, p4), (6, p6)] [] [(0, p0)] [.int q0] M := by
    intro k260 hk260 k271 hk271 p0 p2 p3 p4 p6 q0 M
    unfold fX13_sayTable_L301
    refine r_istore (pc := 301) (lf := fun v301 => [(5, v301), (2, p2), (3, p3), (4, p4), (6, p6)]) (lg := fun v301 => []) (lk := fun v301 => [(0, p0)]) E dX13_sayTable_301 (by decide) (fun _ => rfl) (fun _ => rfl) (fun _ => rfl) (fun v301 => ?_)
    refine r_iinc (pc := 303) (w := 1) (lf := fun v303 => [(6, v303), (5, v301), (2, p2), (3, p3), (4, p4)]) (ll' := []) (lr' := [(0, p0)]) E dX13_sayTable_303 4 rfl (by decide) (by decide) (fun _ => rfl) rfl rfl (fun v303 => ?_)
    refine r_goto (pc := 306) (tgt := 271) E dX13_sayTable_306 (by decide) ?_
    exact r_sub [2, 3, 4, 1, 0] [] [0] rfl rfl rfl (hk271 ((p0, p2, p3, p4, v301, v303)) _)
  have hL271 : ∀ (k260 : Option Nat × Int32 × Int32 × Int32 → Mem → Option (Int32 × Mem)) (hk260 : ∀ a M, RT p l e rmX13_sayTable s m args below meth c x 7 (QM below args s x (fun v : Int32 => some (.int v)) rmX13_sayTable.cells rmX13_sayTable.slots) 0 0 (k260 a M) 260 [(2, a.2.1), (3, a.2.2.1), (4, a.2.2.2)] [] [(0, a.1)] [] M) (p0 : Option Nat) (p2 : Int32) (p3 : Int32) (p4 : Int32) (p5 : Int32) (p6 : Int32) (M : Mem), RT p l e rmX13_sayTable s m args below meth c x 7 (QM below args s x (fun v : Int32 => some (.int v)) rmX13_sayTable.cells rmX13_sayTable.slots) 0 0 (fX13_sayTable_L271 k260 p0 p2 p3 p4 p5 p6 M) 271 [(2, p2), (3, p3), (4, p4), (5, p5), (6, p6)] [] [(0, p0)] [] M := by
    intro k260 hk260 p0 p2 p3 p4 p5 p6 M
    refine r_lp (fi := fun a : Option Nat × Int32 × Int32 × Int32 × Int32 × Int32 => [(2, a.2.1), (3, a.2.2.1), (4, a.2.2.2.1), (5, a.2.2.2.2.1), (6, a.2.2.2.2.2)]) (fl := fun a : Option Nat × Int32 × Int32 × Int32 × Int32 × Int32 => []) (fr := fun a : Option Nat × Int32 × Int32 × Int32 × Int32 × Int32 => [(0, a.1)]) (fs := fun a : Option Nat × Int32 × Int32 × Int32 × Int32 × Int32 => []) ?_ FU ((p0, p2, p3, p4, p5, p6)) M
    intro k271 hk271 a M
    obtain ⟨p0, p2, p3, p4, p5, p6⟩ := a
    show RT p l e rmX13_sayTable s m args below meth c x 7 (QM below args s x (fun v : Int32 => some (.int v)) rmX13_sayTable.cells rmX13_sayTable.slots) 0 0 (fX13_sayTable_B271 k260 k271 p0 p2 p3 p4 p5 p6 M) 271 [(2, p2), (3, p3), (4, p4), (5, p5), (6, p6)] [] [(0, p0)] [] M
    unfold fX13_sayTable_B271
    refine r_iload (pc := 271) E dX13_sayTable_271 4 rfl ?_
    refine r_iload_n (pc := 273) E dX13_sayTable_273 rfl 1 rfl ?_
    refine r_icmp_gt (pc := 274) (tgt := 309) E dX13_sayTable_274 (by decide) ?_ ?_
    · refine r_aload_n (pc := 309) E dX13_sayTable_309 rfl 0 rfl ?_
      refine r_getA (pc := 310) E fd_13_12 wf_RX13_23 dX13_sayTable_310 (fun v310 => ?_)
      refine r_iload (pc := 313) E dX13_sayTable_313 3 rfl ?_
      refine r_dup2 (pc := 315) E dX13_sayTable_315 rfl (rv_cat _ _) ?_
      refine r_iaload (pc := 316) E dX13_sayTable_316 (fun v316 => ?_)
      refine r_iload (pc := 317) E dX13_sayTable_317 2 rfl ?_
      refine r_if_le (pc := 319) (tgt := 327) E dX13_sayTable_319 (by decide) ?_ ?_
      · refine r_iconst (pc := 327) (v := (-1)) E dX13_sayTable_327 (by decide) ?_
        exact r_sub [0, 1, 2] [] [0] rfl rfl rfl (hL328 k260 hk260 p0 p2 p3 p4 v310 p5 v316 ((-1)) _)
      · refine r_iload (pc := 322) E dX13_sayTable_322 2 rfl ?_
        refine r_goto (pc := 324) (tgt := 328) E dX13_sayTable_324 (by decide) ?_
        exact r_sub [0, 1, 2] [] [0] rfl rfl rfl (hL328 k260 hk260 p0 p2 p3 p4 v310 p5 v316 p4 _)
    · refine r_aload_n (pc := 277) E dX13_sayTable_277 rfl 0 rfl ?_
      refine r_getA (pc := 278) E fd_13_12 wf_RX13_23 dX13_sayTable_278 (fun v278 => ?_)
      refine r_iload (pc := 281) E dX13_sayTable_281 4 rfl ?_
      refine r_iaload (pc := 283) E dX13_sayTable_283 (fun v283 => ?_)
      refine r_aload_n (pc := 284) E dX13_sayTable_284 rfl 0 rfl ?_
      refine r_getA (pc := 285) E fd_13_12 wf_RX13_23 dX13_sayTable_285 (fun v285 => ?_)
      refine r_iload (pc := 288) E dX13_sayTable_288 3 rfl ?_
      refine r_iaload (pc := 290) E dX13_sayTable_290 (fun v290 => ?_)
      refine r_icmp_le (pc := 291) (tgt := 299) E dX13_sayTable_291 (by decide) ?_ ?_
      · refine r_iload (pc := 299) E dX13_sayTable_299 3 rfl ?_
        exact r_sub [0, 1, 2, 4] [] [0] rfl rfl rfl (hL301 k260 hk260 k271 hk271 p0 p2 p3 p4 p6 p5 _)
      · refine r_iload (pc := 294) E dX13_sayTable_294 4 rfl ?_
        refine r_goto (pc := 296) (tgt := 301) E dX13_sayTable_296 (by decide) ?_
        exact r_sub [0, 1, 2, 4] [] [0] rfl rfl rfl (hL301 k260 hk260 k271 hk271 p0 p2 p3 p4 p6 p6 _)
  have hL260 : ∀ (p0 : Option Nat) (p2 : Int32) (p3 : Int32) (p4 : Int32) (M : Mem), RT p l e rmX13_sayTable s m args below meth c x 7 (QM below args s x (fun v : Int32 => some (.int v)) rmX13_sayTable.cells rmX13_sayTable.slots) 0 0 (fX13_sayTable_L260 p0 p2 p3 p4 M) 260 [(2, p2), (3, p3), (4, p4)] [] [(0, p0)] [] M := by
    intro p0 p2 p3 p4 M
    refine r_lp (fi := fun a : Option Nat × Int32 × Int32 × Int32 => [(2, a.2.1), (3, a.2.2.1), (4, a.2.2.2)]) (fl := fun a : Option Nat × Int32 × Int32 × Int32 => []) (fr := fun a : Option Nat × Int32 × Int32 × Int32 => [(0, a.1)]) (fs := fun a : Option Nat × Int32 × Int32 × Int32 => []) ?_ FU ((p0, p2, p3, p4)) M
    intro k260 hk260 a M
    obtain ⟨p0, p2, p3, p4⟩ := a
    show RT p l e rmX13_sayTable s m args below meth c x 7 (QM below args s x (fun v : Int32 => some (.int v)) rmX13_sayTable.cells rmX13_sayTable.slots) 0 0 (fX13_sayTable_B260 k260 p0 p2 p3 p4 M) 260 [(2, p2), (3, p3), (4, p4)] [] [(0, p0)] [] M
    unfold fX13_sayTable_B260
    refine r_iload (pc := 260) E dX13_sayTable_260 2 rfl ?_
    refine r_if_eq (pc := 262) (tgt := 348) E dX13_sayTable_262 (by decide) ?_ ?_
    · refine r_aload_n (pc := 348) E dX13_sayTable_348 rfl 0 rfl ?_
      refine r_iload_n (pc := 349) E dX13_sayTable_349 rfl 1 rfl ?_
      refine r_kVv (pc := 350) (As := [.int p3]) (rest := []) E wc_X13_sayCounts wi_RX13 hd_X13_sayCounts (ci := 13) rfl wl_RX13_500 wn_X13_sayCounts ws_X13_sayCounts dX13_sayTable_350 (by decide) (Nat.le_of_ble_eq_true rfl) ⟨rfl, rfl⟩ (ctX13_sayCounts l x _ _ _) rfl (fun v350 M350 => ?_)
      refine r_aload_n (pc := 353) E dX13_sayTable_353 rfl 0 rfl ?_
      refine r_bipush (pc := 354) (v := 7) E dX13_sayTable_354 (by decide) ?_
      refine r_iload_n (pc := 356) E dX13_sayTable_356 rfl 0 rfl ?_
      refine r_iadd (pc := 357) E dX13_sayTable_357 ?_
      refine r_kVv (pc := 358) (As := [.int (7 + p2)]) (rest := []) E wc_X13_table wi_RX13 hd_X13_table (ci := 13) rfl wl_RX13_222 wn_X13_table ws_X13_table dX13_sayTable_358 (by decide) (Nat.le_of_ble_eq_true rfl) ⟨rfl, rfl⟩ (ctX13_table l x _ _ _) rfl (fun v358 M358 => ?_)
      refine r_iconst (pc := 361) (v := 2) E dX13_sayTable_361 (by decide) ?_
      exact e_int (pc := 362) E dX13_sayTable_362
    · refine r_iconst (pc := 265) (v := 0) E dX13_sayTable_265 (by decide) ?_
      refine r_istore (pc := 266) (lf := fun v266 => [(5, v266), (2, p2), (3, p3), (4, p4)]) (lg := fun v266 => []) (lk := fun v266 => [(0, p0)]) E dX13_sayTable_266 (by decide) (fun _ => rfl) (fun _ => rfl) (fun _ => rfl) (fun v266 => ?_)
      refine r_iconst (pc := 268) (v := 0) E dX13_sayTable_268 (by decide) ?_
      refine r_istore (pc := 269) (lf := fun v269 => [(6, v269), (5, v266), (2, p2), (3, p3), (4, p4)]) (lg := fun v269 => []) (lk := fun v269 => [(0, p0)]) E dX13_sayTable_269 (by decide) (fun _ => rfl) (fun _ => rfl) (fun _ => rfl) (fun v269 => ?_)
      exact r_sub [2, 3, 4, 1, 0] [] [0] rfl rfl rfl (hL271 k260 hk260 p0 p2 p3 p4 v266 v269 _)
  have hL241 : ∀ (k189 : Option Nat × Int32 × Int32 × Int32 × Int32 → Mem → Option (Int32 × Mem)) (hk189 : ∀ a M, RT p l e rmX13_sayTable s m args below meth c x 7 (QM below args s x (fun v : Int32 => some (.int v)) rmX13_sayTable.cells rmX13_sayTable.slots) 0 0 (k189 a M) 189 [(2, a.2.1), (3, a.2.2.1), (4, a.2.2.2.1), (5, a.2.2.2.2)] [] [(0, a.1)] [] M) (p0 : Option Nat) (p2 : Int32) (p3 : Int32) (p4 : Int32) (p5 : Int32) (q0 : Option Nat) (q1 : Int32) (q2 : Int32) (M : Mem), RT p l e rmX13_sayTable s m args below meth c x 7 (QM below args s x (fun v : Int32 => some (.int v)) rmX13_sayTable.cells rmX13_sayTable.slots) 0 0 (fX13_sayTable_L241 k189 p0 p2 p3 p4 p5 q0 q1 q2 M) 241 [(2, p2), (3, p3), (4, p4), (5, p5)] [] [(0, p0)] [.int q2, .int q1, rv x q0] M := by
    intro k189 hk189 p0 p2 p3 p4 p5 q0 q1 q2 M
    unfold fX13_sayTable_L241
    refine r_iastore (pc := 241) E dX13_sayTable_241 (fun M241 => ?_)
    refine r_iload (pc := 242) E dX13_sayTable_242 2 rfl ?_
    refine r_aload_n (pc := 244) E dX13_sayTable_244 rfl 0 rfl ?_
    refine r_getA (pc := 245) E fd_13_12 wf_RX13_23 dX13_sayTable_245 (fun v245 => ?_)
    refine r_iload (pc := 248) E dX13_sayTable_248 3 rfl ?_
    refine r_iaload (pc := 250) E dX13_sayTable_250 (fun v250 => ?_)
    refine r_isub (pc := 251) E dX13_sayTable_251 ?_
    refine r_istore (pc := 252) (lf := fun v252 => [(4, v252), (2, p2), (3, p3), (5, p5)]) (lg := fun v252 => []) (lk := fun v252 => [(0, p0)]) E dX13_sayTable_252 (by decide) (fun _ => rfl) (fun _ => rfl) (fun _ => rfl) (fun v252 => ?_)
    refine r_iinc (pc := 254) (w := 1) (lf := fun v254 => [(5, v254), (4, v252), (2, p2), (3, p3)]) (ll' := []) (lr' := [(0, p0)]) E dX13_sayTable_254 3 rfl (by decide) (by decide) (fun _ => rfl) rfl rfl (fun v254 => ?_)
    refine r_goto (pc := 257) (tgt := 189) E dX13_sayTable_257 (by decide) ?_
    exact r_sub [2, 3, 1, 0] [] [0] rfl rfl rfl (hk189 ((p0, p2, p3, v252, v254)) _)
  have hL239 : ∀ (k189 : Option Nat × Int32 × Int32 × Int32 × Int32 → Mem → Option (Int32 × Mem)) (hk189 : ∀ a M, RT p l e rmX13_sayTable s m args below meth c x 7 (QM below args s x (fun v : Int32 => some (.int v)) rmX13_sayTable.cells rmX13_sayTable.slots) 0 0 (k189 a M) 189 [(2, a.2.1), (3, a.2.2.1), (4, a.2.2.2.1), (5, a.2.2.2.2)] [] [(0, a.1)] [] M) (p0 : Option Nat) (p2 : Int32) (p3 : Int32) (p4 : Int32) (p5 : Int32) (p6 : Int32) (q0 : Option Nat) (q1 : Int32) (M : Mem), RT p l e rmX13_sayTable s m args below meth c x 7 (QM below args s x (fun v : Int32 => some (.int v)) rmX13_sayTable.cells rmX13_sayTable.slots) 0 0 (fX13_sayTable_L239 k189 p0 p2 p3 p4 p5 p6 q0 q1 M) 239 [(2, p2), (3, p3), (4, p4), (5, p5), (6, p6)] [] [(0, p0)] [.int q1, rv x q0] M := by
    intro k189 hk189 p0 p2 p3 p4 p5 p6 q0 q1 M
    unfold fX13_sayTable_L239
    refine r_iload (pc := 239) E dX13_sayTable_239 4 rfl ?_
    exact r_sub [0, 1, 2, 3] [] [0] rfl rfl rfl (hL241 k189 hk189 p0 p2 p3 p4 p5 q0 q1 p6 _)
  have hL189 : ∀ (p0 : Option Nat) (p2 : Int32) (p3 : Int32) (p4 : Int32) (p5 : Int32) (M : Mem), RT p l e rmX13_sayTable s m args below meth c x 7 (QM below args s x (fun v : Int32 => some (.int v)) rmX13_sayTable.cells rmX13_sayTable.slots) 0 0 (fX13_sayTable_L189 p0 p2 p3 p4 p5 M) 189 [(2, p2), (3, p3), (4, p4), (5, p5)] [] [(0, p0)] [] M := by
    intro p0 p2 p3 p4 p5 M
    refine r_lp (fi := fun a : Option Nat × Int32 × Int32 × Int32 × Int32 => [(2, a.2.1), (3, a.2.2.1), (4, a.2.2.2.1), (5, a.2.2.2.2)]) (fl := fun a : Option Nat × Int32 × Int32 × Int32 × Int32 => []) (fr := fun a : Option Nat × Int32 × Int32 × Int32 × Int32 => [(0, a.1)]) (fs := fun a : Option Nat × Int32 × Int32 × Int32 × Int32 => []) ?_ FU ((p0, p2, p3, p4, p5)) M
    intro k189 hk189 a M
    obtain ⟨p0, p2, p3, p4, p5⟩ := a
    show RT p l e rmX13_sayTable s m args below meth c x 7 (QM below args s x (fun v : Int32 => some (.int v)) rmX13_sayTable.cells rmX13_sayTable.slots) 0 0 (fX13_sayTable_B189 k189 p0 p2 p3 p4 p5 M) 189 [(2, p2), (3, p3), (4, p4), (5, p5)] [] [(0, p0)] [] M
    unfold fX13_sayTable_B189
    refine r_iload (pc := 189) E dX13_sayTable_189 3 rfl ?_
    refine r_iload_n (pc := 191) E dX13_sayTable_191 rfl 1 rfl ?_
    refine r_icmp_gt (pc := 192) (tgt := 260) E dX13_sayTable_192 (by decide) ?_ ?_
    · exact r_sub [0, 1, 2] [] [0] rfl rfl rfl (hL260 p0 p2 p3 p4 _)
    · refine r_aload_n (pc := 195) E dX13_sayTable_195 rfl 0 rfl ?_
      refine r_getA (pc := 196) E fd_13_69 wf_RX13_138 dX13_sayTable_196 (fun v196 => ?_)
      refine r_iload (pc := 199) E dX13_sayTable_199 3 rfl ?_
      refine r_iaload (pc := 201) E dX13_sayTable_201 (fun v201 => ?_)
      refine r_aload_n (pc := 202) E dX13_sayTable_202 rfl 0 rfl ?_
      refine r_getI (pc := 203) E fd_13_13 wf_RX13_210 dX13_sayTable_203 (fun v203 => ?_)
      refine r_ishl (pc := 206) E dX13_sayTable_206 ?_
      refine r_aload_n (pc := 207) E dX13_sayTable_207 rfl 0 rfl ?_
      refine r_getI (pc := 208) E fd_13_61 wf_RX13_443 dX13_sayTable_208 (fun v208 => ?_)
      refine r_idiv (pc := 211) E dX13_sayTable_211 (fun v211 => ?_)
      refine r_istore (pc := 212) (lf := fun v212 => [(6, v212), (2, p2), (3, p3), (4, p4), (5, p5)]) (lg := fun v212 => []) (lk := fun v212 => [(0, p0)]) E dX13_sayTable_212 (by decide) (fun _ => rfl) (fun _ => rfl) (fun _ => rfl) (fun v212 => ?_)
      refine r_aload_n (pc := 214) E dX13_sayTable_214 rfl 0 rfl ?_
      refine r_getA (pc := 215) E fd_13_12 wf_RX13_23 dX13_sayTable_215 (fun v215 => ?_)
      refine r_iload (pc := 218) E dX13_sayTable_218 4 rfl ?_
      refine r_aload_n (pc := 220) E dX13_sayTable_220 rfl 0 rfl ?_
      refine r_getA (pc := 221) E fd_13_69 wf_RX13_138 dX13_sayTable_221 (fun v221 => ?_)
      refine r_iload (pc := 224) E dX13_sayTable_224 4 rfl ?_
      refine r_iaload (pc := 226) E dX13_sayTable_226 (fun v226 => ?_)
      refine r_if_le (pc := 227) (tgt := 239) E dX13_sayTable_227 (by decide) ?_ ?_
      · exact r_sub [1, 2, 3, 4, 0] [] [0] rfl rfl rfl (hL239 k189 hk189 p0 p2 p3 p4 p5 v212 v215 p5 _)
      · refine r_iload (pc := 230) E dX13_sayTable_230 0 rfl ?_
        refine r_if_ne (pc := 232) (tgt := 239) E dX13_sayTable_232 (by decide) ?_ ?_
        · exact r_sub [1, 2, 3, 4, 0] [] [0] rfl rfl rfl (hL239 k189 hk189 p0 p2 p3 p4 p5 v212 v215 p5 _)
        · refine r_iconst (pc := 235) (v := 1) E dX13_sayTable_235 (by decide) ?_
          refine r_goto (pc := 236) (tgt := 241) E dX13_sayTable_236 (by decide) ?_
          exact r_sub [1, 2, 3, 4] [] [0] rfl rfl rfl (hL241 k189 hk189 p0 p2 p3 p4 p5 v215 p5 1 _)
  have hL171 : ∀ (p0 : Option Nat) (p2 : Int32) (p3 : Int32) (q0 : Option Nat) (q1 : Int32) (M : Mem), RT p l e rmX13_sayTable s m args below meth c x 7 (QM below args s x (fun v : Int32 => some (.int v)) rmX13_sayTable.cells rmX13_sayTable.slots) 0 0 (fX13_sayTable_L171 p0 p2 p3 q0 q1 M) 171 [(2, p2), (3, p3)] [] [(0, p0)] [.int q1, rv x q0] M := by
    intro p0 p2 p3 q0 q1 M
    unfold fX13_sayTable_L171
    refine r_putI (pc := 171) E fd_13_13 wf_RX13_210 dX13_sayTable_171 (Or.inl rfl) (fun M171 => ?_)
    refine r_iconst (pc := 174) (v := 1) E dX13_sayTable_174 (by decide) ?_
    refine r_aload_n (pc := 175) E dX13_sayTable_175 rfl 0 rfl ?_
    refine r_getI (pc := 176) E fd_13_13 wf_RX13_210 dX13_sayTable_176 (fun v176 => ?_)
    refine r_ishl (pc := 179) E dX13_sayTable_179 ?_
    refine r_istore (pc := 180) (lf := fun v180 => [(4, v180), (2, p2), (3, p3)]) (lg := fun v180 => []) (lk := fun v180 => [(0, p0)]) E dX13_sayTable_180 (by decide) (fun _ => rfl) (fun _ => rfl) (fun _ => rfl) (fun v180 => ?_)
    refine r_aload_n (pc := 182) E dX13_sayTable_182 rfl 0 rfl ?_
    refine r_kVv (pc := 183) (As := []) (rest := []) E wc_X13_noCounts wi_RX13 hd_X13_noCounts (ci := 13) rfl wl_RX13_213 wn_X13_noCounts ws_X13_noCounts dX13_sayTable_183 (by decide) (Nat.le_of_ble_eq_true rfl) ⟨rfl, rfl⟩ (ctX13_noCounts l x _ _) rfl (fun v183 M183 => ?_)
    refine r_iconst (pc := 186) (v := 0) E dX13_sayTable_186 (by decide) ?_
    refine r_istore (pc := 187) (lf := fun v187 => [(5, v187), (4, v180), (2, p2), (3, p3)]) (lg := fun v187 => []) (lk := fun v187 => [(0, p0)]) E dX13_sayTable_187 (by decide) (fun _ => rfl) (fun _ => rfl) (fun _ => rfl) (fun v187 => ?_)
    exact r_sub [2, 3, 1, 0] [] [0] rfl rfl rfl (hL189 p0 p2 p3 v180 v187 _)
  have hL102 : ∀ (k55 : Option Nat × Int32 × Int32 × Int32 → Mem → Option (Int32 × Mem)) (hk55 : ∀ a M, RT p l e rmX13_sayTable s m args below meth c x 7 (QM below args s x (fun v : Int32 => some (.int v)) rmX13_sayTable.cells rmX13_sayTable.slots) 0 0 (k55 a M) 55 [(2, a.2.1), (3, a.2.2.1), (4, a.2.2.2)] [] [(0, a.1)] [] M) (p0 : Option Nat) (p2 : Int32) (p4 : Int32) (q0 : Int32) (M : Mem), RT p l e rmX13_sayTable s m args below meth c x 7 (QM below args s x (fun v : Int32 => some (.int v)) rmX13_sayTable.cells rmX13_sayTable.slots) 0 0 (fX13_sayTable_L102 k55 p0 p2 p4 q0 M) 102 [(2, p2), (4, p4)] [] [(0, p0)] [.int q0] M := by
    intro k55 hk55 p0 p2 p4 q0 M
    unfold fX13_sayTable_L102
    refine r_istore_n (pc := 102) (lf := fun v102 => [(3, v102), (2, p2), (4, p4)]) (lg := fun v102 => []) (lk := fun v102 => [(0, p0)]) E dX13_sayTable_102 rfl (by decide) (fun _ => rfl) (fun _ => rfl) (fun _ => rfl) (fun v102 => ?_)
    refine r_iinc (pc := 103) (w := 1) (lf := fun v103 => [(4, v103), (3, v102), (2, p2)]) (ll' := []) (lr' := [(0, p0)]) E dX13_sayTable_103 2 rfl (by decide) (by decide) (fun _ => rfl) rfl rfl (fun v103 => ?_)
    refine r_goto (pc := 106) (tgt := 55) E dX13_sayTable_106 (by decide) ?_
    exact r_sub [2, 1, 0] [] [0] rfl rfl rfl (hk55 ((p0, p2, v102, v103)) _)
  have hL55 : ∀ (p0 : Option Nat) (p2 : Int32) (p3 : Int32) (p4 : Int32) (M : Mem), RT p l e rmX13_sayTable s m args below meth c x 7 (QM below args s x (fun v : Int32 => some (.int v)) rmX13_sayTable.cells rmX13_sayTable.slots) 0 0 (fX13_sayTable_L55 p0 p2 p3 p4 M) 55 [(2, p2), (3, p3), (4, p4)] [] [(0, p0)] [] M := by
    intro p0 p2 p3 p4 M
    refine r_lp (fi := fun a : Option Nat × Int32 × Int32 × Int32 => [(2, a.2.1), (3, a.2.2.1), (4, a.2.2.2)]) (fl := fun a : Option Nat × Int32 × Int32 × Int32 => []) (fr := fun a : Option Nat × Int32 × Int32 × Int32 => [(0, a.1)]) (fs := fun a : Option Nat × Int32 × Int32 × Int32 => []) ?_ FU ((p0, p2, p3, p4)) M
    intro k55 hk55 a M
    obtain ⟨p0, p2, p3, p4⟩ := a
    show RT p l e rmX13_sayTable s m args below meth c x 7 (QM below args s x (fun v : Int32 => some (.int v)) rmX13_sayTable.cells rmX13_sayTable.slots) 0 0 (fX13_sayTable_B55 k55 p0 p2 p3 p4 M) 55 [(2, p2), (3, p3), (4, p4)] [] [(0, p0)] [] M
    unfold fX13_sayTable_B55
    refine r_iload (pc := 55) E dX13_sayTable_55 2 rfl ?_
    refine r_aload_n (pc := 57) E dX13_sayTable_57 rfl 0 rfl ?_
    refine r_getI (pc := 58) E fd_13_61 wf_RX13_443 dX13_sayTable_58 (fun v58 => ?_)
    refine r_icmp_ge (pc := 61) (tgt := 109) E dX13_sayTable_61 (by decide) ?_ ?_
    · refine r_aload_n (pc := 109) E dX13_sayTable_109 rfl 0 rfl ?_
      refine r_getA (pc := 110) E fd_13_69 wf_RX13_138 dX13_sayTable_110 (fun v110 => ?_)
      refine r_iload_n (pc := 113) E dX13_sayTable_113 rfl 1 rfl ?_
      refine r_iaload (pc := 114) E dX13_sayTable_114 (fun v114 => ?_)
      refine r_aload_n (pc := 115) E dX13_sayTable_115 rfl 0 rfl ?_
      refine r_getI (pc := 116) E fd_13_61 wf_RX13_443 dX13_sayTable_116 (fun v116 => ?_)
      refine r_icmp_ne (pc := 119) (tgt := 140) E dX13_sayTable_119 (by decide) ?_ ?_
      · refine r_aload_n (pc := 140) E dX13_sayTable_140 rfl 0 rfl ?_
        refine r_aload_n (pc := 141) E dX13_sayTable_141 rfl 0 rfl ?_
        refine r_getI (pc := 142) E fd_13_61 wf_RX13_443 dX13_sayTable_142 (fun v142 => ?_)
        refine r_bipush (pc := 145) (v := 32) E dX13_sayTable_145 (by decide) ?_
        refine r_icmp_ge (pc := 147) (tgt := 154) E dX13_sayTable_147 (by decide) ?_ ?_
        · refine r_aload_n (pc := 154) E dX13_sayTable_154 rfl 0 rfl ?_
          refine r_getI (pc := 155) E fd_13_61 wf_RX13_443 dX13_sayTable_155 (fun v155 => ?_)
          refine r_sipush (pc := 158) (v := 128) E dX13_sayTable_158 (by decide) ?_
          refine r_icmp_ge (pc := 161) (tgt := 169) E dX13_sayTable_161 (by decide) ?_ ?_
          · refine r_bipush (pc := 169) (v := 7) E dX13_sayTable_169 (by decide) ?_
            exact r_sub [0, 1] [] [0] rfl rfl rfl (hL171 p0 p2 p3 p0 7 _)
          · refine r_bipush (pc := 164) (v := 6) E dX13_sayTable_164 (by decide) ?_
            refine r_goto (pc := 166) (tgt := 171) E dX13_sayTable_166 (by decide) ?_
            exact r_sub [0, 1] [] [0] rfl rfl rfl (hL171 p0 p2 p3 p0 6 _)
        · refine r_iconst (pc := 150) (v := 5) E dX13_sayTable_150 (by decide) ?_
          refine r_goto (pc := 151) (tgt := 171) E dX13_sayTable_151 (by decide) ?_
          exact r_sub [0, 1] [] [0] rfl rfl rfl (hL171 p0 p2 p3 p0 5 _)
      · refine r_aload_n (pc := 122) E dX13_sayTable_122 rfl 0 rfl ?_
        refine r_bipush (pc := 123) (v := 7) E dX13_sayTable_123 (by decide) ?_
        refine r_iload_n (pc := 125) E dX13_sayTable_125 rfl 0 rfl ?_
        refine r_iadd (pc := 126) E dX13_sayTable_126 ?_
        refine r_iload_n (pc := 127) E dX13_sayTable_127 rfl 1 rfl ?_
        refine r_kVv (pc := 128) (As := [.int (7 + p2), .int p3]) (rest := []) E wc_X13_alone wi_RX13 hd_X13_alone (ci := 13) rfl wl_RX13_373 wn_X13_alone ws_X13_alone dX13_sayTable_128 (by decide) (Nat.le_of_ble_eq_true rfl) ⟨rfl, rfl⟩ (ctX13_alone l x _ _ _ _) rfl (fun v128 M128 => ?_)
        refine r_aload_n (pc := 131) E dX13_sayTable_131 rfl 0 rfl ?_
        refine r_iload_n (pc := 132) E dX13_sayTable_132 rfl 1 rfl ?_
        refine r_i2l (pc := 133) E dX13_sayTable_133 ?_
        refine r_iconst (pc := 134) (v := 1) E dX13_sayTable_134 (by decide) ?_
        refine r_kVv (pc := 135) (As := [.long p3.toInt64, .int 1]) (rest := []) E wc_X13_say wi_RX13 hd_X13_say (ci := 13) rfl wl_RX13_418 wn_X13_say ws_X13_say dX13_sayTable_135 (by decide) (Nat.le_of_ble_eq_true rfl) ⟨rfl, rfl⟩ (ctX13_say l x _ _ _ _) rfl (fun v135 M135 => ?_)
        refine r_iconst (pc := 138) (v := 1) E dX13_sayTable_138 (by decide) ?_
        exact e_int (pc := 139) E dX13_sayTable_139
    · refine r_aload_n (pc := 64) E dX13_sayTable_64 rfl 0 rfl ?_
      refine r_getA (pc := 65) E fd_13_65 wf_RX13_129 dX13_sayTable_65 (fun v65 => ?_)
      refine r_sipush (pc := 68) (v := 600) E dX13_sayTable_68 (by decide) ?_
      refine r_iload_n (pc := 71) E dX13_sayTable_71 rfl 0 rfl ?_
      refine r_imul (pc := 72) E dX13_sayTable_72 ?_
      refine r_iload (pc := 73) E dX13_sayTable_73 2 rfl ?_
      refine r_iadd (pc := 75) E dX13_sayTable_75 ?_
      refine r_iaload (pc := 76) E dX13_sayTable_76 (fun v76 => ?_)
      refine r_istore (pc := 77) (lf := fun v77 => [(5, v77), (2, p2), (3, p3), (4, p4)]) (lg := fun v77 => []) (lk := fun v77 => [(0, p0)]) E dX13_sayTable_77 (by decide) (fun _ => rfl) (fun _ => rfl) (fun _ => rfl) (fun v77 => ?_)
      refine r_aload_n (pc := 79) E dX13_sayTable_79 rfl 0 rfl ?_
      refine r_getA (pc := 80) E fd_13_69 wf_RX13_138 dX13_sayTable_80 (fun v80 => ?_)
      refine r_iload (pc := 83) E dX13_sayTable_83 0 rfl ?_
      refine r_dup2 (pc := 85) E dX13_sayTable_85 rfl (rv_cat _ _) ?_
      refine r_iaload (pc := 86) E dX13_sayTable_86 (fun v86 => ?_)
      refine r_iconst (pc := 87) (v := 1) E dX13_sayTable_87 (by decide) ?_
      refine r_iadd (pc := 88) E dX13_sayTable_88 ?_
      refine r_iastore (pc := 89) E dX13_sayTable_89 (fun M89 => ?_)
      refine r_iload (pc := 90) E dX13_sayTable_90 0 rfl ?_
      refine r_iload_n (pc := 92) E dX13_sayTable_92 rfl 2 rfl ?_
      refine r_icmp_le (pc := 93) (tgt := 101) E dX13_sayTable_93 (by decide) ?_ ?_
      · refine r_iload_n (pc := 101) E dX13_sayTable_101 rfl 2 rfl ?_
        exact r_sub [1, 3] [] [0] rfl rfl rfl (hL102 k55 hk55 p0 p2 p4 p3 _)
      · refine r_iload (pc := 96) E dX13_sayTable_96 0 rfl ?_
        refine r_goto (pc := 98) (tgt := 102) E dX13_sayTable_98 (by decide) ?_
        exact r_sub [1, 3] [] [0] rfl rfl rfl (hL102 k55 hk55 p0 p2 p4 v77 _)
  have hL30 : ∀ (p0 : Option Nat) (p2 : Int32) (p3 : Int32) (p4 : Int32) (M : Mem), RT p l e rmX13_sayTable s m args below meth c x 7 (QM below args s x (fun v : Int32 => some (.int v)) rmX13_sayTable.cells rmX13_sayTable.slots) 0 0 (fX13_sayTable_L30 p0 p2 p3 p4 M) 30 [(2, p2), (3, p3), (4, p4)] [] [(0, p0)] [] M := by
    intro p0 p2 p3 p4 M
    refine r_lp (fi := fun a : Option Nat × Int32 × Int32 × Int32 => [(2, a.2.1), (3, a.2.2.1), (4, a.2.2.2)]) (fl := fun a : Option Nat × Int32 × Int32 × Int32 => []) (fr := fun a : Option Nat × Int32 × Int32 × Int32 => [(0, a.1)]) (fs := fun a : Option Nat × Int32 × Int32 × Int32 => []) ?_ FU ((p0, p2, p3, p4)) M
    intro k30 hk30 a M
    obtain ⟨p0, p2, p3, p4⟩ := a
    show RT p l e rmX13_sayTable s m args below meth c x 7 (QM below args s x (fun v : Int32 => some (.int v)) rmX13_sayTable.cells rmX13_sayTable.slots) 0 0 (fX13_sayTable_B30 k30 p0 p2 p3 p4 M) 30 [(2, p2), (3, p3), (4, p4)] [] [(0, p0)] [] M
    unfold fX13_sayTable_B30
    refine r_iload (pc := 30) E dX13_sayTable_30 2 rfl ?_
    refine r_sipush (pc := 32) (v := 256) E dX13_sayTable_32 (by decide) ?_
    refine r_icmp_ge (pc := 35) (tgt := 52) E dX13_sayTable_35 (by decide) ?_ ?_
    · refine r_iconst (pc := 52) (v := 0) E dX13_sayTable_52 (by decide) ?_
      refine r_istore (pc := 53) (lf := fun v53 => [(4, v53), (2, p2), (3, p3)]) (lg := fun v53 => []) (lk := fun v53 => [(0, p0)]) E dX13_sayTable_53 (by decide) (fun _ => rfl) (fun _ => rfl) (fun _ => rfl) (fun v53 => ?_)
      exact r_sub [1, 2, 0] [] [0] rfl rfl rfl (hL55 p0 p2 p3 v53 _)
    · refine r_aload_n (pc := 38) E dX13_sayTable_38 rfl 0 rfl ?_
      refine r_getA (pc := 39) E fd_13_69 wf_RX13_138 dX13_sayTable_39 (fun v39 => ?_)
      refine r_iload (pc := 42) E dX13_sayTable_42 2 rfl ?_
      refine r_iconst (pc := 44) (v := 0) E dX13_sayTable_44 (by decide) ?_
      refine r_iastore (pc := 45) E dX13_sayTable_45 (fun M45 => ?_)
      refine r_iinc (pc := 46) (w := 1) (lf := fun v46 => [(4, v46), (2, p2), (3, p3)]) (ll' := []) (lr' := [(0, p0)]) E dX13_sayTable_46 2 rfl (by decide) (by decide) (fun _ => rfl) rfl rfl (fun v46 => ?_)
      refine r_goto (pc := 49) (tgt := 30) E dX13_sayTable_49 (by decide) ?_
      exact r_sub [1, 2, 0] [] [0] rfl rfl rfl (hk30 ((p0, p2, p3, v46)) _)
  show RT p l e rmX13_sayTable s m args below meth c x 7 (QM below args s x (fun v : Int32 => some (.int v)) rmX13_sayTable.cells rmX13_sayTable.slots) 0 0 (fX13_sayTable a0 a1 a2 M) 0 [(1, a1), (2, a2)] [] [(0, a0)] [] M
  unfold fX13_sayTable
  refine r_iload_n (pc := 0) E dX13_sayTable_0 rfl 0 rfl ?_
  refine r_iconst (pc := 1) (v := 1) E dX13_sayTable_1 (by decide) ?_
  refine r_icmp_eq (pc := 2) (tgt := 14) E dX13_sayTable_2 (by decide) ?_ ?_
  · exact r_sub [1] [] [0] rfl rfl rfl (hL14 a0 a2 _)
  · refine r_aload_n (pc := 5) E dX13_sayTable_5 rfl 0 rfl ?_
    refine r_getI (pc := 6) E fd_13_61 wf_RX13_443 dX13_sayTable_6 (fun v6 => ?_)
    refine r_bipush (pc := 9) (v := 8) E dX13_sayTable_9 (by decide) ?_
    refine r_icmp_ge (pc := 11) (tgt := 25) E dX13_sayTable_11 (by decide) ?_ ?_
    · refine r_iconst (pc := 25) (v := 0) E dX13_sayTable_25 (by decide) ?_
      refine r_istore_n (pc := 26) (lf := fun v26 => [(3, v26), (1, a1), (2, a2)]) (lg := fun v26 => []) (lk := fun v26 => [(0, a0)]) E dX13_sayTable_26 rfl (by decide) (fun _ => rfl) (fun _ => rfl) (fun _ => rfl) (fun v26 => ?_)
      refine r_iconst (pc := 27) (v := 0) E dX13_sayTable_27 (by decide) ?_
      refine r_istore (pc := 28) (lf := fun v28 => [(4, v28), (3, v26), (1, a1), (2, a2)]) (lg := fun v28 => []) (lk := fun v28 => [(0, a0)]) E dX13_sayTable_28 (by decide) (fun _ => rfl) (fun _ => rfl) (fun _ => rfl) (fun v28 => ?_)
      exact r_sub [3, 1, 0] [] [0] rfl rfl rfl (hL30 a0 a2 v26 v28 _)
    · exact r_sub [1] [] [0] rfl rfl rfl (hL14 a0 a2 _)
def fX13_states_L171 (k29 : Option Nat × Int32 × Int32 × Int32 × Int32 → Mem → Option (Unit × Mem)) (p0 : Option Nat) (p1 : Int32) (p2 : Int32) (p3 : Int32) (p4 : Int32) (p6 : Int32) (M : Mem) : Option (Unit × Mem) :=
  bo (gR M p0 13 66) fun v172 =>
  bo (wI M v172 ((600 * p1) + p4) p6) fun M185 =>
  bn (p4 + (-1)) fun v186 =>
  k29 ((p0, p1, p2, p3, v186)) M185
def fX13_states_L165 (k29 : Option Nat × Int32 × Int32 × Int32 × Int32 → Mem → Option (Unit × Mem)) (k55 : Option Nat × Int32 × Int32 × Int32 × Int32 × Int32 × Int32 × Int32 → Mem → Option (Unit × Mem)) (p0 : Option Nat) (p1 : Int32) (p2 : Int32) (p3 : Int32) (p4 : Int32) (p5 : Int32) (p6 : Int32) (p7 : Int32) (M : Mem) : Option (Unit × Mem) :=
  bn (p7 + 1) fun v165 =>
  k55 ((p0, p1, p2, p3, p4, p5, p6, v165)) M
def fX13_states_L163 (k29 : Option Nat × Int32 × Int32 × Int32 × Int32 → Mem → Option (Unit × Mem)) (k55 : Option Nat × Int32 × Int32 × Int32 × Int32 × Int32 × Int32 × Int32 → Mem → Option (Unit × Mem)) (p0 : Option Nat) (p1 : Int32) (p2 : Int32) (p3 : Int32) (p4 : Int32) (p5 : Int32) (p7 : Int32) (q0 : Int32) (M : Mem) : Option (Unit × Mem) :=
  bn (q0) fun v163 =>
  fX13_states_L165 k29 k55 p0 p1 p2 p3 p4 p5 v163 p7 M
def fX13_states_L157 (k29 : Option Nat × Int32 × Int32 × Int32 × Int32 → Mem → Option (Unit × Mem)) (k55 : Option Nat × Int32 × Int32 × Int32 × Int32 × Int32 × Int32 × Int32 → Mem → Option (Unit × Mem)) (p0 : Option Nat) (p1 : Int32) (p2 : Int32) (p3 : Int32) (p4 : Int32) (p5 : Int32) (p7 : Int32) (M : Mem) : Option (Unit × Mem) :=
  fX13_states_L163 k29 k55 p0 p1 p2 p3 p4 p5 p7 p7 M
def fX13_states_L162 (k29 : Option Nat × Int32 × Int32 × Int32 × Int32 → Mem → Option (Unit × Mem)) (k55 : Option Nat × Int32 × Int32 × Int32 × Int32 × Int32 × Int32 × Int32 → Mem → Option (Unit × Mem)) (p0 : Option Nat) (p1 : Int32) (p2 : Int32) (p3 : Int32) (p4 : Int32) (p5 : Int32) (p7 : Int32) (M : Mem) : Option (Unit × Mem) :=
  fX13_states_L163 k29 k55 p0 p1 p2 p3 p4 p5 p7 ((-1)) M
def fX13_states_L123 (k29 : Option Nat × Int32 × Int32 × Int32 × Int32 → Mem → Option (Unit × Mem)) (k55 : Option Nat × Int32 × Int32 × Int32 × Int32 × Int32 × Int32 × Int32 → Mem → Option (Unit × Mem)) (p0 : Option Nat) (p1 : Int32) (p2 : Int32) (p3 : Int32) (p4 : Int32) (p5 : Int32) (p7 : Int32) (q0 : Int32) (M : Mem) : Option (Unit × Mem) :=
  bn (q0) fun v123 =>
  bo (gI M p0 13 61) fun v128 =>
  if p4 = (v128 - 1) then (
    fX13_states_L157 k29 k55 p0 p1 p2 p3 p4 p5 p7 M
  ) else (
    if v123 < 0 then (
      fX13_states_L162 k29 k55 p0 p1 p2 p3 p4 p5 p7 M
    ) else (
      bo (gR M p0 13 15) fun v145 =>
      bo (aI M v145 14 (p2 + p7)) fun v152 =>
      if (shlI 1 v152) ≤ v123 then (
        fX13_states_L162 k29 k55 p0 p1 p2 p3 p4 p5 p7 M
      ) else (
        fX13_states_L157 k29 k55 p0 p1 p2 p3 p4 p5 p7 M
      )
    )
  )
def fX13_states_B55 (k29 : Option Nat × Int32 × Int32 × Int32 × Int32 → Mem → Option (Unit × Mem)) (k55 : Option Nat × Int32 × Int32 × Int32 × Int32 × Int32 × Int32 × Int32 → Mem → Option (Unit × Mem)) (p0 : Option Nat) (p1 : Int32) (p2 : Int32) (p3 : Int32) (p4 : Int32) (p5 : Int32) (p6 : Int32) (p7 : Int32) (M : Mem) : Option (Unit × Mem) :=
  if p3 ≤ p7 then (
    fX13_states_L171 k29 p0 p1 p2 p3 p4 p6 M
  ) else (
    if 0 ≤ p6 then (
      fX13_states_L171 k29 p0 p1 p2 p3 p4 p6 M
    ) else (
      bo (gR M p0 13 14) fun v67 =>
      bo (aI M v67 17 (p2 + p7)) fun v74 =>
      if v74 = p5 then (
        bo (gI M p0 13 61) fun v86 =>
        if p4 = (v86 - 1) then (
          fX13_states_L123 k29 k55 p0 p1 p2 p3 p4 p5 p7 0 M
        ) else (
          bo (gR M p0 13 66) fun v99 =>
          bo (aI M v99 15 (((600 * p1) + p4) + 1)) fun v112 =>
          bo (gR M p0 13 16) fun v114 =>
          bo (aI M v114 15 (p2 + p7)) fun v121 =>
          fX13_states_L123 k29 k55 p0 p1 p2 p3 p4 p5 p7 (v112 - v121) M
        )
      ) else (
        fX13_states_L165 k29 k55 p0 p1 p2 p3 p4 p5 p6 p7 M
      )
    )
  )
def fX13_states_L55 (k29 : Option Nat × Int32 × Int32 × Int32 × Int32 → Mem → Option (Unit × Mem)) (p0 : Option Nat) (p1 : Int32) (p2 : Int32) (p3 : Int32) (p4 : Int32) (p5 : Int32) (p6 : Int32) (p7 : Int32) (M : Mem) : Option (Unit × Mem) :=
  lp (fun k55 (a : Option Nat × Int32 × Int32 × Int32 × Int32 × Int32 × Int32 × Int32) M => fX13_states_B55 k29 k55 a.1 a.2.1 a.2.2.1 a.2.2.2.1 a.2.2.2.2.1 a.2.2.2.2.2.1 a.2.2.2.2.2.2.1 a.2.2.2.2.2.2.2 M) FU ((p0, p1, p2, p3, p4, p5, p6, p7)) M
def fX13_states_B29 (k29 : Option Nat × Int32 × Int32 × Int32 × Int32 → Mem → Option (Unit × Mem)) (p0 : Option Nat) (p1 : Int32) (p2 : Int32) (p3 : Int32) (p4 : Int32) (M : Mem) : Option (Unit × Mem) :=
  if p4 < 0 then (
    some ((), M)
  ) else (
    bo (gR M p0 13 65) fun v35 =>
    bo (aI M v35 15 ((600 * p1) + p4)) fun v46 =>
    bn (v46) fun v47 =>
    bn ((-1)) fun v50 =>
    bn (0) fun v53 =>
    fX13_states_L55 k29 p0 p1 p2 p3 p4 v47 v50 v53 M
  )
def fX13_states_L29 (p0 : Option Nat) (p1 : Int32) (p2 : Int32) (p3 : Int32) (p4 : Int32) (M : Mem) : Option (Unit × Mem) :=
  lp (fun k29 (a : Option Nat × Int32 × Int32 × Int32 × Int32) M => fX13_states_B29 k29 a.1 a.2.1 a.2.2.1 a.2.2.2.1 a.2.2.2.2 M) FU ((p0, p1, p2, p3, p4)) M
def fX13_states (a0 : Option Nat) (a1 : Int32) (M : Mem) : Option (Unit × Mem) :=
  bn (512 * (7 + a1)) fun v8 =>
  bo (gR M a0 13 17) fun v11 =>
  bo (aI M v11 15 (7 + a1)) fun v18 =>
  bn (shlI 1 v18) fun v20 =>
  bo (gI M a0 13 61) fun v22 =>
  bn (v22 - 1) fun v27 =>
  fX13_states_L29 a0 a1 v8 v20 v27 M
def rmX13_states : Room := { frames := 0, cells := 0, slots := 0, locals := 0 }
set_option maxRecDepth 100000 in
set_option maxHeartbeats 4000000 in
theorem ctX13_states (l : Launch) (x : Cx) (a0 : Option Nat) (a1 : Int32) (M : Mem) (v : Unit) (N : Mem) (h : fX13_states a0 a1 M = some (v, N)) : CT l yX13_states cX13_states 9 (none) rmX13_states x [rv x a0, .int a1] M none N := by
  refine ct_mk (enc := fun _ : Unit => none) (li := [(1, a1)]) (ll := []) (lr := [(0, a0)]) (by decide +kernel) (by simp [lg_sl, rv_cat, cat_int, cat_long]) (by simp [flat, lv_args, rv_cat, cat_int, cat_long]) h ?_
  intro p e s m args below meth c E
  have hL171 : ∀ (k29 : Option Nat × Int32 × Int32 × Int32 × Int32 → Mem → Option (Unit × Mem)) (hk29 : ∀ a M, RT p l e rmX13_states s m args below meth c x 9 (QM below args s x (fun _ : Unit => none) rmX13_states.cells rmX13_states.slots) 0 0 (k29 a M) 29 [(1, a.2.1), (2, a.2.2.1), (3, a.2.2.2.1), (4, a.2.2.2.2)] [] [(0, a.1)] [] M) (p0 : Option Nat) (p1 : Int32) (p2 : Int32) (p3 : Int32) (p4 : Int32) (p6 : Int32) (M : Mem), RT p l e rmX13_states s m args below meth c x 9 (QM below args s x (fun _ : Unit => none) rmX13_states.cells rmX13_states.slots) 0 0 (fX13_states_L171 k29 p0 p1 p2 p3 p4 p6 M) 171 [(1, p1), (2, p2), (3, p3), (4, p4), (6, p6)] [] [(0, p0)] [] M := by
    intro k29 hk29 p0 p1 p2 p3 p4 p6 M
    unfold fX13_states_L171
    refine r_aload_n (pc := 171) E dX13_states_171 rfl 0 rfl ?_
    refine r_getA (pc := 172) E fd_13_66 wf_RX13_132 dX13_states_172 (fun v172 => ?_)
    refine r_sipush (pc := 175) (v := 600) E dX13_states_175 (by decide) ?_
    refine r_iload_n (pc := 178) E dX13_states_178 rfl 0 rfl ?_
    refine r_imul (pc := 179) E dX13_states_179 ?_
    refine r_iload (pc := 180) E dX13_states_180 3 rfl ?_
    refine r_iadd (pc := 182) E dX13_states_182 ?_
    refine r_iload (pc := 183) E dX13_states_183 4 rfl ?_
    refine r_iastore (pc := 185) E dX13_states_185 (fun M185 => ?_)
    refine r_iinc (pc := 186) (w := (-1)) (lf := fun v186 => [(4, v186), (1, p1), (2, p2), (3, p3), (6, p6)]) (ll' := []) (lr' := [(0, p0)]) E dX13_states_186 3 rfl (by decide) (by decide) (fun _ => rfl) rfl rfl (fun v186 => ?_)
    refine r_goto (pc := 189) (tgt := 29) E dX13_states_189 (by decide) ?_
    exact r_sub [1, 2, 3, 0] [] [0] rfl rfl rfl (hk29 ((p0, p1, p2, p3, v186)) _)
  have hL165 : ∀ (k29 : Option Nat × Int32 × Int32 × Int32 × Int32 → Mem → Option (Unit × Mem)) (hk29 : ∀ a M, RT p l e rmX13_states s m args below meth c x 9 (QM below args s x (fun _ : Unit => none) rmX13_states.cells rmX13_states.slots) 0 0 (k29 a M) 29 [(1, a.2.1), (2, a.2.2.1), (3, a.2.2.2.1), (4, a.2.2.2.2)] [] [(0, a.1)] [] M) (k55 : Option Nat × Int32 × Int32 × Int32 × Int32 × Int32 × Int32 × Int32 → Mem → Option (Unit × Mem)) (hk55 : ∀ a M, RT p l e rmX13_states s m args below meth c x 9 (QM below args s x (fun _ : Unit => none) rmX13_states.cells rmX13_states.slots) 0 0 (k55 a M) 55 [(1, a.2.1), (2, a.2.2.1), (3, a.2.2.2.1), (4, a.2.2.2.2.1), (5, a.2.2.2.2.2.1), (6, a.2.2.2.2.2.2.1), (7, a.2.2.2.2.2.2.2)] [] [(0, a.1)] [] M) (p0 : Option Nat) (p1 : Int32) (p2 : Int32) (p3 : Int32) (p4 : Int32) (p5 : Int32) (p6 : Int32) (p7 : Int32) (M : Mem), RT p l e rmX13_states s m args below meth c x 9 (QM below args s x (fun _ : Unit => none) rmX13_states.cells rmX13_states.slots) 0 0 (fX13_states_L165 k29 k55 p0 p1 p2 p3 p4 p5 p6 p7 M) 165 [(1, p1), (2, p2), (3, p3), (4, p4), (5, p5), (6, p6), (7, p7)] [] [(0, p0)] [] M := by
    intro k29 hk29 k55 hk55 p0 p1 p2 p3 p4 p5 p6 p7 M
    unfold fX13_states_L165
    refine r_iinc (pc := 165) (w := 1) (lf := fun v165 => [(7, v165), (1, p1), (2, p2), (3, p3), (4, p4), (5, p5), (6, p6)]) (ll' := []) (lr' := [(0, p0)]) E dX13_states_165 6 rfl (by decide) (by decide) (fun _ => rfl) rfl rfl (fun v165 => ?_)
    refine r_goto (pc := 168) (tgt := 55) E dX13_states_168 (by decide) ?_
    exact r_sub [1, 2, 3, 4, 5, 6, 0] [] [0] rfl rfl rfl (hk55 ((p0, p1, p2, p3, p4, p5, p6, v165)) _)
  have hL163 : ∀ (k29 : Option Nat × Int32 × Int32 × Int32 × Int32 → Mem → Option (Unit × Mem)) (hk29 : ∀ a M, RT p l e rmX13_states s m args below meth c x 9 (QM below args s x (fun _ : Unit => none) rmX13_states.cells rmX13_states.slots) 0 0 (k29 a M) 29 [(1, a.2.1), (2, a.2.2.1), (3, a.2.2.2.1), (4, a.2.2.2.2)] [] [(0, a.1)] [] M) (k55 : Option Nat × Int32 × Int32 × Int32 × Int32 × Int32 × Int32 × Int32 → Mem → Option (Unit × Mem)) (hk55 : ∀ a M, RT p l e rmX13_states s m args below meth c x 9 (QM below args s x (fun _ : Unit => none) rmX13_states.cells rmX13_states.slots) 0 0 (k55 a M) 55 [(1, a.2.1), (2, a.2.2.1), (3, a.2.2.2.1), (4, a.2.2.2.2.1), (5, a.2.2.2.2.2.1), (6, a.2.2.2.2.2.2.1), (7, a.2.2.2.2.2.2.2)] [] [(0, a.1)] [] M) (p0 : Option Nat) (p1 : Int32) (p2 : Int32) (p3 : Int32) (p4 : Int32) (p5 : Int32) (p7 : Int32) (q0 : Int32) (M : Mem), RT p l e rmX13_states s m args below meth c x 9 (QM below args s x (fun _ : Unit => none) rmX13_states.cells rmX13_states.slots) 0 0 (fX13_states_L163 k29 k55 p0 p1 p2 p3 p4 p5 p7 q0 M) 163 [(1, p1), (2, p2), (3, p3), (4, p4), (5, p5), (7, p7)] [] [(0, p0)] [.int q0] M := by
    intro k29 hk29 k55 hk55 p0 p1 p2 p3 p4 p5 p7 q0 M
    unfold fX13_states_L163
    refine r_istore (pc := 163) (lf := fun v163 => [(6, v163), (1, p1), (2, p2), (3, p3), (4, p4), (5, p5), (7, p7)]) (lg := fun v163 => []) (lk := fun v163 => [(0, p0)]) E dX13_states_163 (by decide) (fun _ => rfl) (fun _ => rfl) (fun _ => rfl) (fun v163 => ?_)
    exact r_sub [1, 2, 3, 4, 5, 0, 6] [] [0] rfl rfl rfl (hL165 k29 hk29 k55 hk55 p0 p1 p2 p3 p4 p5 v163 p7 _)
  have hL157 : ∀ (k29 : Option Nat × Int32 × Int32 × Int32 × Int32 → Mem → Option (Unit × Mem)) (hk29 : ∀ a M, RT p l e rmX13_states s m args below meth c x 9 (QM below args s x (fun _ : Unit => none) rmX13_states.cells rmX13_states.slots) 0 0 (k29 a M) 29 [(1, a.2.1), (2, a.2.2.1), (3, a.2.2.2.1), (4, a.2.2.2.2)] [] [(0, a.1)] [] M) (k55 : Option Nat × Int32 × Int32 × Int32 × Int32 × Int32 × Int32 × Int32 → Mem → Option (Unit × Mem)) (hk55 : ∀ a M, RT p l e rmX13_states s m args below meth c x 9 (QM below args s x (fun _ : Unit => none) rmX13_states.cells rmX13_states.slots) 0 0 (k55 a M) 55 [(1, a.2.1), (2, a.2.2.1), (3, a.2.2.2.1), (4, a.2.2.2.2.1), (5, a.2.2.2.2.2.1), (6, a.2.2.2.2.2.2.1), (7, a.2.2.2.2.2.2.2)] [] [(0, a.1)] [] M) (p0 : Option Nat) (p1 : Int32) (p2 : Int32) (p3 : Int32) (p4 : Int32) (p5 : Int32) (p7 : Int32) (M : Mem), RT p l e rmX13_states s m args below meth c x 9 (QM below args s x (fun _ : Unit => none) rmX13_states.cells rmX13_states.slots) 0 0 (fX13_states_L157 k29 k55 p0 p1 p2 p3 p4 p5 p7 M) 157 [(1, p1), (2, p2), (3, p3), (4, p4), (5, p5), (7, p7)] [] [(0, p0)] [] M := by
    intro k29 hk29 k55 hk55 p0 p1 p2 p3 p4 p5 p7 M
    unfold fX13_states_L157
    refine r_iload (pc := 157) E dX13_states_157 5 rfl ?_
    refine r_goto (pc := 159) (tgt := 163) E dX13_states_159 (by decide) ?_
    exact r_sub [0, 1, 2, 3, 4, 5] [] [0] rfl rfl rfl (hL163 k29 hk29 k55 hk55 p0 p1 p2 p3 p4 p5 p7 p7 _)
  have hL162 : ∀ (k29 : Option Nat × Int32 × Int32 × Int32 × Int32 → Mem → Option (Unit × Mem)) (hk29 : ∀ a M, RT p l e rmX13_states s m args below meth c x 9 (QM below args s x (fun _ : Unit => none) rmX13_states.cells rmX13_states.slots) 0 0 (k29 a M) 29 [(1, a.2.1), (2, a.2.2.1), (3, a.2.2.2.1), (4, a.2.2.2.2)] [] [(0, a.1)] [] M) (k55 : Option Nat × Int32 × Int32 × Int32 × Int32 × Int32 × Int32 × Int32 → Mem → Option (Unit × Mem)) (hk55 : ∀ a M, RT p l e rmX13_states s m args below meth c x 9 (QM below args s x (fun _ : Unit => none) rmX13_states.cells rmX13_states.slots) 0 0 (k55 a M) 55 [(1, a.2.1), (2, a.2.2.1), (3, a.2.2.2.1), (4, a.2.2.2.2.1), (5, a.2.2.2.2.2.1), (6, a.2.2.2.2.2.2.1), (7, a.2.2.2.2.2.2.2)] [] [(0, a.1)] [] M) (p0 : Option Nat) (p1 : Int32) (p2 : Int32) (p3 : Int32) (p4 : Int32) (p5 : Int32) (p7 : Int32) (M : Mem), RT p l e rmX13_states s m args below meth c x 9 (QM below args s x (fun _ : Unit => none) rmX13_states.cells rmX13_states.slots) 0 0 (fX13_states_L162 k29 k55 p0 p1 p2 p3 p4 p5 p7 M) 162 [(1, p1), (2, p2), (3, p3), (4, p4), (5, p5), (7, p7)] [] [(0, p0)] [] M := by
    intro k29 hk29 k55 hk55 p0 p1 p2 p3 p4 p5 p7 M
    unfold fX13_states_L162
    refine r_iconst (pc := 162) (v := (-1)) E dX13_states_162 (by decide) ?_
    exact r_sub [0, 1, 2, 3, 4, 5] [] [0] rfl rfl rfl (hL163 k29 hk29 k55 hk55 p0 p1 p2 p3 p4 p5 p7 ((-1)) _)
  have hL123 : ∀ (k29 : Option Nat × Int32 × Int32 × Int32 × Int32 → Mem → Option (Unit × Mem)) (hk29 : ∀ a M, RT p l e rmX13_states s m args below meth c x 9 (QM below args s x (fun _ : Unit => none) rmX13_states.cells rmX13_states.slots) 0 0 (k29 a M) 29 [(1, a.2.1), (2, a.2.2.1), (3, a.2.2.2.1), (4, a.2.2.2.2)] [] [(0, a.1)] [] M) (k55 : Option Nat × Int32 × Int32 × Int32 × Int32 × Int32 × Int32 × Int32 → Mem → Option (Unit × Mem)) (hk55 : ∀ a M, RT p l e rmX13_states s m args below meth c x 9 (QM below args s x (fun _ : Unit => none) rmX13_states.cells rmX13_states.slots) 0 0 (k55 a M) 55 [(1, a.2.1), (2, a.2.2.1), (3, a.2.2.2.1), (4, a.2.2.2.2.1), (5, a.2.2.2.2.2.1), (6, a.2.2.2.2.2.2.1), (7, a.2.2.2.2.2.2.2)] [] [(0, a.1)] [] M) (p0 : Option Nat) (p1 : Int32) (p2 : Int32) (p3 : Int32) (p4 : Int32) (p5 : Int32) (p7 : Int32) (q0 : Int32) (M : Mem), RT p l e rmX13_states s m args below meth c x 9 (QM below args s x (fun _ : Unit => none) rmX13_states.cells rmX13_states.slots) 0 0 (fX13_states_L123 k29 k55 p0 p1 p2 p3 p4 p5 p7 q0 M) 123 [(1, p1), (2, p2), (3, p3), (4, p4), (5, p5), (7, p7)] [] [(0, p0)] [.int q0] M := by
    intro k29 hk29 k55 hk55 p0 p1 p2 p3 p4 p5 p7 q0 M
    unfold fX13_states_L123
    refine r_istore (pc := 123) (lf := fun v123 => [(8, v123), (1, p1), (2, p2), (3, p3), (4, p4), (5, p5), (7, p7)]) (lg := fun v123 => []) (lk := fun v123 => [(0, p0)]) E dX13_states_123 (by decide) (fun _ => rfl) (fun _ => rfl) (fun _ => rfl) (fun v123 => ?_)
    refine r_iload (pc := 125) E dX13_states_125 4 rfl ?_
    refine r_aload_n (pc := 127) E dX13_states_127 rfl 0 rfl ?_
    refine r_getI (pc := 128) E fd_13_61 wf_RX13_443 dX13_states_128 (fun v128 => ?_)
    refine r_iconst (pc := 131) (v := 1) E dX13_states_131 (by decide) ?_
    refine r_isub (pc := 132) E dX13_states_132 ?_
    refine r_icmp_eq (pc := 133) (tgt := 157) E dX13_states_133 (by decide) ?_ ?_
    · exact r_sub [1, 2, 3, 4, 5, 6] [] [0] rfl rfl rfl (hL157 k29 hk29 k55 hk55 p0 p1 p2 p3 p4 p5 p7 _)
    · refine r_iload (pc := 136) E dX13_states_136 0 rfl ?_
      refine r_if_lt (pc := 138) (tgt := 162) E dX13_states_138 (by decide) ?_ ?_
      · exact r_sub [1, 2, 3, 4, 5, 6] [] [0] rfl rfl rfl (hL162 k29 hk29 k55 hk55 p0 p1 p2 p3 p4 p5 p7 _)
      · refine r_iload (pc := 141) E dX13_states_141 0 rfl ?_
        refine r_iconst (pc := 143) (v := 1) E dX13_states_143 (by decide) ?_
        refine r_aload_n (pc := 144) E dX13_states_144 rfl 0 rfl ?_
        refine r_getA (pc := 145) E fd_13_15 wf_RX13_31 dX13_states_145 (fun v145 => ?_)
        refine r_iload_n (pc := 148) E dX13_states_148 rfl 2 rfl ?_
        refine r_iload (pc := 149) E dX13_states_149 6 rfl ?_
        refine r_iadd (pc := 151) E dX13_states_151 ?_
        refine r_baload (pc := 152) E dX13_states_152 (fun v152 => ?_)
        refine r_ishl (pc := 153) E dX13_states_153 ?_
        refine r_icmp_ge (pc := 154) (tgt := 162) E dX13_states_154 (by decide) ?_ ?_
        · exact r_sub [1, 2, 3, 4, 5, 6] [] [0] rfl rfl rfl (hL162 k29 hk29 k55 hk55 p0 p1 p2 p3 p4 p5 p7 _)
        · exact r_sub [1, 2, 3, 4, 5, 6] [] [0] rfl rfl rfl (hL157 k29 hk29 k55 hk55 p0 p1 p2 p3 p4 p5 p7 _)
  have hL55 : ∀ (k29 : Option Nat × Int32 × Int32 × Int32 × Int32 → Mem → Option (Unit × Mem)) (hk29 : ∀ a M, RT p l e rmX13_states s m args below meth c x 9 (QM below args s x (fun _ : Unit => none) rmX13_states.cells rmX13_states.slots) 0 0 (k29 a M) 29 [(1, a.2.1), (2, a.2.2.1), (3, a.2.2.2.1), (4, a.2.2.2.2)] [] [(0, a.1)] [] M) (p0 : Option Nat) (p1 : Int32) (p2 : Int32) (p3 : Int32) (p4 : Int32) (p5 : Int32) (p6 : Int32) (p7 : Int32) (M : Mem), RT p l e rmX13_states s m args below meth c x 9 (QM below args s x (fun _ : Unit => none) rmX13_states.cells rmX13_states.slots) 0 0 (fX13_states_L55 k29 p0 p1 p2 p3 p4 p5 p6 p7 M) 55 [(1, p1), (2, p2), (3, p3), (4, p4), (5, p5), (6, p6), (7, p7)] [] [(0, p0)] [] M := by
    intro k29 hk29 p0 p1 p2 p3 p4 p5 p6 p7 M
    refine r_lp (fi := fun a : Option Nat × Int32 × Int32 × Int32 × Int32 × Int32 × Int32 × Int32 => [(1, a.2.1), (2, a.2.2.1), (3, a.2.2.2.1), (4, a.2.2.2.2.1), (5, a.2.2.2.2.2.1), (6, a.2.2.2.2.2.2.1), (7, a.2.2.2.2.2.2.2)]) (fl := fun a : Option Nat × Int32 × Int32 × Int32 × Int32 × Int32 × Int32 × Int32 => []) (fr := fun a : Option Nat × Int32 × Int32 × Int32 × Int32 × Int32 × Int32 × Int32 => [(0, a.1)]) (fs := fun a : Option Nat × Int32 × Int32 × Int32 × Int32 × Int32 × Int32 × Int32 => []) ?_ FU ((p0, p1, p2, p3, p4, p5, p6, p7)) M
    intro k55 hk55 a M
    obtain ⟨p0, p1, p2, p3, p4, p5, p6, p7⟩ := a
    show RT p l e rmX13_states s m args below meth c x 9 (QM below args s x (fun _ : Unit => none) rmX13_states.cells rmX13_states.slots) 0 0 (fX13_states_B55 k29 k55 p0 p1 p2 p3 p4 p5 p6 p7 M) 55 [(1, p1), (2, p2), (3, p3), (4, p4), (5, p5), (6, p6), (7, p7)] [] [(0, p0)] [] M
    unfold fX13_states_B55
    refine r_iload (pc := 55) E dX13_states_55 6 rfl ?_
    refine r_iload_n (pc := 57) E dX13_states_57 rfl 2 rfl ?_
    refine r_icmp_ge (pc := 58) (tgt := 171) E dX13_states_58 (by decide) ?_ ?_
    · exact r_sub [0, 1, 2, 3, 5] [] [0] rfl rfl rfl (hL171 k29 hk29 p0 p1 p2 p3 p4 p6 _)
    · refine r_iload (pc := 61) E dX13_states_61 5 rfl ?_
      refine r_if_ge (pc := 63) (tgt := 171) E dX13_states_63 (by decide) ?_ ?_
      · exact r_sub [0, 1, 2, 3, 5] [] [0] rfl rfl rfl (hL171 k29 hk29 p0 p1 p2 p3 p4 p6 _)
      · refine r_aload_n (pc := 66) E dX13_states_66 rfl 0 rfl ?_
        refine r_getA (pc := 67) E fd_13_14 wf_RX13_27 dX13_states_67 (fun v67 => ?_)
        refine r_iload_n (pc := 70) E dX13_states_70 rfl 1 rfl ?_
        refine r_iload (pc := 71) E dX13_states_71 6 rfl ?_
        refine r_iadd (pc := 73) E dX13_states_73 ?_
        refine r_saload (pc := 74) E dX13_states_74 (fun v74 => ?_)
        refine r_iload (pc := 75) E dX13_states_75 4 rfl ?_
        refine r_icmp_eq (pc := 77) (tgt := 83) E dX13_states_77 (by decide) ?_ ?_
        · refine r_iload (pc := 83) E dX13_states_83 3 rfl ?_
          refine r_aload_n (pc := 85) E dX13_states_85 rfl 0 rfl ?_
          refine r_getI (pc := 86) E fd_13_61 wf_RX13_443 dX13_states_86 (fun v86 => ?_)
          refine r_iconst (pc := 89) (v := 1) E dX13_states_89 (by decide) ?_
          refine r_isub (pc := 90) E dX13_states_90 ?_
          refine r_icmp_ne (pc := 91) (tgt := 98) E dX13_states_91 (by decide) ?_ ?_
          · refine r_aload_n (pc := 98) E dX13_states_98 rfl 0 rfl ?_
            refine r_getA (pc := 99) E fd_13_66 wf_RX13_132 dX13_states_99 (fun v99 => ?_)
            refine r_sipush (pc := 102) (v := 600) E dX13_states_102 (by decide) ?_
            refine r_iload_n (pc := 105) E dX13_states_105 rfl 0 rfl ?_
            refine r_imul (pc := 106) E dX13_states_106 ?_
            refine r_iload (pc := 107) E dX13_states_107 3 rfl ?_
            refine r_iadd (pc := 109) E dX13_states_109 ?_
            refine r_iconst (pc := 110) (v := 1) E dX13_states_110 (by decide) ?_
            refine r_iadd (pc := 111) E dX13_states_111 ?_
            refine r_iaload (pc := 112) E dX13_states_112 (fun v112 => ?_)
            refine r_aload_n (pc := 113) E dX13_states_113 rfl 0 rfl ?_
            refine r_getA (pc := 114) E fd_13_16 wf_RX13_34 dX13_states_114 (fun v114 => ?_)
            refine r_iload_n (pc := 117) E dX13_states_117 rfl 1 rfl ?_
            refine r_iload (pc := 118) E dX13_states_118 6 rfl ?_
            refine r_iadd (pc := 120) E dX13_states_120 ?_
            refine r_iaload (pc := 121) E dX13_states_121 (fun v121 => ?_)
            refine r_isub (pc := 122) E dX13_states_122 ?_
            exact r_sub [0, 1, 2, 3, 4, 6] [] [0] rfl rfl rfl (hL123 k29 hk29 k55 hk55 p0 p1 p2 p3 p4 p5 p7 (v112 - v121) _)
          · refine r_iconst (pc := 94) (v := 0) E dX13_states_94 (by decide) ?_
            refine r_goto (pc := 95) (tgt := 123) E dX13_states_95 (by decide) ?_
            exact r_sub [0, 1, 2, 3, 4, 6] [] [0] rfl rfl rfl (hL123 k29 hk29 k55 hk55 p0 p1 p2 p3 p4 p5 p7 0 _)
        · refine r_goto (pc := 80) (tgt := 165) E dX13_states_80 (by decide) ?_
          exact r_sub [0, 1, 2, 3, 4, 5, 6] [] [0] rfl rfl rfl (hL165 k29 hk29 k55 hk55 p0 p1 p2 p3 p4 p5 p6 p7 _)
  have hL29 : ∀ (p0 : Option Nat) (p1 : Int32) (p2 : Int32) (p3 : Int32) (p4 : Int32) (M : Mem), RT p l e rmX13_states s m args below meth c x 9 (QM below args s x (fun _ : Unit => none) rmX13_states.cells rmX13_states.slots) 0 0 (fX13_states_L29 p0 p1 p2 p3 p4 M) 29 [(1, p1), (2, p2), (3, p3), (4, p4)] [] [(0, p0)] [] M := by
    intro p0 p1 p2 p3 p4 M
    refine r_lp (fi := fun a : Option Nat × Int32 × Int32 × Int32 × Int32 => [(1, a.2.1), (2, a.2.2.1), (3, a.2.2.2.1), (4, a.2.2.2.2)]) (fl := fun a : Option Nat × Int32 × Int32 × Int32 × Int32 => []) (fr := fun a : Option Nat × Int32 × Int32 × Int32 × Int32 => [(0, a.1)]) (fs := fun a : Option Nat × Int32 × Int32 × Int32 × Int32 => []) ?_ FU ((p0, p1, p2, p3, p4)) M
    intro k29 hk29 a M
    obtain ⟨p0, p1, p2, p3, p4⟩ := a
    show RT p l e rmX13_states s m args below meth c x 9 (QM below args s x (fun _ : Unit => none) rmX13_states.cells rmX13_states.slots) 0 0 (fX13_states_B29 k29 p0 p1 p2 p3 p4 M) 29 [(1, p1), (2, p2), (3, p3), (4, p4)] [] [(0, p0)] [] M
    unfold fX13_states_B29
    refine r_iload (pc := 29) E dX13_states_29 3 rfl ?_
    refine r_if_lt (pc := 31) (tgt := 192) E dX13_states_31 (by decide) ?_ ?_
    · exact e_void (pc := 192) E dX13_states_192
    · refine r_aload_n (pc := 34) E dX13_states_34 rfl 0 rfl ?_
      refine r_getA (pc := 35) E fd_13_65 wf_RX13_129 dX13_states_35 (fun v35 => ?_)
      refine r_sipush (pc := 38) (v := 600) E dX13_states_38 (by decide) ?_
      refine r_iload_n (pc := 41) E dX13_states_41 rfl 0 rfl ?_
      refine r_imul (pc := 42) E dX13_states_42 ?_
      refine r_iload (pc := 43) E dX13_states_43 3 rfl ?_
      refine r_iadd (pc := 45) E dX13_states_45 ?_
      refine r_iaload (pc := 46) E dX13_states_46 (fun v46 => ?_)
      refine r_istore (pc := 47) (lf := fun v47 => [(5, v47), (1, p1), (2, p2), (3, p3), (4, p4)]) (lg := fun v47 => []) (lk := fun v47 => [(0, p0)]) E dX13_states_47 (by decide) (fun _ => rfl) (fun _ => rfl) (fun _ => rfl) (fun v47 => ?_)
      refine r_iconst (pc := 49) (v := (-1)) E dX13_states_49 (by decide) ?_
      refine r_istore (pc := 50) (lf := fun v50 => [(6, v50), (5, v47), (1, p1), (2, p2), (3, p3), (4, p4)]) (lg := fun v50 => []) (lk := fun v50 => [(0, p0)]) E dX13_states_50 (by decide) (fun _ => rfl) (fun _ => rfl) (fun _ => rfl) (fun v50 => ?_)
      refine r_iconst (pc := 52) (v := 0) E dX13_states_52 (by decide) ?_
      refine r_istore (pc := 53) (lf := fun v53 => [(7, v53), (6, v50), (5, v47), (1, p1), (2, p2), (3, p3), (4, p4)]) (lg := fun v53 => []) (lk := fun v53 => [(0, p0)]) E dX13_states_53 (by decide) (fun _ => rfl) (fun _ => rfl) (fun _ => rfl) (fun v53 => ?_)
      exact r_sub [3, 4, 5, 6, 2, 1, 0] [] [0] rfl rfl rfl (hL55 k29 hk29 p0 p1 p2 p3 p4 v47 v50 v53 _)
  show RT p l e rmX13_states s m args below meth c x 9 (QM below args s x (fun _ : Unit => none) rmX13_states.cells rmX13_states.slots) 0 0 (fX13_states a0 a1 M) 0 [(1, a1)] [] [(0, a0)] [] M
  unfold fX13_states
  refine r_sipush (pc := 0) (v := 512) E dX13_states_0 (by decide) ?_
  refine r_bipush (pc := 3) (v := 7) E dX13_states_3 (by decide) ?_
  refine r_iload_n (pc := 5) E dX13_states_5 rfl 0 rfl ?_
  refine r_iadd (pc := 6) E dX13_states_6 ?_
  refine r_imul (pc := 7) E dX13_states_7 ?_
  refine r_istore_n (pc := 8) (lf := fun v8 => [(2, v8), (1, a1)]) (lg := fun v8 => []) (lk := fun v8 => [(0, a0)]) E dX13_states_8 rfl (by decide) (fun _ => rfl) (fun _ => rfl) (fun _ => rfl) (fun v8 => ?_)
  refine r_iconst (pc := 9) (v := 1) E dX13_states_9 (by decide) ?_
  refine r_aload_n (pc := 10) E dX13_states_10 rfl 0 rfl ?_
  refine r_getA (pc := 11) E fd_13_17 wf_RX13_37 dX13_states_11 (fun v11 => ?_)
  refine r_bipush (pc := 14) (v := 7) E dX13_states_14 (by decide) ?_
  refine r_iload_n (pc := 16) E dX13_states_16 rfl 1 rfl ?_
  refine r_iadd (pc := 17) E dX13_states_17 ?_
  refine r_iaload (pc := 18) E dX13_states_18 (fun v18 => ?_)
  refine r_ishl (pc := 19) E dX13_states_19 ?_
  refine r_istore_n (pc := 20) (lf := fun v20 => [(3, v20), (2, v8), (1, a1)]) (lg := fun v20 => []) (lk := fun v20 => [(0, a0)]) E dX13_states_20 rfl (by decide) (fun _ => rfl) (fun _ => rfl) (fun _ => rfl) (fun v20 => ?_)
  refine r_aload_n (pc := 21) E dX13_states_21 rfl 0 rfl ?_
  refine r_getI (pc := 22) E fd_13_61 wf_RX13_443 dX13_states_22 (fun v22 => ?_)
  refine r_iconst (pc := 25) (v := 1) E dX13_states_25 (by decide) ?_
  refine r_isub (pc := 26) E dX13_states_26 ?_
  refine r_istore (pc := 27) (lf := fun v27 => [(4, v27), (3, v20), (2, v8), (1, a1)]) (lg := fun v27 => []) (lk := fun v27 => [(0, a0)]) E dX13_states_27 (by decide) (fun _ => rfl) (fun _ => rfl) (fun _ => rfl) (fun v27 => ?_)
  exact r_sub [3, 2, 1, 0] [] [0] rfl rfl rfl (hL29 a0 a1 v8 v20 v27 _)
def fX13_goOn (a0 : Option Nat) (a1 : Int32) (a2 : Int32) (M : Mem) : Option (Unit × Mem) :=
  bo (gR M a0 13 66) fun v9 =>
  bo (aI M v9 15 ((600 * a1) + a2)) fun v19 =>
  bn ((512 * (7 + a1)) + v19) fun v21 =>
  bo (gR M a0 13 66) fun v24 =>
  bo (aI M v24 15 (((600 * a1) + a2) + 1)) fun v36 =>
  bo (gR M a0 13 16) fun v38 =>
  bo (aI M v38 15 v21) fun v42 =>
  bo (gR M a0 13 15) fun v46 =>
  bo (aI M v46 14 v21) fun v50 =>
  bo (chk M a0 13) fun _ => bd (fX13_digit a0 ((v36 - v42).toInt64) v50 M) fun v51 M51 =>
  some ((), M51)
def rmX13_goOn : Room := { frames := 1, cells := 0, slots := 0, locals := 24 }
set_option maxRecDepth 100000 in
set_option maxHeartbeats 4000000 in
theorem ctX13_goOn (l : Launch) (x : Cx) (a0 : Option Nat) (a1 : Int32) (a2 : Int32) (M : Mem) (v : Unit) (N : Mem) (h : fX13_goOn a0 a1 a2 M = some (v, N)) : CT l yX13_goOn cX13_goOn 4 (none) rmX13_goOn x [rv x a0, .int a1, .int a2] M none N := by
  refine ct_mk (enc := fun _ : Unit => none) (li := [(1, a1), (2, a2)]) (ll := []) (lr := [(0, a0)]) (by decide +kernel) (by simp [lg_sl, rv_cat, cat_int, cat_long]) (by simp [flat, lv_args, rv_cat, cat_int, cat_long]) h ?_
  intro p e s m args below meth c E
  show RT p l e rmX13_goOn s m args below meth c x 4 (QM below args s x (fun _ : Unit => none) rmX13_goOn.cells rmX13_goOn.slots) 0 0 (fX13_goOn a0 a1 a2 M) 0 [(1, a1), (2, a2)] [] [(0, a0)] [] M
  unfold fX13_goOn
  refine r_sipush (pc := 0) (v := 512) E dX13_goOn_0 (by decide) ?_
  refine r_bipush (pc := 3) (v := 7) E dX13_goOn_3 (by decide) ?_
  refine r_iload_n (pc := 5) E dX13_goOn_5 rfl 0 rfl ?_
  refine r_iadd (pc := 6) E dX13_goOn_6 ?_
  refine r_imul (pc := 7) E dX13_goOn_7 ?_
  refine r_aload_n (pc := 8) E dX13_goOn_8 rfl 0 rfl ?_
  refine r_getA (pc := 9) E fd_13_66 wf_RX13_132 dX13_goOn_9 (fun v9 => ?_)
  refine r_sipush (pc := 12) (v := 600) E dX13_goOn_12 (by decide) ?_
  refine r_iload_n (pc := 15) E dX13_goOn_15 rfl 0 rfl ?_
  refine r_imul (pc := 16) E dX13_goOn_16 ?_
  refine r_iload_n (pc := 17) E dX13_goOn_17 rfl 1 rfl ?_
  refine r_iadd (pc := 18) E dX13_goOn_18 ?_
  refine r_iaload (pc := 19) E dX13_goOn_19 (fun v19 => ?_)
  refine r_iadd (pc := 20) E dX13_goOn_20 ?_
  refine r_istore_n (pc := 21) (lf := fun v21 => [(3, v21), (1, a1), (2, a2)]) (lg := fun v21 => []) (lk := fun v21 => [(0, a0)]) E dX13_goOn_21 rfl (by decide) (fun _ => rfl) (fun _ => rfl) (fun _ => rfl) (fun v21 => ?_)
  refine r_aload_n (pc := 22) E dX13_goOn_22 rfl 0 rfl ?_
  refine r_aload_n (pc := 23) E dX13_goOn_23 rfl 0 rfl ?_
  refine r_getA (pc := 24) E fd_13_66 wf_RX13_132 dX13_goOn_24 (fun v24 => ?_)
  refine r_sipush (pc := 27) (v := 600) E dX13_goOn_27 (by decide) ?_
  refine r_iload_n (pc := 30) E dX13_goOn_30 rfl 1 rfl ?_
  refine r_imul (pc := 31) E dX13_goOn_31 ?_
  refine r_iload_n (pc := 32) E dX13_goOn_32 rfl 2 rfl ?_
  refine r_iadd (pc := 33) E dX13_goOn_33 ?_
  refine r_iconst (pc := 34) (v := 1) E dX13_goOn_34 (by decide) ?_
  refine r_iadd (pc := 35) E dX13_goOn_35 ?_
  refine r_iaload (pc := 36) E dX13_goOn_36 (fun v36 => ?_)
  refine r_aload_n (pc := 37) E dX13_goOn_37 rfl 0 rfl ?_
  refine r_getA (pc := 38) E fd_13_16 wf_RX13_34 dX13_goOn_38 (fun v38 => ?_)
  refine r_iload_n (pc := 41) E dX13_goOn_41 rfl 0 rfl ?_
  refine r_iaload (pc := 42) E dX13_goOn_42 (fun v42 => ?_)
  refine r_isub (pc := 43) E dX13_goOn_43 ?_
  refine r_i2l (pc := 44) E dX13_goOn_44 ?_
  refine r_aload_n (pc := 45) E dX13_goOn_45 rfl 0 rfl ?_
  refine r_getA (pc := 46) E fd_13_15 wf_RX13_31 dX13_goOn_46 (fun v46 => ?_)
  refine r_iload_n (pc := 49) E dX13_goOn_49 rfl 0 rfl ?_
  refine r_baload (pc := 50) E dX13_goOn_50 (fun v50 => ?_)
  refine r_kVv (pc := 51) (As := [.long ((v36 - v42).toInt64), .int v50]) (rest := []) E wc_X13_digit wi_RX13 hd_X13_digit (ci := 13) rfl wl_RX13_473 wn_X13_digit ws_X13_digit dX13_goOn_51 (by decide) (Nat.le_of_ble_eq_true rfl) ⟨rfl, rfl⟩ (ctX13_digit l x _ _ _ _) rfl (fun v51 M51 => ?_)
  exact e_void (pc := 54) E dX13_goOn_54
def fX13_saySequences_L408 (k268 : Option Nat × Int32 → Mem → Option (Unit × Mem)) (p0 : Option Nat) (p4 : Int32) (M : Mem) : Option (Unit × Mem) :=
  bn (p4 + 1) fun v408 =>
  k268 ((p0, v408)) M
def fX13_saySequences_B268 (k268 : Option Nat × Int32 → Mem → Option (Unit × Mem)) (p0 : Option Nat) (p4 : Int32) (M : Mem) : Option (Unit × Mem) :=
  bo (gI M p0 13 61) fun v271 =>
  if v271 ≤ p4 then (
    bo (chk M p0 13) fun _ => bd (fX13_sayDigits p0 M) fun v415 M415 =>
    some ((), M415)
  ) else (
    bo (gR M p0 13 65) fun v278 =>
    bo (aI M v278 15 (600 + p4)) fun v287 =>
    bn (v287) fun v288 =>
    bo (gR M p0 13 65) fun v291 =>
    bo (aI M v291 15 (1200 + p4)) fun v300 =>
    bn (v300) fun v301 =>
    bo (gR M p0 13 65) fun v304 =>
    bo (aI M v304 15 p4) fun v309 =>
    bn (v309) fun v310 =>
    bo (gR M p0 13 64) fun v314 =>
    bo (aJ M v314 p4) fun v319 =>
    bo (chk M p0 13) fun _ => bd (fX13_digit p0 (v319 - (shlJ 1 v288)) v288 M) fun v327 M327 =>
    bo (gR M327 p0 13 63) fun v332 =>
    bo (aI M327 v332 15 p4) fun v337 =>
    bd (fX13_copyBase v301 M327) fun v340 M340 =>
    bd (fX13_copyBits v301 M340) fun v347 M347 =>
    bo (chk M347 p0 13) fun _ => bd (fX13_digit p0 ((v337 - v340).toInt64) v347 M347) fun v350 M350 =>
    bo (gR M350 p0 13 62) fun v355 =>
    bo (aI M350 v355 15 p4) fun v360 =>
    bd (fX13_letterBase v310 M350) fun v363 M363 =>
    bd (fX13_letterBits v310 M363) fun v370 M370 =>
    bo (chk M370 p0 13) fun _ => bd (fX13_digit p0 ((v360 - v363).toInt64) v370 M370) fun v373 M373 =>
    bo (gI M373 p0 13 61) fun v379 =>
    if (v379 - 1) ≤ p4 then (
      fX13_saySequences_L408 k268 p0 p4 M373
    ) else (
      bo (chk M373 p0 13) fun _ => bd (fX13_goOn p0 0 p4 M373) fun v391 M391 =>
      bo (chk M391 p0 13) fun _ => bd (fX13_goOn p0 2 p4 M391) fun v398 M398 =>
      bo (chk M398 p0 13) fun _ => bd (fX13_goOn p0 1 p4 M398) fun v405 M405 =>
      fX13_saySequences_L408 k268 p0 p4 M405
    )
  )
def fX13_saySequences_L268 (p0 : Option Nat) (p4 : Int32) (M : Mem) : Option (Unit × Mem) :=
  lp (fun k268 (a : Option Nat × Int32) M => fX13_saySequences_B268 k268 a.1 a.2 M) FU ((p0, p4)) M
def fX13_saySequences_B189 (k189 : Option Nat × Int32 → Mem → Option (Unit × Mem)) (p0 : Option Nat) (p4 : Int32) (M : Mem) : Option (Unit × Mem) :=
  if 3 ≤ p4 then (
    bo (gR M p0 13 66) fun v209 =>
    bo (aI M v209 15 0) fun v213 =>
    bo (gR M p0 13 17) fun v216 =>
    bo (aI M v216 15 7) fun v221 =>
    bo (chk M p0 13) fun _ => bd (fX13_digit p0 v213.toInt64 v221 M) fun v222 M222 =>
    bo (gR M222 p0 13 66) fun v227 =>
    bo (aI M222 v227 15 600) fun v233 =>
    bo (gR M222 p0 13 17) fun v236 =>
    bo (aI M222 v236 15 8) fun v241 =>
    bo (chk M222 p0 13) fun _ => bd (fX13_digit p0 v233.toInt64 v241 M222) fun v242 M242 =>
    bo (gR M242 p0 13 66) fun v247 =>
    bo (aI M242 v247 15 1200) fun v253 =>
    bo (gR M242 p0 13 17) fun v256 =>
    bo (aI M242 v256 15 9) fun v261 =>
    bo (chk M242 p0 13) fun _ => bd (fX13_digit p0 v253.toInt64 v261 M242) fun v262 M262 =>
    bn (0) fun v266 =>
    fX13_saySequences_L268 p0 v266 M262
  ) else (
    bo (chk M p0 13) fun _ => bd (fX13_states p0 p4 M) fun v198 M198 =>
    bn (p4 + 1) fun v201 =>
    k189 ((p0, v201)) M198
  )
def fX13_saySequences_L189 (p0 : Option Nat) (p4 : Int32) (M : Mem) : Option (Unit × Mem) :=
  lp (fun k189 (a : Option Nat × Int32) M => fX13_saySequences_B189 k189 a.1 a.2 M) FU ((p0, p4)) M
def fX13_saySequences_B148 (k148 : Option Nat × Int32 × Int32 × Int32 × Int32 → Mem → Option (Unit × Mem)) (p0 : Option Nat) (p1 : Int32) (p2 : Int32) (p3 : Int32) (p4 : Int32) (M : Mem) : Option (Unit × Mem) :=
  if 3 ≤ p4 then (
    bo (gR M p0 13 53) fun v179 =>
    bo (wB M v179 p2 (i2b p3)) fun M185 =>
    bn (0) fun v187 =>
    fX13_saySequences_L189 p0 v187 M185
  ) else (
    bo (chk M p0 13) fun _ => bd (fX13_sayTable p0 p1 p4 M) fun v159 M159 =>
    bn (p3 ||| (shlI v159 (6 - (2 * p4)))) fun v171 =>
    bn (p4 + 1) fun v172 =>
    k148 ((p0, p1, p2, v171, v172)) M159
  )
def fX13_saySequences_L148 (p0 : Option Nat) (p1 : Int32) (p2 : Int32) (p3 : Int32) (p4 : Int32) (M : Mem) : Option (Unit × Mem) :=
  lp (fun k148 (a : Option Nat × Int32 × Int32 × Int32 × Int32) M => fX13_saySequences_B148 k148 a.1 a.2.1 a.2.2.1 a.2.2.2.1 a.2.2.2.2 M) FU ((p0, p1, p2, p3, p4)) M
def fX13_saySequences_B65 (k65 : Option Nat × Int32 × Int32 → Mem → Option (Unit × Mem)) (p0 : Option Nat) (p1 : Int32) (p2 : Int32) (M : Mem) : Option (Unit × Mem) :=
  bo (gI M p0 13 61) fun v67 =>
  if v67 ≤ p2 then (
    bo (gI M p0 13 54) fun v133 =>
    bn (v133) fun v136 =>
    bo (chk M p0 13) fun _ => bd (fX13_say p0 0 1 M) fun v140 M140 =>
    bn (0) fun v144 =>
    bn (0) fun v146 =>
    fX13_saySequences_L148 p0 p1 v136 v144 v146 M140
  ) else (
    bo (gR M p0 13 65) fun v74 =>
    bo (gR M p0 13 62) fun v79 =>
    bo (aI M v79 15 p2) fun v83 =>
    bd (fX13_letterSymbol v83 M) fun v84 M84 =>
    bo (wI M84 v74 p2 v84) fun M87 =>
    bo (gR M87 p0 13 65) fun v89 =>
    bo (gR M87 p0 13 64) fun v98 =>
    bo (aJ M87 v98 p2) fun v102 =>
    bd (fX13_logLong v102 M87) fun v103 M103 =>
    bo (wI M103 v89 (600 + p2) v103) fun M106 =>
    bo (gR M106 p0 13 65) fun v108 =>
    bo (gR M106 p0 13 63) fun v117 =>
    bo (aI M106 v117 15 p2) fun v121 =>
    bd (fX13_copySymbol v121 M106) fun v122 M122 =>
    bo (wI M122 v108 (1200 + p2) v122) fun M125 =>
    bn (p2 + 1) fun v126 =>
    k65 ((p0, p1, v126)) M125
  )
def fX13_saySequences_L65 (p0 : Option Nat) (p1 : Int32) (p2 : Int32) (M : Mem) : Option (Unit × Mem) :=
  lp (fun k65 (a : Option Nat × Int32 × Int32) M => fX13_saySequences_B65 k65 a.1 a.2.1 a.2.2 M) FU ((p0, p1, p2)) M
def fX13_saySequences_L55 (p0 : Option Nat) (p1 : Int32) (M : Mem) : Option (Unit × Mem) :=
  bo (gI M p0 13 61) fun v56 =>
  if v56 = 0 then (
    some ((), M)
  ) else (
    bn (0) fun v64 =>
    fX13_saySequences_L65 p0 p1 v64 M
  )
def fX13_saySequences (a0 : Option Nat) (a1 : Int32) (M : Mem) : Option (Unit × Mem) :=
  bo (gI M a0 13 61) fun v1 =>
  if 128 ≤ v1 then (
    bo (gI M a0 13 61) fun v28 =>
    bo (dv v28 256) fun v34 =>
    bo (chk M a0 13) fun _ => bd (fX13_say a0 ((128 + v34).toInt64) 1 M) fun v38 M38 =>
    bo (gI M38 a0 13 61) fun v43 =>
    bo (rm v43 256) fun v49 =>
    bo (chk M38 a0 13) fun _ => bd (fX13_say a0 v49.toInt64 1 M38) fun v52 M52 =>
    fX13_saySequences_L55 a0 a1 M52
  ) else (
    bo (gI M a0 13 61) fun v12 =>
    bo (chk M a0 13) fun _ => bd (fX13_say a0 v12.toInt64 1 M) fun v17 M17 =>
    fX13_saySequences_L55 a0 a1 M17
  )
def rmX13_saySequences : Room := { frames := 4, cells := 0, slots := 0, locals := 102 }
set_option maxRecDepth 100000 in
set_option maxHeartbeats 4000000 in
theorem ctX13_saySequences (l : Launch) (x : Cx) (a0 : Option Nat) (a1 : Int32) (M : Mem) (v : Unit) (N : Mem) (h : fX13_saySequences a0 a1 M = some (v, N)) : CT l yX13_saySequences cX13_saySequences 8 (none) rmX13_saySequences x [rv x a0, .int a1] M none N := by
  refine ct_mk (enc := fun _ : Unit => none) (li := [(1, a1)]) (ll := []) (lr := [(0, a0)]) (by decide +kernel) (by simp [lg_sl, rv_cat, cat_int, cat_long]) (by simp [flat, lv_args, rv_cat, cat_int, cat_long]) h ?_
  intro p e s m args below meth c E
  have hL408 : ∀ (k268 : Option Nat × Int32 → Mem → Option (Unit × Mem)) (hk268 : ∀ a M, RT p l e rmX13_saySequences s m args below meth c x 8 (QM below args s x (fun _ : Unit => none) rmX13_saySequences.cells rmX13_saySequences.slots) 0 0 (k268 a M) 268 [(4, a.2)] [] [(0, a.1)] [] M) (p0 : Option Nat) (p4 : Int32) (M : Mem), RT p l e rmX13_saySequences s m args below meth c x 8 (QM below args s x (fun _ : Unit => none) rmX13_saySequences.cells rmX13_saySequences.slots) 0 0 (fX13_saySequences_L408 k268 p0 p4 M) 408 [(4, p4)] [] [(0, p0)] [] M := by
    intro k268 hk268 p0 p4 M
    unfold fX13_saySequences_L408
    refine r_iinc (pc := 408) (w := 1) (lf := fun v408 => [(4, v408)]) (ll' := []) (lr' := [(0, p0)]) E dX13_saySequences_408 0 rfl (by decide) (by decide) (fun _ => rfl) rfl rfl (fun v408 => ?_)
    refine r_goto (pc := 411) (tgt := 268) E dX13_saySequences_411 (by decide) ?_
    exact r_sub [0] [] [0] rfl rfl rfl (hk268 ((p0, v408)) _)
  have hL268 : ∀ (p0 : Option Nat) (p4 : Int32) (M : Mem), RT p l e rmX13_saySequences s m args below meth c x 8 (QM below args s x (fun _ : Unit => none) rmX13_saySequences.cells rmX13_saySequences.slots) 0 0 (fX13_saySequences_L268 p0 p4 M) 268 [(4, p4)] [] [(0, p0)] [] M := by
    intro p0 p4 M
    refine r_lp (fi := fun a : Option Nat × Int32 => [(4, a.2)]) (fl := fun a : Option Nat × Int32 => []) (fr := fun a : Option Nat × Int32 => [(0, a.1)]) (fs := fun a : Option Nat × Int32 => []) ?_ FU ((p0, p4)) M
    intro k268 hk268 a M
    obtain ⟨p0, p4⟩ := a
    show RT p l e rmX13_saySequences s m args below meth c x 8 (QM below args s x (fun _ : Unit => none) rmX13_saySequences.cells rmX13_saySequences.slots) 0 0 (fX13_saySequences_B268 k268 p0 p4 M) 268 [(4, p4)] [] [(0, p0)] [] M
    unfold fX13_saySequences_B268
    refine r_iload (pc := 268) E dX13_saySequences_268 0 rfl ?_
    refine r_aload_n (pc := 270) E dX13_saySequences_270 rfl 0 rfl ?_
    refine r_getI (pc := 271) E fd_13_61 wf_RX13_443 dX13_saySequences_271 (fun v271 => ?_)
    refine r_icmp_ge (pc := 274) (tgt := 414) E dX13_saySequences_274 (by decide) ?_ ?_
    · refine r_aload_n (pc := 414) E dX13_saySequences_414 rfl 0 rfl ?_
      refine r_kVv (pc := 415) (As := []) (rest := []) E wc_X13_sayDigits wi_RX13 hd_X13_sayDigits (ci := 13) rfl wl_RX13_476 wn_X13_sayDigits ws_X13_sayDigits dX13_saySequences_415 (by decide) (Nat.le_of_ble_eq_true rfl) ⟨rfl, rfl⟩ (ctX13_sayDigits l x _ _) rfl (fun v415 M415 => ?_)
      exact e_void (pc := 418) E dX13_saySequences_418
    · refine r_aload_n (pc := 277) E dX13_saySequences_277 rfl 0 rfl ?_
      refine r_getA (pc := 278) E fd_13_65 wf_RX13_129 dX13_saySequences_278 (fun v278 => ?_)
      refine r_sipush (pc := 281) (v := 600) E dX13_saySequences_281 (by decide) ?_
      refine r_iload (pc := 284) E dX13_saySequences_284 0 rfl ?_
      refine r_iadd (pc := 286) E dX13_saySequences_286 ?_
      refine r_iaload (pc := 287) E dX13_saySequences_287 (fun v287 => ?_)
      refine r_istore (pc := 288) (lf := fun v288 => [(5, v288), (4, p4)]) (lg := fun v288 => []) (lk := fun v288 => [(0, p0)]) E dX13_saySequences_288 (by decide) (fun _ => rfl) (fun _ => rfl) (fun _ => rfl) (fun v288 => ?_)
      refine r_aload_n (pc := 290) E dX13_saySequences_290 rfl 0 rfl ?_
      refine r_getA (pc := 291) E fd_13_65 wf_RX13_129 dX13_saySequences_291 (fun v291 => ?_)
      refine r_sipush (pc := 294) (v := 1200) E dX13_saySequences_294 (by decide) ?_
      refine r_iload (pc := 297) E dX13_saySequences_297 1 rfl ?_
      refine r_iadd (pc := 299) E dX13_saySequences_299 ?_
      refine r_iaload (pc := 300) E dX13_saySequences_300 (fun v300 => ?_)
      refine r_istore (pc := 301) (lf := fun v301 => [(6, v301), (5, v288), (4, p4)]) (lg := fun v301 => []) (lk := fun v301 => [(0, p0)]) E dX13_saySequences_301 (by decide) (fun _ => rfl) (fun _ => rfl) (fun _ => rfl) (fun v301 => ?_)
      refine r_aload_n (pc := 303) E dX13_saySequences_303 rfl 0 rfl ?_
      refine r_getA (pc := 304) E fd_13_65 wf_RX13_129 dX13_saySequences_304 (fun v304 => ?_)
      refine r_iload (pc := 307) E dX13_saySequences_307 2 rfl ?_
      refine r_iaload (pc := 309) E dX13_saySequences_309 (fun v309 => ?_)
      refine r_istore (pc := 310) (lf := fun v310 => [(7, v310), (6, v301), (5, v288), (4, p4)]) (lg := fun v310 => []) (lk := fun v310 => [(0, p0)]) E dX13_saySequences_310 (by decide) (fun _ => rfl) (fun _ => rfl) (fun _ => rfl) (fun v310 => ?_)
      refine r_aload_n (pc := 312) E dX13_saySequences_312 rfl 0 rfl ?_
      refine r_aload_n (pc := 313) E dX13_saySequences_313 rfl 0 rfl ?_
      refine r_getA (pc := 314) E fd_13_64 wf_RX13_126 dX13_saySequences_314 (fun v314 => ?_)
      refine r_iload (pc := 317) E dX13_saySequences_317 3 rfl ?_
      refine r_laload (pc := 319) E dX13_saySequences_319 (fun v319 => ?_)
      refine r_lconst (pc := 320) (v := 1) E dX13_saySequences_320 (by decide) ?_
      refine r_iload (pc := 321) E dX13_saySequences_321 2 rfl ?_
      refine r_lshl (pc := 323) E dX13_saySequences_323 ?_
      refine r_lsub (pc := 324) E dX13_saySequences_324 ?_
      refine r_iload (pc := 325) E dX13_saySequences_325 2 rfl ?_
      refine r_kVv (pc := 327) (As := [.long (v319 - (shlJ 1 v288)), .int v288]) (rest := []) E wc_X13_digit wi_RX13 hd_X13_digit (ci := 13) rfl wl_RX13_473 wn_X13_digit ws_X13_digit dX13_saySequences_327 (by decide) (Nat.le_of_ble_eq_true rfl) ⟨rfl, rfl⟩ (ctX13_digit l x _ _ _ _) rfl (fun v327 M327 => ?_)
      refine r_aload_n (pc := 330) E dX13_saySequences_330 rfl 0 rfl ?_
      refine r_aload_n (pc := 331) E dX13_saySequences_331 rfl 0 rfl ?_
      refine r_getA (pc := 332) E fd_13_63 wf_RX13_123 dX13_saySequences_332 (fun v332 => ?_)
      refine r_iload (pc := 335) E dX13_saySequences_335 3 rfl ?_
      refine r_iaload (pc := 337) E dX13_saySequences_337 (fun v337 => ?_)
      refine r_iload (pc := 338) E dX13_saySequences_338 1 rfl ?_
      refine r_kSi (pc := 340) (As := [.int v301]) (rest := [.int v337, rv x p0]) E wc_X13_copyBase wi_RX13 hd_X13_copyBase wl_RX13_386 wt_X13_copyBase dX13_saySequences_340 (by decide) (Nat.le_of_ble_eq_true rfl) ⟨rfl, rfl⟩ (ctX13_copyBase l x _ _) rfl (fun v340 M340 => ?_)
      refine r_isub (pc := 343) E dX13_saySequences_343 ?_
      refine r_i2l (pc := 344) E dX13_saySequences_344 ?_
      refine r_iload (pc := 345) E dX13_saySequences_345 1 rfl ?_
      refine r_kSi (pc := 347) (As := [.int v301]) (rest := [.long ((v337 - v340).toInt64), rv x p0]) E wc_X13_copyBits wi_RX13 hd_X13_copyBits wl_RX13_389 wt_X13_copyBits dX13_saySequences_347 (by decide) (Nat.le_of_ble_eq_true rfl) ⟨rfl, rfl⟩ (ctX13_copyBits l x _ _) rfl (fun v347 M347 => ?_)
      refine r_kVv (pc := 350) (As := [.long ((v337 - v340).toInt64), .int v347]) (rest := []) E wc_X13_digit wi_RX13 hd_X13_digit (ci := 13) rfl wl_RX13_473 wn_X13_digit ws_X13_digit dX13_saySequences_350 (by decide) (Nat.le_of_ble_eq_true rfl) ⟨rfl, rfl⟩ (ctX13_digit l x _ _ _ _) rfl (fun v350 M350 => ?_)
      refine r_aload_n (pc := 353) E dX13_saySequences_353 rfl 0 rfl ?_
      refine r_aload_n (pc := 354) E dX13_saySequences_354 rfl 0 rfl ?_
      refine r_getA (pc := 355) E fd_13_62 wf_RX13_120 dX13_saySequences_355 (fun v355 => ?_)
      refine r_iload (pc := 358) E dX13_saySequences_358 3 rfl ?_
      refine r_iaload (pc := 360) E dX13_saySequences_360 (fun v360 => ?_)
      refine r_iload (pc := 361) E dX13_saySequences_361 0 rfl ?_
      refine r_kSi (pc := 363) (As := [.int v310]) (rest := [.int v360, rv x p0]) E wc_X13_letterBase wi_RX13 hd_X13_letterBase wl_RX13_392 wt_X13_letterBase dX13_saySequences_363 (by decide) (Nat.le_of_ble_eq_true rfl) ⟨rfl, rfl⟩ (ctX13_letterBase l x _ _) rfl (fun v363 M363 => ?_)
      refine r_isub (pc := 366) E dX13_saySequences_366 ?_
      refine r_i2l (pc := 367) E dX13_saySequences_367 ?_
      refine r_iload (pc := 368) E dX13_saySequences_368 0 rfl ?_
      refine r_kSi (pc := 370) (As := [.int v310]) (rest := [.long ((v360 - v363).toInt64), rv x p0]) E wc_X13_letterBits wi_RX13 hd_X13_letterBits wl_RX13_395 wt_X13_letterBits dX13_saySequences_370 (by decide) (Nat.le_of_ble_eq_true rfl) ⟨rfl, rfl⟩ (ctX13_letterBits l x _ _) rfl (fun v370 M370 => ?_)
      refine r_kVv (pc := 373) (As := [.long ((v360 - v363).toInt64), .int v370]) (rest := []) E wc_X13_digit wi_RX13 hd_X13_digit (ci := 13) rfl wl_RX13_473 wn_X13_digit ws_X13_digit dX13_saySequences_373 (by decide) (Nat.le_of_ble_eq_true rfl) ⟨rfl, rfl⟩ (ctX13_digit l x _ _ _ _) rfl (fun v373 M373 => ?_)
      refine r_iload (pc := 376) E dX13_saySequences_376 3 rfl ?_
      refine r_aload_n (pc := 378) E dX13_saySequences_378 rfl 0 rfl ?_
      refine r_getI (pc := 379) E fd_13_61 wf_RX13_443 dX13_saySequences_379 (fun v379 => ?_)
      refine r_iconst (pc := 382) (v := 1) E dX13_saySequences_382 (by decide) ?_
      refine r_isub (pc := 383) E dX13_saySequences_383 ?_
      refine r_icmp_ge (pc := 384) (tgt := 408) E dX13_saySequences_384 (by decide) ?_ ?_
      · exact r_sub [3] [] [0] rfl rfl rfl (hL408 k268 hk268 p0 p4 _)
      · refine r_aload_n (pc := 387) E dX13_saySequences_387 rfl 0 rfl ?_
        refine r_iconst (pc := 388) (v := 0) E dX13_saySequences_388 (by decide) ?_
        refine r_iload (pc := 389) E dX13_saySequences_389 3 rfl ?_
        refine r_kVv (pc := 391) (As := [.int 0, .int p4]) (rest := []) E wc_X13_goOn wi_RX13 hd_X13_goOn (ci := 13) rfl wl_RX13_497 wn_X13_goOn ws_X13_goOn dX13_saySequences_391 (by decide) (Nat.le_of_ble_eq_true rfl) ⟨rfl, rfl⟩ (ctX13_goOn l x _ _ _ _) rfl (fun v391 M391 => ?_)
        refine r_aload_n (pc := 394) E dX13_saySequences_394 rfl 0 rfl ?_
        refine r_iconst (pc := 395) (v := 2) E dX13_saySequences_395 (by decide) ?_
        refine r_iload (pc := 396) E dX13_saySequences_396 3 rfl ?_
        refine r_kVv (pc := 398) (As := [.int 2, .int p4]) (rest := []) E wc_X13_goOn wi_RX13 hd_X13_goOn (ci := 13) rfl wl_RX13_497 wn_X13_goOn ws_X13_goOn dX13_saySequences_398 (by decide) (Nat.le_of_ble_eq_true rfl) ⟨rfl, rfl⟩ (ctX13_goOn l x _ _ _ _) rfl (fun v398 M398 => ?_)
        refine r_aload_n (pc := 401) E dX13_saySequences_401 rfl 0 rfl ?_
        refine r_iconst (pc := 402) (v := 1) E dX13_saySequences_402 (by decide) ?_
        refine r_iload (pc := 403) E dX13_saySequences_403 3 rfl ?_
        refine r_kVv (pc := 405) (As := [.int 1, .int p4]) (rest := []) E wc_X13_goOn wi_RX13 hd_X13_goOn (ci := 13) rfl wl_RX13_497 wn_X13_goOn ws_X13_goOn dX13_saySequences_405 (by decide) (Nat.le_of_ble_eq_true rfl) ⟨rfl, rfl⟩ (ctX13_goOn l x _ _ _ _) rfl (fun v405 M405 => ?_)
        exact r_sub [3] [] [0] rfl rfl rfl (hL408 k268 hk268 p0 p4 _)
  have hL189 : ∀ (p0 : Option Nat) (p4 : Int32) (M : Mem), RT p l e rmX13_saySequences s m args below meth c x 8 (QM below args s x (fun _ : Unit => none) rmX13_saySequences.cells rmX13_saySequences.slots) 0 0 (fX13_saySequences_L189 p0 p4 M) 189 [(4, p4)] [] [(0, p0)] [] M := by
    intro p0 p4 M
    refine r_lp (fi := fun a : Option Nat × Int32 => [(4, a.2)]) (fl := fun a : Option Nat × Int32 => []) (fr := fun a : Option Nat × Int32 => [(0, a.1)]) (fs := fun a : Option Nat × Int32 => []) ?_ FU ((p0, p4)) M
    intro k189 hk189 a M
    obtain ⟨p0, p4⟩ := a
    show RT p l e rmX13_saySequences s m args below meth c x 8 (QM below args s x (fun _ : Unit => none) rmX13_saySequences.cells rmX13_saySequences.slots) 0 0 (fX13_saySequences_B189 k189 p0 p4 M) 189 [(4, p4)] [] [(0, p0)] [] M
    unfold fX13_saySequences_B189
    refine r_iload (pc := 189) E dX13_saySequences_189 0 rfl ?_
    refine r_iconst (pc := 191) (v := 3) E dX13_saySequences_191 (by decide) ?_
    refine r_icmp_ge (pc := 192) (tgt := 207) E dX13_saySequences_192 (by decide) ?_ ?_
    · refine r_aload_n (pc := 207) E dX13_saySequences_207 rfl 0 rfl ?_
      refine r_aload_n (pc := 208) E dX13_saySequences_208 rfl 0 rfl ?_
      refine r_getA (pc := 209) E fd_13_66 wf_RX13_132 dX13_saySequences_209 (fun v209 => ?_)
      refine r_iconst (pc := 212) (v := 0) E dX13_saySequences_212 (by decide) ?_
      refine r_iaload (pc := 213) E dX13_saySequences_213 (fun v213 => ?_)
      refine r_i2l (pc := 214) E dX13_saySequences_214 ?_
      refine r_aload_n (pc := 215) E dX13_saySequences_215 rfl 0 rfl ?_
      refine r_getA (pc := 216) E fd_13_17 wf_RX13_37 dX13_saySequences_216 (fun v216 => ?_)
      refine r_bipush (pc := 219) (v := 7) E dX13_saySequences_219 (by decide) ?_
      refine r_iaload (pc := 221) E dX13_saySequences_221 (fun v221 => ?_)
      refine r_kVv (pc := 222) (As := [.long v213.toInt64, .int v221]) (rest := []) E wc_X13_digit wi_RX13 hd_X13_digit (ci := 13) rfl wl_RX13_473 wn_X13_digit ws_X13_digit dX13_saySequences_222 (by decide) (Nat.le_of_ble_eq_true rfl) ⟨rfl, rfl⟩ (ctX13_digit l x _ _ _ _) rfl (fun v222 M222 => ?_)
      refine r_aload_n (pc := 225) E dX13_saySequences_225 rfl 0 rfl ?_
      refine r_aload_n (pc := 226) E dX13_saySequences_226 rfl 0 rfl ?_
      refine r_getA (pc := 227) E fd_13_66 wf_RX13_132 dX13_saySequences_227 (fun v227 => ?_)
      refine r_sipush (pc := 230) (v := 600) E dX13_saySequences_230 (by decide) ?_
      refine r_iaload (pc := 233) E dX13_saySequences_233 (fun v233 => ?_)
      refine r_i2l (pc := 234) E dX13_saySequences_234 ?_
      refine r_aload_n (pc := 235) E dX13_saySequences_235 rfl 0 rfl ?_
      refine r_getA (pc := 236) E fd_13_17 wf_RX13_37 dX13_saySequences_236 (fun v236 => ?_)
      refine r_bipush (pc := 239) (v := 8) E dX13_saySequences_239 (by decide) ?_
      refine r_iaload (pc := 241) E dX13_saySequences_241 (fun v241 => ?_)
      refine r_kVv (pc := 242) (As := [.long v233.toInt64, .int v241]) (rest := []) E wc_X13_digit wi_RX13 hd_X13_digit (ci := 13) rfl wl_RX13_473 wn_X13_digit ws_X13_digit dX13_saySequences_242 (by decide) (Nat.le_of_ble_eq_true rfl) ⟨rfl, rfl⟩ (ctX13_digit l x _ _ _ _) rfl (fun v242 M242 => ?_)
      refine r_aload_n (pc := 245) E dX13_saySequences_245 rfl 0 rfl ?_
      refine r_aload_n (pc := 246) E dX13_saySequences_246 rfl 0 rfl ?_
      refine r_getA (pc := 247) E fd_13_66 wf_RX13_132 dX13_saySequences_247 (fun v247 => ?_)
      refine r_sipush (pc := 250) (v := 1200) E dX13_saySequences_250 (by decide) ?_
      refine r_iaload (pc := 253) E dX13_saySequences_253 (fun v253 => ?_)
      refine r_i2l (pc := 254) E dX13_saySequences_254 ?_
      refine r_aload_n (pc := 255) E dX13_saySequences_255 rfl 0 rfl ?_
      refine r_getA (pc := 256) E fd_13_17 wf_RX13_37 dX13_saySequences_256 (fun v256 => ?_)
      refine r_bipush (pc := 259) (v := 9) E dX13_saySequences_259 (by decide) ?_
      refine r_iaload (pc := 261) E dX13_saySequences_261 (fun v261 => ?_)
      refine r_kVv (pc := 262) (As := [.long v253.toInt64, .int v261]) (rest := []) E wc_X13_digit wi_RX13 hd_X13_digit (ci := 13) rfl wl_RX13_473 wn_X13_digit ws_X13_digit dX13_saySequences_262 (by decide) (Nat.le_of_ble_eq_true rfl) ⟨rfl, rfl⟩ (ctX13_digit l x _ _ _ _) rfl (fun v262 M262 => ?_)
      refine r_iconst (pc := 265) (v := 0) E dX13_saySequences_265 (by decide) ?_
      refine r_istore (pc := 266) (lf := fun v266 => [(4, v266)]) (lg := fun v266 => []) (lk := fun v266 => [(0, p0)]) E dX13_saySequences_266 (by decide) (fun _ => rfl) (fun _ => rfl) (fun _ => rfl) (fun v266 => ?_)
      exact r_sub [0] [] [0] rfl rfl rfl (hL268 p0 v266 _)
    · refine r_aload_n (pc := 195) E dX13_saySequences_195 rfl 0 rfl ?_
      refine r_iload (pc := 196) E dX13_saySequences_196 0 rfl ?_
      refine r_kVv (pc := 198) (As := [.int p4]) (rest := []) E wc_X13_states wi_RX13 hd_X13_states (ci := 13) rfl wl_RX13_494 wn_X13_states ws_X13_states dX13_saySequences_198 (by decide) (Nat.le_of_ble_eq_true rfl) ⟨rfl, rfl⟩ (ctX13_states l x _ _ _) rfl (fun v198 M198 => ?_)
      refine r_iinc (pc := 201) (w := 1) (lf := fun v201 => [(4, v201)]) (ll' := []) (lr' := [(0, p0)]) E dX13_saySequences_201 0 rfl (by decide) (by decide) (fun _ => rfl) rfl rfl (fun v201 => ?_)
      refine r_goto (pc := 204) (tgt := 189) E dX13_saySequences_204 (by decide) ?_
      exact r_sub [0] [] [0] rfl rfl rfl (hk189 ((p0, v201)) _)
  have hL148 : ∀ (p0 : Option Nat) (p1 : Int32) (p2 : Int32) (p3 : Int32) (p4 : Int32) (M : Mem), RT p l e rmX13_saySequences s m args below meth c x 8 (QM below args s x (fun _ : Unit => none) rmX13_saySequences.cells rmX13_saySequences.slots) 0 0 (fX13_saySequences_L148 p0 p1 p2 p3 p4 M) 148 [(1, p1), (2, p2), (3, p3), (4, p4)] [] [(0, p0)] [] M := by
    intro p0 p1 p2 p3 p4 M
    refine r_lp (fi := fun a : Option Nat × Int32 × Int32 × Int32 × Int32 => [(1, a.2.1), (2, a.2.2.1), (3, a.2.2.2.1), (4, a.2.2.2.2)]) (fl := fun a : Option Nat × Int32 × Int32 × Int32 × Int32 => []) (fr := fun a : Option Nat × Int32 × Int32 × Int32 × Int32 => [(0, a.1)]) (fs := fun a : Option Nat × Int32 × Int32 × Int32 × Int32 => []) ?_ FU ((p0, p1, p2, p3, p4)) M
    intro k148 hk148 a M
    obtain ⟨p0, p1, p2, p3, p4⟩ := a
    show RT p l e rmX13_saySequences s m args below meth c x 8 (QM below args s x (fun _ : Unit => none) rmX13_saySequences.cells rmX13_saySequences.slots) 0 0 (fX13_saySequences_B148 k148 p0 p1 p2 p3 p4 M) 148 [(1, p1), (2, p2), (3, p3), (4, p4)] [] [(0, p0)] [] M
    unfold fX13_saySequences_B148
    refine r_iload (pc := 148) E dX13_saySequences_148 3 rfl ?_
    refine r_iconst (pc := 150) (v := 3) E dX13_saySequences_150 (by decide) ?_
    refine r_icmp_ge (pc := 151) (tgt := 178) E dX13_saySequences_151 (by decide) ?_ ?_
    · refine r_aload_n (pc := 178) E dX13_saySequences_178 rfl 0 rfl ?_
      refine r_getA (pc := 179) E fd_13_53 wf_RX13_104 dX13_saySequences_179 (fun v179 => ?_)
      refine r_iload_n (pc := 182) E dX13_saySequences_182 rfl 1 rfl ?_
      refine r_iload_n (pc := 183) E dX13_saySequences_183 rfl 2 rfl ?_
      refine r_i2b (pc := 184) E dX13_saySequences_184 ?_
      refine r_bastore (pc := 185) E dX13_saySequences_185 (fun M185 => ?_)
      refine r_iconst (pc := 186) (v := 0) E dX13_saySequences_186 (by decide) ?_
      refine r_istore (pc := 187) (lf := fun v187 => [(4, v187), (1, p1), (2, p2), (3, p3)]) (lg := fun v187 => []) (lk := fun v187 => [(0, p0)]) E dX13_saySequences_187 (by decide) (fun _ => rfl) (fun _ => rfl) (fun _ => rfl) (fun v187 => ?_)
      exact r_sub [0] [] [0] rfl rfl rfl (hL189 p0 v187 _)
    · refine r_iload_n (pc := 154) E dX13_saySequences_154 rfl 2 rfl ?_
      refine r_aload_n (pc := 155) E dX13_saySequences_155 rfl 0 rfl ?_
      refine r_iload_n (pc := 156) E dX13_saySequences_156 rfl 0 rfl ?_
      refine r_iload (pc := 157) E dX13_saySequences_157 3 rfl ?_
      refine r_kVi (pc := 159) (As := [.int p1, .int p4]) (rest := [.int p3]) E wc_X13_sayTable wi_RX13 hd_X13_sayTable (ci := 13) rfl wl_RX13_491 wn_X13_sayTable ws_X13_sayTable dX13_saySequences_159 (by decide) (Nat.le_of_ble_eq_true rfl) ⟨rfl, rfl⟩ (ctX13_sayTable l x _ _ _ _) rfl (fun v159 M159 => ?_)
      refine r_bipush (pc := 162) (v := 6) E dX13_saySequences_162 (by decide) ?_
      refine r_iconst (pc := 164) (v := 2) E dX13_saySequences_164 (by decide) ?_
      refine r_iload (pc := 165) E dX13_saySequences_165 3 rfl ?_
      refine r_imul (pc := 167) E dX13_saySequences_167 ?_
      refine r_isub (pc := 168) E dX13_saySequences_168 ?_
      refine r_ishl (pc := 169) E dX13_saySequences_169 ?_
      refine r_ior (pc := 170) E dX13_saySequences_170 ?_
      refine r_istore_n (pc := 171) (lf := fun v171 => [(3, v171), (1, p1), (2, p2), (4, p4)]) (lg := fun v171 => []) (lk := fun v171 => [(0, p0)]) E dX13_saySequences_171 rfl (by decide) (fun _ => rfl) (fun _ => rfl) (fun _ => rfl) (fun v171 => ?_)
      refine r_iinc (pc := 172) (w := 1) (lf := fun v172 => [(4, v172), (3, v171), (1, p1), (2, p2)]) (ll' := []) (lr' := [(0, p0)]) E dX13_saySequences_172 3 rfl (by decide) (by decide) (fun _ => rfl) rfl rfl (fun v172 => ?_)
      refine r_goto (pc := 175) (tgt := 148) E dX13_saySequences_175 (by decide) ?_
      exact r_sub [2, 3, 1, 0] [] [0] rfl rfl rfl (hk148 ((p0, p1, p2, v171, v172)) _)
  have hL65 : ∀ (p0 : Option Nat) (p1 : Int32) (p2 : Int32) (M : Mem), RT p l e rmX13_saySequences s m args below meth c x 8 (QM below args s x (fun _ : Unit => none) rmX13_saySequences.cells rmX13_saySequences.slots) 0 0 (fX13_saySequences_L65 p0 p1 p2 M) 65 [(1, p1), (2, p2)] [] [(0, p0)] [] M := by
    intro p0 p1 p2 M
    refine r_lp (fi := fun a : Option Nat × Int32 × Int32 => [(1, a.2.1), (2, a.2.2)]) (fl := fun a : Option Nat × Int32 × Int32 => []) (fr := fun a : Option Nat × Int32 × Int32 => [(0, a.1)]) (fs := fun a : Option Nat × Int32 × Int32 => []) ?_ FU ((p0, p1, p2)) M
    intro k65 hk65 a M
    obtain ⟨p0, p1, p2⟩ := a
    show RT p l e rmX13_saySequences s m args below meth c x 8 (QM below args s x (fun _ : Unit => none) rmX13_saySequences.cells rmX13_saySequences.slots) 0 0 (fX13_saySequences_B65 k65 p0 p1 p2 M) 65 [(1, p1), (2, p2)] [] [(0, p0)] [] M
    unfold fX13_saySequences_B65
    refine r_iload_n (pc := 65) E dX13_saySequences_65 rfl 1 rfl ?_
    refine r_aload_n (pc := 66) E dX13_saySequences_66 rfl 0 rfl ?_
    refine r_getI (pc := 67) E fd_13_61 wf_RX13_443 dX13_saySequences_67 (fun v67 => ?_)
    refine r_icmp_ge (pc := 70) (tgt := 132) E dX13_saySequences_70 (by decide) ?_ ?_
    · refine r_aload_n (pc := 132) E dX13_saySequences_132 rfl 0 rfl ?_
      refine r_getI (pc := 133) E fd_13_54 wf_RX13_412 dX13_saySequences_133 (fun v133 => ?_)
      refine r_istore_n (pc := 136) (lf := fun v136 => [(2, v136), (1, p1)]) (lg := fun v136 => []) (lk := fun v136 => [(0, p0)]) E dX13_saySequences_136 rfl (by decide) (fun _ => rfl) (fun _ => rfl) (fun _ => rfl) (fun v136 => ?_)
      refine r_aload_n (pc := 137) E dX13_saySequences_137 rfl 0 rfl ?_
      refine r_lconst (pc := 138) (v := 0) E dX13_saySequences_138 (by decide) ?_
      refine r_iconst (pc := 139) (v := 1) E dX13_saySequences_139 (by decide) ?_
      refine r_kVv (pc := 140) (As := [.long 0, .int 1]) (rest := []) E wc_X13_say wi_RX13 hd_X13_say (ci := 13) rfl wl_RX13_418 wn_X13_say ws_X13_say dX13_saySequences_140 (by decide) (Nat.le_of_ble_eq_true rfl) ⟨rfl, rfl⟩ (ctX13_say l x _ _ _ _) rfl (fun v140 M140 => ?_)
      refine r_iconst (pc := 143) (v := 0) E dX13_saySequences_143 (by decide) ?_
      refine r_istore_n (pc := 144) (lf := fun v144 => [(3, v144), (2, v136), (1, p1)]) (lg := fun v144 => []) (lk := fun v144 => [(0, p0)]) E dX13_saySequences_144 rfl (by decide) (fun _ => rfl) (fun _ => rfl) (fun _ => rfl) (fun v144 => ?_)
      refine r_iconst (pc := 145) (v := 0) E dX13_saySequences_145 (by decide) ?_
      refine r_istore (pc := 146) (lf := fun v146 => [(4, v146), (3, v144), (2, v136), (1, p1)]) (lg := fun v146 => []) (lk := fun v146 => [(0, p0)]) E dX13_saySequences_146 (by decide) (fun _ => rfl) (fun _ => rfl) (fun _ => rfl) (fun v146 => ?_)
      exact r_sub [3, 2, 1, 0] [] [0] rfl rfl rfl (hL148 p0 p1 v136 v144 v146 _)
    · refine r_aload_n (pc := 73) E dX13_saySequences_73 rfl 0 rfl ?_
      refine r_getA (pc := 74) E fd_13_65 wf_RX13_129 dX13_saySequences_74 (fun v74 => ?_)
      refine r_iload_n (pc := 77) E dX13_saySequences_77 rfl 1 rfl ?_
      refine r_aload_n (pc := 78) E dX13_saySequences_78 rfl 0 rfl ?_
      refine r_getA (pc := 79) E fd_13_62 wf_RX13_120 dX13_saySequences_79 (fun v79 => ?_)
      refine r_iload_n (pc := 82) E dX13_saySequences_82 rfl 1 rfl ?_
      refine r_iaload (pc := 83) E dX13_saySequences_83 (fun v83 => ?_)
      refine r_kSi (pc := 84) (As := [.int v83]) (rest := [.int p2, rv x v74]) E wc_X13_letterSymbol wi_RX13 hd_X13_letterSymbol wl_RX13_481 wt_X13_letterSymbol dX13_saySequences_84 (by decide) (Nat.le_of_ble_eq_true rfl) ⟨rfl, rfl⟩ (ctX13_letterSymbol l x _ _) rfl (fun v84 M84 => ?_)
      refine r_iastore (pc := 87) E dX13_saySequences_87 (fun M87 => ?_)
      refine r_aload_n (pc := 88) E dX13_saySequences_88 rfl 0 rfl ?_
      refine r_getA (pc := 89) E fd_13_65 wf_RX13_129 dX13_saySequences_89 (fun v89 => ?_)
      refine r_sipush (pc := 92) (v := 600) E dX13_saySequences_92 (by decide) ?_
      refine r_iload_n (pc := 95) E dX13_saySequences_95 rfl 1 rfl ?_
      refine r_iadd (pc := 96) E dX13_saySequences_96 ?_
      refine r_aload_n (pc := 97) E dX13_saySequences_97 rfl 0 rfl ?_
      refine r_getA (pc := 98) E fd_13_64 wf_RX13_126 dX13_saySequences_98 (fun v98 => ?_)
      refine r_iload_n (pc := 101) E dX13_saySequences_101 rfl 1 rfl ?_
      refine r_laload (pc := 102) E dX13_saySequences_102 (fun v102 => ?_)
      refine r_kSi (pc := 103) (As := [.long v102]) (rest := [.int (600 + p2), rv x v89]) E wc_X13_logLong wi_RX13 hd_X13_logLong wl_RX13_484 wt_X13_logLong dX13_saySequences_103 (by decide) (Nat.le_of_ble_eq_true rfl) ⟨rfl, rfl⟩ (ctX13_logLong l x _ _) rfl (fun v103 M103 => ?_)
      refine r_iastore (pc := 106) E dX13_saySequences_106 (fun M106 => ?_)
      refine r_aload_n (pc := 107) E dX13_saySequences_107 rfl 0 rfl ?_
      refine r_getA (pc := 108) E fd_13_65 wf_RX13_129 dX13_saySequences_108 (fun v108 => ?_)
      refine r_sipush (pc := 111) (v := 1200) E dX13_saySequences_111 (by decide) ?_
      refine r_iload_n (pc := 114) E dX13_saySequences_114 rfl 1 rfl ?_
      refine r_iadd (pc := 115) E dX13_saySequences_115 ?_
      refine r_aload_n (pc := 116) E dX13_saySequences_116 rfl 0 rfl ?_
      refine r_getA (pc := 117) E fd_13_63 wf_RX13_123 dX13_saySequences_117 (fun v117 => ?_)
      refine r_iload_n (pc := 120) E dX13_saySequences_120 rfl 1 rfl ?_
      refine r_iaload (pc := 121) E dX13_saySequences_121 (fun v121 => ?_)
      refine r_kSi (pc := 122) (As := [.int v121]) (rest := [.int (1200 + p2), rv x v108]) E wc_X13_copySymbol wi_RX13 hd_X13_copySymbol wl_RX13_488 wt_X13_copySymbol dX13_saySequences_122 (by decide) (Nat.le_of_ble_eq_true rfl) ⟨rfl, rfl⟩ (ctX13_copySymbol l x _ _) rfl (fun v122 M122 => ?_)
      refine r_iastore (pc := 125) E dX13_saySequences_125 (fun M125 => ?_)
      refine r_iinc (pc := 126) (w := 1) (lf := fun v126 => [(2, v126), (1, p1)]) (ll' := []) (lr' := [(0, p0)]) E dX13_saySequences_126 1 rfl (by decide) (by decide) (fun _ => rfl) rfl rfl (fun v126 => ?_)
      refine r_goto (pc := 129) (tgt := 65) E dX13_saySequences_129 (by decide) ?_
      exact r_sub [1, 0] [] [0] rfl rfl rfl (hk65 ((p0, p1, v126)) _)
  have hL55 : ∀ (p0 : Option Nat) (p1 : Int32) (M : Mem), RT p l e rmX13_saySequences s m args below meth c x 8 (QM below args s x (fun _ : Unit => none) rmX13_saySequences.cells rmX13_saySequences.slots) 0 0 (fX13_saySequences_L55 p0 p1 M) 55 [(1, p1)] [] [(0, p0)] [] M := by
    intro p0 p1 M
    unfold fX13_saySequences_L55
    refine r_aload_n (pc := 55) E dX13_saySequences_55 rfl 0 rfl ?_
    refine r_getI (pc := 56) E fd_13_61 wf_RX13_443 dX13_saySequences_56 (fun v56 => ?_)
    refine r_if_ne (pc := 59) (tgt := 63) E dX13_saySequences_59 (by decide) ?_ ?_
    · refine r_iconst (pc := 63) (v := 0) E dX13_saySequences_63 (by decide) ?_
      refine r_istore_n (pc := 64) (lf := fun v64 => [(2, v64), (1, p1)]) (lg := fun v64 => []) (lk := fun v64 => [(0, p0)]) E dX13_saySequences_64 rfl (by decide) (fun _ => rfl) (fun _ => rfl) (fun _ => rfl) (fun v64 => ?_)
      exact r_sub [1, 0] [] [0] rfl rfl rfl (hL65 p0 p1 v64 _)
    · exact e_void (pc := 62) E dX13_saySequences_62
  show RT p l e rmX13_saySequences s m args below meth c x 8 (QM below args s x (fun _ : Unit => none) rmX13_saySequences.cells rmX13_saySequences.slots) 0 0 (fX13_saySequences a0 a1 M) 0 [(1, a1)] [] [(0, a0)] [] M
  unfold fX13_saySequences
  refine r_aload_n (pc := 0) E dX13_saySequences_0 rfl 0 rfl ?_
  refine r_getI (pc := 1) E fd_13_61 wf_RX13_443 dX13_saySequences_1 (fun v1 => ?_)
  refine r_sipush (pc := 4) (v := 128) E dX13_saySequences_4 (by decide) ?_
  refine r_icmp_ge (pc := 7) (tgt := 23) E dX13_saySequences_7 (by decide) ?_ ?_
  · refine r_aload_n (pc := 23) E dX13_saySequences_23 rfl 0 rfl ?_
    refine r_sipush (pc := 24) (v := 128) E dX13_saySequences_24 (by decide) ?_
    refine r_aload_n (pc := 27) E dX13_saySequences_27 rfl 0 rfl ?_
    refine r_getI (pc := 28) E fd_13_61 wf_RX13_443 dX13_saySequences_28 (fun v28 => ?_)
    refine r_sipush (pc := 31) (v := 256) E dX13_saySequences_31 (by decide) ?_
    refine r_idiv (pc := 34) E dX13_saySequences_34 (fun v34 => ?_)
    refine r_iadd (pc := 35) E dX13_saySequences_35 ?_
    refine r_i2l (pc := 36) E dX13_saySequences_36 ?_
    refine r_iconst (pc := 37) (v := 1) E dX13_saySequences_37 (by decide) ?_
    refine r_kVv (pc := 38) (As := [.long ((128 + v34).toInt64), .int 1]) (rest := []) E wc_X13_say wi_RX13 hd_X13_say (ci := 13) rfl wl_RX13_418 wn_X13_say ws_X13_say dX13_saySequences_38 (by decide) (Nat.le_of_ble_eq_true rfl) ⟨rfl, rfl⟩ (ctX13_say l x _ _ _ _) rfl (fun v38 M38 => ?_)
    refine r_aload_n (pc := 41) E dX13_saySequences_41 rfl 0 rfl ?_
    refine r_aload_n (pc := 42) E dX13_saySequences_42 rfl 0 rfl ?_
    refine r_getI (pc := 43) E fd_13_61 wf_RX13_443 dX13_saySequences_43 (fun v43 => ?_)
    refine r_sipush (pc := 46) (v := 256) E dX13_saySequences_46 (by decide) ?_
    refine r_irem (pc := 49) E dX13_saySequences_49 (fun v49 => ?_)
    refine r_i2l (pc := 50) E dX13_saySequences_50 ?_
    refine r_iconst (pc := 51) (v := 1) E dX13_saySequences_51 (by decide) ?_
    refine r_kVv (pc := 52) (As := [.long v49.toInt64, .int 1]) (rest := []) E wc_X13_say wi_RX13 hd_X13_say (ci := 13) rfl wl_RX13_418 wn_X13_say ws_X13_say dX13_saySequences_52 (by decide) (Nat.le_of_ble_eq_true rfl) ⟨rfl, rfl⟩ (ctX13_say l x _ _ _ _) rfl (fun v52 M52 => ?_)
    exact r_sub [0] [] [0] rfl rfl rfl (hL55 a0 a1 _)
  · refine r_aload_n (pc := 10) E dX13_saySequences_10 rfl 0 rfl ?_
    refine r_aload_n (pc := 11) E dX13_saySequences_11 rfl 0 rfl ?_
    refine r_getI (pc := 12) E fd_13_61 wf_RX13_443 dX13_saySequences_12 (fun v12 => ?_)
    refine r_i2l (pc := 15) E dX13_saySequences_15 ?_
    refine r_iconst (pc := 16) (v := 1) E dX13_saySequences_16 (by decide) ?_
    refine r_kVv (pc := 17) (As := [.long v12.toInt64, .int 1]) (rest := []) E wc_X13_say wi_RX13 hd_X13_say (ci := 13) rfl wl_RX13_418 wn_X13_say ws_X13_say dX13_saySequences_17 (by decide) (Nat.le_of_ble_eq_true rfl) ⟨rfl, rfl⟩ (ctX13_say l x _ _ _ _) rfl (fun v17 M17 => ?_)
    refine r_goto (pc := 20) (tgt := 55) E dX13_saySequences_20 (by decide) ?_
    exact r_sub [0] [] [0] rfl rfl rfl (hL55 a0 a1 _)
def fX13_sayBlock_B249 (k249 : Option Nat × Int32 × Int32 → Mem → Option (Unit × Mem)) (p0 : Option Nat) (p3 : Int32) (p6 : Int32) (M : Mem) : Option (Unit × Mem) :=
  if p3 ≤ p6 then (
    some ((), M)
  ) else (
    bo (gR M p0 13 0) fun v257 =>
    bo (aI M v257 14 p6) fun v262 =>
    bo (chk M p0 13) fun _ => bd (fX13_say p0 v262.toInt64 1 M) fun v265 M265 =>
    bn (p6 + 1) fun v268 =>
    k249 ((p0, p3, v268)) M265
  )
def fX13_sayBlock_L249 (p0 : Option Nat) (p3 : Int32) (p6 : Int32) (M : Mem) : Option (Unit × Mem) :=
  lp (fun k249 (a : Option Nat × Int32 × Int32) M => fX13_sayBlock_B249 k249 a.1 a.2.1 a.2.2 M) FU ((p0, p3, p6)) M
def fX13_sayBlock_L232 (p0 : Option Nat) (p2 : Int32) (p3 : Int32) (p4 : Int32) (p5 : Int32) (M : Mem) : Option (Unit × Mem) :=
  bo (chk M p0 13) fun _ => bd (fX13_say p0 ((p4 + (8 * p5)).toInt64) 3 M) fun v243 M243 =>
  bn (p2) fun v247 =>
  fX13_sayBlock_L249 p0 p3 v247 M243
def fX13_sayBlock_B206 (k206 : Option Nat × Int32 × Int32 × Int32 × Int32 × Int32 → Mem → Option (Unit × Mem)) (p0 : Option Nat) (p2 : Int32) (p3 : Int32) (p4 : Int32) (p5 : Int32) (p8 : Int32) (M : Mem) : Option (Unit × Mem) :=
  if 3 ≤ p8 then (
    fX13_sayBlock_L232 p0 p2 p3 p4 p5 M
  ) else (
    bo (gR M p0 13 59) fun v213 =>
    bo (gR M p0 13 60) fun v219 =>
    bo (aJ M v219 p8) fun v224 =>
    bo (wJ M v213 p8 v224) fun M225 =>
    bn (p8 + 1) fun v226 =>
    k206 ((p0, p2, p3, p4, p5, v226)) M225
  )
def fX13_sayBlock_L206 (p0 : Option Nat) (p2 : Int32) (p3 : Int32) (p4 : Int32) (p5 : Int32) (p8 : Int32) (M : Mem) : Option (Unit × Mem) :=
  lp (fun k206 (a : Option Nat × Int32 × Int32 × Int32 × Int32 × Int32) M => fX13_sayBlock_B206 k206 a.1 a.2.1 a.2.2.1 a.2.2.2.1 a.2.2.2.2.1 a.2.2.2.2.2 M) FU ((p0, p2, p3, p4, p5, p8)) M
def fX13_sayBlock_B165 (k165 : Option Nat × Int32 × Int32 × Int32 → Mem → Option (Unit × Mem)) (p0 : Option Nat) (p6 : Int32) (p8 : Int32) (p9 : Int32) (M : Mem) : Option (Unit × Mem) :=
  if 3 ≤ p9 then (
    some ((), M)
  ) else (
    bo (gR M p0 13 53) fun v172 =>
    bo (wB M v172 (p6 + p9) (i2b (shrI p8 (8 * p9)))) fun M189 =>
    bn (p9 + 1) fun v190 =>
    k165 ((p0, p6, p8, v190)) M189
  )
def fX13_sayBlock_L165 (p0 : Option Nat) (p6 : Int32) (p8 : Int32) (p9 : Int32) (M : Mem) : Option (Unit × Mem) :=
  lp (fun k165 (a : Option Nat × Int32 × Int32 × Int32) M => fX13_sayBlock_B165 k165 a.1 a.2.1 a.2.2.1 a.2.2.2 M) FU ((p0, p6, p8, p9)) M
def fX13_sayBlock_B78 (k78 : Option Nat × Int32 × Int32 × Int32 × Int32 × Int32 × Int32 → Mem → Option (Unit × Mem)) (p0 : Option Nat) (p1 : Int32) (p2 : Int32) (p3 : Int32) (p4 : Int32) (p5 : Int32) (p6 : Int32) (M : Mem) : Option (Unit × Mem) :=
  if 3 ≤ p6 then (
    bo (gI M p0 13 54) fun v105 =>
    bn (v105) fun v108 =>
    bo (chk M p0 13) fun _ => bd (fX13_say p0 0 3 M) fun v113 M113 =>
    bo (chk M113 p0 13) fun _ => bd (fX13_findActs p0 p2 p3 M113) fun v119 M119 =>
    bo (chk M119 p0 13) fun _ => bd (fX13_sayLetters p0 p1 M119) fun v124 M124 =>
    bo (chk M124 p0 13) fun _ => bd (fX13_saySequences p0 p1 M124) fun v129 M129 =>
    bo (gI M129 p0 13 54) fun v133 =>
    bn ((v133 - v108) - 3) fun v141 =>
    if p5 ≤ v141 then (
      bo (pI M129 p0 13 54 v108) fun M200 =>
      bn (0) fun v204 =>
      fX13_sayBlock_L206 p0 p2 p3 p4 p5 v204 M200
    ) else (
      bn ((p4 + 4) + (8 * v141)) fun v160 =>
      bn (0) fun v163 =>
      fX13_sayBlock_L165 p0 v108 v160 v163 M129
    )
  ) else (
    bo (gR M p0 13 60) fun v85 =>
    bo (gR M p0 13 59) fun v91 =>
    bo (aJ M v91 p6) fun v96 =>
    bo (wJ M v85 p6 v96) fun M97 =>
    bn (p6 + 1) fun v98 =>
    k78 ((p0, p1, p2, p3, p4, p5, v98)) M97
  )
def fX13_sayBlock_L78 (p0 : Option Nat) (p1 : Int32) (p2 : Int32) (p3 : Int32) (p4 : Int32) (p5 : Int32) (p6 : Int32) (M : Mem) : Option (Unit × Mem) :=
  lp (fun k78 (a : Option Nat × Int32 × Int32 × Int32 × Int32 × Int32 × Int32) M => fX13_sayBlock_B78 k78 a.1 a.2.1 a.2.2.1 a.2.2.2.1 a.2.2.2.2.1 a.2.2.2.2.2.1 a.2.2.2.2.2.2 M) FU ((p0, p1, p2, p3, p4, p5, p6)) M
def fX13_sayBlock_L66 (p0 : Option Nat) (p1 : Int32) (p2 : Int32) (p3 : Int32) (p4 : Int32) (p5 : Int32) (M : Mem) : Option (Unit × Mem) :=
  if p1 ≤ 0 then (
    fX13_sayBlock_L232 p0 p2 p3 p4 p5 M
  ) else (
    if p5 ≤ 0 then (
      fX13_sayBlock_L232 p0 p2 p3 p4 p5 M
    ) else (
      bn (0) fun v76 =>
      fX13_sayBlock_L78 p0 p1 p2 p3 p4 p5 v76 M
    )
  )
def fX13_sayBlock_L13 (p0 : Option Nat) (p1 : Int32) (p2 : Int32) (p3 : Int32) (q0 : Int32) (M : Mem) : Option (Unit × Mem) :=
  bn (q0) fun v13 =>
  bn (p3 - p2) fun v18 =>
  if p1 ≤ 0 then (
    fX13_sayBlock_L66 p0 p1 p2 p3 v13 v18 M
  ) else (
    bo (gR M p0 13 0) fun v26 =>
    bo (chk M p0 13) fun _ => bd (fX13_areSame p0 v26 p2 p3 M) fun v31 M31 =>
    if v31 = 0 then (
      fX13_sayBlock_L66 p0 p1 p2 p3 v13 v18 M31
    ) else (
      bo (chk M31 p0 13) fun _ => bd (fX13_say p0 (((v13 + 2) + (8 * v18)).toInt64) 3 M31) fun v50 M50 =>
      bo (gR M50 p0 13 0) fun v55 =>
      bo (aI M50 v55 14 p2) fun v59 =>
      bo (chk M50 p0 13) fun _ => bd (fX13_say p0 v59.toInt64 1 M50) fun v62 M62 =>
      some ((), M62)
    )
  )
def fX13_sayBlock (a0 : Option Nat) (a1 : Int32) (a2 : Int32) (a3 : Int32) (M : Mem) : Option (Unit × Mem) :=
  bo (gI M a0 13 1) fun v2 =>
  if a3 = v2 then (
    fX13_sayBlock_L13 a0 a1 a2 a3 1 M
  ) else (
    fX13_sayBlock_L13 a0 a1 a2 a3 0 M
  )
def rmX13_sayBlock : Room := { frames := 5, cells := 0, slots := 0, locals := 129 }
set_option maxRecDepth 100000 in
set_option maxHeartbeats 4000000 in
theorem ctX13_sayBlock (l : Launch) (x : Cx) (a0 : Option Nat) (a1 : Int32) (a2 : Int32) (a3 : Int32) (M : Mem) (v : Unit) (N : Mem) (h : fX13_sayBlock a0 a1 a2 a3 M = some (v, N)) : CT l yX13_sayBlock cX13_sayBlock 10 (none) rmX13_sayBlock x [rv x a0, .int a1, .int a2, .int a3] M none N := by
  refine ct_mk (enc := fun _ : Unit => none) (li := [(1, a1), (2, a2), (3, a3)]) (ll := []) (lr := [(0, a0)]) (by decide +kernel) (by simp [lg_sl, rv_cat, cat_int, cat_long]) (by simp [flat, lv_args, rv_cat, cat_int, cat_long]) h ?_
  intro p e s m args below meth c E
  have hL249 : ∀ (p0 : Option Nat) (p3 : Int32) (p6 : Int32) (M : Mem), RT p l e rmX13_sayBlock s m args below meth c x 10 (QM below args s x (fun _ : Unit => none) rmX13_sayBlock.cells rmX13_sayBlock.slots) 0 0 (fX13_sayBlock_L249 p0 p3 p6 M) 249 [(3, p3), (6, p6)] [] [(0, p0)] [] M := by
    intro p0 p3 p6 M
    refine r_lp (fi := fun a : Option Nat × Int32 × Int32 => [(3, a.2.1), (6, a.2.2)]) (fl := fun a : Option Nat × Int32 × Int32 => []) (fr := fun a : Option Nat × Int32 × Int32 => [(0, a.1)]) (fs := fun a : Option Nat × Int32 × Int32 => []) ?_ FU ((p0, p3, p6)) M
    intro k249 hk249 a M
    obtain ⟨p0, p3, p6⟩ := a
    show RT p l e rmX13_sayBlock s m args below meth c x 10 (QM below args s x (fun _ : Unit => none) rmX13_sayBlock.cells rmX13_sayBlock.slots) 0 0 (fX13_sayBlock_B249 k249 p0 p3 p6 M) 249 [(3, p3), (6, p6)] [] [(0, p0)] [] M
    unfold fX13_sayBlock_B249
    refine r_iload (pc := 249) E dX13_sayBlock_249 1 rfl ?_
    refine r_iload_n (pc := 251) E dX13_sayBlock_251 rfl 0 rfl ?_
    refine r_icmp_ge (pc := 252) (tgt := 274) E dX13_sayBlock_252 (by decide) ?_ ?_
    · exact e_void (pc := 274) E dX13_sayBlock_274
    · refine r_aload_n (pc := 255) E dX13_sayBlock_255 rfl 0 rfl ?_
      refine r_aload_n (pc := 256) E dX13_sayBlock_256 rfl 0 rfl ?_
      refine r_getA (pc := 257) E fd_13_0 wf_RX13_7 dX13_sayBlock_257 (fun v257 => ?_)
      refine r_iload (pc := 260) E dX13_sayBlock_260 1 rfl ?_
      refine r_baload (pc := 262) E dX13_sayBlock_262 (fun v262 => ?_)
      refine r_i2l (pc := 263) E dX13_sayBlock_263 ?_
      refine r_iconst (pc := 264) (v := 1) E dX13_sayBlock_264 (by decide) ?_
      refine r_kVv (pc := 265) (As := [.long v262.toInt64, .int 1]) (rest := []) E wc_X13_say wi_RX13 hd_X13_say (ci := 13) rfl wl_RX13_418 wn_X13_say ws_X13_say dX13_sayBlock_265 (by decide) (Nat.le_of_ble_eq_true rfl) ⟨rfl, rfl⟩ (ctX13_say l x _ _ _ _) rfl (fun v265 M265 => ?_)
      refine r_iinc (pc := 268) (w := 1) (lf := fun v268 => [(6, v268), (3, p3)]) (ll' := []) (lr' := [(0, p0)]) E dX13_sayBlock_268 1 rfl (by decide) (by decide) (fun _ => rfl) rfl rfl (fun v268 => ?_)
      refine r_goto (pc := 271) (tgt := 249) E dX13_sayBlock_271 (by decide) ?_
      exact r_sub [1, 0] [] [0] rfl rfl rfl (hk249 ((p0, p3, v268)) _)
  have hL232 : ∀ (p0 : Option Nat) (p2 : Int32) (p3 : Int32) (p4 : Int32) (p5 : Int32) (M : Mem), RT p l e rmX13_sayBlock s m args below meth c x 10 (QM below args s x (fun _ : Unit => none) rmX13_sayBlock.cells rmX13_sayBlock.slots) 0 0 (fX13_sayBlock_L232 p0 p2 p3 p4 p5 M) 232 [(2, p2), (3, p3), (4, p4), (5, p5)] [] [(0, p0)] [] M := by
    intro p0 p2 p3 p4 p5 M
    unfold fX13_sayBlock_L232
    refine r_aload_n (pc := 232) E dX13_sayBlock_232 rfl 0 rfl ?_
    refine r_iload (pc := 233) E dX13_sayBlock_233 2 rfl ?_
    refine r_bipush (pc := 235) (v := 8) E dX13_sayBlock_235 (by decide) ?_
    refine r_iload (pc := 237) E dX13_sayBlock_237 3 rfl ?_
    refine r_imul (pc := 239) E dX13_sayBlock_239 ?_
    refine r_iadd (pc := 240) E dX13_sayBlock_240 ?_
    refine r_i2l (pc := 241) E dX13_sayBlock_241 ?_
    refine r_iconst (pc := 242) (v := 3) E dX13_sayBlock_242 (by decide) ?_
    refine r_kVv (pc := 243) (As := [.long ((p4 + (8 * p5)).toInt64), .int 3]) (rest := []) E wc_X13_say wi_RX13 hd_X13_say (ci := 13) rfl wl_RX13_418 wn_X13_say ws_X13_say dX13_sayBlock_243 (by decide) (Nat.le_of_ble_eq_true rfl) ⟨rfl, rfl⟩ (ctX13_say l x _ _ _ _) rfl (fun v243 M243 => ?_)
    refine r_iload_n (pc := 246) E dX13_sayBlock_246 rfl 0 rfl ?_
    refine r_istore (pc := 247) (lf := fun v247 => [(6, v247), (2, p2), (3, p3), (4, p4), (5, p5)]) (lg := fun v247 => []) (lk := fun v247 => [(0, p0)]) E dX13_sayBlock_247 (by decide) (fun _ => rfl) (fun _ => rfl) (fun _ => rfl) (fun v247 => ?_)
    exact r_sub [2, 0] [] [0] rfl rfl rfl (hL249 p0 p3 v247 _)
  have hL206 : ∀ (p0 : Option Nat) (p2 : Int32) (p3 : Int32) (p4 : Int32) (p5 : Int32) (p8 : Int32) (M : Mem), RT p l e rmX13_sayBlock s m args below meth c x 10 (QM below args s x (fun _ : Unit => none) rmX13_sayBlock.cells rmX13_sayBlock.slots) 0 0 (fX13_sayBlock_L206 p0 p2 p3 p4 p5 p8 M) 206 [(2, p2), (3, p3), (4, p4), (5, p5), (8, p8)] [] [(0, p0)] [] M := by
    intro p0 p2 p3 p4 p5 p8 M
    refine r_lp (fi := fun a : Option Nat × Int32 × Int32 × Int32 × Int32 × Int32 => [(2, a.2.1), (3, a.2.2.1), (4, a.2.2.2.1), (5, a.2.2.2.2.1), (8, a.2.2.2.2.2)]) (fl := fun a : Option Nat × Int32 × Int32 × Int32 × Int32 × Int32 => []) (fr := fun a : Option Nat × Int32 × Int32 × Int32 × Int32 × Int32 => [(0, a.1)]) (fs := fun a : Option Nat × Int32 × Int32 × Int32 × Int32 × Int32 => []) ?_ FU ((p0, p2, p3, p4, p5, p8)) M
    intro k206 hk206 a M
    obtain ⟨p0, p2, p3, p4, p5, p8⟩ := a
    show RT p l e rmX13_sayBlock s m args below meth c x 10 (QM below args s x (fun _ : Unit => none) rmX13_sayBlock.cells rmX13_sayBlock.slots) 0 0 (fX13_sayBlock_B206 k206 p0 p2 p3 p4 p5 p8 M) 206 [(2, p2), (3, p3), (4, p4), (5, p5), (8, p8)] [] [(0, p0)] [] M
    unfold fX13_sayBlock_B206
    refine r_iload (pc := 206) E dX13_sayBlock_206 4 rfl ?_
    refine r_iconst (pc := 208) (v := 3) E dX13_sayBlock_208 (by decide) ?_
    refine r_icmp_ge (pc := 209) (tgt := 232) E dX13_sayBlock_209 (by decide) ?_ ?_
    · exact r_sub [0, 1, 2, 3] [] [0] rfl rfl rfl (hL232 p0 p2 p3 p4 p5 _)
    · refine r_aload_n (pc := 212) E dX13_sayBlock_212 rfl 0 rfl ?_
      refine r_getA (pc := 213) E fd_13_59 wf_RX13_114 dX13_sayBlock_213 (fun v213 => ?_)
      refine r_iload (pc := 216) E dX13_sayBlock_216 4 rfl ?_
      refine r_aload_n (pc := 218) E dX13_sayBlock_218 rfl 0 rfl ?_
      refine r_getA (pc := 219) E fd_13_60 wf_RX13_117 dX13_sayBlock_219 (fun v219 => ?_)
      refine r_iload (pc := 222) E dX13_sayBlock_222 4 rfl ?_
      refine r_laload (pc := 224) E dX13_sayBlock_224 (fun v224 => ?_)
      refine r_lastore (pc := 225) E dX13_sayBlock_225 (fun M225 => ?_)
      refine r_iinc (pc := 226) (w := 1) (lf := fun v226 => [(8, v226), (2, p2), (3, p3), (4, p4), (5, p5)]) (ll' := []) (lr' := [(0, p0)]) E dX13_sayBlock_226 4 rfl (by decide) (by decide) (fun _ => rfl) rfl rfl (fun v226 => ?_)
      refine r_goto (pc := 229) (tgt := 206) E dX13_sayBlock_229 (by decide) ?_
      exact r_sub [1, 2, 3, 4, 0] [] [0] rfl rfl rfl (hk206 ((p0, p2, p3, p4, p5, v226)) _)
  have hL165 : ∀ (p0 : Option Nat) (p6 : Int32) (p8 : Int32) (p9 : Int32) (M : Mem), RT p l e rmX13_sayBlock s m args below meth c x 10 (QM below args s x (fun _ : Unit => none) rmX13_sayBlock.cells rmX13_sayBlock.slots) 0 0 (fX13_sayBlock_L165 p0 p6 p8 p9 M) 165 [(6, p6), (8, p8), (9, p9)] [] [(0, p0)] [] M := by
    intro p0 p6 p8 p9 M
    refine r_lp (fi := fun a : Option Nat × Int32 × Int32 × Int32 => [(6, a.2.1), (8, a.2.2.1), (9, a.2.2.2)]) (fl := fun a : Option Nat × Int32 × Int32 × Int32 => []) (fr := fun a : Option Nat × Int32 × Int32 × Int32 => [(0, a.1)]) (fs := fun a : Option Nat × Int32 × Int32 × Int32 => []) ?_ FU ((p0, p6, p8, p9)) M
    intro k165 hk165 a M
    obtain ⟨p0, p6, p8, p9⟩ := a
    show RT p l e rmX13_sayBlock s m args below meth c x 10 (QM below args s x (fun _ : Unit => none) rmX13_sayBlock.cells rmX13_sayBlock.slots) 0 0 (fX13_sayBlock_B165 k165 p0 p6 p8 p9 M) 165 [(6, p6), (8, p8), (9, p9)] [] [(0, p0)] [] M
    unfold fX13_sayBlock_B165
    refine r_iload (pc := 165) E dX13_sayBlock_165 2 rfl ?_
    refine r_iconst (pc := 167) (v := 3) E dX13_sayBlock_167 (by decide) ?_
    refine r_icmp_ge (pc := 168) (tgt := 196) E dX13_sayBlock_168 (by decide) ?_ ?_
    · exact e_void (pc := 196) E dX13_sayBlock_196
    · refine r_aload_n (pc := 171) E dX13_sayBlock_171 rfl 0 rfl ?_
      refine r_getA (pc := 172) E fd_13_53 wf_RX13_104 dX13_sayBlock_172 (fun v172 => ?_)
      refine r_iload (pc := 175) E dX13_sayBlock_175 0 rfl ?_
      refine r_iload (pc := 177) E dX13_sayBlock_177 2 rfl ?_
      refine r_iadd (pc := 179) E dX13_sayBlock_179 ?_
      refine r_iload (pc := 180) E dX13_sayBlock_180 1 rfl ?_
      refine r_bipush (pc := 182) (v := 8) E dX13_sayBlock_182 (by decide) ?_
      refine r_iload (pc := 184) E dX13_sayBlock_184 2 rfl ?_
      refine r_imul (pc := 186) E dX13_sayBlock_186 ?_
      refine r_ishr (pc := 187) E dX13_sayBlock_187 ?_
      refine r_i2b (pc := 188) E dX13_sayBlock_188 ?_
      refine r_bastore (pc := 189) E dX13_sayBlock_189 (fun M189 => ?_)
      refine r_iinc (pc := 190) (w := 1) (lf := fun v190 => [(9, v190), (6, p6), (8, p8)]) (ll' := []) (lr' := [(0, p0)]) E dX13_sayBlock_190 2 rfl (by decide) (by decide) (fun _ => rfl) rfl rfl (fun v190 => ?_)
      refine r_goto (pc := 193) (tgt := 165) E dX13_sayBlock_193 (by decide) ?_
      exact r_sub [1, 2, 0] [] [0] rfl rfl rfl (hk165 ((p0, p6, p8, v190)) _)
  have hL78 : ∀ (p0 : Option Nat) (p1 : Int32) (p2 : Int32) (p3 : Int32) (p4 : Int32) (p5 : Int32) (p6 : Int32) (M : Mem), RT p l e rmX13_sayBlock s m args below meth c x 10 (QM below args s x (fun _ : Unit => none) rmX13_sayBlock.cells rmX13_sayBlock.slots) 0 0 (fX13_sayBlock_L78 p0 p1 p2 p3 p4 p5 p6 M) 78 [(1, p1), (2, p2), (3, p3), (4, p4), (5, p5), (6, p6)] [] [(0, p0)] [] M := by
    intro p0 p1 p2 p3 p4 p5 p6 M
    refine r_lp (fi := fun a : Option Nat × Int32 × Int32 × Int32 × Int32 × Int32 × Int32 => [(1, a.2.1), (2, a.2.2.1), (3, a.2.2.2.1), (4, a.2.2.2.2.1), (5, a.2.2.2.2.2.1), (6, a.2.2.2.2.2.2)]) (fl := fun a : Option Nat × Int32 × Int32 × Int32 × Int32 × Int32 × Int32 => []) (fr := fun a : Option Nat × Int32 × Int32 × Int32 × Int32 × Int32 × Int32 => [(0, a.1)]) (fs := fun a : Option Nat × Int32 × Int32 × Int32 × Int32 × Int32 × Int32 => []) ?_ FU ((p0, p1, p2, p3, p4, p5, p6)) M
    intro k78 hk78 a M
    obtain ⟨p0, p1, p2, p3, p4, p5, p6⟩ := a
    show RT p l e rmX13_sayBlock s m args below meth c x 10 (QM below args s x (fun _ : Unit => none) rmX13_sayBlock.cells rmX13_sayBlock.slots) 0 0 (fX13_sayBlock_B78 k78 p0 p1 p2 p3 p4 p5 p6 M) 78 [(1, p1), (2, p2), (3, p3), (4, p4), (5, p5), (6, p6)] [] [(0, p0)] [] M
    unfold fX13_sayBlock_B78
    refine r_iload (pc := 78) E dX13_sayBlock_78 5 rfl ?_
    refine r_iconst (pc := 80) (v := 3) E dX13_sayBlock_80 (by decide) ?_
    refine r_icmp_ge (pc := 81) (tgt := 104) E dX13_sayBlock_81 (by decide) ?_ ?_
    · refine r_aload_n (pc := 104) E dX13_sayBlock_104 rfl 0 rfl ?_
      refine r_getI (pc := 105) E fd_13_54 wf_RX13_412 dX13_sayBlock_105 (fun v105 => ?_)
      refine r_istore (pc := 108) (lf := fun v108 => [(6, v108), (1, p1), (2, p2), (3, p3), (4, p4), (5, p5)]) (lg := fun v108 => []) (lk := fun v108 => [(0, p0)]) E dX13_sayBlock_108 (by decide) (fun _ => rfl) (fun _ => rfl) (fun _ => rfl) (fun v108 => ?_)
      refine r_aload_n (pc := 110) E dX13_sayBlock_110 rfl 0 rfl ?_
      refine r_lconst (pc := 111) (v := 0) E dX13_sayBlock_111 (by decide) ?_
      refine r_iconst (pc := 112) (v := 3) E dX13_sayBlock_112 (by decide) ?_
      refine r_kVv (pc := 113) (As := [.long 0, .int 3]) (rest := []) E wc_X13_say wi_RX13 hd_X13_say (ci := 13) rfl wl_RX13_418 wn_X13_say ws_X13_say dX13_sayBlock_113 (by decide) (Nat.le_of_ble_eq_true rfl) ⟨rfl, rfl⟩ (ctX13_say l x _ _ _ _) rfl (fun v113 M113 => ?_)
      refine r_aload_n (pc := 116) E dX13_sayBlock_116 rfl 0 rfl ?_
      refine r_iload_n (pc := 117) E dX13_sayBlock_117 rfl 2 rfl ?_
      refine r_iload_n (pc := 118) E dX13_sayBlock_118 rfl 3 rfl ?_
      refine r_kVv (pc := 119) (As := [.int p2, .int p3]) (rest := []) E wc_X13_findActs wi_RX13 hd_X13_findActs (ci := 13) rfl wl_RX13_434 wn_X13_findActs ws_X13_findActs dX13_sayBlock_119 (by decide) (Nat.le_of_ble_eq_true rfl) ⟨rfl, rfl⟩ (ctX13_findActs l x _ _ _ _) rfl (fun v119 M119 => ?_)
      refine r_aload_n (pc := 122) E dX13_sayBlock_122 rfl 0 rfl ?_
      refine r_iload_n (pc := 123) E dX13_sayBlock_123 rfl 1 rfl ?_
      refine r_kVv (pc := 124) (As := [.int p1]) (rest := []) E wc_X13_sayLetters wi_RX13 hd_X13_sayLetters (ci := 13) rfl wl_RX13_437 wn_X13_sayLetters ws_X13_sayLetters dX13_sayBlock_124 (by decide) (Nat.le_of_ble_eq_true rfl) ⟨rfl, rfl⟩ (ctX13_sayLetters l x _ _ _) rfl (fun v124 M124 => ?_)
      refine r_aload_n (pc := 127) E dX13_sayBlock_127 rfl 0 rfl ?_
      refine r_iload_n (pc := 128) E dX13_sayBlock_128 rfl 1 rfl ?_
      refine r_kVv (pc := 129) (As := [.int p1]) (rest := []) E wc_X13_saySequences wi_RX13 hd_X13_saySequences (ci := 13) rfl wl_RX13_440 wn_X13_saySequences ws_X13_saySequences dX13_sayBlock_129 (by decide) (Nat.le_of_ble_eq_true rfl) ⟨rfl, rfl⟩ (ctX13_saySequences l x _ _ _) rfl (fun v129 M129 => ?_)
      refine r_aload_n (pc := 132) E dX13_sayBlock_132 rfl 0 rfl ?_
      refine r_getI (pc := 133) E fd_13_54 wf_RX13_412 dX13_sayBlock_133 (fun v133 => ?_)
      refine r_iload (pc := 136) E dX13_sayBlock_136 0 rfl ?_
      refine r_isub (pc := 138) E dX13_sayBlock_138 ?_
      refine r_iconst (pc := 139) (v := 3) E dX13_sayBlock_139 (by decide) ?_
      refine r_isub (pc := 140) E dX13_sayBlock_140 ?_
      refine r_istore (pc := 141) (lf := fun v141 => [(7, v141), (6, v108), (1, p1), (2, p2), (3, p3), (4, p4), (5, p5)]) (lg := fun v141 => []) (lk := fun v141 => [(0, p0)]) E dX13_sayBlock_141 (by decide) (fun _ => rfl) (fun _ => rfl) (fun _ => rfl) (fun v141 => ?_)
      refine r_iload (pc := 143) E dX13_sayBlock_143 0 rfl ?_
      refine r_iload (pc := 145) E dX13_sayBlock_145 6 rfl ?_
      refine r_icmp_ge (pc := 147) (tgt := 197) E dX13_sayBlock_147 (by decide) ?_ ?_
      · refine r_aload_n (pc := 197) E dX13_sayBlock_197 rfl 0 rfl ?_
        refine r_iload (pc := 198) E dX13_sayBlock_198 1 rfl ?_
        refine r_putI (pc := 200) E fd_13_54 wf_RX13_412 dX13_sayBlock_200 (Or.inl rfl) (fun M200 => ?_)
        refine r_iconst (pc := 203) (v := 0) E dX13_sayBlock_203 (by decide) ?_
        refine r_istore (pc := 204) (lf := fun v204 => [(8, v204), (7, v141), (6, v108), (1, p1), (2, p2), (3, p3), (4, p4), (5, p5)]) (lg := fun v204 => []) (lk := fun v204 => [(0, p0)]) E dX13_sayBlock_204 (by decide) (fun _ => rfl) (fun _ => rfl) (fun _ => rfl) (fun v204 => ?_)
        exact r_sub [4, 5, 6, 7, 0] [] [0] rfl rfl rfl (hL206 p0 p2 p3 p4 p5 v204 _)
      · refine r_iload (pc := 150) E dX13_sayBlock_150 5 rfl ?_
        refine r_iconst (pc := 152) (v := 4) E dX13_sayBlock_152 (by decide) ?_
        refine r_iadd (pc := 153) E dX13_sayBlock_153 ?_
        refine r_bipush (pc := 154) (v := 8) E dX13_sayBlock_154 (by decide) ?_
        refine r_iload (pc := 156) E dX13_sayBlock_156 0 rfl ?_
        refine r_imul (pc := 158) E dX13_sayBlock_158 ?_
        refine r_iadd (pc := 159) E dX13_sayBlock_159 ?_
        refine r_istore (pc := 160) (lf := fun v160 => [(8, v160), (7, v141), (6, v108), (1, p1), (2, p2), (3, p3), (4, p4), (5, p5)]) (lg := fun v160 => []) (lk := fun v160 => [(0, p0)]) E dX13_sayBlock_160 (by decide) (fun _ => rfl) (fun _ => rfl) (fun _ => rfl) (fun v160 => ?_)
        refine r_iconst (pc := 162) (v := 0) E dX13_sayBlock_162 (by decide) ?_
        refine r_istore (pc := 163) (lf := fun v163 => [(9, v163), (8, v160), (7, v141), (6, v108), (1, p1), (2, p2), (3, p3), (4, p4), (5, p5)]) (lg := fun v163 => []) (lk := fun v163 => [(0, p0)]) E dX13_sayBlock_163 (by decide) (fun _ => rfl) (fun _ => rfl) (fun _ => rfl) (fun v163 => ?_)
        exact r_sub [3, 1, 0] [] [0] rfl rfl rfl (hL165 p0 v108 v160 v163 _)
    · refine r_aload_n (pc := 84) E dX13_sayBlock_84 rfl 0 rfl ?_
      refine r_getA (pc := 85) E fd_13_60 wf_RX13_117 dX13_sayBlock_85 (fun v85 => ?_)
      refine r_iload (pc := 88) E dX13_sayBlock_88 5 rfl ?_
      refine r_aload_n (pc := 90) E dX13_sayBlock_90 rfl 0 rfl ?_
      refine r_getA (pc := 91) E fd_13_59 wf_RX13_114 dX13_sayBlock_91 (fun v91 => ?_)
      refine r_iload (pc := 94) E dX13_sayBlock_94 5 rfl ?_
      refine r_laload (pc := 96) E dX13_sayBlock_96 (fun v96 => ?_)
      refine r_lastore (pc := 97) E dX13_sayBlock_97 (fun M97 => ?_)
      refine r_iinc (pc := 98) (w := 1) (lf := fun v98 => [(6, v98), (1, p1), (2, p2), (3, p3), (4, p4), (5, p5)]) (ll' := []) (lr' := [(0, p0)]) E dX13_sayBlock_98 5 rfl (by decide) (by decide) (fun _ => rfl) rfl rfl (fun v98 => ?_)
      refine r_goto (pc := 101) (tgt := 78) E dX13_sayBlock_101 (by decide) ?_
      exact r_sub [1, 2, 3, 4, 5, 0] [] [0] rfl rfl rfl (hk78 ((p0, p1, p2, p3, p4, p5, v98)) _)
  have hL66 : ∀ (p0 : Option Nat) (p1 : Int32) (p2 : Int32) (p3 : Int32) (p4 : Int32) (p5 : Int32) (M : Mem), RT p l e rmX13_sayBlock s m args below meth c x 10 (QM below args s x (fun _ : Unit => none) rmX13_sayBlock.cells rmX13_sayBlock.slots) 0 0 (fX13_sayBlock_L66 p0 p1 p2 p3 p4 p5 M) 66 [(1, p1), (2, p2), (3, p3), (4, p4), (5, p5)] [] [(0, p0)] [] M := by
    intro p0 p1 p2 p3 p4 p5 M
    unfold fX13_sayBlock_L66
    refine r_iload_n (pc := 66) E dX13_sayBlock_66 rfl 0 rfl ?_
    refine r_if_le (pc := 67) (tgt := 232) E dX13_sayBlock_67 (by decide) ?_ ?_
    · exact r_sub [1, 2, 3, 4] [] [0] rfl rfl rfl (hL232 p0 p2 p3 p4 p5 _)
    · refine r_iload (pc := 70) E dX13_sayBlock_70 4 rfl ?_
      refine r_if_le (pc := 72) (tgt := 232) E dX13_sayBlock_72 (by decide) ?_ ?_
      · exact r_sub [1, 2, 3, 4] [] [0] rfl rfl rfl (hL232 p0 p2 p3 p4 p5 _)
      · refine r_iconst (pc := 75) (v := 0) E dX13_sayBlock_75 (by decide) ?_
        refine r_istore (pc := 76) (lf := fun v76 => [(6, v76), (1, p1), (2, p2), (3, p3), (4, p4), (5, p5)]) (lg := fun v76 => []) (lk := fun v76 => [(0, p0)]) E dX13_sayBlock_76 (by decide) (fun _ => rfl) (fun _ => rfl) (fun _ => rfl) (fun v76 => ?_)
        exact r_sub [1, 2, 3, 4, 5, 0] [] [0] rfl rfl rfl (hL78 p0 p1 p2 p3 p4 p5 v76 _)
  have hL13 : ∀ (p0 : Option Nat) (p1 : Int32) (p2 : Int32) (p3 : Int32) (q0 : Int32) (M : Mem), RT p l e rmX13_sayBlock s m args below meth c x 10 (QM below args s x (fun _ : Unit => none) rmX13_sayBlock.cells rmX13_sayBlock.slots) 0 0 (fX13_sayBlock_L13 p0 p1 p2 p3 q0 M) 13 [(1, p1), (2, p2), (3, p3)] [] [(0, p0)] [.int q0] M := by
    intro p0 p1 p2 p3 q0 M
    unfold fX13_sayBlock_L13
    refine r_istore (pc := 13) (lf := fun v13 => [(4, v13), (1, p1), (2, p2), (3, p3)]) (lg := fun v13 => []) (lk := fun v13 => [(0, p0)]) E dX13_sayBlock_13 (by decide) (fun _ => rfl) (fun _ => rfl) (fun _ => rfl) (fun v13 => ?_)
    refine r_iload_n (pc := 15) E dX13_sayBlock_15 rfl 3 rfl ?_
    refine r_iload_n (pc := 16) E dX13_sayBlock_16 rfl 2 rfl ?_
    refine r_isub (pc := 17) E dX13_sayBlock_17 ?_
    refine r_istore (pc := 18) (lf := fun v18 => [(5, v18), (4, v13), (1, p1), (2, p2), (3, p3)]) (lg := fun v18 => []) (lk := fun v18 => [(0, p0)]) E dX13_sayBlock_18 (by decide) (fun _ => rfl) (fun _ => rfl) (fun _ => rfl) (fun v18 => ?_)
    refine r_iload_n (pc := 20) E dX13_sayBlock_20 rfl 2 rfl ?_
    refine r_if_le (pc := 21) (tgt := 66) E dX13_sayBlock_21 (by decide) ?_ ?_
    · exact r_sub [2, 3, 4, 1, 0] [] [0] rfl rfl rfl (hL66 p0 p1 p2 p3 v13 v18 _)
    · refine r_aload_n (pc := 24) E dX13_sayBlock_24 rfl 0 rfl ?_
      refine r_aload_n (pc := 25) E dX13_sayBlock_25 rfl 0 rfl ?_
      refine r_getA (pc := 26) E fd_13_0 wf_RX13_7 dX13_sayBlock_26 (fun v26 => ?_)
      refine r_iload_n (pc := 29) E dX13_sayBlock_29 rfl 3 rfl ?_
      refine r_iload_n (pc := 30) E dX13_sayBlock_30 rfl 4 rfl ?_
      refine r_kVi (pc := 31) (As := [rv x v26, .int p2, .int p3]) (rest := []) E wc_X13_areSame wi_RX13 hd_X13_areSame (ci := 13) rfl wl_RX13_430 wn_X13_areSame ws_X13_areSame dX13_sayBlock_31 (by decide) (Nat.le_of_ble_eq_true rfl) ⟨rfl, rfl⟩ (ctX13_areSame l x _ _ _ _ _) rfl (fun v31 M31 => ?_)
      refine r_if_eq (pc := 34) (tgt := 66) E dX13_sayBlock_34 (by decide) ?_ ?_
      · exact r_sub [2, 3, 4, 1, 0] [] [0] rfl rfl rfl (hL66 p0 p1 p2 p3 v13 v18 _)
      · refine r_aload_n (pc := 37) E dX13_sayBlock_37 rfl 0 rfl ?_
        refine r_iload (pc := 38) E dX13_sayBlock_38 1 rfl ?_
        refine r_iconst (pc := 40) (v := 2) E dX13_sayBlock_40 (by decide) ?_
        refine r_iadd (pc := 41) E dX13_sayBlock_41 ?_
        refine r_bipush (pc := 42) (v := 8) E dX13_sayBlock_42 (by decide) ?_
        refine r_iload (pc := 44) E dX13_sayBlock_44 0 rfl ?_
        refine r_imul (pc := 46) E dX13_sayBlock_46 ?_
        refine r_iadd (pc := 47) E dX13_sayBlock_47 ?_
        refine r_i2l (pc := 48) E dX13_sayBlock_48 ?_
        refine r_iconst (pc := 49) (v := 3) E dX13_sayBlock_49 (by decide) ?_
        refine r_kVv (pc := 50) (As := [.long (((v13 + 2) + (8 * v18)).toInt64), .int 3]) (rest := []) E wc_X13_say wi_RX13 hd_X13_say (ci := 13) rfl wl_RX13_418 wn_X13_say ws_X13_say dX13_sayBlock_50 (by decide) (Nat.le_of_ble_eq_true rfl) ⟨rfl, rfl⟩ (ctX13_say l x _ _ _ _) rfl (fun v50 M50 => ?_)
        refine r_aload_n (pc := 53) E dX13_sayBlock_53 rfl 0 rfl ?_
        refine r_aload_n (pc := 54) E dX13_sayBlock_54 rfl 0 rfl ?_
        refine r_getA (pc := 55) E fd_13_0 wf_RX13_7 dX13_sayBlock_55 (fun v55 => ?_)
        refine r_iload_n (pc := 58) E dX13_sayBlock_58 rfl 3 rfl ?_
        refine r_baload (pc := 59) E dX13_sayBlock_59 (fun v59 => ?_)
        refine r_i2l (pc := 60) E dX13_sayBlock_60 ?_
        refine r_iconst (pc := 61) (v := 1) E dX13_sayBlock_61 (by decide) ?_
        refine r_kVv (pc := 62) (As := [.long v59.toInt64, .int 1]) (rest := []) E wc_X13_say wi_RX13 hd_X13_say (ci := 13) rfl wl_RX13_418 wn_X13_say ws_X13_say dX13_sayBlock_62 (by decide) (Nat.le_of_ble_eq_true rfl) ⟨rfl, rfl⟩ (ctX13_say l x _ _ _ _) rfl (fun v62 M62 => ?_)
        exact e_void (pc := 65) E dX13_sayBlock_65
  show RT p l e rmX13_sayBlock s m args below meth c x 10 (QM below args s x (fun _ : Unit => none) rmX13_sayBlock.cells rmX13_sayBlock.slots) 0 0 (fX13_sayBlock a0 a1 a2 a3 M) 0 [(1, a1), (2, a2), (3, a3)] [] [(0, a0)] [] M
  unfold fX13_sayBlock
  refine r_iload_n (pc := 0) E dX13_sayBlock_0 rfl 2 rfl ?_
  refine r_aload_n (pc := 1) E dX13_sayBlock_1 rfl 0 rfl ?_
  refine r_getI (pc := 2) E fd_13_1 wf_RX13_150 dX13_sayBlock_2 (fun v2 => ?_)
  refine r_icmp_ne (pc := 5) (tgt := 12) E dX13_sayBlock_5 (by decide) ?_ ?_
  · refine r_iconst (pc := 12) (v := 0) E dX13_sayBlock_12 (by decide) ?_
    exact r_sub [0, 1, 2] [] [0] rfl rfl rfl (hL13 a0 a1 a2 a3 0 _)
  · refine r_iconst (pc := 8) (v := 1) E dX13_sayBlock_8 (by decide) ?_
    refine r_goto (pc := 9) (tgt := 13) E dX13_sayBlock_9 (by decide) ?_
    exact r_sub [0, 1, 2] [] [0] rfl rfl rfl (hL13 a0 a1 a2 a3 1 _)
def fX13_pack_L19 (M : Mem) : Option (Int32 × Mem) :=
  some ((-2), M)
def fX13_pack_B545 (k545 : Option Nat × Int32 → Mem → Option (Int32 × Mem)) (p0 : Option Nat) (p10 : Int32) (M : Mem) : Option (Int32 × Mem) :=
  bo (gI M p0 13 54) fun v548 =>
  if v548 ≤ p10 then (
    bo (gI M p0 13 54) fun v576 =>
    bo (pI M p0 13 3 v576) fun M579 =>
    bo (gI M579 p0 13 3) fun v583 =>
    some (v583, M579)
  ) else (
    bo (gR M p0 13 2) fun v555 =>
    bo (gR M p0 13 53) fun v561 =>
    bo (aI M v561 14 p10) fun v566 =>
    bo (wB M v555 p10 v566) fun M567 =>
    bn (p10 + 1) fun v568 =>
    k545 ((p0, v568)) M567
  )
def fX13_pack_L545 (p0 : Option Nat) (p10 : Int32) (M : Mem) : Option (Int32 × Mem) :=
  lp (fun k545 (a : Option Nat × Int32) M => fX13_pack_B545 k545 a.1 a.2 M) FU ((p0, p10)) M
def fX13_pack_L542 (p0 : Option Nat) (M : Mem) : Option (Int32 × Mem) :=
  bn (0) fun v543 =>
  fX13_pack_L545 p0 v543 M
def fX13_pack_L495 (k469 : Option Nat × Int32 × Int32 × Int32 → Mem → Option (Int32 × Mem)) (p0 : Option Nat) (p1 : Int32) (p2 : Int32) (p9 : Int32) (q0 : Int32) (M : Mem) : Option (Int32 × Mem) :=
  bn (q0) fun v495 =>
  bo (chk M p0 13) fun _ => bd (fX13_sayBlock p0 p1 p9 v495 M) fun v503 M503 =>
  bn (v495) fun v508 =>
  bo (gI M503 p0 13 1) fun v513 =>
  if v508 < v513 then (
    k469 ((p0, p1, p2, v508)) M503
  ) else (
    if (p2 &&& 1) ≤ 0 then (
      fX13_pack_L542 p0 M503
    ) else (
      bo (gR M503 p0 13 0) fun v527 =>
      bo (gI M503 p0 13 1) fun v532 =>
      bd (fX13_sumOf v527 0 v532 M503) fun v535 M535 =>
      bo (chk M535 p0 13) fun _ => bd (fX13_say p0 v535 4 M535) fun v539 M539 =>
      fX13_pack_L542 p0 M539
    )
  )
def fX13_pack_B469 (k469 : Option Nat × Int32 × Int32 × Int32 → Mem → Option (Int32 × Mem)) (p0 : Option Nat) (p1 : Int32) (p2 : Int32) (p9 : Int32) (M : Mem) : Option (Int32 × Mem) :=
  bo (gI M p0 13 1) fun v476 =>
  if v476 ≤ (p9 + 2048) then (
    bo (gI M p0 13 1) fun v492 =>
    fX13_pack_L495 k469 p0 p1 p2 p9 v492 M
  ) else (
    fX13_pack_L495 k469 p0 p1 p2 p9 (p9 + 2048) M
  )
def fX13_pack_L469 (p0 : Option Nat) (p1 : Int32) (p2 : Int32) (p9 : Int32) (M : Mem) : Option (Int32 × Mem) :=
  lp (fun k469 (a : Option Nat × Int32 × Int32 × Int32) M => fX13_pack_B469 k469 a.1 a.2.1 a.2.2.1 a.2.2.2 M) FU ((p0, p1, p2, p9)) M
def fX13_pack_L459 (k405 : Option Nat × Int32 × Int32 × Int32 × Int32 → Mem → Option (Int32 × Mem)) (p0 : Option Nat) (p1 : Int32) (p2 : Int32) (p3 : Int32) (p9 : Int32) (q0 : Option Nat) (q1 : Int32) (q2 : Int64) (M : Mem) : Option (Int32 × Mem) :=
  bo (wJ M q0 q1 q2) fun M459 =>
  bn (p9 + 1) fun v460 =>
  k405 ((p0, p1, p2, p3, v460)) M459
def fX13_pack_L443 (k405 : Option Nat × Int32 × Int32 × Int32 × Int32 → Mem → Option (Int32 × Mem)) (p0 : Option Nat) (p1 : Int32) (p2 : Int32) (p3 : Int32) (p9 : Int32) (q0 : Option Nat) (q1 : Int32) (M : Mem) : Option (Int32 × Mem) :=
  if p9 = 0 then (
    fX13_pack_L459 k405 p0 p1 p2 p3 p9 q0 q1 1 M
  ) else (
    fX13_pack_L459 k405 p0 p1 p2 p3 p9 q0 q1 (4 * p9.toInt64) M
  )
def fX13_pack_B405 (k405 : Option Nat × Int32 × Int32 × Int32 × Int32 → Mem → Option (Int32 × Mem)) (p0 : Option Nat) (p1 : Int32) (p2 : Int32) (p3 : Int32) (p9 : Int32) (M : Mem) : Option (Int32 × Mem) :=
  if 3 ≤ p9 then (
    bn (0) fun v467 =>
    fX13_pack_L469 p0 p1 p2 v467 M
  ) else (
    bo (gR M p0 13 59) fun v412 =>
    if p3 = 0 then (
      fX13_pack_L443 k405 p0 p1 p2 p3 p9 v412 p9 M
    ) else (
      bo (gI M p0 13 28) fun v422 =>
      if v422 = 0 then (
        fX13_pack_L443 k405 p0 p1 p2 p3 p9 v412 p9 M
      ) else (
        bo (gR M p0 13 30) fun v429 =>
        bo (aI M v429 15 p9) fun v434 =>
        fX13_pack_L459 k405 p0 p1 p2 p3 p9 v412 p9 (v434.toInt64 &&& 4294967295) M
      )
    )
  )
def fX13_pack_L405 (p0 : Option Nat) (p1 : Int32) (p2 : Int32) (p3 : Int32) (p9 : Int32) (M : Mem) : Option (Int32 × Mem) :=
  lp (fun k405 (a : Option Nat × Int32 × Int32 × Int32 × Int32) M => fX13_pack_B405 k405 a.1 a.2.1 a.2.2.1 a.2.2.2.1 a.2.2.2.2 M) FU ((p0, p1, p2, p3, p9)) M
def fX13_pack_B368 (k368 : Option Nat × Int32 × Int32 × Int32 × Int32 → Mem → Option (Int32 × Mem)) (p0 : Option Nat) (p1 : Int32) (p2 : Int32) (p3 : Int32) (p9 : Int32) (M : Mem) : Option (Int32 × Mem) :=
  bo (gI M p0 13 1) fun v371 =>
  if v371 ≤ p9 then (
    bn (0) fun v403 =>
    fX13_pack_L405 p0 p1 p2 p3 v403 M
  ) else (
    bo (gR M p0 13 57) fun v378 =>
    bo (gI M p0 13 58) fun v382 =>
    bo (gR M p0 13 0) fun v389 =>
    bo (aI M v389 14 p9) fun v394 =>
    bo (wB M v378 (v382 + p9) v394) fun M395 =>
    bn (p9 + 1) fun v396 =>
    k368 ((p0, p1, p2, p3, v396)) M395
  )
def fX13_pack_L368 (p0 : Option Nat) (p1 : Int32) (p2 : Int32) (p3 : Int32) (p9 : Int32) (M : Mem) : Option (Int32 × Mem) :=
  lp (fun k368 (a : Option Nat × Int32 × Int32 × Int32 × Int32) M => fX13_pack_B368 k368 a.1 a.2.1 a.2.2.1 a.2.2.2.1 a.2.2.2.2 M) FU ((p0, p1, p2, p3, p9)) M
def fX13_pack_B336 (k336 : Option Nat × Int32 × Int32 × Int32 × Int32 → Mem → Option (Int32 × Mem)) (p0 : Option Nat) (p1 : Int32) (p2 : Int32) (p3 : Int32) (p9 : Int32) (M : Mem) : Option (Int32 × Mem) :=
  bo (gI M p0 13 58) fun v339 =>
  if v339 ≤ p9 then (
    bn (0) fun v366 =>
    fX13_pack_L368 p0 p1 p2 p3 v366 M
  ) else (
    bo (gR M p0 13 57) fun v346 =>
    bo (gR M p0 13 25) fun v352 =>
    bo (aI M v352 14 p9) fun v357 =>
    bo (wB M v346 p9 v357) fun M358 =>
    bn (p9 + 1) fun v359 =>
    k336 ((p0, p1, p2, p3, v359)) M358
  )
def fX13_pack_L336 (p0 : Option Nat) (p1 : Int32) (p2 : Int32) (p3 : Int32) (p9 : Int32) (M : Mem) : Option (Int32 × Mem) :=
  lp (fun k336 (a : Option Nat × Int32 × Int32 × Int32 × Int32) M => fX13_pack_B336 k336 a.1 a.2.1 a.2.2.1 a.2.2.2.1 a.2.2.2.2 M) FU ((p0, p1, p2, p3, p9)) M
def fX13_pack_L330 (p0 : Option Nat) (p1 : Int32) (p2 : Int32) (p3 : Int32) (q0 : Option Nat) (q1 : Int32) (M : Mem) : Option (Int32 × Mem) :=
  bo (pI M q0 13 58 q1) fun M330 =>
  bn (0) fun v334 =>
  fX13_pack_L336 p0 p1 p2 p3 v334 M330
def fX13_pack_L317 (p0 : Option Nat) (p1 : Int32) (p2 : Int32) (p3 : Int32) (M : Mem) : Option (Int32 × Mem) :=
  if p3 = 0 then (
    fX13_pack_L330 p0 p1 p2 p3 p0 0 M
  ) else (
    bo (gI M p0 13 26) fun v323 =>
    fX13_pack_L330 p0 p1 p2 p3 p0 v323 M
  )
def fX13_pack_L314 (p0 : Option Nat) (p1 : Int32) (p2 : Int32) (p3 : Int32) (q0 : Option Nat) (q1 : Int64) (q2 : Int32) (M : Mem) : Option (Int32 × Mem) :=
  bo (chk M q0 13) fun _ => bd (fX13_say q0 q1 q2 M) fun v314 M314 =>
  fX13_pack_L317 p0 p1 p2 p3 M314
def fX13_pack_L304 (p0 : Option Nat) (p1 : Int32) (p2 : Int32) (p3 : Int32) (p8 : Int32) (q0 : Option Nat) (q1 : Int64) (M : Mem) : Option (Int32 × Mem) :=
  if p8 = 0 then (
    fX13_pack_L314 p0 p1 p2 p3 q0 q1 1 M
  ) else (
    fX13_pack_L314 p0 p1 p2 p3 q0 q1 2 M
  )
def fX13_pack_L273 (p0 : Option Nat) (p1 : Int32) (p2 : Int32) (p3 : Int32) (p4 : Int32) (p8 : Int32) (q0 : Option Nat) (q1 : Int64) (q2 : Int32) (M : Mem) : Option (Int32 × Mem) :=
  bo (chk M q0 13) fun _ => bd (fX13_say q0 q1 q2 M) fun v273 M273 =>
  if p4 = 0 then (
    fX13_pack_L317 p0 p1 p2 p3 M273
  ) else (
    if p8 = 0 then (
      bo (gI M273 p0 13 1) fun v300 =>
      fX13_pack_L304 p0 p1 p2 p3 p8 p0 v300.toInt64 M273
    ) else (
      bo (gI M273 p0 13 1) fun v288 =>
      fX13_pack_L304 p0 p1 p2 p3 p8 p0 ((v288 - 256).toInt64) M273
    )
  )
def fX13_pack_L258 (p0 : Option Nat) (p1 : Int32) (p2 : Int32) (p3 : Int32) (p4 : Int32) (p5 : Int64) (p7 : Int32) (p8 : Int32) (M : Mem) : Option (Int32 × Mem) :=
  if p7 = 3 then (
    fX13_pack_L273 p0 p1 p2 p3 p4 p8 p0 p5 4 M
  ) else (
    fX13_pack_L273 p0 p1 p2 p3 p4 p8 p0 p5 p7 M
  )
def fX13_pack_B227 (k227 : Option Nat × Int32 × Int32 × Int32 × Int32 × Int64 × Int32 × Int32 × Int32 → Mem → Option (Int32 × Mem)) (p0 : Option Nat) (p1 : Int32) (p2 : Int32) (p3 : Int32) (p4 : Int32) (p5 : Int64) (p7 : Int32) (p8 : Int32) (p9 : Int32) (M : Mem) : Option (Int32 × Mem) :=
  bo (gI M p0 13 1) fun v235 =>
  if v235 ≤ (shlI 1 (10 + p9)) then (
    bo (chk M p0 13) fun _ => bd (fX13_say p0 ((8 * p9).toInt64) 1 M) fun v255 M255 =>
    fX13_pack_L258 p0 p1 p2 p3 p4 p5 p7 p8 M255
  ) else (
    bn (p9 + 1) fun v241 =>
    k227 ((p0, p1, p2, p3, p4, p5, p7, p8, v241)) M
  )
def fX13_pack_L227 (p0 : Option Nat) (p1 : Int32) (p2 : Int32) (p3 : Int32) (p4 : Int32) (p5 : Int64) (p7 : Int32) (p8 : Int32) (p9 : Int32) (M : Mem) : Option (Int32 × Mem) :=
  lp (fun k227 (a : Option Nat × Int32 × Int32 × Int32 × Int32 × Int64 × Int32 × Int32 × Int32) M => fX13_pack_B227 k227 a.1 a.2.1 a.2.2.1 a.2.2.2.1 a.2.2.2.2.1 a.2.2.2.2.2.1 a.2.2.2.2.2.2.1 a.2.2.2.2.2.2.2.1 a.2.2.2.2.2.2.2.2 M) FU ((p0, p1, p2, p3, p4, p5, p7, p8, p9)) M
def fX13_pack_L210 (p0 : Option Nat) (p1 : Int32) (p2 : Int32) (p3 : Int32) (p4 : Int32) (p5 : Int64) (p7 : Int32) (p8 : Int32) (q0 : Option Nat) (q1 : Int32) (q2 : Int32) (M : Mem) : Option (Int32 × Mem) :=
  bo (chk M q0 13) fun _ => bd (fX13_say q0 (((q1 + q2) + p7).toInt64) 1 M) fun v216 M216 =>
  if p4 = 0 then (
    bn (0) fun v225 =>
    fX13_pack_L227 p0 p1 p2 p3 p4 p5 p7 p8 v225 M216
  ) else (
    fX13_pack_L258 p0 p1 p2 p3 p4 p5 p7 p8 M216
  )
def fX13_pack_L198 (p0 : Option Nat) (p1 : Int32) (p2 : Int32) (p3 : Int32) (p4 : Int32) (p5 : Int64) (p7 : Int32) (p8 : Int32) (q0 : Option Nat) (q1 : Int32) (q2 : Int32) (M : Mem) : Option (Int32 × Mem) :=
  if (p2 &&& 1) ≤ 0 then (
    fX13_pack_L210 p0 p1 p2 p3 p4 p5 p7 p8 q0 (q1 + q2) 0 M
  ) else (
    fX13_pack_L210 p0 p1 p2 p3 p4 p5 p7 p8 q0 (q1 + q2) 4 M
  )
def fX13_pack_L187 (p0 : Option Nat) (p1 : Int32) (p2 : Int32) (p3 : Int32) (p4 : Int32) (p5 : Int64) (p7 : Int32) (p8 : Int32) (q0 : Option Nat) (q1 : Int32) (M : Mem) : Option (Int32 × Mem) :=
  if p4 = 0 then (
    fX13_pack_L198 p0 p1 p2 p3 p4 p5 p7 p8 q0 q1 0 M
  ) else (
    fX13_pack_L198 p0 p1 p2 p3 p4 p5 p7 p8 q0 q1 32 M
  )
def fX13_pack_L165 (p0 : Option Nat) (p1 : Int32) (p2 : Int32) (p3 : Int32) (p4 : Int32) (p5 : Int64) (p7 : Int32) (q0 : Int32) (M : Mem) : Option (Int32 × Mem) :=
  bn (q0) fun v165 =>
  bo (chk M p0 13) fun _ => bd (fX13_say p0 4247762216 4 M) fun v172 M172 =>
  if v165 = 0 then (
    fX13_pack_L187 p0 p1 p2 p3 p4 p5 p7 v165 p0 0 M172
  ) else (
    fX13_pack_L187 p0 p1 p2 p3 p4 p5 p7 v165 p0 64 M172
  )
def fX13_pack_L164 (p0 : Option Nat) (p1 : Int32) (p2 : Int32) (p3 : Int32) (p4 : Int32) (p5 : Int64) (p7 : Int32) (M : Mem) : Option (Int32 × Mem) :=
  fX13_pack_L165 p0 p1 p2 p3 p4 p5 p7 0 M
def fX13_pack_L143 (p0 : Option Nat) (p1 : Int32) (p2 : Int32) (p3 : Int32) (p4 : Int32) (p5 : Int64) (q0 : Int32) (M : Mem) : Option (Int32 × Mem) :=
  bn (q0) fun v143 =>
  if p4 = 0 then (
    fX13_pack_L164 p0 p1 p2 p3 p4 p5 v143 M
  ) else (
    bo (gI M p0 13 1) fun v151 =>
    if v151 ≤ 255 then (
      fX13_pack_L164 p0 p1 p2 p3 p4 p5 v143 M
    ) else (
      fX13_pack_L165 p0 p1 p2 p3 p4 p5 v143 1 M
    )
  )
def fX13_pack_L103 (p0 : Option Nat) (p1 : Int32) (p2 : Int32) (p3 : Int32) (p4 : Int32) (q0 : Int64) (M : Mem) : Option (Int32 × Mem) :=
  bn (q0) fun v103 =>
  if (lg_cmp v103 0) = 0 then (
    fX13_pack_L143 p0 p1 p2 p3 p4 v103 0 M
  ) else (
    if 0 ≤ (lg_cmp v103 256) then (
      if 0 ≤ (lg_cmp v103 65536) then (
        fX13_pack_L143 p0 p1 p2 p3 p4 v103 3 M
      ) else (
        fX13_pack_L143 p0 p1 p2 p3 p4 v103 2 M
      )
    ) else (
      fX13_pack_L143 p0 p1 p2 p3 p4 v103 1 M
    )
  )
def fX13_pack_L84 (p0 : Option Nat) (p1 : Int32) (p2 : Int32) (p3 : Int32) (q0 : Int32) (M : Mem) : Option (Int32 × Mem) :=
  bn (q0) fun v84 =>
  if p3 = 0 then (
    fX13_pack_L103 p0 p1 p2 p3 v84 0 M
  ) else (
    bo (gI M p0 13 29) fun v91 =>
    fX13_pack_L103 p0 p1 p2 p3 v84 (v91.toInt64 &&& 4294967295) M
  )
def fX13_pack_L72 (p0 : Option Nat) (p1 : Int32) (p2 : Int32) (q0 : Int32) (M : Mem) : Option (Int32 × Mem) :=
  bn (q0) fun v72 =>
  if (p2 &&& 2) ≤ 0 then (
    fX13_pack_L84 p0 p1 p2 v72 0 M
  ) else (
    fX13_pack_L84 p0 p1 p2 v72 1 M
  )
def fX13_pack_L38 (p0 : Option Nat) (p1 : Int32) (p2 : Int32) (M : Mem) : Option (Int32 × Mem) :=
  bo (gI M p0 13 1) fun v39 =>
  if v39 ≤ 6000 then (
    bo (pI M p0 13 54 0) fun M53 =>
    bo (pI M53 p0 13 56 0) fun M58 =>
    if (p2 &&& 4) ≤ 0 then (
      fX13_pack_L72 p0 p1 p2 0 M58
    ) else (
      fX13_pack_L72 p0 p1 p2 1 M58
    )
  ) else (
    some ((-4), M)
  )
def fX13_pack (a0 : Option Nat) (a1 : Int32) (a2 : Int32) (M : Mem) : Option (Int32 × Mem) :=
  if a1 < 0 then (
    fX13_pack_L19 M
  ) else (
    if 2 < a1 then (
      fX13_pack_L19 M
    ) else (
      if a2 < 0 then (
        fX13_pack_L19 M
      ) else (
        if a2 ≤ 7 then (
          if (a2 &&& 4) ≤ 0 then (
            fX13_pack_L38 a0 a1 a2 M
          ) else (
            bo (gI M a0 13 27) fun v29 =>
            if v29 = 0 then (
              some ((-3), M)
            ) else (
              fX13_pack_L38 a0 a1 a2 M
            )
          )
        ) else (
          fX13_pack_L19 M
        )
      )
    )
  )
def rmX13_pack : Room := { frames := 6, cells := 0, slots := 0, locals := 158 }
set_option maxRecDepth 100000 in
set_option maxHeartbeats 4000000 in
theorem ctX13_pack (l : Launch) (x : Cx) (a0 : Option Nat) (a1 : Int32) (a2 : Int32) (M : Mem) (v : Int32) (N : Mem) (h : fX13_pack a0 a1 a2 M = some (v, N)) : CT l yX13_pack cX13_pack 11 (some (FieldType.int)) rmX13_pack x [rv x a0, .int a1, .int a2] M (some (.int v)) N := by
  refine ct_mk (enc := fun v : Int32 => some (.int v)) (li := [(1, a1), (2, a2)]) (ll := []) (lr := [(0, a0)]) (by decide +kernel) (by simp [lg_sl, rv_cat, cat_int, cat_long]) (by simp [flat, lv_args, rv_cat, cat_int, cat_long]) h ?_
  intro p e s m args below meth c E
  have hL19 : ∀ (M : Mem), RT p l e rmX13_pack s m args below meth c x 11 (QM below args s x (fun v : Int32 => some (.int v)) rmX13_pack.cells rmX13_pack.slots) 0 0 (fX13_pack_L19 M) 19 [] [] [] [] M := by
    intro M
    unfold fX13_pack_L19
    refine r_bipush (pc := 19) (v := (-2)) E dX13_pack_19 (by decide) ?_
    exact e_int (pc := 21) E dX13_pack_21
  have hL545 : ∀ (p0 : Option Nat) (p10 : Int32) (M : Mem), RT p l e rmX13_pack s m args below meth c x 11 (QM below args s x (fun v : Int32 => some (.int v)) rmX13_pack.cells rmX13_pack.slots) 0 0 (fX13_pack_L545 p0 p10 M) 545 [(10, p10)] [] [(0, p0)] [] M := by
    intro p0 p10 M
    refine r_lp (fi := fun a : Option Nat × Int32 => [(10, a.2)]) (fl := fun a : Option Nat × Int32 => []) (fr := fun a : Option Nat × Int32 => [(0, a.1)]) (fs := fun a : Option Nat × Int32 => []) ?_ FU ((p0, p10)) M
    intro k545 hk545 a M
    obtain ⟨p0, p10⟩ := a
    show RT p l e rmX13_pack s m args below meth c x 11 (QM below args s x (fun v : Int32 => some (.int v)) rmX13_pack.cells rmX13_pack.slots) 0 0 (fX13_pack_B545 k545 p0 p10 M) 545 [(10, p10)] [] [(0, p0)] [] M
    unfold fX13_pack_B545
    refine r_iload (pc := 545) E dX13_pack_545 0 rfl ?_
    refine r_aload_n (pc := 547) E dX13_pack_547 rfl 0 rfl ?_
    refine r_getI (pc := 548) E fd_13_54 wf_RX13_412 dX13_pack_548 (fun v548 => ?_)
    refine r_icmp_ge (pc := 551) (tgt := 574) E dX13_pack_551 (by decide) ?_ ?_
    · refine r_aload_n (pc := 574) E dX13_pack_574 rfl 0 rfl ?_
      refine r_aload_n (pc := 575) E dX13_pack_575 rfl 0 rfl ?_
      refine r_getI (pc := 576) E fd_13_54 wf_RX13_412 dX13_pack_576 (fun v576 => ?_)
      refine r_putI (pc := 579) E fd_13_3 wf_RX13_155 dX13_pack_579 (Or.inl rfl) (fun M579 => ?_)
      refine r_aload_n (pc := 582) E dX13_pack_582 rfl 0 rfl ?_
      refine r_getI (pc := 583) E fd_13_3 wf_RX13_155 dX13_pack_583 (fun v583 => ?_)
      exact e_int (pc := 586) E dX13_pack_586
    · refine r_aload_n (pc := 554) E dX13_pack_554 rfl 0 rfl ?_
      refine r_getA (pc := 555) E fd_13_2 wf_RX13_13 dX13_pack_555 (fun v555 => ?_)
      refine r_iload (pc := 558) E dX13_pack_558 0 rfl ?_
      refine r_aload_n (pc := 560) E dX13_pack_560 rfl 0 rfl ?_
      refine r_getA (pc := 561) E fd_13_53 wf_RX13_104 dX13_pack_561 (fun v561 => ?_)
      refine r_iload (pc := 564) E dX13_pack_564 0 rfl ?_
      refine r_baload (pc := 566) E dX13_pack_566 (fun v566 => ?_)
      refine r_bastore (pc := 567) E dX13_pack_567 (fun M567 => ?_)
      refine r_iinc (pc := 568) (w := 1) (lf := fun v568 => [(10, v568)]) (ll' := []) (lr' := [(0, p0)]) E dX13_pack_568 0 rfl (by decide) (by decide) (fun _ => rfl) rfl rfl (fun v568 => ?_)
      refine r_goto (pc := 571) (tgt := 545) E dX13_pack_571 (by decide) ?_
      exact r_sub [0] [] [0] rfl rfl rfl (hk545 ((p0, v568)) _)
  have hL542 : ∀ (p0 : Option Nat) (M : Mem), RT p l e rmX13_pack s m args below meth c x 11 (QM below args s x (fun v : Int32 => some (.int v)) rmX13_pack.cells rmX13_pack.slots) 0 0 (fX13_pack_L542 p0 M) 542 [] [] [(0, p0)] [] M := by
    intro p0 M
    unfold fX13_pack_L542
    refine r_iconst (pc := 542) (v := 0) E dX13_pack_542 (by decide) ?_
    refine r_istore (pc := 543) (lf := fun v543 => [(10, v543)]) (lg := fun v543 => []) (lk := fun v543 => [(0, p0)]) E dX13_pack_543 (by decide) (fun _ => rfl) (fun _ => rfl) (fun _ => rfl) (fun v543 => ?_)
    exact r_sub [0] [] [0] rfl rfl rfl (hL545 p0 v543 _)
  have hL495 : ∀ (k469 : Option Nat × Int32 × Int32 × Int32 → Mem → Option (Int32 × Mem)) (hk469 : ∀ a M, RT p l e rmX13_pack s m args below meth c x 11 (QM below args s x (fun v : Int32 => some (.int v)) rmX13_pack.cells rmX13_pack.slots) 0 0 (k469 a M) 469 [(1, a.2.1), (2, a.2.2.1), (9, a.2.2.2)] [] [(0, a.1)] [] M) (p0 : Option Nat) (p1 : Int32) (p2 : Int32) (p9 : Int32) (q0 : Int32) (M : Mem), RT p l e rmX13_pack s m args below meth c x 11 (QM below args s x (fun v : Int32 => some (.int v)) rmX13_pack.cells rmX13_pack.slots) 0 0 (fX13_pack_L495 k469 p0 p1 p2 p9 q0 M) 495 [(1, p1), (2, p2), (9, p9)] [] [(0, p0)] [.int q0] M := by
    intro k469 hk469 p0 p1 p2 p9 q0 M
    unfold fX13_pack_L495
    refine r_istore (pc := 495) (lf := fun v495 => [(10, v495), (1, p1), (2, p2), (9, p9)]) (lg := fun v495 => []) (lk := fun v495 => [(0, p0)]) E dX13_pack_495 (by decide) (fun _ => rfl) (fun _ => rfl) (fun _ => rfl) (fun v495 => ?_)
    refine r_aload_n (pc := 497) E dX13_pack_497 rfl 0 rfl ?_
    refine r_iload_n (pc := 498) E dX13_pack_498 rfl 1 rfl ?_
    refine r_iload (pc := 499) E dX13_pack_499 3 rfl ?_
    refine r_iload (pc := 501) E dX13_pack_501 0 rfl ?_
    refine r_kVv (pc := 503) (As := [.int p1, .int p9, .int v495]) (rest := []) E wc_X13_sayBlock wi_RX13 hd_X13_sayBlock (ci := 13) rfl wl_RX13_427 wn_X13_sayBlock ws_X13_sayBlock dX13_pack_503 (by decide) (Nat.le_of_ble_eq_true rfl) ⟨rfl, rfl⟩ (ctX13_sayBlock l x _ _ _ _ _) rfl (fun v503 M503 => ?_)
    refine r_iload (pc := 506) E dX13_pack_506 0 rfl ?_
    refine r_istore (pc := 508) (lf := fun v508 => [(9, v508), (10, v495), (1, p1), (2, p2)]) (lg := fun v508 => []) (lk := fun v508 => [(0, p0)]) E dX13_pack_508 (by decide) (fun _ => rfl) (fun _ => rfl) (fun _ => rfl) (fun v508 => ?_)
    refine r_iload (pc := 510) E dX13_pack_510 0 rfl ?_
    refine r_aload_n (pc := 512) E dX13_pack_512 rfl 0 rfl ?_
    refine r_getI (pc := 513) E fd_13_1 wf_RX13_150 dX13_pack_513 (fun v513 => ?_)
    refine r_icmp_lt (pc := 516) (tgt := 469) E dX13_pack_516 (by decide) ?_ ?_
    · exact r_sub [2, 3, 0] [] [0] rfl rfl rfl (hk469 ((p0, p1, p2, v508)) _)
    · refine r_iload_n (pc := 519) E dX13_pack_519 rfl 3 rfl ?_
      refine r_iconst (pc := 520) (v := 1) E dX13_pack_520 (by decide) ?_
      refine r_iand (pc := 521) E dX13_pack_521 ?_
      refine r_if_le (pc := 522) (tgt := 542) E dX13_pack_522 (by decide) ?_ ?_
      · exact r_sub [] [] [0] rfl rfl rfl (hL542 p0 _)
      · refine r_aload_n (pc := 525) E dX13_pack_525 rfl 0 rfl ?_
        refine r_aload_n (pc := 526) E dX13_pack_526 rfl 0 rfl ?_
        refine r_getA (pc := 527) E fd_13_0 wf_RX13_7 dX13_pack_527 (fun v527 => ?_)
        refine r_iconst (pc := 530) (v := 0) E dX13_pack_530 (by decide) ?_
        refine r_aload_n (pc := 531) E dX13_pack_531 rfl 0 rfl ?_
        refine r_getI (pc := 532) E fd_13_1 wf_RX13_150 dX13_pack_532 (fun v532 => ?_)
        refine r_kSl (pc := 535) (As := [rv x v527, .int 0, .int v532]) (rest := [rv x p0]) E wc_X13_sumOf wi_RX13 hd_X13_sumOf wl_RX13_187 wt_X13_sumOf dX13_pack_535 (by decide) (Nat.le_of_ble_eq_true rfl) ⟨rfl, rfl⟩ (ctX13_sumOf l x _ _ _ _) rfl (fun v535 M535 => ?_)
        refine r_iconst (pc := 538) (v := 4) E dX13_pack_538 (by decide) ?_
        refine r_kVv (pc := 539) (As := [.long v535, .int 4]) (rest := []) E wc_X13_say wi_RX13 hd_X13_say (ci := 13) rfl wl_RX13_418 wn_X13_say ws_X13_say dX13_pack_539 (by decide) (Nat.le_of_ble_eq_true rfl) ⟨rfl, rfl⟩ (ctX13_say l x _ _ _ _) rfl (fun v539 M539 => ?_)
        exact r_sub [] [] [0] rfl rfl rfl (hL542 p0 _)
  have hL469 : ∀ (p0 : Option Nat) (p1 : Int32) (p2 : Int32) (p9 : Int32) (M : Mem), RT p l e rmX13_pack s m args below meth c x 11 (QM below args s x (fun v : Int32 => some (.int v)) rmX13_pack.cells rmX13_pack.slots) 0 0 (fX13_pack_L469 p0 p1 p2 p9 M) 469 [(1, p1), (2, p2), (9, p9)] [] [(0, p0)] [] M := by
    intro p0 p1 p2 p9 M
    refine r_lp (fi := fun a : Option Nat × Int32 × Int32 × Int32 => [(1, a.2.1), (2, a.2.2.1), (9, a.2.2.2)]) (fl := fun a : Option Nat × Int32 × Int32 × Int32 => []) (fr := fun a : Option Nat × Int32 × Int32 × Int32 => [(0, a.1)]) (fs := fun a : Option Nat × Int32 × Int32 × Int32 => []) ?_ FU ((p0, p1, p2, p9)) M
    intro k469 hk469 a M
    obtain ⟨p0, p1, p2, p9⟩ := a
    show RT p l e rmX13_pack s m args below meth c x 11 (QM below args s x (fun v : Int32 => some (.int v)) rmX13_pack.cells rmX13_pack.slots) 0 0 (fX13_pack_B469 k469 p0 p1 p2 p9 M) 469 [(1, p1), (2, p2), (9, p9)] [] [(0, p0)] [] M
    unfold fX13_pack_B469
    refine r_iload (pc := 469) E dX13_pack_469 2 rfl ?_
    refine r_sipush (pc := 471) (v := 2048) E dX13_pack_471 (by decide) ?_
    refine r_iadd (pc := 474) E dX13_pack_474 ?_
    refine r_aload_n (pc := 475) E dX13_pack_475 rfl 0 rfl ?_
    refine r_getI (pc := 476) E fd_13_1 wf_RX13_150 dX13_pack_476 (fun v476 => ?_)
    refine r_icmp_ge (pc := 479) (tgt := 491) E dX13_pack_479 (by decide) ?_ ?_
    · refine r_aload_n (pc := 491) E dX13_pack_491 rfl 0 rfl ?_
      refine r_getI (pc := 492) E fd_13_1 wf_RX13_150 dX13_pack_492 (fun v492 => ?_)
      exact r_sub [0, 1, 2] [] [0] rfl rfl rfl (hL495 k469 hk469 p0 p1 p2 p9 v492 _)
    · refine r_iload (pc := 482) E dX13_pack_482 2 rfl ?_
      refine r_sipush (pc := 484) (v := 2048) E dX13_pack_484 (by decide) ?_
      refine r_iadd (pc := 487) E dX13_pack_487 ?_
      refine r_goto (pc := 488) (tgt := 495) E dX13_pack_488 (by decide) ?_
      exact r_sub [0, 1, 2] [] [0] rfl rfl rfl (hL495 k469 hk469 p0 p1 p2 p9 (p9 + 2048) _)
  have hL459 : ∀ (k405 : Option Nat × Int32 × Int32 × Int32 × Int32 → Mem → Option (Int32 × Mem)) (hk405 : ∀ a M, RT p l e rmX13_pack s m args below meth c x 11 (QM below args s x (fun v : Int32 => some (.int v)) rmX13_pack.cells rmX13_pack.slots) 0 0 (k405 a M) 405 [(1, a.2.1), (2, a.2.2.1), (3, a.2.2.2.1), (9, a.2.2.2.2)] [] [(0, a.1)] [] M) (p0 : Option Nat) (p1 : Int32) (p2 : Int32) (p3 : Int32) (p9 : Int32) (q0 : Option Nat) (q1 : Int32) (q2 : Int64) (M : Mem), RT p l e rmX13_pack s m args below meth c x 11 (QM below args s x (fun v : Int32 => some (.int v)) rmX13_pack.cells rmX13_pack.slots) 0 0 (fX13_pack_L459 k405 p0 p1 p2 p3 p9 q0 q1 q2 M) 459 [(1, p1), (2, p2), (3, p3), (9, p9)] [] [(0, p0)] [.long q2, .int q1, rv x q0] M := by
    intro k405 hk405 p0 p1 p2 p3 p9 q0 q1 q2 M
    unfold fX13_pack_L459
    refine r_lastore (pc := 459) E dX13_pack_459 (fun M459 => ?_)
    refine r_iinc (pc := 460) (w := 1) (lf := fun v460 => [(9, v460), (1, p1), (2, p2), (3, p3)]) (ll' := []) (lr' := [(0, p0)]) E dX13_pack_460 3 rfl (by decide) (by decide) (fun _ => rfl) rfl rfl (fun v460 => ?_)
    refine r_goto (pc := 463) (tgt := 405) E dX13_pack_463 (by decide) ?_
    exact r_sub [1, 2, 3, 0] [] [0] rfl rfl rfl (hk405 ((p0, p1, p2, p3, v460)) _)
  have hL443 : ∀ (k405 : Option Nat × Int32 × Int32 × Int32 × Int32 → Mem → Option (Int32 × Mem)) (hk405 : ∀ a M, RT p l e rmX13_pack s m args below meth c x 11 (QM below args s x (fun v : Int32 => some (.int v)) rmX13_pack.cells rmX13_pack.slots) 0 0 (k405 a M) 405 [(1, a.2.1), (2, a.2.2.1), (3, a.2.2.2.1), (9, a.2.2.2.2)] [] [(0, a.1)] [] M) (p0 : Option Nat) (p1 : Int32) (p2 : Int32) (p3 : Int32) (p9 : Int32) (q0 : Option Nat) (q1 : Int32) (M : Mem), RT p l e rmX13_pack s m args below meth c x 11 (QM below args s x (fun v : Int32 => some (.int v)) rmX13_pack.cells rmX13_pack.slots) 0 0 (fX13_pack_L443 k405 p0 p1 p2 p3 p9 q0 q1 M) 443 [(1, p1), (2, p2), (3, p3), (9, p9)] [] [(0, p0)] [.int q1, rv x q0] M := by
    intro k405 hk405 p0 p1 p2 p3 p9 q0 q1 M
    unfold fX13_pack_L443
    refine r_iload (pc := 443) E dX13_pack_443 3 rfl ?_
    refine r_if_ne (pc := 445) (tgt := 452) E dX13_pack_445 (by decide) ?_ ?_
    · refine r_ldc2 (pc := 452) E wk_RX13_342 dX13_pack_452 ?_
      refine r_iload (pc := 455) E dX13_pack_455 3 rfl ?_
      refine r_i2l (pc := 457) E dX13_pack_457 ?_
      refine r_lmul (pc := 458) E dX13_pack_458 ?_
      exact r_sub [0, 1, 2, 3] [] [0] rfl rfl rfl (hL459 k405 hk405 p0 p1 p2 p3 p9 q0 q1 (4 * p9.toInt64) _)
    · refine r_lconst (pc := 448) (v := 1) E dX13_pack_448 (by decide) ?_
      refine r_goto (pc := 449) (tgt := 459) E dX13_pack_449 (by decide) ?_
      exact r_sub [0, 1, 2, 3] [] [0] rfl rfl rfl (hL459 k405 hk405 p0 p1 p2 p3 p9 q0 q1 1 _)
  have hL405 : ∀ (p0 : Option Nat) (p1 : Int32) (p2 : Int32) (p3 : Int32) (p9 : Int32) (M : Mem), RT p l e rmX13_pack s m args below meth c x 11 (QM below args s x (fun v : Int32 => some (.int v)) rmX13_pack.cells rmX13_pack.slots) 0 0 (fX13_pack_L405 p0 p1 p2 p3 p9 M) 405 [(1, p1), (2, p2), (3, p3), (9, p9)] [] [(0, p0)] [] M := by
    intro p0 p1 p2 p3 p9 M
    refine r_lp (fi := fun a : Option Nat × Int32 × Int32 × Int32 × Int32 => [(1, a.2.1), (2, a.2.2.1), (3, a.2.2.2.1), (9, a.2.2.2.2)]) (fl := fun a : Option Nat × Int32 × Int32 × Int32 × Int32 => []) (fr := fun a : Option Nat × Int32 × Int32 × Int32 × Int32 => [(0, a.1)]) (fs := fun a : Option Nat × Int32 × Int32 × Int32 × Int32 => []) ?_ FU ((p0, p1, p2, p3, p9)) M
    intro k405 hk405 a M
    obtain ⟨p0, p1, p2, p3, p9⟩ := a
    show RT p l e rmX13_pack s m args below meth c x 11 (QM below args s x (fun v : Int32 => some (.int v)) rmX13_pack.cells rmX13_pack.slots) 0 0 (fX13_pack_B405 k405 p0 p1 p2 p3 p9 M) 405 [(1, p1), (2, p2), (3, p3), (9, p9)] [] [(0, p0)] [] M
    unfold fX13_pack_B405
    refine r_iload (pc := 405) E dX13_pack_405 3 rfl ?_
    refine r_iconst (pc := 407) (v := 3) E dX13_pack_407 (by decide) ?_
    refine r_icmp_ge (pc := 408) (tgt := 466) E dX13_pack_408 (by decide) ?_ ?_
    · refine r_iconst (pc := 466) (v := 0) E dX13_pack_466 (by decide) ?_
      refine r_istore (pc := 467) (lf := fun v467 => [(9, v467), (1, p1), (2, p2), (3, p3)]) (lg := fun v467 => []) (lk := fun v467 => [(0, p0)]) E dX13_pack_467 (by decide) (fun _ => rfl) (fun _ => rfl) (fun _ => rfl) (fun v467 => ?_)
      exact r_sub [1, 2, 0] [] [0] rfl rfl rfl (hL469 p0 p1 p2 v467 _)
    · refine r_aload_n (pc := 411) E dX13_pack_411 rfl 0 rfl ?_
      refine r_getA (pc := 412) E fd_13_59 wf_RX13_114 dX13_pack_412 (fun v412 => ?_)
      refine r_iload (pc := 415) E dX13_pack_415 3 rfl ?_
      refine r_iload_n (pc := 417) E dX13_pack_417 rfl 2 rfl ?_
      refine r_if_eq (pc := 418) (tgt := 443) E dX13_pack_418 (by decide) ?_ ?_
      · exact r_sub [0, 1, 2, 3] [] [0] rfl rfl rfl (hL443 k405 hk405 p0 p1 p2 p3 p9 v412 p9 _)
      · refine r_aload_n (pc := 421) E dX13_pack_421 rfl 0 rfl ?_
        refine r_getZ (pc := 422) E fd_13_28 wf_RX13_248 dX13_pack_422 (fun v422 => ?_)
        refine r_if_eq (pc := 425) (tgt := 443) E dX13_pack_425 (by decide) ?_ ?_
        · exact r_sub [0, 1, 2, 3] [] [0] rfl rfl rfl (hL443 k405 hk405 p0 p1 p2 p3 p9 v412 p9 _)
        · refine r_aload_n (pc := 428) E dX13_pack_428 rfl 0 rfl ?_
          refine r_getA (pc := 429) E fd_13_30 wf_RX13_65 dX13_pack_429 (fun v429 => ?_)
          refine r_iload (pc := 432) E dX13_pack_432 3 rfl ?_
          refine r_iaload (pc := 434) E dX13_pack_434 (fun v434 => ?_)
          refine r_i2l (pc := 435) E dX13_pack_435 ?_
          refine r_ldc2 (pc := 436) E wk_RX13_337 dX13_pack_436 ?_
          refine r_land (pc := 439) E dX13_pack_439 ?_
          refine r_goto (pc := 440) (tgt := 459) E dX13_pack_440 (by decide) ?_
          exact r_sub [0, 1, 2, 3] [] [0] rfl rfl rfl (hL459 k405 hk405 p0 p1 p2 p3 p9 v412 p9 (v434.toInt64 &&& 4294967295) _)
  have hL368 : ∀ (p0 : Option Nat) (p1 : Int32) (p2 : Int32) (p3 : Int32) (p9 : Int32) (M : Mem), RT p l e rmX13_pack s m args below meth c x 11 (QM below args s x (fun v : Int32 => some (.int v)) rmX13_pack.cells rmX13_pack.slots) 0 0 (fX13_pack_L368 p0 p1 p2 p3 p9 M) 368 [(1, p1), (2, p2), (3, p3), (9, p9)] [] [(0, p0)] [] M := by
    intro p0 p1 p2 p3 p9 M
    refine r_lp (fi := fun a : Option Nat × Int32 × Int32 × Int32 × Int32 => [(1, a.2.1), (2, a.2.2.1), (3, a.2.2.2.1), (9, a.2.2.2.2)]) (fl := fun a : Option Nat × Int32 × Int32 × Int32 × Int32 => []) (fr := fun a : Option Nat × Int32 × Int32 × Int32 × Int32 => [(0, a.1)]) (fs := fun a : Option Nat × Int32 × Int32 × Int32 × Int32 => []) ?_ FU ((p0, p1, p2, p3, p9)) M
    intro k368 hk368 a M
    obtain ⟨p0, p1, p2, p3, p9⟩ := a
    show RT p l e rmX13_pack s m args below meth c x 11 (QM below args s x (fun v : Int32 => some (.int v)) rmX13_pack.cells rmX13_pack.slots) 0 0 (fX13_pack_B368 k368 p0 p1 p2 p3 p9 M) 368 [(1, p1), (2, p2), (3, p3), (9, p9)] [] [(0, p0)] [] M
    unfold fX13_pack_B368
    refine r_iload (pc := 368) E dX13_pack_368 3 rfl ?_
    refine r_aload_n (pc := 370) E dX13_pack_370 rfl 0 rfl ?_
    refine r_getI (pc := 371) E fd_13_1 wf_RX13_150 dX13_pack_371 (fun v371 => ?_)
    refine r_icmp_ge (pc := 374) (tgt := 402) E dX13_pack_374 (by decide) ?_ ?_
    · refine r_iconst (pc := 402) (v := 0) E dX13_pack_402 (by decide) ?_
      refine r_istore (pc := 403) (lf := fun v403 => [(9, v403), (1, p1), (2, p2), (3, p3)]) (lg := fun v403 => []) (lk := fun v403 => [(0, p0)]) E dX13_pack_403 (by decide) (fun _ => rfl) (fun _ => rfl) (fun _ => rfl) (fun v403 => ?_)
      exact r_sub [1, 2, 3, 0] [] [0] rfl rfl rfl (hL405 p0 p1 p2 p3 v403 _)
    · refine r_aload_n (pc := 377) E dX13_pack_377 rfl 0 rfl ?_
      refine r_getA (pc := 378) E fd_13_57 wf_RX13_111 dX13_pack_378 (fun v378 => ?_)
      refine r_aload_n (pc := 381) E dX13_pack_381 rfl 0 rfl ?_
      refine r_getI (pc := 382) E fd_13_58 wf_RX13_424 dX13_pack_382 (fun v382 => ?_)
      refine r_iload (pc := 385) E dX13_pack_385 3 rfl ?_
      refine r_iadd (pc := 387) E dX13_pack_387 ?_
      refine r_aload_n (pc := 388) E dX13_pack_388 rfl 0 rfl ?_
      refine r_getA (pc := 389) E fd_13_0 wf_RX13_7 dX13_pack_389 (fun v389 => ?_)
      refine r_iload (pc := 392) E dX13_pack_392 3 rfl ?_
      refine r_baload (pc := 394) E dX13_pack_394 (fun v394 => ?_)
      refine r_bastore (pc := 395) E dX13_pack_395 (fun M395 => ?_)
      refine r_iinc (pc := 396) (w := 1) (lf := fun v396 => [(9, v396), (1, p1), (2, p2), (3, p3)]) (ll' := []) (lr' := [(0, p0)]) E dX13_pack_396 3 rfl (by decide) (by decide) (fun _ => rfl) rfl rfl (fun v396 => ?_)
      refine r_goto (pc := 399) (tgt := 368) E dX13_pack_399 (by decide) ?_
      exact r_sub [1, 2, 3, 0] [] [0] rfl rfl rfl (hk368 ((p0, p1, p2, p3, v396)) _)
  have hL336 : ∀ (p0 : Option Nat) (p1 : Int32) (p2 : Int32) (p3 : Int32) (p9 : Int32) (M : Mem), RT p l e rmX13_pack s m args below meth c x 11 (QM below args s x (fun v : Int32 => some (.int v)) rmX13_pack.cells rmX13_pack.slots) 0 0 (fX13_pack_L336 p0 p1 p2 p3 p9 M) 336 [(1, p1), (2, p2), (3, p3), (9, p9)] [] [(0, p0)] [] M := by
    intro p0 p1 p2 p3 p9 M
    refine r_lp (fi := fun a : Option Nat × Int32 × Int32 × Int32 × Int32 => [(1, a.2.1), (2, a.2.2.1), (3, a.2.2.2.1), (9, a.2.2.2.2)]) (fl := fun a : Option Nat × Int32 × Int32 × Int32 × Int32 => []) (fr := fun a : Option Nat × Int32 × Int32 × Int32 × Int32 => [(0, a.1)]) (fs := fun a : Option Nat × Int32 × Int32 × Int32 × Int32 => []) ?_ FU ((p0, p1, p2, p3, p9)) M
    intro k336 hk336 a M
    obtain ⟨p0, p1, p2, p3, p9⟩ := a
    show RT p l e rmX13_pack s m args below meth c x 11 (QM below args s x (fun v : Int32 => some (.int v)) rmX13_pack.cells rmX13_pack.slots) 0 0 (fX13_pack_B336 k336 p0 p1 p2 p3 p9 M) 336 [(1, p1), (2, p2), (3, p3), (9, p9)] [] [(0, p0)] [] M
    unfold fX13_pack_B336
    refine r_iload (pc := 336) E dX13_pack_336 3 rfl ?_
    refine r_aload_n (pc := 338) E dX13_pack_338 rfl 0 rfl ?_
    refine r_getI (pc := 339) E fd_13_58 wf_RX13_424 dX13_pack_339 (fun v339 => ?_)
    refine r_icmp_ge (pc := 342) (tgt := 365) E dX13_pack_342 (by decide) ?_ ?_
    · refine r_iconst (pc := 365) (v := 0) E dX13_pack_365 (by decide) ?_
      refine r_istore (pc := 366) (lf := fun v366 => [(9, v366), (1, p1), (2, p2), (3, p3)]) (lg := fun v366 => []) (lk := fun v366 => [(0, p0)]) E dX13_pack_366 (by decide) (fun _ => rfl) (fun _ => rfl) (fun _ => rfl) (fun v366 => ?_)
      exact r_sub [1, 2, 3, 0] [] [0] rfl rfl rfl (hL368 p0 p1 p2 p3 v366 _)
    · refine r_aload_n (pc := 345) E dX13_pack_345 rfl 0 rfl ?_
      refine r_getA (pc := 346) E fd_13_57 wf_RX13_111 dX13_pack_346 (fun v346 => ?_)
      refine r_iload (pc := 349) E dX13_pack_349 3 rfl ?_
      refine r_aload_n (pc := 351) E dX13_pack_351 rfl 0 rfl ?_
      refine r_getA (pc := 352) E fd_13_25 wf_RX13_62 dX13_pack_352 (fun v352 => ?_)
      refine r_iload (pc := 355) E dX13_pack_355 3 rfl ?_
      refine r_baload (pc := 357) E dX13_pack_357 (fun v357 => ?_)
      refine r_bastore (pc := 358) E dX13_pack_358 (fun M358 => ?_)
      refine r_iinc (pc := 359) (w := 1) (lf := fun v359 => [(9, v359), (1, p1), (2, p2), (3, p3)]) (ll' := []) (lr' := [(0, p0)]) E dX13_pack_359 3 rfl (by decide) (by decide) (fun _ => rfl) rfl rfl (fun v359 => ?_)
      refine r_goto (pc := 362) (tgt := 336) E dX13_pack_362 (by decide) ?_
      exact r_sub [1, 2, 3, 0] [] [0] rfl rfl rfl (hk336 ((p0, p1, p2, p3, v359)) _)
  have hL330 : ∀ (p0 : Option Nat) (p1 : Int32) (p2 : Int32) (p3 : Int32) (q0 : Option Nat) (q1 : Int32) (M : Mem), RT p l e rmX13_pack s m args below meth c x 11 (QM below args s x (fun v : Int32 => some (.int v)) rmX13_pack.cells rmX13_pack.slots) 0 0 (fX13_pack_L330 p0 p1 p2 p3 q0 q1 M) 330 [(1, p1), (2, p2), (3, p3)] [] [(0, p0)] [.int q1, rv x q0] M := by
    intro p0 p1 p2 p3 q0 q1 M
    unfold fX13_pack_L330
    refine r_putI (pc := 330) E fd_13_58 wf_RX13_424 dX13_pack_330 (Or.inl rfl) (fun M330 => ?_)
    refine r_iconst (pc := 333) (v := 0) E dX13_pack_333 (by decide) ?_
    refine r_istore (pc := 334) (lf := fun v334 => [(9, v334), (1, p1), (2, p2), (3, p3)]) (lg := fun v334 => []) (lk := fun v334 => [(0, p0)]) E dX13_pack_334 (by decide) (fun _ => rfl) (fun _ => rfl) (fun _ => rfl) (fun v334 => ?_)
    exact r_sub [1, 2, 3, 0] [] [0] rfl rfl rfl (hL336 p0 p1 p2 p3 v334 _)
  have hL317 : ∀ (p0 : Option Nat) (p1 : Int32) (p2 : Int32) (p3 : Int32) (M : Mem), RT p l e rmX13_pack s m args below meth c x 11 (QM below args s x (fun v : Int32 => some (.int v)) rmX13_pack.cells rmX13_pack.slots) 0 0 (fX13_pack_L317 p0 p1 p2 p3 M) 317 [(1, p1), (2, p2), (3, p3)] [] [(0, p0)] [] M := by
    intro p0 p1 p2 p3 M
    unfold fX13_pack_L317
    refine r_aload_n (pc := 317) E dX13_pack_317 rfl 0 rfl ?_
    refine r_iload_n (pc := 318) E dX13_pack_318 rfl 2 rfl ?_
    refine r_if_eq (pc := 319) (tgt := 329) E dX13_pack_319 (by decide) ?_ ?_
    · refine r_iconst (pc := 329) (v := 0) E dX13_pack_329 (by decide) ?_
      exact r_sub [0, 1, 2] [] [0] rfl rfl rfl (hL330 p0 p1 p2 p3 p0 0 _)
    · refine r_aload_n (pc := 322) E dX13_pack_322 rfl 0 rfl ?_
      refine r_getI (pc := 323) E fd_13_26 wf_RX13_273 dX13_pack_323 (fun v323 => ?_)
      refine r_goto (pc := 326) (tgt := 330) E dX13_pack_326 (by decide) ?_
      exact r_sub [0, 1, 2] [] [0] rfl rfl rfl (hL330 p0 p1 p2 p3 p0 v323 _)
  have hL314 : ∀ (p0 : Option Nat) (p1 : Int32) (p2 : Int32) (p3 : Int32) (q0 : Option Nat) (q1 : Int64) (q2 : Int32) (M : Mem), RT p l e rmX13_pack s m args below meth c x 11 (QM below args s x (fun v : Int32 => some (.int v)) rmX13_pack.cells rmX13_pack.slots) 0 0 (fX13_pack_L314 p0 p1 p2 p3 q0 q1 q2 M) 314 [(1, p1), (2, p2), (3, p3)] [] [(0, p0)] [.int q2, .long q1, rv x q0] M := by
    intro p0 p1 p2 p3 q0 q1 q2 M
    unfold fX13_pack_L314
    refine r_kVv (pc := 314) (As := [.long q1, .int q2]) (rest := []) E wc_X13_say wi_RX13 hd_X13_say (ci := 13) rfl wl_RX13_418 wn_X13_say ws_X13_say dX13_pack_314 (by decide) (Nat.le_of_ble_eq_true rfl) ⟨rfl, rfl⟩ (ctX13_say l x _ _ _ _) rfl (fun v314 M314 => ?_)
    exact r_sub [0, 1, 2] [] [0] rfl rfl rfl (hL317 p0 p1 p2 p3 _)
  have hL304 : ∀ (p0 : Option Nat) (p1 : Int32) (p2 : Int32) (p3 : Int32) (p8 : Int32) (q0 : Option Nat) (q1 : Int64) (M : Mem), RT p l e rmX13_pack s m args below meth c x 11 (QM below args s x (fun v : Int32 => some (.int v)) rmX13_pack.cells rmX13_pack.slots) 0 0 (fX13_pack_L304 p0 p1 p2 p3 p8 q0 q1 M) 304 [(1, p1), (2, p2), (3, p3), (8, p8)] [] [(0, p0)] [.long q1, rv x q0] M := by
    intro p0 p1 p2 p3 p8 q0 q1 M
    unfold fX13_pack_L304
    refine r_iload (pc := 304) E dX13_pack_304 3 rfl ?_
    refine r_if_eq (pc := 306) (tgt := 313) E dX13_pack_306 (by decide) ?_ ?_
    · refine r_iconst (pc := 313) (v := 1) E dX13_pack_313 (by decide) ?_
      exact r_sub [0, 1, 2] [] [0] rfl rfl rfl (hL314 p0 p1 p2 p3 q0 q1 1 _)
    · refine r_iconst (pc := 309) (v := 2) E dX13_pack_309 (by decide) ?_
      refine r_goto (pc := 310) (tgt := 314) E dX13_pack_310 (by decide) ?_
      exact r_sub [0, 1, 2] [] [0] rfl rfl rfl (hL314 p0 p1 p2 p3 q0 q1 2 _)
  have hL273 : ∀ (p0 : Option Nat) (p1 : Int32) (p2 : Int32) (p3 : Int32) (p4 : Int32) (p8 : Int32) (q0 : Option Nat) (q1 : Int64) (q2 : Int32) (M : Mem), RT p l e rmX13_pack s m args below meth c x 11 (QM below args s x (fun v : Int32 => some (.int v)) rmX13_pack.cells rmX13_pack.slots) 0 0 (fX13_pack_L273 p0 p1 p2 p3 p4 p8 q0 q1 q2 M) 273 [(1, p1), (2, p2), (3, p3), (4, p4), (8, p8)] [] [(0, p0)] [.int q2, .long q1, rv x q0] M := by
    intro p0 p1 p2 p3 p4 p8 q0 q1 q2 M
    unfold fX13_pack_L273
    refine r_kVv (pc := 273) (As := [.long q1, .int q2]) (rest := []) E wc_X13_say wi_RX13 hd_X13_say (ci := 13) rfl wl_RX13_418 wn_X13_say ws_X13_say dX13_pack_273 (by decide) (Nat.le_of_ble_eq_true rfl) ⟨rfl, rfl⟩ (ctX13_say l x _ _ _ _) rfl (fun v273 M273 => ?_)
    refine r_iload (pc := 276) E dX13_pack_276 3 rfl ?_
    refine r_if_eq (pc := 278) (tgt := 317) E dX13_pack_278 (by decide) ?_ ?_
    · exact r_sub [0, 1, 2] [] [0] rfl rfl rfl (hL317 p0 p1 p2 p3 _)
    · refine r_aload_n (pc := 281) E dX13_pack_281 rfl 0 rfl ?_
      refine r_iload (pc := 282) E dX13_pack_282 4 rfl ?_
      refine r_if_eq (pc := 284) (tgt := 299) E dX13_pack_284 (by decide) ?_ ?_
      · refine r_aload_n (pc := 299) E dX13_pack_299 rfl 0 rfl ?_
        refine r_getI (pc := 300) E fd_13_1 wf_RX13_150 dX13_pack_300 (fun v300 => ?_)
        refine r_i2l (pc := 303) E dX13_pack_303 ?_
        exact r_sub [0, 1, 2, 4] [] [0] rfl rfl rfl (hL304 p0 p1 p2 p3 p8 p0 v300.toInt64 _)
      · refine r_aload_n (pc := 287) E dX13_pack_287 rfl 0 rfl ?_
        refine r_getI (pc := 288) E fd_13_1 wf_RX13_150 dX13_pack_288 (fun v288 => ?_)
        refine r_sipush (pc := 291) (v := 256) E dX13_pack_291 (by decide) ?_
        refine r_isub (pc := 294) E dX13_pack_294 ?_
        refine r_i2l (pc := 295) E dX13_pack_295 ?_
        refine r_goto (pc := 296) (tgt := 304) E dX13_pack_296 (by decide) ?_
        exact r_sub [0, 1, 2, 4] [] [0] rfl rfl rfl (hL304 p0 p1 p2 p3 p8 p0 ((v288 - 256).toInt64) _)
  have hL258 : ∀ (p0 : Option Nat) (p1 : Int32) (p2 : Int32) (p3 : Int32) (p4 : Int32) (p5 : Int64) (p7 : Int32) (p8 : Int32) (M : Mem), RT p l e rmX13_pack s m args below meth c x 11 (QM below args s x (fun v : Int32 => some (.int v)) rmX13_pack.cells rmX13_pack.slots) 0 0 (fX13_pack_L258 p0 p1 p2 p3 p4 p5 p7 p8 M) 258 [(1, p1), (2, p2), (3, p3), (4, p4), (7, p7), (8, p8)] [(5, p5)] [(0, p0)] [] M := by
    intro p0 p1 p2 p3 p4 p5 p7 p8 M
    unfold fX13_pack_L258
    refine r_aload_n (pc := 258) E dX13_pack_258 rfl 0 rfl ?_
    refine r_lload (pc := 259) E dX13_pack_259 0 rfl ?_
    refine r_iload (pc := 261) E dX13_pack_261 4 rfl ?_
    refine r_iconst (pc := 263) (v := 3) E dX13_pack_263 (by decide) ?_
    refine r_icmp_ne (pc := 264) (tgt := 271) E dX13_pack_264 (by decide) ?_ ?_
    · refine r_iload (pc := 271) E dX13_pack_271 4 rfl ?_
      exact r_sub [0, 1, 2, 3, 5] [] [0] rfl rfl rfl (hL273 p0 p1 p2 p3 p4 p8 p0 p5 p7 _)
    · refine r_iconst (pc := 267) (v := 4) E dX13_pack_267 (by decide) ?_
      refine r_goto (pc := 268) (tgt := 273) E dX13_pack_268 (by decide) ?_
      exact r_sub [0, 1, 2, 3, 5] [] [0] rfl rfl rfl (hL273 p0 p1 p2 p3 p4 p8 p0 p5 4 _)
  have hL227 : ∀ (p0 : Option Nat) (p1 : Int32) (p2 : Int32) (p3 : Int32) (p4 : Int32) (p5 : Int64) (p7 : Int32) (p8 : Int32) (p9 : Int32) (M : Mem), RT p l e rmX13_pack s m args below meth c x 11 (QM below args s x (fun v : Int32 => some (.int v)) rmX13_pack.cells rmX13_pack.slots) 0 0 (fX13_pack_L227 p0 p1 p2 p3 p4 p5 p7 p8 p9 M) 227 [(1, p1), (2, p2), (3, p3), (4, p4), (7, p7), (8, p8), (9, p9)] [(5, p5)] [(0, p0)] [] M := by
    intro p0 p1 p2 p3 p4 p5 p7 p8 p9 M
    refine r_lp (fi := fun a : Option Nat × Int32 × Int32 × Int32 × Int32 × Int64 × Int32 × Int32 × Int32 => [(1, a.2.1), (2, a.2.2.1), (3, a.2.2.2.1), (4, a.2.2.2.2.1), (7, a.2.2.2.2.2.2.1), (8, a.2.2.2.2.2.2.2.1), (9, a.2.2.2.2.2.2.2.2)]) (fl := fun a : Option Nat × Int32 × Int32 × Int32 × Int32 × Int64 × Int32 × Int32 × Int32 => [(5, a.2.2.2.2.2.1)]) (fr := fun a : Option Nat × Int32 × Int32 × Int32 × Int32 × Int64 × Int32 × Int32 × Int32 => [(0, a.1)]) (fs := fun a : Option Nat × Int32 × Int32 × Int32 × Int32 × Int64 × Int32 × Int32 × Int32 => []) ?_ FU ((p0, p1, p2, p3, p4, p5, p7, p8, p9)) M
    intro k227 hk227 a M
    obtain ⟨p0, p1, p2, p3, p4, p5, p7, p8, p9⟩ := a
    show RT p l e rmX13_pack s m args below meth c x 11 (QM below args s x (fun v : Int32 => some (.int v)) rmX13_pack.cells rmX13_pack.slots) 0 0 (fX13_pack_B227 k227 p0 p1 p2 p3 p4 p5 p7 p8 p9 M) 227 [(1, p1), (2, p2), (3, p3), (4, p4), (7, p7), (8, p8), (9, p9)] [(5, p5)] [(0, p0)] [] M
    unfold fX13_pack_B227
    refine r_iconst (pc := 227) (v := 1) E dX13_pack_227 (by decide) ?_
    refine r_bipush (pc := 228) (v := 10) E dX13_pack_228 (by decide) ?_
    refine r_iload (pc := 230) E dX13_pack_230 6 rfl ?_
    refine r_iadd (pc := 232) E dX13_pack_232 ?_
    refine r_ishl (pc := 233) E dX13_pack_233 ?_
    refine r_aload_n (pc := 234) E dX13_pack_234 rfl 0 rfl ?_
    refine r_getI (pc := 235) E fd_13_1 wf_RX13_150 dX13_pack_235 (fun v235 => ?_)
    refine r_icmp_ge (pc := 238) (tgt := 247) E dX13_pack_238 (by decide) ?_ ?_
    · refine r_aload_n (pc := 247) E dX13_pack_247 rfl 0 rfl ?_
      refine r_bipush (pc := 248) (v := 8) E dX13_pack_248 (by decide) ?_
      refine r_iload (pc := 250) E dX13_pack_250 6 rfl ?_
      refine r_imul (pc := 252) E dX13_pack_252 ?_
      refine r_i2l (pc := 253) E dX13_pack_253 ?_
      refine r_iconst (pc := 254) (v := 1) E dX13_pack_254 (by decide) ?_
      refine r_kVv (pc := 255) (As := [.long ((8 * p9).toInt64), .int 1]) (rest := []) E wc_X13_say wi_RX13 hd_X13_say (ci := 13) rfl wl_RX13_418 wn_X13_say ws_X13_say dX13_pack_255 (by decide) (Nat.le_of_ble_eq_true rfl) ⟨rfl, rfl⟩ (ctX13_say l x _ _ _ _) rfl (fun v255 M255 => ?_)
      exact r_sub [0, 1, 2, 3, 4, 5] [0] [0] rfl rfl rfl (hL258 p0 p1 p2 p3 p4 p5 p7 p8 _)
    · refine r_iinc (pc := 241) (w := 1) (lf := fun v241 => [(9, v241), (1, p1), (2, p2), (3, p3), (4, p4), (7, p7), (8, p8)]) (ll' := [(5, p5)]) (lr' := [(0, p0)]) E dX13_pack_241 6 rfl (by decide) (by decide) (fun _ => rfl) rfl rfl (fun v241 => ?_)
      refine r_goto (pc := 244) (tgt := 227) E dX13_pack_244 (by decide) ?_
      exact r_sub [1, 2, 3, 4, 5, 6, 0] [0] [0] rfl rfl rfl (hk227 ((p0, p1, p2, p3, p4, p5, p7, p8, v241)) _)
  have hL210 : ∀ (p0 : Option Nat) (p1 : Int32) (p2 : Int32) (p3 : Int32) (p4 : Int32) (p5 : Int64) (p7 : Int32) (p8 : Int32) (q0 : Option Nat) (q1 : Int32) (q2 : Int32) (M : Mem), RT p l e rmX13_pack s m args below meth c x 11 (QM below args s x (fun v : Int32 => some (.int v)) rmX13_pack.cells rmX13_pack.slots) 0 0 (fX13_pack_L210 p0 p1 p2 p3 p4 p5 p7 p8 q0 q1 q2 M) 210 [(1, p1), (2, p2), (3, p3), (4, p4), (7, p7), (8, p8)] [(5, p5)] [(0, p0)] [.int q2, .int q1, rv x q0] M := by
    intro p0 p1 p2 p3 p4 p5 p7 p8 q0 q1 q2 M
    unfold fX13_pack_L210
    refine r_iadd (pc := 210) E dX13_pack_210 ?_
    refine r_iload (pc := 211) E dX13_pack_211 4 rfl ?_
    refine r_iadd (pc := 213) E dX13_pack_213 ?_
    refine r_i2l (pc := 214) E dX13_pack_214 ?_
    refine r_iconst (pc := 215) (v := 1) E dX13_pack_215 (by decide) ?_
    refine r_kVv (pc := 216) (As := [.long (((q1 + q2) + p7).toInt64), .int 1]) (rest := []) E wc_X13_say wi_RX13 hd_X13_say (ci := 13) rfl wl_RX13_418 wn_X13_say ws_X13_say dX13_pack_216 (by decide) (Nat.le_of_ble_eq_true rfl) ⟨rfl, rfl⟩ (ctX13_say l x _ _ _ _) rfl (fun v216 M216 => ?_)
    refine r_iload (pc := 219) E dX13_pack_219 3 rfl ?_
    refine r_if_ne (pc := 221) (tgt := 258) E dX13_pack_221 (by decide) ?_ ?_
    · exact r_sub [0, 1, 2, 3, 4, 5] [0] [0] rfl rfl rfl (hL258 p0 p1 p2 p3 p4 p5 p7 p8 _)
    · refine r_iconst (pc := 224) (v := 0) E dX13_pack_224 (by decide) ?_
      refine r_istore (pc := 225) (lf := fun v225 => [(9, v225), (1, p1), (2, p2), (3, p3), (4, p4), (7, p7), (8, p8)]) (lg := fun v225 => [(5, p5)]) (lk := fun v225 => [(0, p0)]) E dX13_pack_225 (by decide) (fun _ => rfl) (fun _ => rfl) (fun _ => rfl) (fun v225 => ?_)
      exact r_sub [1, 2, 3, 4, 5, 6, 0] [0] [0] rfl rfl rfl (hL227 p0 p1 p2 p3 p4 p5 p7 p8 v225 _)
  have hL198 : ∀ (p0 : Option Nat) (p1 : Int32) (p2 : Int32) (p3 : Int32) (p4 : Int32) (p5 : Int64) (p7 : Int32) (p8 : Int32) (q0 : Option Nat) (q1 : Int32) (q2 : Int32) (M : Mem), RT p l e rmX13_pack s m args below meth c x 11 (QM below args s x (fun v : Int32 => some (.int v)) rmX13_pack.cells rmX13_pack.slots) 0 0 (fX13_pack_L198 p0 p1 p2 p3 p4 p5 p7 p8 q0 q1 q2 M) 198 [(1, p1), (2, p2), (3, p3), (4, p4), (7, p7), (8, p8)] [(5, p5)] [(0, p0)] [.int q2, .int q1, rv x q0] M := by
    intro p0 p1 p2 p3 p4 p5 p7 p8 q0 q1 q2 M
    unfold fX13_pack_L198
    refine r_iadd (pc := 198) E dX13_pack_198 ?_
    refine r_iload_n (pc := 199) E dX13_pack_199 rfl 1 rfl ?_
    refine r_iconst (pc := 200) (v := 1) E dX13_pack_200 (by decide) ?_
    refine r_iand (pc := 201) E dX13_pack_201 ?_
    refine r_if_le (pc := 202) (tgt := 209) E dX13_pack_202 (by decide) ?_ ?_
    · refine r_iconst (pc := 209) (v := 0) E dX13_pack_209 (by decide) ?_
      exact r_sub [0, 1, 2, 3, 4, 5] [0] [0] rfl rfl rfl (hL210 p0 p1 p2 p3 p4 p5 p7 p8 q0 (q1 + q2) 0 _)
    · refine r_iconst (pc := 205) (v := 4) E dX13_pack_205 (by decide) ?_
      refine r_goto (pc := 206) (tgt := 210) E dX13_pack_206 (by decide) ?_
      exact r_sub [0, 1, 2, 3, 4, 5] [0] [0] rfl rfl rfl (hL210 p0 p1 p2 p3 p4 p5 p7 p8 q0 (q1 + q2) 4 _)
  have hL187 : ∀ (p0 : Option Nat) (p1 : Int32) (p2 : Int32) (p3 : Int32) (p4 : Int32) (p5 : Int64) (p7 : Int32) (p8 : Int32) (q0 : Option Nat) (q1 : Int32) (M : Mem), RT p l e rmX13_pack s m args below meth c x 11 (QM below args s x (fun v : Int32 => some (.int v)) rmX13_pack.cells rmX13_pack.slots) 0 0 (fX13_pack_L187 p0 p1 p2 p3 p4 p5 p7 p8 q0 q1 M) 187 [(1, p1), (2, p2), (3, p3), (4, p4), (7, p7), (8, p8)] [(5, p5)] [(0, p0)] [.int q1, rv x q0] M := by
    intro p0 p1 p2 p3 p4 p5 p7 p8 q0 q1 M
    unfold fX13_pack_L187
    refine r_iload (pc := 187) E dX13_pack_187 3 rfl ?_
    refine r_if_eq (pc := 189) (tgt := 197) E dX13_pack_189 (by decide) ?_ ?_
    · refine r_iconst (pc := 197) (v := 0) E dX13_pack_197 (by decide) ?_
      exact r_sub [0, 1, 2, 3, 4, 5] [0] [0] rfl rfl rfl (hL198 p0 p1 p2 p3 p4 p5 p7 p8 q0 q1 0 _)
    · refine r_bipush (pc := 192) (v := 32) E dX13_pack_192 (by decide) ?_
      refine r_goto (pc := 194) (tgt := 198) E dX13_pack_194 (by decide) ?_
      exact r_sub [0, 1, 2, 3, 4, 5] [0] [0] rfl rfl rfl (hL198 p0 p1 p2 p3 p4 p5 p7 p8 q0 q1 32 _)
  have hL165 : ∀ (p0 : Option Nat) (p1 : Int32) (p2 : Int32) (p3 : Int32) (p4 : Int32) (p5 : Int64) (p7 : Int32) (q0 : Int32) (M : Mem), RT p l e rmX13_pack s m args below meth c x 11 (QM below args s x (fun v : Int32 => some (.int v)) rmX13_pack.cells rmX13_pack.slots) 0 0 (fX13_pack_L165 p0 p1 p2 p3 p4 p5 p7 q0 M) 165 [(1, p1), (2, p2), (3, p3), (4, p4), (7, p7)] [(5, p5)] [(0, p0)] [.int q0] M := by
    intro p0 p1 p2 p3 p4 p5 p7 q0 M
    unfold fX13_pack_L165
    refine r_istore (pc := 165) (lf := fun v165 => [(8, v165), (1, p1), (2, p2), (3, p3), (4, p4), (7, p7)]) (lg := fun v165 => [(5, p5)]) (lk := fun v165 => [(0, p0)]) E dX13_pack_165 (by decide) (fun _ => rfl) (fun _ => rfl) (fun _ => rfl) (fun v165 => ?_)
    refine r_aload_n (pc := 167) E dX13_pack_167 rfl 0 rfl ?_
    refine r_ldc2 (pc := 168) E wk_RX13_304 dX13_pack_168 ?_
    refine r_iconst (pc := 171) (v := 4) E dX13_pack_171 (by decide) ?_
    refine r_kVv (pc := 172) (As := [.long 4247762216, .int 4]) (rest := []) E wc_X13_say wi_RX13 hd_X13_say (ci := 13) rfl wl_RX13_418 wn_X13_say ws_X13_say dX13_pack_172 (by decide) (Nat.le_of_ble_eq_true rfl) ⟨rfl, rfl⟩ (ctX13_say l x _ _ _ _) rfl (fun v172 M172 => ?_)
    refine r_aload_n (pc := 175) E dX13_pack_175 rfl 0 rfl ?_
    refine r_iload (pc := 176) E dX13_pack_176 0 rfl ?_
    refine r_if_eq (pc := 178) (tgt := 186) E dX13_pack_178 (by decide) ?_ ?_
    · refine r_iconst (pc := 186) (v := 0) E dX13_pack_186 (by decide) ?_
      exact r_sub [1, 2, 3, 4, 5, 0] [0] [0] rfl rfl rfl (hL187 p0 p1 p2 p3 p4 p5 p7 v165 p0 0 _)
    · refine r_bipush (pc := 181) (v := 64) E dX13_pack_181 (by decide) ?_
      refine r_goto (pc := 183) (tgt := 187) E dX13_pack_183 (by decide) ?_
      exact r_sub [1, 2, 3, 4, 5, 0] [0] [0] rfl rfl rfl (hL187 p0 p1 p2 p3 p4 p5 p7 v165 p0 64 _)
  have hL164 : ∀ (p0 : Option Nat) (p1 : Int32) (p2 : Int32) (p3 : Int32) (p4 : Int32) (p5 : Int64) (p7 : Int32) (M : Mem), RT p l e rmX13_pack s m args below meth c x 11 (QM below args s x (fun v : Int32 => some (.int v)) rmX13_pack.cells rmX13_pack.slots) 0 0 (fX13_pack_L164 p0 p1 p2 p3 p4 p5 p7 M) 164 [(1, p1), (2, p2), (3, p3), (4, p4), (7, p7)] [(5, p5)] [(0, p0)] [] M := by
    intro p0 p1 p2 p3 p4 p5 p7 M
    unfold fX13_pack_L164
    refine r_iconst (pc := 164) (v := 0) E dX13_pack_164 (by decide) ?_
    exact r_sub [0, 1, 2, 3, 4] [0] [0] rfl rfl rfl (hL165 p0 p1 p2 p3 p4 p5 p7 0 _)
  have hL143 : ∀ (p0 : Option Nat) (p1 : Int32) (p2 : Int32) (p3 : Int32) (p4 : Int32) (p5 : Int64) (q0 : Int32) (M : Mem), RT p l e rmX13_pack s m args below meth c x 11 (QM below args s x (fun v : Int32 => some (.int v)) rmX13_pack.cells rmX13_pack.slots) 0 0 (fX13_pack_L143 p0 p1 p2 p3 p4 p5 q0 M) 143 [(1, p1), (2, p2), (3, p3), (4, p4)] [(5, p5)] [(0, p0)] [.int q0] M := by
    intro p0 p1 p2 p3 p4 p5 q0 M
    unfold fX13_pack_L143
    refine r_istore (pc := 143) (lf := fun v143 => [(7, v143), (1, p1), (2, p2), (3, p3), (4, p4)]) (lg := fun v143 => [(5, p5)]) (lk := fun v143 => [(0, p0)]) E dX13_pack_143 (by decide) (fun _ => rfl) (fun _ => rfl) (fun _ => rfl) (fun v143 => ?_)
    refine r_iload (pc := 145) E dX13_pack_145 4 rfl ?_
    refine r_if_eq (pc := 147) (tgt := 164) E dX13_pack_147 (by decide) ?_ ?_
    · exact r_sub [1, 2, 3, 4, 0] [0] [0] rfl rfl rfl (hL164 p0 p1 p2 p3 p4 p5 v143 _)
    · refine r_aload_n (pc := 150) E dX13_pack_150 rfl 0 rfl ?_
      refine r_getI (pc := 151) E fd_13_1 wf_RX13_150 dX13_pack_151 (fun v151 => ?_)
      refine r_sipush (pc := 154) (v := 255) E dX13_pack_154 (by decide) ?_
      refine r_icmp_le (pc := 157) (tgt := 164) E dX13_pack_157 (by decide) ?_ ?_
      · exact r_sub [1, 2, 3, 4, 0] [0] [0] rfl rfl rfl (hL164 p0 p1 p2 p3 p4 p5 v143 _)
      · refine r_iconst (pc := 160) (v := 1) E dX13_pack_160 (by decide) ?_
        refine r_goto (pc := 161) (tgt := 165) E dX13_pack_161 (by decide) ?_
        exact r_sub [1, 2, 3, 4, 0] [0] [0] rfl rfl rfl (hL165 p0 p1 p2 p3 p4 p5 v143 1 _)
  have hL103 : ∀ (p0 : Option Nat) (p1 : Int32) (p2 : Int32) (p3 : Int32) (p4 : Int32) (q0 : Int64) (M : Mem), RT p l e rmX13_pack s m args below meth c x 11 (QM below args s x (fun v : Int32 => some (.int v)) rmX13_pack.cells rmX13_pack.slots) 0 0 (fX13_pack_L103 p0 p1 p2 p3 p4 q0 M) 103 [(1, p1), (2, p2), (3, p3), (4, p4)] [] [(0, p0)] [.long q0] M := by
    intro p0 p1 p2 p3 p4 q0 M
    unfold fX13_pack_L103
    refine r_lstore (pc := 103) (lf := fun v103 => [(1, p1), (2, p2), (3, p3), (4, p4)]) (lg := fun v103 => [(5, v103)]) (lk := fun v103 => [(0, p0)]) E dX13_pack_103 (by decide) (fun _ => rfl) (fun _ => rfl) (fun _ => rfl) (fun v103 => ?_)
    refine r_lload (pc := 105) E dX13_pack_105 0 rfl ?_
    refine r_lconst (pc := 107) (v := 0) E dX13_pack_107 (by decide) ?_
    refine r_lcmp (pc := 108) E dX13_pack_108 ?_
    refine r_if_ne (pc := 109) (tgt := 116) E dX13_pack_109 (by decide) ?_ ?_
    · refine r_lload (pc := 116) E dX13_pack_116 0 rfl ?_
      refine r_ldc2 (pc := 118) E wk_RX13_319 dX13_pack_118 ?_
      refine r_lcmp (pc := 121) E dX13_pack_121 ?_
      refine r_if_ge (pc := 122) (tgt := 129) E dX13_pack_122 (by decide) ?_ ?_
      · refine r_lload (pc := 129) E dX13_pack_129 0 rfl ?_
        refine r_ldc2 (pc := 131) E wk_RX13_422 dX13_pack_131 ?_
        refine r_lcmp (pc := 134) E dX13_pack_134 ?_
        refine r_if_ge (pc := 135) (tgt := 142) E dX13_pack_135 (by decide) ?_ ?_
        · refine r_iconst (pc := 142) (v := 3) E dX13_pack_142 (by decide) ?_
          exact r_sub [0, 1, 2, 3] [0] [0] rfl rfl rfl (hL143 p0 p1 p2 p3 p4 v103 3 _)
        · refine r_iconst (pc := 138) (v := 2) E dX13_pack_138 (by decide) ?_
          refine r_goto (pc := 139) (tgt := 143) E dX13_pack_139 (by decide) ?_
          exact r_sub [0, 1, 2, 3] [0] [0] rfl rfl rfl (hL143 p0 p1 p2 p3 p4 v103 2 _)
      · refine r_iconst (pc := 125) (v := 1) E dX13_pack_125 (by decide) ?_
        refine r_goto (pc := 126) (tgt := 143) E dX13_pack_126 (by decide) ?_
        exact r_sub [0, 1, 2, 3] [0] [0] rfl rfl rfl (hL143 p0 p1 p2 p3 p4 v103 1 _)
    · refine r_iconst (pc := 112) (v := 0) E dX13_pack_112 (by decide) ?_
      refine r_goto (pc := 113) (tgt := 143) E dX13_pack_113 (by decide) ?_
      exact r_sub [0, 1, 2, 3] [0] [0] rfl rfl rfl (hL143 p0 p1 p2 p3 p4 v103 0 _)
  have hL84 : ∀ (p0 : Option Nat) (p1 : Int32) (p2 : Int32) (p3 : Int32) (q0 : Int32) (M : Mem), RT p l e rmX13_pack s m args below meth c x 11 (QM below args s x (fun v : Int32 => some (.int v)) rmX13_pack.cells rmX13_pack.slots) 0 0 (fX13_pack_L84 p0 p1 p2 p3 q0 M) 84 [(1, p1), (2, p2), (3, p3)] [] [(0, p0)] [.int q0] M := by
    intro p0 p1 p2 p3 q0 M
    unfold fX13_pack_L84
    refine r_istore (pc := 84) (lf := fun v84 => [(4, v84), (1, p1), (2, p2), (3, p3)]) (lg := fun v84 => []) (lk := fun v84 => [(0, p0)]) E dX13_pack_84 (by decide) (fun _ => rfl) (fun _ => rfl) (fun _ => rfl) (fun v84 => ?_)
    refine r_iload_n (pc := 86) E dX13_pack_86 rfl 3 rfl ?_
    refine r_if_eq (pc := 87) (tgt := 102) E dX13_pack_87 (by decide) ?_ ?_
    · refine r_lconst (pc := 102) (v := 0) E dX13_pack_102 (by decide) ?_
      exact r_sub [1, 2, 3, 0] [] [0] rfl rfl rfl (hL103 p0 p1 p2 p3 v84 0 _)
    · refine r_aload_n (pc := 90) E dX13_pack_90 rfl 0 rfl ?_
      refine r_getI (pc := 91) E fd_13_29 wf_RX13_251 dX13_pack_91 (fun v91 => ?_)
      refine r_i2l (pc := 94) E dX13_pack_94 ?_
      refine r_ldc2 (pc := 95) E wk_RX13_337 dX13_pack_95 ?_
      refine r_land (pc := 98) E dX13_pack_98 ?_
      refine r_goto (pc := 99) (tgt := 103) E dX13_pack_99 (by decide) ?_
      exact r_sub [1, 2, 3, 0] [] [0] rfl rfl rfl (hL103 p0 p1 p2 p3 v84 (v91.toInt64 &&& 4294967295) _)
  have hL72 : ∀ (p0 : Option Nat) (p1 : Int32) (p2 : Int32) (q0 : Int32) (M : Mem), RT p l e rmX13_pack s m args below meth c x 11 (QM below args s x (fun v : Int32 => some (.int v)) rmX13_pack.cells rmX13_pack.slots) 0 0 (fX13_pack_L72 p0 p1 p2 q0 M) 72 [(1, p1), (2, p2)] [] [(0, p0)] [.int q0] M := by
    intro p0 p1 p2 q0 M
    unfold fX13_pack_L72
    refine r_istore_n (pc := 72) (lf := fun v72 => [(3, v72), (1, p1), (2, p2)]) (lg := fun v72 => []) (lk := fun v72 => [(0, p0)]) E dX13_pack_72 rfl (by decide) (fun _ => rfl) (fun _ => rfl) (fun _ => rfl) (fun v72 => ?_)
    refine r_iload_n (pc := 73) E dX13_pack_73 rfl 2 rfl ?_
    refine r_iconst (pc := 74) (v := 2) E dX13_pack_74 (by decide) ?_
    refine r_iand (pc := 75) E dX13_pack_75 ?_
    refine r_if_le (pc := 76) (tgt := 83) E dX13_pack_76 (by decide) ?_ ?_
    · refine r_iconst (pc := 83) (v := 0) E dX13_pack_83 (by decide) ?_
      exact r_sub [1, 2, 0] [] [0] rfl rfl rfl (hL84 p0 p1 p2 v72 0 _)
    · refine r_iconst (pc := 79) (v := 1) E dX13_pack_79 (by decide) ?_
      refine r_goto (pc := 80) (tgt := 84) E dX13_pack_80 (by decide) ?_
      exact r_sub [1, 2, 0] [] [0] rfl rfl rfl (hL84 p0 p1 p2 v72 1 _)
  have hL38 : ∀ (p0 : Option Nat) (p1 : Int32) (p2 : Int32) (M : Mem), RT p l e rmX13_pack s m args below meth c x 11 (QM below args s x (fun v : Int32 => some (.int v)) rmX13_pack.cells rmX13_pack.slots) 0 0 (fX13_pack_L38 p0 p1 p2 M) 38 [(1, p1), (2, p2)] [] [(0, p0)] [] M := by
    intro p0 p1 p2 M
    unfold fX13_pack_L38
    refine r_aload_n (pc := 38) E dX13_pack_38 rfl 0 rfl ?_
    refine r_getI (pc := 39) E fd_13_1 wf_RX13_150 dX13_pack_39 (fun v39 => ?_)
    refine r_sipush (pc := 42) (v := 6000) E dX13_pack_42 (by decide) ?_
    refine r_icmp_le (pc := 45) (tgt := 51) E dX13_pack_45 (by decide) ?_ ?_
    · refine r_aload_n (pc := 51) E dX13_pack_51 rfl 0 rfl ?_
      refine r_iconst (pc := 52) (v := 0) E dX13_pack_52 (by decide) ?_
      refine r_putI (pc := 53) E fd_13_54 wf_RX13_412 dX13_pack_53 (Or.inl rfl) (fun M53 => ?_)
      refine r_aload_n (pc := 56) E dX13_pack_56 rfl 0 rfl ?_
      refine r_iconst (pc := 57) (v := 0) E dX13_pack_57 (by decide) ?_
      refine r_putI (pc := 58) E fd_13_56 wf_RX13_415 dX13_pack_58 (Or.inl rfl) (fun M58 => ?_)
      refine r_iload_n (pc := 61) E dX13_pack_61 rfl 1 rfl ?_
      refine r_iconst (pc := 62) (v := 4) E dX13_pack_62 (by decide) ?_
      refine r_iand (pc := 63) E dX13_pack_63 ?_
      refine r_if_le (pc := 64) (tgt := 71) E dX13_pack_64 (by decide) ?_ ?_
      · refine r_iconst (pc := 71) (v := 0) E dX13_pack_71 (by decide) ?_
        exact r_sub [0, 1] [] [0] rfl rfl rfl (hL72 p0 p1 p2 0 _)
      · refine r_iconst (pc := 67) (v := 1) E dX13_pack_67 (by decide) ?_
        refine r_goto (pc := 68) (tgt := 72) E dX13_pack_68 (by decide) ?_
        exact r_sub [0, 1] [] [0] rfl rfl rfl (hL72 p0 p1 p2 1 _)
    · refine r_bipush (pc := 48) (v := (-4)) E dX13_pack_48 (by decide) ?_
      exact e_int (pc := 50) E dX13_pack_50
  show RT p l e rmX13_pack s m args below meth c x 11 (QM below args s x (fun v : Int32 => some (.int v)) rmX13_pack.cells rmX13_pack.slots) 0 0 (fX13_pack a0 a1 a2 M) 0 [(1, a1), (2, a2)] [] [(0, a0)] [] M
  unfold fX13_pack
  refine r_iload_n (pc := 0) E dX13_pack_0 rfl 0 rfl ?_
  refine r_if_lt (pc := 1) (tgt := 19) E dX13_pack_1 (by decide) ?_ ?_
  · exact r_sub [] [] [] rfl rfl rfl (hL19 _)
  · refine r_iload_n (pc := 4) E dX13_pack_4 rfl 0 rfl ?_
    refine r_iconst (pc := 5) (v := 2) E dX13_pack_5 (by decide) ?_
    refine r_icmp_gt (pc := 6) (tgt := 19) E dX13_pack_6 (by decide) ?_ ?_
    · exact r_sub [] [] [] rfl rfl rfl (hL19 _)
    · refine r_iload_n (pc := 9) E dX13_pack_9 rfl 1 rfl ?_
      refine r_if_lt (pc := 10) (tgt := 19) E dX13_pack_10 (by decide) ?_ ?_
      · exact r_sub [] [] [] rfl rfl rfl (hL19 _)
      · refine r_iload_n (pc := 13) E dX13_pack_13 rfl 1 rfl ?_
        refine r_bipush (pc := 14) (v := 7) E dX13_pack_14 (by decide) ?_
        refine r_icmp_le (pc := 16) (tgt := 22) E dX13_pack_16 (by decide) ?_ ?_
        · refine r_iload_n (pc := 22) E dX13_pack_22 rfl 1 rfl ?_
          refine r_iconst (pc := 23) (v := 4) E dX13_pack_23 (by decide) ?_
          refine r_iand (pc := 24) E dX13_pack_24 ?_
          refine r_if_le (pc := 25) (tgt := 38) E dX13_pack_25 (by decide) ?_ ?_
          · exact r_sub [0, 1] [] [0] rfl rfl rfl (hL38 a0 a1 a2 _)
          · refine r_aload_n (pc := 28) E dX13_pack_28 rfl 0 rfl ?_
            refine r_getZ (pc := 29) E fd_13_27 wf_RX13_245 dX13_pack_29 (fun v29 => ?_)
            refine r_if_ne (pc := 32) (tgt := 38) E dX13_pack_32 (by decide) ?_ ?_
            · exact r_sub [0, 1] [] [0] rfl rfl rfl (hL38 a0 a1 a2 _)
            · refine r_bipush (pc := 35) (v := (-3)) E dX13_pack_35 (by decide) ?_
              exact e_int (pc := 37) E dX13_pack_37
        · exact r_sub [] [] [] rfl rfl rfl (hL19 _)
