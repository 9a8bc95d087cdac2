def fL_law_L650 (xs : Nat → Int32) (L : Nat) (k18 : Option Nat × Option Nat × Option Nat × Int32 → Mem → Option (Int32 × Mem)) (p0 : Option Nat) (p1 : Option Nat) (p2 : Option Nat) (p3 : Int32) (M : Mem) : Option (Int32 × Mem) :=
  bn (p3 + 4) fun v650 =>
  k18 ((p0, p1, p2, v650)) M
def fL_law_L521 (xs : Nat → Int32) (L : Nat) (k18 : Option Nat × Option Nat × Option Nat × Int32 → Mem → Option (Int32 × Mem)) (p0 : Option Nat) (p1 : Option Nat) (p2 : Option Nat) (p3 : Int32) (q0 : Option Nat) (q1 : Int32) (M : Mem) : Option (Int32 × Mem) :=
  bo (chk M q0 13) fun _ => bd (fX13_sum q0 q1 M) fun v521 M521 =>
  fL_law_L650 xs L k18 p0 p1 p2 p3 M521
def fL_law_L503 (xs : Nat → Int32) (L : Nat) (k18 : Option Nat × Option Nat × Option Nat × Int32 → Mem → Option (Int32 × Mem)) (p0 : Option Nat) (p1 : Option Nat) (p2 : Option Nat) (p3 : Int32) (q0 : Option Nat) (q1 : Int32) (M : Mem) : Option (Int32 × Mem) :=
  bo (chk M q0 12) fun _ => bd (fX12_sum q0 q1 M) fun v503 M503 =>
  bo (sx xs L p0 (p3 + 1)) fun v512 =>
  if v512 = 0 then (
    fL_law_L521 xs L k18 p0 p1 p2 p3 p2 0 M503
  ) else (
    fL_law_L521 xs L k18 p0 p1 p2 p3 p2 1 M503
  )
def fL_law_B18 (xs : Nat → Int32) (L : Nat) (k18 : Option Nat × Option Nat × Option Nat × Int32 → Mem → Option (Int32 × Mem)) (p0 : Option Nat) (p1 : Option Nat) (p2 : Option Nat) (p3 : Int32) (M : Mem) : Option (Int32 × Mem) :=
  bo (sxl L p0) fun v20 =>
  if (v20 - 4) < p3 then (
    some (1, M)
  ) else (
    bo (sx xs L p0 p3) fun v28 =>
    swi (v28 &&& 31) (fun z => match z with
      | 0 => (
        bo (sx xs L p0 (p3 + 1)) fun v125 =>
        bo (sx xs L p0 (p3 + 2)) fun v134 =>
        bo (sx xs L p0 (p3 + 3)) fun v145 =>
        bo (chk M p1 12) fun _ => bd (fX12_feed p1 ((shlJ v125.toInt64 32) ||| (v134.toInt64 &&& 4294967295)) v145 M) fun v146 M146 =>
        bo (sx xs L p0 (p3 + 1)) fun v155 =>
        bo (sx xs L p0 (p3 + 2)) fun v164 =>
        bo (sx xs L p0 (p3 + 3)) fun v175 =>
        bo (chk M146 p2 13) fun _ => bd (fX13_feed p2 ((shlJ v155.toInt64 32) ||| (v164.toInt64 &&& 4294967295)) v175 M146) fun v176 M176 =>
        fL_law_L650 xs L k18 p0 p1 p2 p3 M176
        )
      | 1 => (
        bo (sx xs L p0 (p3 + 1)) fun v188 =>
        bo (sx xs L p0 (p3 + 2)) fun v193 =>
        bo (sx xs L p0 (p3 + 3)) fun v198 =>
        bo (chk M p1 12) fun _ => bd (fX12_fill p1 v188 v193 v198 M) fun v199 M199 =>
        bo (sx xs L p0 (p3 + 1)) fun v208 =>
        bo (sx xs L p0 (p3 + 2)) fun v213 =>
        bo (sx xs L p0 (p3 + 3)) fun v218 =>
        bo (chk M199 p2 13) fun _ => bd (fX13_fill p2 v208 v213 v218 M199) fun v219 M219 =>
        fL_law_L650 xs L k18 p0 p1 p2 p3 M219
        )
      | 2 => (
        bo (chk M p1 12) fun _ => bd (fX12_size p1 M) fun v227 M227 =>
        bo (chk M227 p2 13) fun _ => bd (fX13_size p2 M227) fun v232 M232 =>
        fL_law_L650 xs L k18 p0 p1 p2 p3 M232
        )
      | 3 => (
        bo (sx xs L p0 (p3 + 1)) fun v244 =>
        bo (sx xs L p0 (p3 + 2)) fun v249 =>
        bo (chk M p1 12) fun _ => bd (fX12_set p1 v244 v249 M) fun v250 M250 =>
        bo (sx xs L p0 (p3 + 1)) fun v259 =>
        bo (sx xs L p0 (p3 + 2)) fun v264 =>
        bo (chk M250 p2 13) fun _ => bd (fX13_set p2 v259 v264 M250) fun v265 M265 =>
        fL_law_L650 xs L k18 p0 p1 p2 p3 M265
        )
      | 4 => (
        bo (sx xs L p0 (p3 + 1)) fun v277 =>
        bo (chk M p1 12) fun _ => bd (fX12_cut p1 v277 M) fun v278 M278 =>
        bo (sx xs L p0 (p3 + 1)) fun v286 =>
        bo (chk M278 p2 13) fun _ => bd (fX13_cut p2 v286 M278) fun v287 M287 =>
        if v278 = v287 then (
          fL_law_L650 xs L k18 p0 p1 p2 p3 M287
        ) else (
          some (0, M287)
        )
        )
      | 5 => (
        bo (sx xs L p0 (p3 + 1)) fun v300 =>
        bo (sx xs L p0 (p3 + 2)) fun v305 =>
        bo (chk M p1 12) fun _ => bd (fX12_again p1 v300 v305 M) fun v306 M306 =>
        bo (sx xs L p0 (p3 + 1)) fun v315 =>
        bo (sx xs L p0 (p3 + 2)) fun v320 =>
        bo (chk M306 p2 13) fun _ => bd (fX13_again p2 v315 v320 M306) fun v321 M321 =>
        fL_law_L650 xs L k18 p0 p1 p2 p3 M321
        )
      | 6 => (
        bo (chk M p1 12) fun _ => bd (fX12_swap p1 M) fun v329 M329 =>
        bo (chk M329 p2 13) fun _ => bd (fX13_swap p2 M329) fun v334 M334 =>
        fL_law_L650 xs L k18 p0 p1 p2 p3 M334
        )
      | 7 => (
        bo (chk M p1 12) fun _ => bd (fX12_differ p1 M) fun v342 M342 =>
        bo (chk M342 p2 13) fun _ => bd (fX13_differ p2 M342) fun v347 M347 =>
        fL_law_L650 xs L k18 p0 p1 p2 p3 M347
        )
      | 8 => (
        bo (chk M p1 12) fun _ => bd (fX12_keep p1 M) fun v355 M355 =>
        bo (chk M355 p2 13) fun _ => bd (fX13_keep p2 M355) fun v360 M360 =>
        fL_law_L650 xs L k18 p0 p1 p2 p3 M360
        )
      | 9 => (
        bo (sx xs L p0 (p3 + 1)) fun v372 =>
        bo (sx xs L p0 (p3 + 2)) fun v381 =>
        bo (chk M p1 12) fun _ => bd (fX12_open p1 ((shlJ v372.toInt64 32) ||| (v381.toInt64 &&& 4294967295)) M) fun v388 M388 =>
        bo (sx xs L p0 (p3 + 1)) fun v397 =>
        bo (sx xs L p0 (p3 + 2)) fun v406 =>
        bo (chk M388 p2 13) fun _ => bd (fX13_open p2 ((shlJ v397.toInt64 32) ||| (v406.toInt64 &&& 4294967295)) M388) fun v413 M413 =>
        fL_law_L650 xs L k18 p0 p1 p2 p3 M413
        )
      | 10 => (
        bo (chk M p1 12) fun _ => bd (fX12_place p1 M) fun v421 M421 =>
        bo (chk M421 p2 13) fun _ => bd (fX13_place p2 M421) fun v426 M426 =>
        fL_law_L650 xs L k18 p0 p1 p2 p3 M426
        )
      | 11 => (
        bo (sx xs L p0 (p3 + 1)) fun v438 =>
        bo (sx xs L p0 (p3 + 2)) fun v443 =>
        bo (chk M p1 12) fun _ => bd (fX12_pack p1 v438 v443 M) fun v444 M444 =>
        bo (sx xs L p0 (p3 + 1)) fun v453 =>
        bo (sx xs L p0 (p3 + 2)) fun v458 =>
        bo (chk M444 p2 13) fun _ => bd (fX13_pack p2 v453 v458 M444) fun v459 M459 =>
        fL_law_L650 xs L k18 p0 p1 p2 p3 M459
        )
      | 12 => (
        bo (sx xs L p0 (p3 + 1)) fun v471 =>
        bo (chk M p1 12) fun _ => bd (fX12_out p1 v471 M) fun v472 M472 =>
        bo (sx xs L p0 (p3 + 1)) fun v481 =>
        bo (chk M472 p2 13) fun _ => bd (fX13_out p2 v481 M472) fun v482 M482 =>
        fL_law_L650 xs L k18 p0 p1 p2 p3 M482
        )
      | 13 => (
        bo (sx xs L p0 (p3 + 1)) fun v494 =>
        if v494 = 0 then (
          fL_law_L503 xs L k18 p0 p1 p2 p3 p1 0 M
        ) else (
          fL_law_L503 xs L k18 p0 p1 p2 p3 p1 1 M
        )
        )
      | 14 => (
        bo (sx xs L p0 (p3 + 1)) fun v533 =>
        bo (chk M p1 12) fun _ => bd (fX12_told p1 v533 M) fun v534 M534 =>
        bo (sx xs L p0 (p3 + 1)) fun v543 =>
        bo (chk M534 p2 13) fun _ => bd (fX13_told p2 v543 M534) fun v544 M544 =>
        fL_law_L650 xs L k18 p0 p1 p2 p3 M544
        )
      | 15 => (
        bo (sx xs L p0 (p3 + 1)) fun v556 =>
        bo (sx xs L p0 (p3 + 2)) fun v561 =>
        bo (chk M p1 12) fun _ => bd (fX12_sequence p1 v556 v561 M) fun v562 M562 =>
        bo (sx xs L p0 (p3 + 1)) fun v571 =>
        bo (sx xs L p0 (p3 + 2)) fun v576 =>
        bo (chk M562 p2 13) fun _ => bd (fX13_sequence_ p2 v571 v576 M562) fun v577 M577 =>
        fL_law_L650 xs L k18 p0 p1 p2 p3 M577
        )
      | 16 => (
        bo (sx xs L p0 (p3 + 1)) fun v589 =>
        bo (sx xs L p0 (p3 + 2)) fun v594 =>
        bo (sx xs L p0 (p3 + 3)) fun v599 =>
        bo (chk M p1 12) fun _ => bd (fX12_table p1 v589 v594 v599 M) fun v600 M600 =>
        bo (sx xs L p0 (p3 + 1)) fun v609 =>
        bo (sx xs L p0 (p3 + 2)) fun v614 =>
        bo (sx xs L p0 (p3 + 3)) fun v619 =>
        bo (chk M600 p2 13) fun _ => bd (fX13_table_ p2 v609 v614 v619 M600) fun v620 M620 =>
        fL_law_L650 xs L k18 p0 p1 p2 p3 M620
        )
      | 17 => (
        bo (sx xs L p0 (p3 + 1)) fun v632 =>
        bo (chk M p1 12) fun _ => bd (fX12_bits p1 v632 M) fun v633 M633 =>
        bo (sx xs L p0 (p3 + 1)) fun v642 =>
        bo (chk M633 p2 13) fun _ => bd (fX13_bits p2 v642 M633) fun v643 M643 =>
        fL_law_L650 xs L k18 p0 p1 p2 p3 M643
        )
      | _ => none) (
        fL_law_L650 xs L k18 p0 p1 p2 p3 M
      )
  )
def fL_law_L18 (xs : Nat → Int32) (L : Nat) (p0 : Option Nat) (p1 : Option Nat) (p2 : Option Nat) (p3 : Int32) (M : Mem) : Option (Int32 × Mem) :=
  lp (fun k18 (a : Option Nat × Option Nat × Option Nat × Int32) M => fL_law_B18 xs L k18 a.1 a.2.1 a.2.2.1 a.2.2.2 M) FU ((p0, p1, p2, p3)) M
def fL_law (xs : Nat → Int32) (L : Nat) (a0 : Option Nat) (M : Mem) : Option (Int32 × Mem) :=
  bd (nw M 12) fun v0 M0 =>
  bo (chk0 v0) fun _ => bd (fX12_init v0 M0) fun v4 M4 =>
  bn (v0) fun v7 =>
  bd (nw M4 13) fun v8 M8 =>
  bo (chk0 v8) fun _ => bd (fX13_init v8 M8) fun v12 M12 =>
  bn (v8) fun v15 =>
  bn (0) fun v17 =>
  fL_law_L18 xs L a0 v7 v15 v17 M12
set_option maxRecDepth 100000 in
set_option maxHeartbeats 40000000 in
theorem rtL_law {p : Program} {l : Launch} {e : Env} {s : State} {m : MethodId} {below : List Frame} {meth : Method} {c : Code} {x : Cx} {b : Nat} {xs : Nat → Int32} {L : Nat} (E : EE p s m #[Value.ref b] meth c x cL_law yL_law 4 ret) (hsz : xb x = s.heap.size) (hxs : xL x 10 = L ∧ ∀ j, xI x 10 j = xs j) (a0 : Option Nat) (M : Mem) : RT p l e room_1 s m #[Value.ref b] below meth c x 4 (LQ below b s) 0 0 (fL_law xs L a0 M) 0 [] [] [(0, a0)] [] M := by
  have hL650 : ∀ (k18 : Option Nat × Option Nat × Option Nat × Int32 → Mem → Option (Int32 × Mem)) (hk18 : ∀ a M, RT p l e room_1 s m #[Value.ref b] below meth c x 4 (LQ below b s) 230 617408 (k18 a M) 18 [(3, a.2.2.2)] [] [(0, a.1), (1, a.2.1), (2, a.2.2.1)] [] M) (p0 : Option Nat) (p1 : Option Nat) (p2 : Option Nat) (p3 : Int32) (M : Mem), RT p l e room_1 s m #[Value.ref b] below meth c x 4 (LQ below b s) 230 617408 (fL_law_L650 xs L k18 p0 p1 p2 p3 M) 650 [(3, p3)] [] [(0, p0), (1, p1), (2, p2)] [] M := by
    intro k18 hk18 p0 p1 p2 p3 M
    unfold fL_law_L650
    refine r_iinc (pc := 650) (w := 4) (lf := fun v650 => [(3, v650)]) (ll' := []) (lr' := [(0, p0), (1, p1), (2, p2)]) E dL_law_650 0 rfl (by decide) (by decide) (fun _ => rfl) rfl rfl (fun v650 => ?_)
    refine r_goto (pc := 653) (tgt := 18) E dL_law_653 (by decide) ?_
    exact r_sub [0] [] [0, 1, 2] rfl rfl rfl (hk18 ((p0, p1, p2, v650)) _)
  have hL521 : ∀ (k18 : Option Nat × Option Nat × Option Nat × Int32 → Mem → Option (Int32 × Mem)) (hk18 : ∀ a M, RT p l e room_1 s m #[Value.ref b] below meth c x 4 (LQ below b s) 230 617408 (k18 a M) 18 [(3, a.2.2.2)] [] [(0, a.1), (1, a.2.1), (2, a.2.2.1)] [] M) (p0 : Option Nat) (p1 : Option Nat) (p2 : Option Nat) (p3 : Int32) (q0 : Option Nat) (q1 : Int32) (M : Mem), RT p l e room_1 s m #[Value.ref b] below meth c x 4 (LQ below b s) 230 617408 (fL_law_L521 xs L k18 p0 p1 p2 p3 q0 q1 M) 521 [(3, p3)] [] [(0, p0), (1, p1), (2, p2)] [.int q1, rv x q0] M := by
    intro k18 hk18 p0 p1 p2 p3 q0 q1 M
    unfold fL_law_L521
    refine r_kVi (pc := 521) (As := [.int q1]) (rest := []) E wc_X13_sum wi_RX13 hd_X13_sum (ci := 13) rfl wl_RL_77 wn_X13_sum ws_X13_sum dL_law_521 (by decide) (Nat.le_of_ble_eq_true rfl) ⟨rfl, rfl⟩ (ctX13_sum l x _ _ _) rfl (fun v521 M521 => ?_)
    refine r_pop (pc := 524) E dL_law_524 rfl ?_
    refine r_goto (pc := 525) (tgt := 650) E dL_law_525 (by decide) ?_
    exact r_sub [0] [] [0, 1, 2] rfl rfl rfl (hL650 k18 hk18 p0 p1 p2 p3 _)
  have hL503 : ∀ (k18 : Option Nat × Option Nat × Option Nat × Int32 → Mem → Option (Int32 × Mem)) (hk18 : ∀ a M, RT p l e room_1 s m #[Value.ref b] below meth c x 4 (LQ below b s) 230 617408 (k18 a M) 18 [(3, a.2.2.2)] [] [(0, a.1), (1, a.2.1), (2, a.2.2.1)] [] M) (p0 : Option Nat) (p1 : Option Nat) (p2 : Option Nat) (p3 : Int32) (q0 : Option Nat) (q1 : Int32) (M : Mem), RT p l e room_1 s m #[Value.ref b] below meth c x 4 (LQ below b s) 230 617408 (fL_law_L503 xs L k18 p0 p1 p2 p3 q0 q1 M) 503 [(3, p3)] [] [(0, p0), (1, p1), (2, p2)] [.int q1, rv x q0] M := by
    intro k18 hk18 p0 p1 p2 p3 q0 q1 M
    unfold fL_law_L503
    refine r_kVi (pc := 503) (As := [.int q1]) (rest := []) E wc_X12_sum wi_RX12 hd_X12_sum (ci := 12) rfl wl_RL_73 wn_X12_sum ws_X12_sum dL_law_503 (by decide) (Nat.le_of_ble_eq_true rfl) ⟨rfl, rfl⟩ (ctX12_sum l x _ _ _) rfl (fun v503 M503 => ?_)
    refine r_pop (pc := 506) E dL_law_506 rfl ?_
    refine r_aload_n (pc := 507) E dL_law_507 rfl 2 rfl ?_
    refine r_aload_n (pc := 508) E dL_law_508 rfl 0 rfl ?_
    refine r_iload_n (pc := 509) E dL_law_509 rfl 0 rfl ?_
    refine r_iconst (pc := 510) (v := 1) E dL_law_510 (by decide) ?_
    refine r_iadd (pc := 511) E dL_law_511 ?_
    refine r_sld (pc := 512) E hxs dL_law_512 (fun v512 => ?_)
    refine r_if_eq (pc := 513) (tgt := 520) E dL_law_513 (by decide) ?_ ?_
    · refine r_iconst (pc := 520) (v := 0) E dL_law_520 (by decide) ?_
      exact r_sub [0] [] [0, 1, 2] rfl rfl rfl (hL521 k18 hk18 p0 p1 p2 p3 p2 0 _)
    · refine r_iconst (pc := 516) (v := 1) E dL_law_516 (by decide) ?_
      refine r_goto (pc := 517) (tgt := 521) E dL_law_517 (by decide) ?_
      exact r_sub [0] [] [0, 1, 2] rfl rfl rfl (hL521 k18 hk18 p0 p1 p2 p3 p2 1 _)
  have hL18 : ∀ (p0 : Option Nat) (p1 : Option Nat) (p2 : Option Nat) (p3 : Int32) (M : Mem), RT p l e room_1 s m #[Value.ref b] below meth c x 4 (LQ below b s) 230 617408 (fL_law_L18 xs L p0 p1 p2 p3 M) 18 [(3, p3)] [] [(0, p0), (1, p1), (2, p2)] [] M := by
    intro p0 p1 p2 p3 M
    refine r_lp (fi := fun a : Option Nat × Option Nat × Option Nat × Int32 => [(3, a.2.2.2)]) (fl := fun a : Option Nat × Option Nat × Option Nat × Int32 => []) (fr := fun a : Option Nat × Option Nat × Option Nat × Int32 => [(0, a.1), (1, a.2.1), (2, a.2.2.1)]) (fs := fun a : Option Nat × Option Nat × Option Nat × Int32 => []) ?_ FU ((p0, p1, p2, p3)) M
    intro k18 hk18 a M
    obtain ⟨p0, p1, p2, p3⟩ := a
    show RT p l e room_1 s m #[Value.ref b] below meth c x 4 (LQ below b s) 230 617408 (fL_law_B18 xs L k18 p0 p1 p2 p3 M) 18 [(3, p3)] [] [(0, p0), (1, p1), (2, p2)] [] M
    unfold fL_law_B18
    refine r_iload_n (pc := 18) E dL_law_18 rfl 0 rfl ?_
    refine r_aload_n (pc := 19) E dL_law_19 rfl 0 rfl ?_
    refine r_slen (pc := 20) E hxs dL_law_20 (fun v20 => ?_)
    refine r_iconst (pc := 21) (v := 4) E dL_law_21 (by decide) ?_
    refine r_isub (pc := 22) E dL_law_22 ?_
    refine r_icmp_gt (pc := 23) (tgt := 656) E dL_law_23 (by decide) ?_ ?_
    · refine r_iconst (pc := 656) (v := 1) E dL_law_656 (by decide) ?_
      exact r_lawret (pc := 657) E hsz dL_law_657 (by decide) (by decide)
    · refine r_aload_n (pc := 26) E dL_law_26 rfl 0 rfl ?_
      refine r_iload_n (pc := 27) E dL_law_27 rfl 0 rfl ?_
      refine r_sld (pc := 28) E hxs dL_law_28 (fun v28 => ?_)
      refine r_bipush (pc := 29) (v := 31) E dL_law_29 (by decide) ?_
      refine r_iand (pc := 31) E dL_law_31 ?_
      refine r_tsw (pc := 32) (tg := fun i => match i with | 0 => 120 | 1 => 183 | 2 => 226 | 3 => 239 | 4 => 272 | 5 => 295 | 6 => 328 | 7 => 341 | 8 => 354 | 9 => 367 | 10 => 420 | 11 => 433 | 12 => 466 | 13 => 489 | 14 => 528 | 15 => 551 | 16 => 584 | 17 => 627 | _ => 0) (tD := 650) E dL_law_32 (fun i hi => by match i, hi with | 0, _ => exact ⟨_, rfl, by decide⟩ | 1, _ => exact ⟨_, rfl, by decide⟩ | 2, _ => exact ⟨_, rfl, by decide⟩ | 3, _ => exact ⟨_, rfl, by decide⟩ | 4, _ => exact ⟨_, rfl, by decide⟩ | 5, _ => exact ⟨_, rfl, by decide⟩ | 6, _ => exact ⟨_, rfl, by decide⟩ | 7, _ => exact ⟨_, rfl, by decide⟩ | 8, _ => exact ⟨_, rfl, by decide⟩ | 9, _ => exact ⟨_, rfl, by decide⟩ | 10, _ => exact ⟨_, rfl, by decide⟩ | 11, _ => exact ⟨_, rfl, by decide⟩ | 12, _ => exact ⟨_, rfl, by decide⟩ | 13, _ => exact ⟨_, rfl, by decide⟩ | 14, _ => exact ⟨_, rfl, by decide⟩ | 15, _ => exact ⟨_, rfl, by decide⟩ | 16, _ => exact ⟨_, rfl, by decide⟩ | 17, _ => exact ⟨_, rfl, by decide⟩ | z + 18, h => exact absurd h (by omega)) (by decide) (fun i hi => ?_) ?_
      · match i, hi with
        | 0, _ =>
          refine r_aload_n (pc := 120) E dL_law_120 rfl 1 rfl ?_
          refine r_aload_n (pc := 121) E dL_law_121 rfl 0 rfl ?_
          refine r_iload_n (pc := 122) E dL_law_122 rfl 0 rfl ?_
          refine r_iconst (pc := 123) (v := 1) E dL_law_123 (by decide) ?_
          refine r_iadd (pc := 124) E dL_law_124 ?_
          refine r_sld (pc := 125) E hxs dL_law_125 (fun v125 => ?_)
          refine r_i2l (pc := 126) E dL_law_126 ?_
          refine r_bipush (pc := 127) (v := 32) E dL_law_127 (by decide) ?_
          refine r_lshl (pc := 129) E dL_law_129 ?_
          refine r_aload_n (pc := 130) E dL_law_130 rfl 0 rfl ?_
          refine r_iload_n (pc := 131) E dL_law_131 rfl 0 rfl ?_
          refine r_iconst (pc := 132) (v := 2) E dL_law_132 (by decide) ?_
          refine r_iadd (pc := 133) E dL_law_133 ?_
          refine r_sld (pc := 134) E hxs dL_law_134 (fun v134 => ?_)
          refine r_i2l (pc := 135) E dL_law_135 ?_
          refine r_ldc2 (pc := 136) E wk_RL_13 dL_law_136 ?_
          refine r_land (pc := 139) E dL_law_139 ?_
          refine r_lor (pc := 140) E dL_law_140 ?_
          refine r_aload_n (pc := 141) E dL_law_141 rfl 0 rfl ?_
          refine r_iload_n (pc := 142) E dL_law_142 rfl 0 rfl ?_
          refine r_iconst (pc := 143) (v := 3) E dL_law_143 (by decide) ?_
          refine r_iadd (pc := 144) E dL_law_144 ?_
          refine r_sld (pc := 145) E hxs dL_law_145 (fun v145 => ?_)
          refine r_kVi (pc := 146) (As := [.long ((shlJ v125.toInt64 32) ||| (v134.toInt64 &&& 4294967295)), .int v145]) (rest := []) E wc_X12_feed wi_RX12 hd_X12_feed (ci := 12) rfl wl_RL_15 wn_X12_feed ws_X12_feed dL_law_146 (by decide) (Nat.le_of_ble_eq_true rfl) ⟨rfl, rfl⟩ (ctX12_feed l x _ _ _ _) rfl (fun v146 M146 => ?_)
          refine r_pop (pc := 149) E dL_law_149 rfl ?_
          refine r_aload_n (pc := 150) E dL_law_150 rfl 2 rfl ?_
          refine r_aload_n (pc := 151) E dL_law_151 rfl 0 rfl ?_
          refine r_iload_n (pc := 152) E dL_law_152 rfl 0 rfl ?_
          refine r_iconst (pc := 153) (v := 1) E dL_law_153 (by decide) ?_
          refine r_iadd (pc := 154) E dL_law_154 ?_
          refine r_sld (pc := 155) E hxs dL_law_155 (fun v155 => ?_)
          refine r_i2l (pc := 156) E dL_law_156 ?_
          refine r_bipush (pc := 157) (v := 32) E dL_law_157 (by decide) ?_
          refine r_lshl (pc := 159) E dL_law_159 ?_
          refine r_aload_n (pc := 160) E dL_law_160 rfl 0 rfl ?_
          refine r_iload_n (pc := 161) E dL_law_161 rfl 0 rfl ?_
          refine r_iconst (pc := 162) (v := 2) E dL_law_162 (by decide) ?_
          refine r_iadd (pc := 163) E dL_law_163 ?_
          refine r_sld (pc := 164) E hxs dL_law_164 (fun v164 => ?_)
          refine r_i2l (pc := 165) E dL_law_165 ?_
          refine r_ldc2 (pc := 166) E wk_RL_13 dL_law_166 ?_
          refine r_land (pc := 169) E dL_law_169 ?_
          refine r_lor (pc := 170) E dL_law_170 ?_
          refine r_aload_n (pc := 171) E dL_law_171 rfl 0 rfl ?_
          refine r_iload_n (pc := 172) E dL_law_172 rfl 0 rfl ?_
          refine r_iconst (pc := 173) (v := 3) E dL_law_173 (by decide) ?_
          refine r_iadd (pc := 174) E dL_law_174 ?_
          refine r_sld (pc := 175) E hxs dL_law_175 (fun v175 => ?_)
          refine r_kVi (pc := 176) (As := [.long ((shlJ v155.toInt64 32) ||| (v164.toInt64 &&& 4294967295)), .int v175]) (rest := []) E wc_X13_feed wi_RX13 hd_X13_feed (ci := 13) rfl wl_RL_19 wn_X13_feed ws_X13_feed dL_law_176 (by decide) (Nat.le_of_ble_eq_true rfl) ⟨rfl, rfl⟩ (ctX13_feed l x _ _ _ _) rfl (fun v176 M176 => ?_)
          refine r_pop (pc := 179) E dL_law_179 rfl ?_
          refine r_goto (pc := 180) (tgt := 650) E dL_law_180 (by decide) ?_
          exact r_sub [0] [] [0, 1, 2] rfl rfl rfl (hL650 k18 hk18 p0 p1 p2 p3 _)
        | 1, _ =>
          refine r_aload_n (pc := 183) E dL_law_183 rfl 1 rfl ?_
          refine r_aload_n (pc := 184) E dL_law_184 rfl 0 rfl ?_
          refine r_iload_n (pc := 185) E dL_law_185 rfl 0 rfl ?_
          refine r_iconst (pc := 186) (v := 1) E dL_law_186 (by decide) ?_
          refine r_iadd (pc := 187) E dL_law_187 ?_
          refine r_sld (pc := 188) E hxs dL_law_188 (fun v188 => ?_)
          refine r_aload_n (pc := 189) E dL_law_189 rfl 0 rfl ?_
          refine r_iload_n (pc := 190) E dL_law_190 rfl 0 rfl ?_
          refine r_iconst (pc := 191) (v := 2) E dL_law_191 (by decide) ?_
          refine r_iadd (pc := 192) E dL_law_192 ?_
          refine r_sld (pc := 193) E hxs dL_law_193 (fun v193 => ?_)
          refine r_aload_n (pc := 194) E dL_law_194 rfl 0 rfl ?_
          refine r_iload_n (pc := 195) E dL_law_195 rfl 0 rfl ?_
          refine r_iconst (pc := 196) (v := 3) E dL_law_196 (by decide) ?_
          refine r_iadd (pc := 197) E dL_law_197 ?_
          refine r_sld (pc := 198) E hxs dL_law_198 (fun v198 => ?_)
          refine r_kVi (pc := 199) (As := [.int v188, .int v193, .int v198]) (rest := []) E wc_X12_fill wi_RX12 hd_X12_fill (ci := 12) rfl wl_RL_20 wn_X12_fill ws_X12_fill dL_law_199 (by decide) (Nat.le_of_ble_eq_true rfl) ⟨rfl, rfl⟩ (ctX12_fill l x _ _ _ _ _) rfl (fun v199 M199 => ?_)
          refine r_pop (pc := 202) E dL_law_202 rfl ?_
          refine r_aload_n (pc := 203) E dL_law_203 rfl 2 rfl ?_
          refine r_aload_n (pc := 204) E dL_law_204 rfl 0 rfl ?_
          refine r_iload_n (pc := 205) E dL_law_205 rfl 0 rfl ?_
          refine r_iconst (pc := 206) (v := 1) E dL_law_206 (by decide) ?_
          refine r_iadd (pc := 207) E dL_law_207 ?_
          refine r_sld (pc := 208) E hxs dL_law_208 (fun v208 => ?_)
          refine r_aload_n (pc := 209) E dL_law_209 rfl 0 rfl ?_
          refine r_iload_n (pc := 210) E dL_law_210 rfl 0 rfl ?_
          refine r_iconst (pc := 211) (v := 2) E dL_law_211 (by decide) ?_
          refine r_iadd (pc := 212) E dL_law_212 ?_
          refine r_sld (pc := 213) E hxs dL_law_213 (fun v213 => ?_)
          refine r_aload_n (pc := 214) E dL_law_214 rfl 0 rfl ?_
          refine r_iload_n (pc := 215) E dL_law_215 rfl 0 rfl ?_
          refine r_iconst (pc := 216) (v := 3) E dL_law_216 (by decide) ?_
          refine r_iadd (pc := 217) E dL_law_217 ?_
          refine r_sld (pc := 218) E hxs dL_law_218 (fun v218 => ?_)
          refine r_kVi (pc := 219) (As := [.int v208, .int v213, .int v218]) (rest := []) E wc_X13_fill wi_RX13 hd_X13_fill (ci := 13) rfl wl_RL_24 wn_X13_fill ws_X13_fill dL_law_219 (by decide) (Nat.le_of_ble_eq_true rfl) ⟨rfl, rfl⟩ (ctX13_fill l x _ _ _ _ _) rfl (fun v219 M219 => ?_)
          refine r_pop (pc := 222) E dL_law_222 rfl ?_
          refine r_goto (pc := 223) (tgt := 650) E dL_law_223 (by decide) ?_
          exact r_sub [0] [] [0, 1, 2] rfl rfl rfl (hL650 k18 hk18 p0 p1 p2 p3 _)
        | 2, _ =>
          refine r_aload_n (pc := 226) E dL_law_226 rfl 1 rfl ?_
          refine r_kVi (pc := 227) (As := []) (rest := []) E wc_X12_size wi_RX12 hd_X12_size (ci := 12) rfl wl_RL_25 wn_X12_size ws_X12_size dL_law_227 (by decide) (Nat.le_of_ble_eq_true rfl) ⟨rfl, rfl⟩ (ctX12_size l x _ _) rfl (fun v227 M227 => ?_)
          refine r_pop (pc := 230) E dL_law_230 rfl ?_
          refine r_aload_n (pc := 231) E dL_law_231 rfl 2 rfl ?_
          refine r_kVi (pc := 232) (As := []) (rest := []) E wc_X13_size wi_RX13 hd_X13_size (ci := 13) rfl wl_RL_29 wn_X13_size ws_X13_size dL_law_232 (by decide) (Nat.le_of_ble_eq_true rfl) ⟨rfl, rfl⟩ (ctX13_size l x _ _) rfl (fun v232 M232 => ?_)
          refine r_pop (pc := 235) E dL_law_235 rfl ?_
          refine r_goto (pc := 236) (tgt := 650) E dL_law_236 (by decide) ?_
          exact r_sub [0] [] [0, 1, 2] rfl rfl rfl (hL650 k18 hk18 p0 p1 p2 p3 _)
        | 3, _ =>
          refine r_aload_n (pc := 239) E dL_law_239 rfl 1 rfl ?_
          refine r_aload_n (pc := 240) E dL_law_240 rfl 0 rfl ?_
          refine r_iload_n (pc := 241) E dL_law_241 rfl 0 rfl ?_
          refine r_iconst (pc := 242) (v := 1) E dL_law_242 (by decide) ?_
          refine r_iadd (pc := 243) E dL_law_243 ?_
          refine r_sld (pc := 244) E hxs dL_law_244 (fun v244 => ?_)
          refine r_aload_n (pc := 245) E dL_law_245 rfl 0 rfl ?_
          refine r_iload_n (pc := 246) E dL_law_246 rfl 0 rfl ?_
          refine r_iconst (pc := 247) (v := 2) E dL_law_247 (by decide) ?_
          refine r_iadd (pc := 248) E dL_law_248 ?_
          refine r_sld (pc := 249) E hxs dL_law_249 (fun v249 => ?_)
          refine r_kVi (pc := 250) (As := [.int v244, .int v249]) (rest := []) E wc_X12_set wi_RX12 hd_X12_set (ci := 12) rfl wl_RL_30 wn_X12_set ws_X12_set dL_law_250 (by decide) (Nat.le_of_ble_eq_true rfl) ⟨rfl, rfl⟩ (ctX12_set l x _ _ _ _) rfl (fun v250 M250 => ?_)
          refine r_pop (pc := 253) E dL_law_253 rfl ?_
          refine r_aload_n (pc := 254) E dL_law_254 rfl 2 rfl ?_
          refine r_aload_n (pc := 255) E dL_law_255 rfl 0 rfl ?_
          refine r_iload_n (pc := 256) E dL_law_256 rfl 0 rfl ?_
          refine r_iconst (pc := 257) (v := 1) E dL_law_257 (by decide) ?_
          refine r_iadd (pc := 258) E dL_law_258 ?_
          refine r_sld (pc := 259) E hxs dL_law_259 (fun v259 => ?_)
          refine r_aload_n (pc := 260) E dL_law_260 rfl 0 rfl ?_
          refine r_iload_n (pc := 261) E dL_law_261 rfl 0 rfl ?_
          refine r_iconst (pc := 262) (v := 2) E dL_law_262 (by decide) ?_
          refine r_iadd (pc := 263) E dL_law_263 ?_
          refine r_sld (pc := 264) E hxs dL_law_264 (fun v264 => ?_)
          refine r_kVi (pc := 265) (As := [.int v259, .int v264]) (rest := []) E wc_X13_set wi_RX13 hd_X13_set (ci := 13) rfl wl_RL_34 wn_X13_set ws_X13_set dL_law_265 (by decide) (Nat.le_of_ble_eq_true rfl) ⟨rfl, rfl⟩ (ctX13_set l x _ _ _ _) rfl (fun v265 M265 => ?_)
          refine r_pop (pc := 268) E dL_law_268 rfl ?_
          refine r_goto (pc := 269) (tgt := 650) E dL_law_269 (by decide) ?_
          exact r_sub [0] [] [0, 1, 2] rfl rfl rfl (hL650 k18 hk18 p0 p1 p2 p3 _)
        | 4, _ =>
          refine r_aload_n (pc := 272) E dL_law_272 rfl 1 rfl ?_
          refine r_aload_n (pc := 273) E dL_law_273 rfl 0 rfl ?_
          refine r_iload_n (pc := 274) E dL_law_274 rfl 0 rfl ?_
          refine r_iconst (pc := 275) (v := 1) E dL_law_275 (by decide) ?_
          refine r_iadd (pc := 276) E dL_law_276 ?_
          refine r_sld (pc := 277) E hxs dL_law_277 (fun v277 => ?_)
          refine r_kVi (pc := 278) (As := [.int v277]) (rest := []) E wc_X12_cut wi_RX12 hd_X12_cut (ci := 12) rfl wl_RL_35 wn_X12_cut ws_X12_cut dL_law_278 (by decide) (Nat.le_of_ble_eq_true rfl) ⟨rfl, rfl⟩ (ctX12_cut l x _ _ _) rfl (fun v278 M278 => ?_)
          refine r_aload_n (pc := 281) E dL_law_281 rfl 2 rfl ?_
          refine r_aload_n (pc := 282) E dL_law_282 rfl 0 rfl ?_
          refine r_iload_n (pc := 283) E dL_law_283 rfl 0 rfl ?_
          refine r_iconst (pc := 284) (v := 1) E dL_law_284 (by decide) ?_
          refine r_iadd (pc := 285) E dL_law_285 ?_
          refine r_sld (pc := 286) E hxs dL_law_286 (fun v286 => ?_)
          refine r_kVi (pc := 287) (As := [.int v286]) (rest := [.int v278]) E wc_X13_cut wi_RX13 hd_X13_cut (ci := 13) rfl wl_RL_39 wn_X13_cut ws_X13_cut dL_law_287 (by decide) (Nat.le_of_ble_eq_true rfl) ⟨rfl, rfl⟩ (ctX13_cut l x _ _ _) rfl (fun v287 M287 => ?_)
          refine r_icmp_eq (pc := 290) (tgt := 650) E dL_law_290 (by decide) ?_ ?_
          · exact r_sub [0] [] [0, 1, 2] rfl rfl rfl (hL650 k18 hk18 p0 p1 p2 p3 _)
          · refine r_iconst (pc := 293) (v := 0) E dL_law_293 (by decide) ?_
            exact r_lawret (pc := 294) E hsz dL_law_294 (by decide) (by decide)
        | 5, _ =>
          refine r_aload_n (pc := 295) E dL_law_295 rfl 1 rfl ?_
          refine r_aload_n (pc := 296) E dL_law_296 rfl 0 rfl ?_
          refine r_iload_n (pc := 297) E dL_law_297 rfl 0 rfl ?_
          refine r_iconst (pc := 298) (v := 1) E dL_law_298 (by decide) ?_
          refine r_iadd (pc := 299) E dL_law_299 ?_
          refine r_sld (pc := 300) E hxs dL_law_300 (fun v300 => ?_)
          refine r_aload_n (pc := 301) E dL_law_301 rfl 0 rfl ?_
          refine r_iload_n (pc := 302) E dL_law_302 rfl 0 rfl ?_
          refine r_iconst (pc := 303) (v := 2) E dL_law_303 (by decide) ?_
          refine r_iadd (pc := 304) E dL_law_304 ?_
          refine r_sld (pc := 305) E hxs dL_law_305 (fun v305 => ?_)
          refine r_kVi (pc := 306) (As := [.int v300, .int v305]) (rest := []) E wc_X12_again wi_RX12 hd_X12_again (ci := 12) rfl wl_RL_40 wn_X12_again ws_X12_again dL_law_306 (by decide) (Nat.le_of_ble_eq_true rfl) ⟨rfl, rfl⟩ (ctX12_again l x _ _ _ _) rfl (fun v306 M306 => ?_)
          refine r_pop (pc := 309) E dL_law_309 rfl ?_
          refine r_aload_n (pc := 310) E dL_law_310 rfl 2 rfl ?_
          refine r_aload_n (pc := 311) E dL_law_311 rfl 0 rfl ?_
          refine r_iload_n (pc := 312) E dL_law_312 rfl 0 rfl ?_
          refine r_iconst (pc := 313) (v := 1) E dL_law_313 (by decide) ?_
          refine r_iadd (pc := 314) E dL_law_314 ?_
          refine r_sld (pc := 315) E hxs dL_law_315 (fun v315 => ?_)
          refine r_aload_n (pc := 316) E dL_law_316 rfl 0 rfl ?_
          refine r_iload_n (pc := 317) E dL_law_317 rfl 0 rfl ?_
          refine r_iconst (pc := 318) (v := 2) E dL_law_318 (by decide) ?_
          refine r_iadd (pc := 319) E dL_law_319 ?_
          refine r_sld (pc := 320) E hxs dL_law_320 (fun v320 => ?_)
          refine r_kVi (pc := 321) (As := [.int v315, .int v320]) (rest := []) E wc_X13_again wi_RX13 hd_X13_again (ci := 13) rfl wl_RL_43 wn_X13_again ws_X13_again dL_law_321 (by decide) (Nat.le_of_ble_eq_true rfl) ⟨rfl, rfl⟩ (ctX13_again l x _ _ _ _) rfl (fun v321 M321 => ?_)
          refine r_pop (pc := 324) E dL_law_324 rfl ?_
          refine r_goto (pc := 325) (tgt := 650) E dL_law_325 (by decide) ?_
          exact r_sub [0] [] [0, 1, 2] rfl rfl rfl (hL650 k18 hk18 p0 p1 p2 p3 _)
        | 6, _ =>
          refine r_aload_n (pc := 328) E dL_law_328 rfl 1 rfl ?_
          refine r_kVi (pc := 329) (As := []) (rest := []) E wc_X12_swap wi_RX12 hd_X12_swap (ci := 12) rfl wl_RL_44 wn_X12_swap ws_X12_swap dL_law_329 (by decide) (Nat.le_of_ble_eq_true rfl) ⟨rfl, rfl⟩ (ctX12_swap l x _ _) rfl (fun v329 M329 => ?_)
          refine r_pop (pc := 332) E dL_law_332 rfl ?_
          refine r_aload_n (pc := 333) E dL_law_333 rfl 2 rfl ?_
          refine r_kVi (pc := 334) (As := []) (rest := []) E wc_X13_swap wi_RX13 hd_X13_swap (ci := 13) rfl wl_RL_47 wn_X13_swap ws_X13_swap dL_law_334 (by decide) (Nat.le_of_ble_eq_true rfl) ⟨rfl, rfl⟩ (ctX13_swap l x _ _) rfl (fun v334 M334 => ?_)
          refine r_pop (pc := 337) E dL_law_337 rfl ?_
          refine r_goto (pc := 338) (tgt := 650) E dL_law_338 (by decide) ?_
          exact r_sub [0] [] [0, 1, 2] rfl rfl rfl (hL650 k18 hk18 p0 p1 p2 p3 _)
        | 7, _ =>
          refine r_aload_n (pc := 341) E dL_law_341 rfl 1 rfl ?_
          refine r_kVi (pc := 342) (As := []) (rest := []) E wc_X12_differ wi_RX12 hd_X12_differ (ci := 12) rfl wl_RL_48 wn_X12_differ ws_X12_differ dL_law_342 (by decide) (Nat.le_of_ble_eq_true rfl) ⟨rfl, rfl⟩ (ctX12_differ l x _ _) rfl (fun v342 M342 => ?_)
          refine r_pop (pc := 345) E dL_law_345 rfl ?_
          refine r_aload_n (pc := 346) E dL_law_346 rfl 2 rfl ?_
          refine r_kVi (pc := 347) (As := []) (rest := []) E wc_X13_differ wi_RX13 hd_X13_differ (ci := 13) rfl wl_RL_51 wn_X13_differ ws_X13_differ dL_law_347 (by decide) (Nat.le_of_ble_eq_true rfl) ⟨rfl, rfl⟩ (ctX13_differ l x _ _) rfl (fun v347 M347 => ?_)
          refine r_pop (pc := 350) E dL_law_350 rfl ?_
          refine r_goto (pc := 351) (tgt := 650) E dL_law_351 (by decide) ?_
          exact r_sub [0] [] [0, 1, 2] rfl rfl rfl (hL650 k18 hk18 p0 p1 p2 p3 _)
        | 8, _ =>
          refine r_aload_n (pc := 354) E dL_law_354 rfl 1 rfl ?_
          refine r_kVi (pc := 355) (As := []) (rest := []) E wc_X12_keep wi_RX12 hd_X12_keep (ci := 12) rfl wl_RL_52 wn_X12_keep ws_X12_keep dL_law_355 (by decide) (Nat.le_of_ble_eq_true rfl) ⟨rfl, rfl⟩ (ctX12_keep l x _ _) rfl (fun v355 M355 => ?_)
          refine r_pop (pc := 358) E dL_law_358 rfl ?_
          refine r_aload_n (pc := 359) E dL_law_359 rfl 2 rfl ?_
          refine r_kVi (pc := 360) (As := []) (rest := []) E wc_X13_keep wi_RX13 hd_X13_keep (ci := 13) rfl wl_RL_55 wn_X13_keep ws_X13_keep dL_law_360 (by decide) (Nat.le_of_ble_eq_true rfl) ⟨rfl, rfl⟩ (ctX13_keep l x _ _) rfl (fun v360 M360 => ?_)
          refine r_pop (pc := 363) E dL_law_363 rfl ?_
          refine r_goto (pc := 364) (tgt := 650) E dL_law_364 (by decide) ?_
          exact r_sub [0] [] [0, 1, 2] rfl rfl rfl (hL650 k18 hk18 p0 p1 p2 p3 _)
        | 9, _ =>
          refine r_aload_n (pc := 367) E dL_law_367 rfl 1 rfl ?_
          refine r_aload_n (pc := 368) E dL_law_368 rfl 0 rfl ?_
          refine r_iload_n (pc := 369) E dL_law_369 rfl 0 rfl ?_
          refine r_iconst (pc := 370) (v := 1) E dL_law_370 (by decide) ?_
          refine r_iadd (pc := 371) E dL_law_371 ?_
          refine r_sld (pc := 372) E hxs dL_law_372 (fun v372 => ?_)
          refine r_i2l (pc := 373) E dL_law_373 ?_
          refine r_bipush (pc := 374) (v := 32) E dL_law_374 (by decide) ?_
          refine r_lshl (pc := 376) E dL_law_376 ?_
          refine r_aload_n (pc := 377) E dL_law_377 rfl 0 rfl ?_
          refine r_iload_n (pc := 378) E dL_law_378 rfl 0 rfl ?_
          refine r_iconst (pc := 379) (v := 2) E dL_law_379 (by decide) ?_
          refine r_iadd (pc := 380) E dL_law_380 ?_
          refine r_sld (pc := 381) E hxs dL_law_381 (fun v381 => ?_)
          refine r_i2l (pc := 382) E dL_law_382 ?_
          refine r_ldc2 (pc := 383) E wk_RL_13 dL_law_383 ?_
          refine r_land (pc := 386) E dL_law_386 ?_
          refine r_lor (pc := 387) E dL_law_387 ?_
          refine r_kVi (pc := 388) (As := [.long ((shlJ v372.toInt64 32) ||| (v381.toInt64 &&& 4294967295))]) (rest := []) E wc_X12_open wi_RX12 hd_X12_open (ci := 12) rfl wl_RL_56 wn_X12_open ws_X12_open dL_law_388 (by decide) (Nat.le_of_ble_eq_true rfl) ⟨rfl, rfl⟩ (ctX12_open l x _ _ _) rfl (fun v388 M388 => ?_)
          refine r_pop (pc := 391) E dL_law_391 rfl ?_
          refine r_aload_n (pc := 392) E dL_law_392 rfl 2 rfl ?_
          refine r_aload_n (pc := 393) E dL_law_393 rfl 0 rfl ?_
          refine r_iload_n (pc := 394) E dL_law_394 rfl 0 rfl ?_
          refine r_iconst (pc := 395) (v := 1) E dL_law_395 (by decide) ?_
          refine r_iadd (pc := 396) E dL_law_396 ?_
          refine r_sld (pc := 397) E hxs dL_law_397 (fun v397 => ?_)
          refine r_i2l (pc := 398) E dL_law_398 ?_
          refine r_bipush (pc := 399) (v := 32) E dL_law_399 (by decide) ?_
          refine r_lshl (pc := 401) E dL_law_401 ?_
          refine r_aload_n (pc := 402) E dL_law_402 rfl 0 rfl ?_
          refine r_iload_n (pc := 403) E dL_law_403 rfl 0 rfl ?_
          refine r_iconst (pc := 404) (v := 2) E dL_law_404 (by decide) ?_
          refine r_iadd (pc := 405) E dL_law_405 ?_
          refine r_sld (pc := 406) E hxs dL_law_406 (fun v406 => ?_)
          refine r_i2l (pc := 407) E dL_law_407 ?_
          refine r_ldc2 (pc := 408) E wk_RL_13 dL_law_408 ?_
          refine r_land (pc := 411) E dL_law_411 ?_
          refine r_lor (pc := 412) E dL_law_412 ?_
          refine r_kVi (pc := 413) (As := [.long ((shlJ v397.toInt64 32) ||| (v406.toInt64 &&& 4294967295))]) (rest := []) E wc_X13_open wi_RX13 hd_X13_open (ci := 13) rfl wl_RL_60 wn_X13_open ws_X13_open dL_law_413 (by decide) (Nat.le_of_ble_eq_true rfl) ⟨rfl, rfl⟩ (ctX13_open l x _ _ _) rfl (fun v413 M413 => ?_)
          refine r_pop (pc := 416) E dL_law_416 rfl ?_
          refine r_goto (pc := 417) (tgt := 650) E dL_law_417 (by decide) ?_
          exact r_sub [0] [] [0, 1, 2] rfl rfl rfl (hL650 k18 hk18 p0 p1 p2 p3 _)
        | 10, _ =>
          refine r_aload_n (pc := 420) E dL_law_420 rfl 1 rfl ?_
          refine r_kVi (pc := 421) (As := []) (rest := []) E wc_X12_place wi_RX12 hd_X12_place (ci := 12) rfl wl_RL_61 wn_X12_place ws_X12_place dL_law_421 (by decide) (Nat.le_of_ble_eq_true rfl) ⟨rfl, rfl⟩ (ctX12_place l x _ _) rfl (fun v421 M421 => ?_)
          refine r_pop (pc := 424) E dL_law_424 rfl ?_
          refine r_aload_n (pc := 425) E dL_law_425 rfl 2 rfl ?_
          refine r_kVi (pc := 426) (As := []) (rest := []) E wc_X13_place wi_RX13 hd_X13_place (ci := 13) rfl wl_RL_64 wn_X13_place ws_X13_place dL_law_426 (by decide) (Nat.le_of_ble_eq_true rfl) ⟨rfl, rfl⟩ (ctX13_place l x _ _) rfl (fun v426 M426 => ?_)
          refine r_pop (pc := 429) E dL_law_429 rfl ?_
          refine r_goto (pc := 430) (tgt := 650) E dL_law_430 (by decide) ?_
          exact r_sub [0] [] [0, 1, 2] rfl rfl rfl (hL650 k18 hk18 p0 p1 p2 p3 _)
        | 11, _ =>
          refine r_aload_n (pc := 433) E dL_law_433 rfl 1 rfl ?_
          refine r_aload_n (pc := 434) E dL_law_434 rfl 0 rfl ?_
          refine r_iload_n (pc := 435) E dL_law_435 rfl 0 rfl ?_
          refine r_iconst (pc := 436) (v := 1) E dL_law_436 (by decide) ?_
          refine r_iadd (pc := 437) E dL_law_437 ?_
          refine r_sld (pc := 438) E hxs dL_law_438 (fun v438 => ?_)
          refine r_aload_n (pc := 439) E dL_law_439 rfl 0 rfl ?_
          refine r_iload_n (pc := 440) E dL_law_440 rfl 0 rfl ?_
          refine r_iconst (pc := 441) (v := 2) E dL_law_441 (by decide) ?_
          refine r_iadd (pc := 442) E dL_law_442 ?_
          refine r_sld (pc := 443) E hxs dL_law_443 (fun v443 => ?_)
          refine r_kVi (pc := 444) (As := [.int v438, .int v443]) (rest := []) E wc_X12_pack wi_RX12 hd_X12_pack (ci := 12) rfl wl_RL_65 wn_X12_pack ws_X12_pack dL_law_444 (by decide) (Nat.le_of_ble_eq_true rfl) ⟨rfl, rfl⟩ (ctX12_pack l x _ _ _ _) rfl (fun v444 M444 => ?_)
          refine r_pop (pc := 447) E dL_law_447 rfl ?_
          refine r_aload_n (pc := 448) E dL_law_448 rfl 2 rfl ?_
          refine r_aload_n (pc := 449) E dL_law_449 rfl 0 rfl ?_
          refine r_iload_n (pc := 450) E dL_law_450 rfl 0 rfl ?_
          refine r_iconst (pc := 451) (v := 1) E dL_law_451 (by decide) ?_
          refine r_iadd (pc := 452) E dL_law_452 ?_
          refine r_sld (pc := 453) E hxs dL_law_453 (fun v453 => ?_)
          refine r_aload_n (pc := 454) E dL_law_454 rfl 0 rfl ?_
          refine r_iload_n (pc := 455) E dL_law_455 rfl 0 rfl ?_
          refine r_iconst (pc := 456) (v := 2) E dL_law_456 (by decide) ?_
          refine r_iadd (pc := 457) E dL_law_457 ?_
          refine r_sld (pc := 458) E hxs dL_law_458 (fun v458 => ?_)
          refine r_kVi (pc := 459) (As := [.int v453, .int v458]) (rest := []) E wc_X13_pack wi_RX13 hd_X13_pack (ci := 13) rfl wl_RL_68 wn_X13_pack ws_X13_pack dL_law_459 (by decide) (Nat.le_of_ble_eq_true rfl) ⟨rfl, rfl⟩ (ctX13_pack l x _ _ _ _) rfl (fun v459 M459 => ?_)
          refine r_pop (pc := 462) E dL_law_462 rfl ?_
          refine r_goto (pc := 463) (tgt := 650) E dL_law_463 (by decide) ?_
          exact r_sub [0] [] [0, 1, 2] rfl rfl rfl (hL650 k18 hk18 p0 p1 p2 p3 _)
        | 12, _ =>
          refine r_aload_n (pc := 466) E dL_law_466 rfl 1 rfl ?_
          refine r_aload_n (pc := 467) E dL_law_467 rfl 0 rfl ?_
          refine r_iload_n (pc := 468) E dL_law_468 rfl 0 rfl ?_
          refine r_iconst (pc := 469) (v := 1) E dL_law_469 (by decide) ?_
          refine r_iadd (pc := 470) E dL_law_470 ?_
          refine r_sld (pc := 471) E hxs dL_law_471 (fun v471 => ?_)
          refine r_kVi (pc := 472) (As := [.int v471]) (rest := []) E wc_X12_out wi_RX12 hd_X12_out (ci := 12) rfl wl_RL_69 wn_X12_out ws_X12_out dL_law_472 (by decide) (Nat.le_of_ble_eq_true rfl) ⟨rfl, rfl⟩ (ctX12_out l x _ _ _) rfl (fun v472 M472 => ?_)
          refine r_pop (pc := 475) E dL_law_475 rfl ?_
          refine r_aload_n (pc := 476) E dL_law_476 rfl 2 rfl ?_
          refine r_aload_n (pc := 477) E dL_law_477 rfl 0 rfl ?_
          refine r_iload_n (pc := 478) E dL_law_478 rfl 0 rfl ?_
          refine r_iconst (pc := 479) (v := 1) E dL_law_479 (by decide) ?_
          refine r_iadd (pc := 480) E dL_law_480 ?_
          refine r_sld (pc := 481) E hxs dL_law_481 (fun v481 => ?_)
          refine r_kVi (pc := 482) (As := [.int v481]) (rest := []) E wc_X13_out wi_RX13 hd_X13_out (ci := 13) rfl wl_RL_72 wn_X13_out ws_X13_out dL_law_482 (by decide) (Nat.le_of_ble_eq_true rfl) ⟨rfl, rfl⟩ (ctX13_out l x _ _ _) rfl (fun v482 M482 => ?_)
          refine r_pop (pc := 485) E dL_law_485 rfl ?_
          refine r_goto (pc := 486) (tgt := 650) E dL_law_486 (by decide) ?_
          exact r_sub [0] [] [0, 1, 2] rfl rfl rfl (hL650 k18 hk18 p0 p1 p2 p3 _)
        | 13, _ =>
          refine r_aload_n (pc := 489) E dL_law_489 rfl 1 rfl ?_
          refine r_aload_n (pc := 490) E dL_law_490 rfl 0 rfl ?_
          refine r_iload_n (pc := 491) E dL_law_491 rfl 0 rfl ?_
          refine r_iconst (pc := 492) (v := 1) E dL_law_492 (by decide) ?_
          refine r_iadd (pc := 493) E dL_law_493 ?_
          refine r_sld (pc := 494) E hxs dL_law_494 (fun v494 => ?_)
          refine r_if_eq (pc := 495) (tgt := 502) E dL_law_495 (by decide) ?_ ?_
          · refine r_iconst (pc := 502) (v := 0) E dL_law_502 (by decide) ?_
            exact r_sub [0] [] [0, 1, 2] rfl rfl rfl (hL503 k18 hk18 p0 p1 p2 p3 p1 0 _)
          · refine r_iconst (pc := 498) (v := 1) E dL_law_498 (by decide) ?_
            refine r_goto (pc := 499) (tgt := 503) E dL_law_499 (by decide) ?_
            exact r_sub [0] [] [0, 1, 2] rfl rfl rfl (hL503 k18 hk18 p0 p1 p2 p3 p1 1 _)
        | 14, _ =>
          refine r_aload_n (pc := 528) E dL_law_528 rfl 1 rfl ?_
          refine r_aload_n (pc := 529) E dL_law_529 rfl 0 rfl ?_
          refine r_iload_n (pc := 530) E dL_law_530 rfl 0 rfl ?_
          refine r_iconst (pc := 531) (v := 1) E dL_law_531 (by decide) ?_
          refine r_iadd (pc := 532) E dL_law_532 ?_
          refine r_sld (pc := 533) E hxs dL_law_533 (fun v533 => ?_)
          refine r_kVi (pc := 534) (As := [.int v533]) (rest := []) E wc_X12_told wi_RX12 hd_X12_told (ci := 12) rfl wl_RL_78 wn_X12_told ws_X12_told dL_law_534 (by decide) (Nat.le_of_ble_eq_true rfl) ⟨rfl, rfl⟩ (ctX12_told l x _ _ _) rfl (fun v534 M534 => ?_)
          refine r_pop (pc := 537) E dL_law_537 rfl ?_
          refine r_aload_n (pc := 538) E dL_law_538 rfl 2 rfl ?_
          refine r_aload_n (pc := 539) E dL_law_539 rfl 0 rfl ?_
          refine r_iload_n (pc := 540) E dL_law_540 rfl 0 rfl ?_
          refine r_iconst (pc := 541) (v := 1) E dL_law_541 (by decide) ?_
          refine r_iadd (pc := 542) E dL_law_542 ?_
          refine r_sld (pc := 543) E hxs dL_law_543 (fun v543 => ?_)
          refine r_kVi (pc := 544) (As := [.int v543]) (rest := []) E wc_X13_told wi_RX13 hd_X13_told (ci := 13) rfl wl_RL_81 wn_X13_told ws_X13_told dL_law_544 (by decide) (Nat.le_of_ble_eq_true rfl) ⟨rfl, rfl⟩ (ctX13_told l x _ _ _) rfl (fun v544 M544 => ?_)
          refine r_pop (pc := 547) E dL_law_547 rfl ?_
          refine r_goto (pc := 548) (tgt := 650) E dL_law_548 (by decide) ?_
          exact r_sub [0] [] [0, 1, 2] rfl rfl rfl (hL650 k18 hk18 p0 p1 p2 p3 _)
        | 15, _ =>
          refine r_aload_n (pc := 551) E dL_law_551 rfl 1 rfl ?_
          refine r_aload_n (pc := 552) E dL_law_552 rfl 0 rfl ?_
          refine r_iload_n (pc := 553) E dL_law_553 rfl 0 rfl ?_
          refine r_iconst (pc := 554) (v := 1) E dL_law_554 (by decide) ?_
          refine r_iadd (pc := 555) E dL_law_555 ?_
          refine r_sld (pc := 556) E hxs dL_law_556 (fun v556 => ?_)
          refine r_aload_n (pc := 557) E dL_law_557 rfl 0 rfl ?_
          refine r_iload_n (pc := 558) E dL_law_558 rfl 0 rfl ?_
          refine r_iconst (pc := 559) (v := 2) E dL_law_559 (by decide) ?_
          refine r_iadd (pc := 560) E dL_law_560 ?_
          refine r_sld (pc := 561) E hxs dL_law_561 (fun v561 => ?_)
          refine r_kVi (pc := 562) (As := [.int v556, .int v561]) (rest := []) E wc_X12_sequence wi_RX12 hd_X12_sequence (ci := 12) rfl wl_RL_82 wn_X12_sequence ws_X12_sequence dL_law_562 (by decide) (Nat.le_of_ble_eq_true rfl) ⟨rfl, rfl⟩ (ctX12_sequence l x _ _ _ _) rfl (fun v562 M562 => ?_)
          refine r_pop (pc := 565) E dL_law_565 rfl ?_
          refine r_aload_n (pc := 566) E dL_law_566 rfl 2 rfl ?_
          refine r_aload_n (pc := 567) E dL_law_567 rfl 0 rfl ?_
          refine r_iload_n (pc := 568) E dL_law_568 rfl 0 rfl ?_
          refine r_iconst (pc := 569) (v := 1) E dL_law_569 (by decide) ?_
          refine r_iadd (pc := 570) E dL_law_570 ?_
          refine r_sld (pc := 571) E hxs dL_law_571 (fun v571 => ?_)
          refine r_aload_n (pc := 572) E dL_law_572 rfl 0 rfl ?_
          refine r_iload_n (pc := 573) E dL_law_573 rfl 0 rfl ?_
          refine r_iconst (pc := 574) (v := 2) E dL_law_574 (by decide) ?_
          refine r_iadd (pc := 575) E dL_law_575 ?_
          refine r_sld (pc := 576) E hxs dL_law_576 (fun v576 => ?_)
          refine r_kVi (pc := 577) (As := [.int v571, .int v576]) (rest := []) E wc_X13_sequence_ wi_RX13 hd_X13_sequence_ (ci := 13) rfl wl_RL_85 wn_X13_sequence_ ws_X13_sequence_ dL_law_577 (by decide) (Nat.le_of_ble_eq_true rfl) ⟨rfl, rfl⟩ (ctX13_sequence_ l x _ _ _ _) rfl (fun v577 M577 => ?_)
          refine r_pop (pc := 580) E dL_law_580 rfl ?_
          refine r_goto (pc := 581) (tgt := 650) E dL_law_581 (by decide) ?_
          exact r_sub [0] [] [0, 1, 2] rfl rfl rfl (hL650 k18 hk18 p0 p1 p2 p3 _)
        | 16, _ =>
          refine r_aload_n (pc := 584) E dL_law_584 rfl 1 rfl ?_
          refine r_aload_n (pc := 585) E dL_law_585 rfl 0 rfl ?_
          refine r_iload_n (pc := 586) E dL_law_586 rfl 0 rfl ?_
          refine r_iconst (pc := 587) (v := 1) E dL_law_587 (by decide) ?_
          refine r_iadd (pc := 588) E dL_law_588 ?_
          refine r_sld (pc := 589) E hxs dL_law_589 (fun v589 => ?_)
          refine r_aload_n (pc := 590) E dL_law_590 rfl 0 rfl ?_
          refine r_iload_n (pc := 591) E dL_law_591 rfl 0 rfl ?_
          refine r_iconst (pc := 592) (v := 2) E dL_law_592 (by decide) ?_
          refine r_iadd (pc := 593) E dL_law_593 ?_
          refine r_sld (pc := 594) E hxs dL_law_594 (fun v594 => ?_)
          refine r_aload_n (pc := 595) E dL_law_595 rfl 0 rfl ?_
          refine r_iload_n (pc := 596) E dL_law_596 rfl 0 rfl ?_
          refine r_iconst (pc := 597) (v := 3) E dL_law_597 (by decide) ?_
          refine r_iadd (pc := 598) E dL_law_598 ?_
          refine r_sld (pc := 599) E hxs dL_law_599 (fun v599 => ?_)
          refine r_kVi (pc := 600) (As := [.int v589, .int v594, .int v599]) (rest := []) E wc_X12_table wi_RX12 hd_X12_table (ci := 12) rfl wl_RL_86 wn_X12_table ws_X12_table dL_law_600 (by decide) (Nat.le_of_ble_eq_true rfl) ⟨rfl, rfl⟩ (ctX12_table l x _ _ _ _ _) rfl (fun v600 M600 => ?_)
          refine r_pop (pc := 603) E dL_law_603 rfl ?_
          refine r_aload_n (pc := 604) E dL_law_604 rfl 2 rfl ?_
          refine r_aload_n (pc := 605) E dL_law_605 rfl 0 rfl ?_
          refine r_iload_n (pc := 606) E dL_law_606 rfl 0 rfl ?_
          refine r_iconst (pc := 607) (v := 1) E dL_law_607 (by decide) ?_
          refine r_iadd (pc := 608) E dL_law_608 ?_
          refine r_sld (pc := 609) E hxs dL_law_609 (fun v609 => ?_)
          refine r_aload_n (pc := 610) E dL_law_610 rfl 0 rfl ?_
          refine r_iload_n (pc := 611) E dL_law_611 rfl 0 rfl ?_
          refine r_iconst (pc := 612) (v := 2) E dL_law_612 (by decide) ?_
          refine r_iadd (pc := 613) E dL_law_613 ?_
          refine r_sld (pc := 614) E hxs dL_law_614 (fun v614 => ?_)
          refine r_aload_n (pc := 615) E dL_law_615 rfl 0 rfl ?_
          refine r_iload_n (pc := 616) E dL_law_616 rfl 0 rfl ?_
          refine r_iconst (pc := 617) (v := 3) E dL_law_617 (by decide) ?_
          refine r_iadd (pc := 618) E dL_law_618 ?_
          refine r_sld (pc := 619) E hxs dL_law_619 (fun v619 => ?_)
          refine r_kVi (pc := 620) (As := [.int v609, .int v614, .int v619]) (rest := []) E wc_X13_table_ wi_RX13 hd_X13_table_ (ci := 13) rfl wl_RL_89 wn_X13_table_ ws_X13_table_ dL_law_620 (by decide) (Nat.le_of_ble_eq_true rfl) ⟨rfl, rfl⟩ (ctX13_table_ l x _ _ _ _ _) rfl (fun v620 M620 => ?_)
          refine r_pop (pc := 623) E dL_law_623 rfl ?_
          refine r_goto (pc := 624) (tgt := 650) E dL_law_624 (by decide) ?_
          exact r_sub [0] [] [0, 1, 2] rfl rfl rfl (hL650 k18 hk18 p0 p1 p2 p3 _)
        | 17, _ =>
          refine r_aload_n (pc := 627) E dL_law_627 rfl 1 rfl ?_
          refine r_aload_n (pc := 628) E dL_law_628 rfl 0 rfl ?_
          refine r_iload_n (pc := 629) E dL_law_629 rfl 0 rfl ?_
          refine r_iconst (pc := 630) (v := 1) E dL_law_630 (by decide) ?_
          refine r_iadd (pc := 631) E dL_law_631 ?_
          refine r_sld (pc := 632) E hxs dL_law_632 (fun v632 => ?_)
          refine r_kVi (pc := 633) (As := [.int v632]) (rest := []) E wc_X12_bits wi_RX12 hd_X12_bits (ci := 12) rfl wl_RL_90 wn_X12_bits ws_X12_bits dL_law_633 (by decide) (Nat.le_of_ble_eq_true rfl) ⟨rfl, rfl⟩ (ctX12_bits l x _ _ _) rfl (fun v633 M633 => ?_)
          refine r_pop (pc := 636) E dL_law_636 rfl ?_
          refine r_aload_n (pc := 637) E dL_law_637 rfl 2 rfl ?_
          refine r_aload_n (pc := 638) E dL_law_638 rfl 0 rfl ?_
          refine r_iload_n (pc := 639) E dL_law_639 rfl 0 rfl ?_
          refine r_iconst (pc := 640) (v := 1) E dL_law_640 (by decide) ?_
          refine r_iadd (pc := 641) E dL_law_641 ?_
          refine r_sld (pc := 642) E hxs dL_law_642 (fun v642 => ?_)
          refine r_kVi (pc := 643) (As := [.int v642]) (rest := []) E wc_X13_bits wi_RX13 hd_X13_bits (ci := 13) rfl wl_RL_93 wn_X13_bits ws_X13_bits dL_law_643 (by decide) (Nat.le_of_ble_eq_true rfl) ⟨rfl, rfl⟩ (ctX13_bits l x _ _ _) rfl (fun v643 M643 => ?_)
          refine r_pop (pc := 646) E dL_law_646 rfl ?_
          refine r_goto (pc := 647) (tgt := 650) E dL_law_647 (by decide) ?_
          exact r_sub [0] [] [0, 1, 2] rfl rfl rfl (hL650 k18 hk18 p0 p1 p2 p3 _)
        | z + 18, h => exact absurd h (by omega)
      · exact r_sub [0] [] [0, 1, 2] rfl rfl rfl (hL650 k18 hk18 p0 p1 p2 p3 _)
  unfold fL_law
  refine r_new (pc := 0) E cd_12 (by decide) wx_RL_7 dL_law_0 (by decide) (by decide) (fun v0 M0 => ?_)
  refine r_widen (k := 1) (n := 11) (by decide) (by decide) ?_
  refine r_dup (pc := 3) E dL_law_3 (rv_cat _ _) ?_
  refine r_callI (pc := 4) (As := []) (rest := [rv x v0]) E wc_X12_init wi_RX12 hd_X12_init wl_RL_9 rfl wn_X12_init dL_law_4 (by decide) (Nat.le_of_ble_eq_true rfl) (ctX12_init l x _ _) rfl (fun v4 M4 => ?_)
  refine r_widen (k := 187) (n := 164927) (by decide) (by decide) ?_
  refine r_astore_n (pc := 7) (lf := fun v7 => []) (lg := fun v7 => []) (lk := fun v7 => [(1, v7), (0, a0)]) E dL_law_7 rfl (by decide) (fun _ => rfl) (fun _ => rfl) (fun _ => rfl) (fun v7 => ?_)
  refine r_new (pc := 8) E cd_13 (by decide) wx_RL_10 dL_law_8 (by decide) (by decide) (fun v8 M8 => ?_)
  refine r_widen (k := 188) (n := 165002) (by decide) (by decide) ?_
  refine r_dup (pc := 11) E dL_law_11 (rv_cat _ _) ?_
  refine r_callI (pc := 12) (As := []) (rest := [rv x v8]) E wc_X13_init wi_RX13 hd_X13_init wl_RL_12 rfl wn_X13_init dL_law_12 (by decide) (Nat.le_of_ble_eq_true rfl) (ctX13_init l x _ _) rfl (fun v12 M12 => ?_)
  refine r_widen (k := 230) (n := 617408) (by decide) (by decide) ?_
  refine r_astore_n (pc := 15) (lf := fun v15 => []) (lg := fun v15 => []) (lk := fun v15 => [(2, v15), (1, v7), (0, a0)]) E dL_law_15 rfl (by decide) (fun _ => rfl) (fun _ => rfl) (fun _ => rfl) (fun v15 => ?_)
  refine r_iconst (pc := 16) (v := 0) E dL_law_16 (by decide) ?_
  refine r_istore_n (pc := 17) (lf := fun v17 => [(3, v17)]) (lg := fun v17 => []) (lk := fun v17 => [(2, v15), (1, v7), (0, a0)]) E dL_law_17 rfl (by decide) (fun _ => rfl) (fun _ => rfl) (fun _ => rfl) (fun v17 => ?_)
  exact r_sub [0] [] [2, 1, 0] rfl rfl rfl (hL18 a0 v7 v15 v17 _)
