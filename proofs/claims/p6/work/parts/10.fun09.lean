def fX13_sections_L177 (p0 : Option Nat) (p1 : Int32) (M : Mem) : Option (Unit × Mem) :=
  bo (chk M p0 13) fun _ => bd (fX13_fails p0 14 p1 M) fun v181 M181 =>
  some ((), M181)
def fX13_sections_L256 (M : Mem) : Option (Unit × Mem) :=
  some ((), M)
def fX13_sections_B309 (k309 : Option Nat → Mem → Option (Unit × Mem)) (p0 : Option Nat) (M : Mem) : Option (Unit × Mem) :=
  bo (gI M p0 13 38) fun v310 =>
  bo (gI M p0 13 37) fun v314 =>
  if v314 ≤ v310 then (
    some ((), M)
  ) else (
    bo (gR M p0 13 34) fun v321 =>
    bo (gI M p0 13 35) fun v325 =>
    bo (gR M p0 13 36) fun v329 =>
    bo (gI M p0 13 38) fun v333 =>
    bo (aI M v329 14 v333) fun v336 =>
    bo (wB M v321 v325 v336) fun M337 =>
    bo (gI M337 p0 13 35) fun v340 =>
    bo (pI M337 p0 13 35 (v340 + 1)) fun M345 =>
    bo (gI M345 p0 13 38) fun v350 =>
    bo (pI M345 p0 13 38 (v350 + 1)) fun M355 =>
    k309 p0 M355
  )
def fX13_sections_L309 (p0 : Option Nat) (M : Mem) : Option (Unit × Mem) :=
  lp (fun k309 (a : Option Nat) M => fX13_sections_B309 k309 a M) FU p0 M
def fX13_sections_L268 (p0 : Option Nat) (M : Mem) : Option (Unit × Mem) :=
  bo (gI M p0 13 4) fun v269 =>
  if v269 ≤ 0 then (
    bo (gI M p0 13 35) fun v277 =>
    bo (gI M p0 13 37) fun v281 =>
    bo (gI M p0 13 38) fun v286 =>
    bo (gI M p0 13 42) fun v291 =>
    if ((v277 + v281) - v286) ≤ v291 then (
      fX13_sections_L309 p0 M
    ) else (
      bo (gI M p0 13 52) fun v301 =>
      bo (chk M p0 13) fun _ => bd (fX13_fails p0 20 v301 M) fun v304 M304 =>
      some ((), M304)
    )
  ) else (
    some ((), M)
  )
def fX13_sections_L131 (p0 : Option Nat) (p1 : Int32) (p2 : Int32) (p4 : Int32) (q0 : Int32) (M : Mem) : Option (Unit × Mem) :=
  bn (q0) fun v131 =>
  if v131 = 0 then (
    if (p1 + p4) = p2 then (
      fX13_sections_L268 p0 M
    ) else (
      bo (chk M p0 13) fun _ => bd (fX13_fails p0 14 p1 M) fun v150 M150 =>
      some ((), M150)
    )
  ) else (
    if (p2 - p1) ≤ p4 then (
      fX13_sections_L177 p0 p1 M
    ) else (
      bo (gR M p0 13 0) fun v164 =>
      bo (aI M v164 14 (p1 + p4)) fun v171 =>
      if (v171 &&& 3) ≤ 0 then (
        bo (gR M p0 13 0) fun v187 =>
        bo (aI M v187 14 (p1 + p4)) fun v194 =>
        bn (v194) fun v195 =>
        bo (pI M p0 13 52 ((p1 + p4) + 1)) fun M204 =>
        bo (chk M204 p0 13) fun _ => bd (fX13_toldTable p0 0 ((shrI v195 6) &&& 3) p1 p2 M204) fun v218 M218 =>
        if v218 = 0 then (
          fX13_sections_L256 M218
        ) else (
          bo (chk M218 p0 13) fun _ => bd (fX13_toldTable p0 1 ((shrI v195 4) &&& 3) p1 p2 M218) fun v234 M234 =>
          if v234 = 0 then (
            fX13_sections_L256 M234
          ) else (
            bo (chk M234 p0 13) fun _ => bd (fX13_toldTable p0 2 ((shrI v195 2) &&& 3) p1 p2 M234) fun v250 M250 =>
            if v250 = 0 then (
              fX13_sections_L256 M250
            ) else (
              bo (gI M250 p0 13 52) fun v261 =>
              bo (chk M250 p0 13) fun _ => bd (fX13_all p0 v131 v261 p2 M250) fun v265 M265 =>
              fX13_sections_L268 p0 M265
            )
          )
        )
      ) else (
        fX13_sections_L177 p0 p1 M
      )
    )
  )
def fX13_sections_L53 (p0 : Option Nat) (p1 : Int32) (p2 : Int32) (p3 : Int32) (q0 : Int32) (M : Mem) : Option (Unit × Mem) :=
  bn (q0) fun v53 =>
  if v53 ≤ (p2 - p1) then (
    if 128 ≤ p3 then (
      if 255 ≤ p3 then (
        bo (gR M p0 13 0) fun v116 =>
        bd (fX13_eight v116 (p1 + 1) 2 M) fun v123 M123 =>
        fX13_sections_L131 p0 p1 p2 v53 (v123.toInt32 + 32512) M123
      ) else (
        bo (gR M p0 13 0) fun v100 =>
        bo (aI M v100 14 (p1 + 1)) fun v106 =>
        fX13_sections_L131 p0 p1 p2 v53 ((256 * (p3 - 128)) + (v106 &&& 255)) M
      )
    ) else (
      fX13_sections_L131 p0 p1 p2 v53 p3 M
    )
  ) else (
    bo (chk M p0 13) fun _ => bd (fX13_fails p0 14 p1 M) fun v67 M67 =>
    some ((), M67)
  )
def fX13_sections (a0 : Option Nat) (a1 : Int32) (a2 : Int32) (M : Mem) : Option (Unit × Mem) :=
  bo (pI M a0 13 38 0) fun M2 =>
  if a1 < a2 then (
    bo (gR M2 a0 13 0) fun v20 =>
    bo (aI M2 v20 14 a1) fun v24 =>
    bn (v24 &&& 255) fun v29 =>
    if 128 ≤ v29 then (
      if 255 ≤ v29 then (
        fX13_sections_L53 a0 a1 a2 v29 3 M2
      ) else (
        fX13_sections_L53 a0 a1 a2 v29 2 M2
      )
    ) else (
      fX13_sections_L53 a0 a1 a2 v29 1 M2
    )
  ) else (
    bo (chk M2 a0 13) fun _ => bd (fX13_fails a0 14 a1 M2) fun v14 M14 =>
    some ((), M14)
  )
def rmX13_sections : Room := { frames := 4, cells := 0, slots := 0, locals := 120 }
set_option maxRecDepth 100000 in
set_option maxHeartbeats 4000000 in
theorem ctX13_sections (l : Launch) (x : Cx) (a0 : Option Nat) (a1 : Int32) (a2 : Int32) (M : Mem) (v : Unit) (N : Mem) (h : fX13_sections a0 a1 a2 M = some (v, N)) : CT l yX13_sections cX13_sections 7 (none) rmX13_sections x [rv x a0, .int a1, .int a2] M none N := by
  refine ct_mk (enc := fun _ : Unit => none) (li := [(1, a1), (2, a2)]) (ll := []) (lr := [(0, a0)]) (by decide +kernel) (by simp [lg_sl, rv_cat, cat_int, cat_long]) (by simp [flat, lv_args, rv_cat, cat_int, cat_long]) h ?_
  intro p e s m args below meth c E
  have hL177 : ∀ (p0 : Option Nat) (p1 : Int32) (M : Mem), RT p l e rmX13_sections s m args below meth c x 7 (QM below args s x (fun _ : Unit => none) rmX13_sections.cells rmX13_sections.slots) 0 0 (fX13_sections_L177 p0 p1 M) 177 [(1, p1)] [] [(0, p0)] [] M := by
    intro p0 p1 M
    unfold fX13_sections_L177
    refine r_aload_n (pc := 177) E dX13_sections_177 rfl 0 rfl ?_
    refine r_bipush (pc := 178) (v := 14) E dX13_sections_178 (by decide) ?_
    refine r_iload_n (pc := 180) E dX13_sections_180 rfl 0 rfl ?_
    refine r_kVi (pc := 181) (As := [.int 14, .int p1]) (rest := []) E wc_X13_fails wi_RX13 hd_X13_fails (ci := 13) rfl wl_RX13_263 wn_X13_fails ws_X13_fails dX13_sections_181 (by decide) (Nat.le_of_ble_eq_true rfl) ⟨rfl, rfl⟩ (ctX13_fails l x _ _ _ _) rfl (fun v181 M181 => ?_)
    refine r_pop (pc := 184) E dX13_sections_184 rfl ?_
    exact e_void (pc := 185) E dX13_sections_185
  have hL256 : ∀ (M : Mem), RT p l e rmX13_sections s m args below meth c x 7 (QM below args s x (fun _ : Unit => none) rmX13_sections.cells rmX13_sections.slots) 0 0 (fX13_sections_L256 M) 256 [] [] [] [] M := by
    intro M
    unfold fX13_sections_L256
    exact e_void (pc := 256) E dX13_sections_256
  have hL309 : ∀ (p0 : Option Nat) (M : Mem), RT p l e rmX13_sections s m args below meth c x 7 (QM below args s x (fun _ : Unit => none) rmX13_sections.cells rmX13_sections.slots) 0 0 (fX13_sections_L309 p0 M) 309 [] [] [(0, p0)] [] M := by
    intro p0 M
    refine r_lp (fi := fun a : Option Nat => []) (fl := fun a : Option Nat => []) (fr := fun a : Option Nat => [(0, a)]) (fs := fun a : Option Nat => []) ?_ FU p0 M
    intro k309 hk309 a M
    obtain ⟨p0, rfl⟩ : ∃ z, z = a := ⟨_, rfl⟩
    show RT p l e rmX13_sections s m args below meth c x 7 (QM below args s x (fun _ : Unit => none) rmX13_sections.cells rmX13_sections.slots) 0 0 (fX13_sections_B309 k309 p0 M) 309 [] [] [(0, p0)] [] M
    unfold fX13_sections_B309
    refine r_aload_n (pc := 309) E dX13_sections_309 rfl 0 rfl ?_
    refine r_getI (pc := 310) E fd_13_38 wf_RX13_376 dX13_sections_310 (fun v310 => ?_)
    refine r_aload_n (pc := 313) E dX13_sections_313 rfl 0 rfl ?_
    refine r_getI (pc := 314) E fd_13_37 wf_RX13_353 dX13_sections_314 (fun v314 => ?_)
    refine r_icmp_ge (pc := 317) (tgt := 361) E dX13_sections_317 (by decide) ?_ ?_
    · exact e_void (pc := 361) E dX13_sections_361
    · refine r_aload_n (pc := 320) E dX13_sections_320 rfl 0 rfl ?_
      refine r_getA (pc := 321) E fd_13_34 wf_RX13_75 dX13_sections_321 (fun v321 => ?_)
      refine r_aload_n (pc := 324) E dX13_sections_324 rfl 0 rfl ?_
      refine r_getI (pc := 325) E fd_13_35 wf_RX13_344 dX13_sections_325 (fun v325 => ?_)
      refine r_aload_n (pc := 328) E dX13_sections_328 rfl 0 rfl ?_
      refine r_getA (pc := 329) E fd_13_36 wf_RX13_79 dX13_sections_329 (fun v329 => ?_)
      refine r_aload_n (pc := 332) E dX13_sections_332 rfl 0 rfl ?_
      refine r_getI (pc := 333) E fd_13_38 wf_RX13_376 dX13_sections_333 (fun v333 => ?_)
      refine r_baload (pc := 336) E dX13_sections_336 (fun v336 => ?_)
      refine r_bastore (pc := 337) E dX13_sections_337 (fun M337 => ?_)
      refine r_aload_n (pc := 338) E dX13_sections_338 rfl 0 rfl ?_
      refine r_dup (pc := 339) E dX13_sections_339 (rv_cat _ _) ?_
      refine r_getI (pc := 340) E fd_13_35 wf_RX13_344 dX13_sections_340 (fun v340 => ?_)
      refine r_iconst (pc := 343) (v := 1) E dX13_sections_343 (by decide) ?_
      refine r_iadd (pc := 344) E dX13_sections_344 ?_
      refine r_putI (pc := 345) E fd_13_35 wf_RX13_344 dX13_sections_345 (Or.inl rfl) (fun M345 => ?_)
      refine r_aload_n (pc := 348) E dX13_sections_348 rfl 0 rfl ?_
      refine r_dup (pc := 349) E dX13_sections_349 (rv_cat _ _) ?_
      refine r_getI (pc := 350) E fd_13_38 wf_RX13_376 dX13_sections_350 (fun v350 => ?_)
      refine r_iconst (pc := 353) (v := 1) E dX13_sections_353 (by decide) ?_
      refine r_iadd (pc := 354) E dX13_sections_354 ?_
      refine r_putI (pc := 355) E fd_13_38 wf_RX13_376 dX13_sections_355 (Or.inl rfl) (fun M355 => ?_)
      refine r_goto (pc := 358) (tgt := 309) E dX13_sections_358 (by decide) ?_
      exact r_sub [] [] [0] rfl rfl rfl (hk309 p0 _)
  have hL268 : ∀ (p0 : Option Nat) (M : Mem), RT p l e rmX13_sections s m args below meth c x 7 (QM below args s x (fun _ : Unit => none) rmX13_sections.cells rmX13_sections.slots) 0 0 (fX13_sections_L268 p0 M) 268 [] [] [(0, p0)] [] M := by
    intro p0 M
    unfold fX13_sections_L268
    refine r_aload_n (pc := 268) E dX13_sections_268 rfl 0 rfl ?_
    refine r_getI (pc := 269) E fd_13_4 wf_RX13_158 dX13_sections_269 (fun v269 => ?_)
    refine r_if_le (pc := 272) (tgt := 276) E dX13_sections_272 (by decide) ?_ ?_
    · refine r_aload_n (pc := 276) E dX13_sections_276 rfl 0 rfl ?_
      refine r_getI (pc := 277) E fd_13_35 wf_RX13_344 dX13_sections_277 (fun v277 => ?_)
      refine r_aload_n (pc := 280) E dX13_sections_280 rfl 0 rfl ?_
      refine r_getI (pc := 281) E fd_13_37 wf_RX13_353 dX13_sections_281 (fun v281 => ?_)
      refine r_iadd (pc := 284) E dX13_sections_284 ?_
      refine r_aload_n (pc := 285) E dX13_sections_285 rfl 0 rfl ?_
      refine r_getI (pc := 286) E fd_13_38 wf_RX13_376 dX13_sections_286 (fun v286 => ?_)
      refine r_isub (pc := 289) E dX13_sections_289 ?_
      refine r_aload_n (pc := 290) E dX13_sections_290 rfl 0 rfl ?_
      refine r_getI (pc := 291) E fd_13_42 wf_RX13_324 dX13_sections_291 (fun v291 => ?_)
      refine r_icmp_le (pc := 294) (tgt := 309) E dX13_sections_294 (by decide) ?_ ?_
      · exact r_sub [] [] [0] rfl rfl rfl (hL309 p0 _)
      · refine r_aload_n (pc := 297) E dX13_sections_297 rfl 0 rfl ?_
        refine r_bipush (pc := 298) (v := 20) E dX13_sections_298 (by decide) ?_
        refine r_aload_n (pc := 300) E dX13_sections_300 rfl 0 rfl ?_
        refine r_getI (pc := 301) E fd_13_52 wf_RX13_370 dX13_sections_301 (fun v301 => ?_)
        refine r_kVi (pc := 304) (As := [.int 20, .int v301]) (rest := []) E wc_X13_fails wi_RX13 hd_X13_fails (ci := 13) rfl wl_RX13_263 wn_X13_fails ws_X13_fails dX13_sections_304 (by decide) (Nat.le_of_ble_eq_true rfl) ⟨rfl, rfl⟩ (ctX13_fails l x _ _ _ _) rfl (fun v304 M304 => ?_)
        refine r_pop (pc := 307) E dX13_sections_307 rfl ?_
        exact e_void (pc := 308) E dX13_sections_308
    · exact e_void (pc := 275) E dX13_sections_275
  have hL131 : ∀ (p0 : Option Nat) (p1 : Int32) (p2 : Int32) (p4 : Int32) (q0 : Int32) (M : Mem), RT p l e rmX13_sections s m args below meth c x 7 (QM below args s x (fun _ : Unit => none) rmX13_sections.cells rmX13_sections.slots) 0 0 (fX13_sections_L131 p0 p1 p2 p4 q0 M) 131 [(1, p1), (2, p2), (4, p4)] [] [(0, p0)] [.int q0] M := by
    intro p0 p1 p2 p4 q0 M
    unfold fX13_sections_L131
    refine r_istore (pc := 131) (lf := fun v131 => [(5, v131), (1, p1), (2, p2), (4, p4)]) (lg := fun v131 => []) (lk := fun v131 => [(0, p0)]) E dX13_sections_131 (by decide) (fun _ => rfl) (fun _ => rfl) (fun _ => rfl) (fun v131 => ?_)
    refine r_iload (pc := 133) E dX13_sections_133 0 rfl ?_
    refine r_if_ne (pc := 135) (tgt := 155) E dX13_sections_135 (by decide) ?_ ?_
    · refine r_iload_n (pc := 155) E dX13_sections_155 rfl 2 rfl ?_
      refine r_iload_n (pc := 156) E dX13_sections_156 rfl 1 rfl ?_
      refine r_isub (pc := 157) E dX13_sections_157 ?_
      refine r_iload (pc := 158) E dX13_sections_158 3 rfl ?_
      refine r_icmp_le (pc := 160) (tgt := 177) E dX13_sections_160 (by decide) ?_ ?_
      · exact r_sub [1] [] [0] rfl rfl rfl (hL177 p0 p1 _)
      · refine r_aload_n (pc := 163) E dX13_sections_163 rfl 0 rfl ?_
        refine r_getA (pc := 164) E fd_13_0 wf_RX13_7 dX13_sections_164 (fun v164 => ?_)
        refine r_iload_n (pc := 167) E dX13_sections_167 rfl 1 rfl ?_
        refine r_iload (pc := 168) E dX13_sections_168 3 rfl ?_
        refine r_iadd (pc := 170) E dX13_sections_170 ?_
        refine r_baload (pc := 171) E dX13_sections_171 (fun v171 => ?_)
        refine r_iconst (pc := 172) (v := 3) E dX13_sections_172 (by decide) ?_
        refine r_iand (pc := 173) E dX13_sections_173 ?_
        refine r_if_le (pc := 174) (tgt := 186) E dX13_sections_174 (by decide) ?_ ?_
        · refine r_aload_n (pc := 186) E dX13_sections_186 rfl 0 rfl ?_
          refine r_getA (pc := 187) E fd_13_0 wf_RX13_7 dX13_sections_187 (fun v187 => ?_)
          refine r_iload_n (pc := 190) E dX13_sections_190 rfl 1 rfl ?_
          refine r_iload (pc := 191) E dX13_sections_191 3 rfl ?_
          refine r_iadd (pc := 193) E dX13_sections_193 ?_
          refine r_baload (pc := 194) E dX13_sections_194 (fun v194 => ?_)
          refine r_istore (pc := 195) (lf := fun v195 => [(6, v195), (5, v131), (1, p1), (2, p2), (4, p4)]) (lg := fun v195 => []) (lk := fun v195 => [(0, p0)]) E dX13_sections_195 (by decide) (fun _ => rfl) (fun _ => rfl) (fun _ => rfl) (fun v195 => ?_)
          refine r_aload_n (pc := 197) E dX13_sections_197 rfl 0 rfl ?_
          refine r_iload_n (pc := 198) E dX13_sections_198 rfl 2 rfl ?_
          refine r_iload (pc := 199) E dX13_sections_199 4 rfl ?_
          refine r_iadd (pc := 201) E dX13_sections_201 ?_
          refine r_iconst (pc := 202) (v := 1) E dX13_sections_202 (by decide) ?_
          refine r_iadd (pc := 203) E dX13_sections_203 ?_
          refine r_putI (pc := 204) E fd_13_52 wf_RX13_370 dX13_sections_204 (Or.inl rfl) (fun M204 => ?_)
          refine r_aload_n (pc := 207) E dX13_sections_207 rfl 0 rfl ?_
          refine r_iconst (pc := 208) (v := 0) E dX13_sections_208 (by decide) ?_
          refine r_iload (pc := 209) E dX13_sections_209 0 rfl ?_
          refine r_bipush (pc := 211) (v := 6) E dX13_sections_211 (by decide) ?_
          refine r_ishr (pc := 213) E dX13_sections_213 ?_
          refine r_iconst (pc := 214) (v := 3) E dX13_sections_214 (by decide) ?_
          refine r_iand (pc := 215) E dX13_sections_215 ?_
          refine r_iload_n (pc := 216) E dX13_sections_216 rfl 2 rfl ?_
          refine r_iload_n (pc := 217) E dX13_sections_217 rfl 3 rfl ?_
          refine r_kVi (pc := 218) (As := [.int 0, .int ((shrI v195 6) &&& 3), .int p1, .int p2]) (rest := []) E wc_X13_toldTable wi_RX13 hd_X13_toldTable (ci := 13) rfl wl_RX13_379 wn_X13_toldTable ws_X13_toldTable dX13_sections_218 (by decide) (Nat.le_of_ble_eq_true rfl) ⟨rfl, rfl⟩ (ctX13_toldTable l x _ _ _ _ _ _) rfl (fun v218 M218 => ?_)
          refine r_if_eq (pc := 221) (tgt := 256) E dX13_sections_221 (by decide) ?_ ?_
          · exact r_sub [] [] [] rfl rfl rfl (hL256 _)
          · refine r_aload_n (pc := 224) E dX13_sections_224 rfl 0 rfl ?_
            refine r_iconst (pc := 225) (v := 1) E dX13_sections_225 (by decide) ?_
            refine r_iload (pc := 226) E dX13_sections_226 0 rfl ?_
            refine r_iconst (pc := 228) (v := 4) E dX13_sections_228 (by decide) ?_
            refine r_ishr (pc := 229) E dX13_sections_229 ?_
            refine r_iconst (pc := 230) (v := 3) E dX13_sections_230 (by decide) ?_
            refine r_iand (pc := 231) E dX13_sections_231 ?_
            refine r_iload_n (pc := 232) E dX13_sections_232 rfl 2 rfl ?_
            refine r_iload_n (pc := 233) E dX13_sections_233 rfl 3 rfl ?_
            refine r_kVi (pc := 234) (As := [.int 1, .int ((shrI v195 4) &&& 3), .int p1, .int p2]) (rest := []) E wc_X13_toldTable wi_RX13 hd_X13_toldTable (ci := 13) rfl wl_RX13_379 wn_X13_toldTable ws_X13_toldTable dX13_sections_234 (by decide) (Nat.le_of_ble_eq_true rfl) ⟨rfl, rfl⟩ (ctX13_toldTable l x _ _ _ _ _ _) rfl (fun v234 M234 => ?_)
            refine r_if_eq (pc := 237) (tgt := 256) E dX13_sections_237 (by decide) ?_ ?_
            · exact r_sub [] [] [] rfl rfl rfl (hL256 _)
            · refine r_aload_n (pc := 240) E dX13_sections_240 rfl 0 rfl ?_
              refine r_iconst (pc := 241) (v := 2) E dX13_sections_241 (by decide) ?_
              refine r_iload (pc := 242) E dX13_sections_242 0 rfl ?_
              refine r_iconst (pc := 244) (v := 2) E dX13_sections_244 (by decide) ?_
              refine r_ishr (pc := 245) E dX13_sections_245 ?_
              refine r_iconst (pc := 246) (v := 3) E dX13_sections_246 (by decide) ?_
              refine r_iand (pc := 247) E dX13_sections_247 ?_
              refine r_iload_n (pc := 248) E dX13_sections_248 rfl 2 rfl ?_
              refine r_iload_n (pc := 249) E dX13_sections_249 rfl 3 rfl ?_
              refine r_kVi (pc := 250) (As := [.int 2, .int ((shrI v195 2) &&& 3), .int p1, .int p2]) (rest := []) E wc_X13_toldTable wi_RX13 hd_X13_toldTable (ci := 13) rfl wl_RX13_379 wn_X13_toldTable ws_X13_toldTable dX13_sections_250 (by decide) (Nat.le_of_ble_eq_true rfl) ⟨rfl, rfl⟩ (ctX13_toldTable l x _ _ _ _ _ _) rfl (fun v250 M250 => ?_)
              refine r_if_ne (pc := 253) (tgt := 257) E dX13_sections_253 (by decide) ?_ ?_
              · refine r_aload_n (pc := 257) E dX13_sections_257 rfl 0 rfl ?_
                refine r_iload (pc := 258) E dX13_sections_258 1 rfl ?_
                refine r_aload_n (pc := 260) E dX13_sections_260 rfl 0 rfl ?_
                refine r_getI (pc := 261) E fd_13_52 wf_RX13_370 dX13_sections_261 (fun v261 => ?_)
                refine r_iload_n (pc := 264) E dX13_sections_264 rfl 3 rfl ?_
                refine r_kVv (pc := 265) (As := [.int v131, .int v261, .int p2]) (rest := []) E wc_X13_all wi_RX13 hd_X13_all (ci := 13) rfl wl_RX13_382 wn_X13_all ws_X13_all dX13_sections_265 (by decide) (Nat.le_of_ble_eq_true rfl) ⟨rfl, rfl⟩ (ctX13_all l x _ _ _ _ _) rfl (fun v265 M265 => ?_)
                exact r_sub [] [] [0] rfl rfl rfl (hL268 p0 _)
              · exact r_sub [] [] [] rfl rfl rfl (hL256 _)
        · exact r_sub [1] [] [0] rfl rfl rfl (hL177 p0 p1 _)
    · refine r_iload_n (pc := 138) E dX13_sections_138 rfl 1 rfl ?_
      refine r_iload (pc := 139) E dX13_sections_139 3 rfl ?_
      refine r_iadd (pc := 141) E dX13_sections_141 ?_
      refine r_iload_n (pc := 142) E dX13_sections_142 rfl 2 rfl ?_
      refine r_icmp_eq (pc := 143) (tgt := 268) E dX13_sections_143 (by decide) ?_ ?_
      · exact r_sub [] [] [0] rfl rfl rfl (hL268 p0 _)
      · refine r_aload_n (pc := 146) E dX13_sections_146 rfl 0 rfl ?_
        refine r_bipush (pc := 147) (v := 14) E dX13_sections_147 (by decide) ?_
        refine r_iload_n (pc := 149) E dX13_sections_149 rfl 1 rfl ?_
        refine r_kVi (pc := 150) (As := [.int 14, .int p1]) (rest := []) E wc_X13_fails wi_RX13 hd_X13_fails (ci := 13) rfl wl_RX13_263 wn_X13_fails ws_X13_fails dX13_sections_150 (by decide) (Nat.le_of_ble_eq_true rfl) ⟨rfl, rfl⟩ (ctX13_fails l x _ _ _ _) rfl (fun v150 M150 => ?_)
        refine r_pop (pc := 153) E dX13_sections_153 rfl ?_
        exact e_void (pc := 154) E dX13_sections_154
  have hL53 : ∀ (p0 : Option Nat) (p1 : Int32) (p2 : Int32) (p3 : Int32) (q0 : Int32) (M : Mem), RT p l e rmX13_sections s m args below meth c x 7 (QM below args s x (fun _ : Unit => none) rmX13_sections.cells rmX13_sections.slots) 0 0 (fX13_sections_L53 p0 p1 p2 p3 q0 M) 53 [(1, p1), (2, p2), (3, p3)] [] [(0, p0)] [.int q0] M := by
    intro p0 p1 p2 p3 q0 M
    unfold fX13_sections_L53
    refine r_istore (pc := 53) (lf := fun v53 => [(4, v53), (1, p1), (2, p2), (3, p3)]) (lg := fun v53 => []) (lk := fun v53 => [(0, p0)]) E dX13_sections_53 (by decide) (fun _ => rfl) (fun _ => rfl) (fun _ => rfl) (fun v53 => ?_)
    refine r_iload_n (pc := 55) E dX13_sections_55 rfl 2 rfl ?_
    refine r_iload_n (pc := 56) E dX13_sections_56 rfl 1 rfl ?_
    refine r_isub (pc := 57) E dX13_sections_57 ?_
    refine r_iload (pc := 58) E dX13_sections_58 0 rfl ?_
    refine r_icmp_ge (pc := 60) (tgt := 72) E dX13_sections_60 (by decide) ?_ ?_
    · refine r_iload_n (pc := 72) E dX13_sections_72 rfl 3 rfl ?_
      refine r_sipush (pc := 73) (v := 128) E dX13_sections_73 (by decide) ?_
      refine r_icmp_ge (pc := 76) (tgt := 83) E dX13_sections_76 (by decide) ?_ ?_
      · refine r_iload_n (pc := 83) E dX13_sections_83 rfl 3 rfl ?_
        refine r_sipush (pc := 84) (v := 255) E dX13_sections_84 (by decide) ?_
        refine r_icmp_ge (pc := 87) (tgt := 115) E dX13_sections_87 (by decide) ?_ ?_
        · refine r_aload_n (pc := 115) E dX13_sections_115 rfl 0 rfl ?_
          refine r_getA (pc := 116) E fd_13_0 wf_RX13_7 dX13_sections_116 (fun v116 => ?_)
          refine r_iload_n (pc := 119) E dX13_sections_119 rfl 1 rfl ?_
          refine r_iconst (pc := 120) (v := 1) E dX13_sections_120 (by decide) ?_
          refine r_iadd (pc := 121) E dX13_sections_121 ?_
          refine r_iconst (pc := 122) (v := 2) E dX13_sections_122 (by decide) ?_
          refine r_kSl (pc := 123) (As := [rv x v116, .int (p1 + 1), .int 2]) (rest := []) E wc_X13_eight wi_RX13 hd_X13_eight wl_RX13_175 wt_X13_eight dX13_sections_123 (by decide) (Nat.le_of_ble_eq_true rfl) ⟨rfl, rfl⟩ (ctX13_eight l x _ _ _ _) rfl (fun v123 M123 => ?_)
          refine r_l2i (pc := 126) E dX13_sections_126 ?_
          refine r_sipush (pc := 127) (v := 32512) E dX13_sections_127 (by decide) ?_
          refine r_iadd (pc := 130) E dX13_sections_130 ?_
          exact r_sub [1, 2, 0] [] [0] rfl rfl rfl (hL131 p0 p1 p2 v53 (v123.toInt32 + 32512) _)
        · refine r_sipush (pc := 90) (v := 256) E dX13_sections_90 (by decide) ?_
          refine r_iload_n (pc := 93) E dX13_sections_93 rfl 3 rfl ?_
          refine r_sipush (pc := 94) (v := 128) E dX13_sections_94 (by decide) ?_
          refine r_isub (pc := 97) E dX13_sections_97 ?_
          refine r_imul (pc := 98) E dX13_sections_98 ?_
          refine r_aload_n (pc := 99) E dX13_sections_99 rfl 0 rfl ?_
          refine r_getA (pc := 100) E fd_13_0 wf_RX13_7 dX13_sections_100 (fun v100 => ?_)
          refine r_iload_n (pc := 103) E dX13_sections_103 rfl 1 rfl ?_
          refine r_iconst (pc := 104) (v := 1) E dX13_sections_104 (by decide) ?_
          refine r_iadd (pc := 105) E dX13_sections_105 ?_
          refine r_baload (pc := 106) E dX13_sections_106 (fun v106 => ?_)
          refine r_sipush (pc := 107) (v := 255) E dX13_sections_107 (by decide) ?_
          refine r_iand (pc := 110) E dX13_sections_110 ?_
          refine r_iadd (pc := 111) E dX13_sections_111 ?_
          refine r_goto (pc := 112) (tgt := 131) E dX13_sections_112 (by decide) ?_
          exact r_sub [1, 2, 0] [] [0] rfl rfl rfl (hL131 p0 p1 p2 v53 ((256 * (p3 - 128)) + (v106 &&& 255)) _)
      · refine r_iload_n (pc := 79) E dX13_sections_79 rfl 3 rfl ?_
        refine r_goto (pc := 80) (tgt := 131) E dX13_sections_80 (by decide) ?_
        exact r_sub [1, 2, 0] [] [0] rfl rfl rfl (hL131 p0 p1 p2 v53 p3 _)
    · refine r_aload_n (pc := 63) E dX13_sections_63 rfl 0 rfl ?_
      refine r_bipush (pc := 64) (v := 14) E dX13_sections_64 (by decide) ?_
      refine r_iload_n (pc := 66) E dX13_sections_66 rfl 1 rfl ?_
      refine r_kVi (pc := 67) (As := [.int 14, .int p1]) (rest := []) E wc_X13_fails wi_RX13 hd_X13_fails (ci := 13) rfl wl_RX13_263 wn_X13_fails ws_X13_fails dX13_sections_67 (by decide) (Nat.le_of_ble_eq_true rfl) ⟨rfl, rfl⟩ (ctX13_fails l x _ _ _ _) rfl (fun v67 M67 => ?_)
      refine r_pop (pc := 70) E dX13_sections_70 rfl ?_
      exact e_void (pc := 71) E dX13_sections_71
  show RT p l e rmX13_sections s m args below meth c x 7 (QM below args s x (fun _ : Unit => none) rmX13_sections.cells rmX13_sections.slots) 0 0 (fX13_sections a0 a1 a2 M) 0 [(1, a1), (2, a2)] [] [(0, a0)] [] M
  unfold fX13_sections
  refine r_aload_n (pc := 0) E dX13_sections_0 rfl 0 rfl ?_
  refine r_iconst (pc := 1) (v := 0) E dX13_sections_1 (by decide) ?_
  refine r_putI (pc := 2) E fd_13_38 wf_RX13_376 dX13_sections_2 (Or.inl rfl) (fun M2 => ?_)
  refine r_iload_n (pc := 5) E dX13_sections_5 rfl 0 rfl ?_
  refine r_iload_n (pc := 6) E dX13_sections_6 rfl 1 rfl ?_
  refine r_icmp_lt (pc := 7) (tgt := 19) E dX13_sections_7 (by decide) ?_ ?_
  · refine r_aload_n (pc := 19) E dX13_sections_19 rfl 0 rfl ?_
    refine r_getA (pc := 20) E fd_13_0 wf_RX13_7 dX13_sections_20 (fun v20 => ?_)
    refine r_iload_n (pc := 23) E dX13_sections_23 rfl 0 rfl ?_
    refine r_baload (pc := 24) E dX13_sections_24 (fun v24 => ?_)
    refine r_sipush (pc := 25) (v := 255) E dX13_sections_25 (by decide) ?_
    refine r_iand (pc := 28) E dX13_sections_28 ?_
    refine r_istore_n (pc := 29) (lf := fun v29 => [(3, v29), (1, a1), (2, a2)]) (lg := fun v29 => []) (lk := fun v29 => [(0, a0)]) E dX13_sections_29 rfl (by decide) (fun _ => rfl) (fun _ => rfl) (fun _ => rfl) (fun v29 => ?_)
    refine r_iload_n (pc := 30) E dX13_sections_30 rfl 0 rfl ?_
    refine r_sipush (pc := 31) (v := 128) E dX13_sections_31 (by decide) ?_
    refine r_icmp_ge (pc := 34) (tgt := 41) E dX13_sections_34 (by decide) ?_ ?_
    · refine r_iload_n (pc := 41) E dX13_sections_41 rfl 0 rfl ?_
      refine r_sipush (pc := 42) (v := 255) E dX13_sections_42 (by decide) ?_
      refine r_icmp_ge (pc := 45) (tgt := 52) E dX13_sections_45 (by decide) ?_ ?_
      · refine r_iconst (pc := 52) (v := 3) E dX13_sections_52 (by decide) ?_
        exact r_sub [1, 2, 0] [] [0] rfl rfl rfl (hL53 a0 a1 a2 v29 3 _)
      · refine r_iconst (pc := 48) (v := 2) E dX13_sections_48 (by decide) ?_
        refine r_goto (pc := 49) (tgt := 53) E dX13_sections_49 (by decide) ?_
        exact r_sub [1, 2, 0] [] [0] rfl rfl rfl (hL53 a0 a1 a2 v29 2 _)
    · refine r_iconst (pc := 37) (v := 1) E dX13_sections_37 (by decide) ?_
      refine r_goto (pc := 38) (tgt := 53) E dX13_sections_38 (by decide) ?_
      exact r_sub [1, 2, 0] [] [0] rfl rfl rfl (hL53 a0 a1 a2 v29 1 _)
  · refine r_aload_n (pc := 10) E dX13_sections_10 rfl 0 rfl ?_
    refine r_bipush (pc := 11) (v := 14) E dX13_sections_11 (by decide) ?_
    refine r_iload_n (pc := 13) E dX13_sections_13 rfl 0 rfl ?_
    refine r_kVi (pc := 14) (As := [.int 14, .int a1]) (rest := []) E wc_X13_fails wi_RX13 hd_X13_fails (ci := 13) rfl wl_RX13_263 wn_X13_fails ws_X13_fails dX13_sections_14 (by decide) (Nat.le_of_ble_eq_true rfl) ⟨rfl, rfl⟩ (ctX13_fails l x _ _ _ _) rfl (fun v14 M14 => ?_)
    refine r_pop (pc := 17) E dX13_sections_17 rfl ?_
    exact e_void (pc := 18) E dX13_sections_18
def fX13_packed_L33 (M : Mem) : Option (Unit × Mem) :=
  some ((), M)
def fX13_packed (a0 : Option Nat) (a1 : Int32) (a2 : Int32) (M : Mem) : Option (Unit × Mem) :=
  bo (chk M a0 13) fun _ => bd (fX13_lettersFrom a0 a1 a2 M) fun v3 M3 =>
  bn (v3) fun v6 =>
  bo (gI M3 a0 13 4) fun v8 =>
  if v8 = 0 then (
    bo (gR M3 a0 13 45) fun v15 =>
    bo (aI M3 v15 15 3) fun v20 =>
    bo (gI M3 a0 13 37) fun v22 =>
    bo (wI M3 v15 3 (v20 + v22)) fun M26 =>
    bo (chk M26 a0 13) fun _ => bd (fX13_sections a0 v6 a2 M26) fun v30 M30 =>
    fX13_packed_L33 M30
  ) else (
    fX13_packed_L33 M3
  )
def rmX13_packed : Room := { frames := 5, cells := 0, slots := 0, locals := 146 }
set_option maxRecDepth 100000 in
set_option maxHeartbeats 4000000 in
theorem ctX13_packed (l : Launch) (x : Cx) (a0 : Option Nat) (a1 : Int32) (a2 : Int32) (M : Mem) (v : Unit) (N : Mem) (h : fX13_packed a0 a1 a2 M = some (v, N)) : CT l yX13_packed cX13_packed 4 (none) rmX13_packed x [rv x a0, .int a1, .int a2] M none N := by
  refine ct_mk (enc := fun _ : Unit => none) (li := [(1, a1), (2, a2)]) (ll := []) (lr := [(0, a0)]) (by decide +kernel) (by simp [lg_sl, rv_cat, cat_int, cat_long]) (by simp [flat, lv_args, rv_cat, cat_int, cat_long]) h ?_
  intro p e s m args below meth c E
  have hL33 : ∀ (M : Mem), RT p l e rmX13_packed s m args below meth c x 4 (QM below args s x (fun _ : Unit => none) rmX13_packed.cells rmX13_packed.slots) 0 0 (fX13_packed_L33 M) 33 [] [] [] [] M := by
    intro M
    unfold fX13_packed_L33
    exact e_void (pc := 33) E dX13_packed_33
  show RT p l e rmX13_packed s m args below meth c x 4 (QM below args s x (fun _ : Unit => none) rmX13_packed.cells rmX13_packed.slots) 0 0 (fX13_packed a0 a1 a2 M) 0 [(1, a1), (2, a2)] [] [(0, a0)] [] M
  unfold fX13_packed
  refine r_aload_n (pc := 0) E dX13_packed_0 rfl 0 rfl ?_
  refine r_iload_n (pc := 1) E dX13_packed_1 rfl 0 rfl ?_
  refine r_iload_n (pc := 2) E dX13_packed_2 rfl 1 rfl ?_
  refine r_kVi (pc := 3) (As := [.int a1, .int a2]) (rest := []) E wc_X13_lettersFrom wi_RX13 hd_X13_lettersFrom (ci := 13) rfl wl_RX13_350 wn_X13_lettersFrom ws_X13_lettersFrom dX13_packed_3 (by decide) (Nat.le_of_ble_eq_true rfl) ⟨rfl, rfl⟩ (ctX13_lettersFrom l x _ _ _ _) rfl (fun v3 M3 => ?_)
  refine r_istore_n (pc := 6) (lf := fun v6 => [(3, v6), (1, a1), (2, a2)]) (lg := fun v6 => []) (lk := fun v6 => [(0, a0)]) E dX13_packed_6 rfl (by decide) (fun _ => rfl) (fun _ => rfl) (fun _ => rfl) (fun v6 => ?_)
  refine r_aload_n (pc := 7) E dX13_packed_7 rfl 0 rfl ?_
  refine r_getI (pc := 8) E fd_13_4 wf_RX13_158 dX13_packed_8 (fun v8 => ?_)
  refine r_if_ne (pc := 11) (tgt := 33) E dX13_packed_11 (by decide) ?_ ?_
  · exact r_sub [] [] [] rfl rfl rfl (hL33 _)
  · refine r_aload_n (pc := 14) E dX13_packed_14 rfl 0 rfl ?_
    refine r_getA (pc := 15) E fd_13_45 wf_RX13_89 dX13_packed_15 (fun v15 => ?_)
    refine r_iconst (pc := 18) (v := 3) E dX13_packed_18 (by decide) ?_
    refine r_dup2 (pc := 19) E dX13_packed_19 rfl (rv_cat _ _) ?_
    refine r_iaload (pc := 20) E dX13_packed_20 (fun v20 => ?_)
    refine r_aload_n (pc := 21) E dX13_packed_21 rfl 0 rfl ?_
    refine r_getI (pc := 22) E fd_13_37 wf_RX13_353 dX13_packed_22 (fun v22 => ?_)
    refine r_iadd (pc := 25) E dX13_packed_25 ?_
    refine r_iastore (pc := 26) E dX13_packed_26 (fun M26 => ?_)
    refine r_aload_n (pc := 27) E dX13_packed_27 rfl 0 rfl ?_
    refine r_iload_n (pc := 28) E dX13_packed_28 rfl 0 rfl ?_
    refine r_iload_n (pc := 29) E dX13_packed_29 rfl 2 rfl ?_
    refine r_kVv (pc := 30) (As := [.int v6, .int a2]) (rest := []) E wc_X13_sections wi_RX13 hd_X13_sections (ci := 13) rfl wl_RX13_356 wn_X13_sections ws_X13_sections dX13_packed_30 (by decide) (Nat.le_of_ble_eq_true rfl) ⟨rfl, rfl⟩ (ctX13_sections l x _ _ _ _) rfl (fun v30 M30 => ?_)
    exact r_sub [] [] [] rfl rfl rfl (hL33 _)
def fX13_blockAt_L64 (p0 : Option Nat) (p1 : Int32) (M : Mem) : Option (Int32 × Mem) :=
  bo (chk M p0 13) fun _ => bd (fX13_fails p0 6 p1 M) fun v68 M68 =>
  rtZ 1 M68
def fX13_blockAt_L324 (q0 : Int32) (M : Mem) : Option (Int32 × Mem) :=
  rtZ q0 M
def fX13_blockAt_L308 (p2 : Int32) (q0 : Option Nat) (q1 : Int32) (q2 : Int32) (M : Mem) : Option (Int32 × Mem) :=
  bo (pI M q0 13 51 (q1 + q2)) fun M309 =>
  if (p2 &&& 1) = 1 then (
    fX13_blockAt_L324 1 M309
  ) else (
    fX13_blockAt_L324 0 M309
  )
def fX13_blockAt_L277 (p0 : Option Nat) (p2 : Int32) (p3 : Int32) (p4 : Int32) (q0 : Option Nat) (q1 : Int32) (q2 : Int32) (q3 : Int32) (M : Mem) : Option (Int32 × Mem) :=
  bo (wI M q0 q1 (q2 + q3)) fun M278 =>
  bo (gR M278 p0 13 45) fun v280 =>
  bo (aI M278 v280 15 5) fun v285 =>
  bo (gI M278 p0 13 35) fun v287 =>
  bo (wI M278 v280 5 (v285 + v287)) fun M291 =>
  bo (gI M291 p0 13 51) fun v294 =>
  if p3 = 1 then (
    fX13_blockAt_L308 p2 p0 v294 1 M291
  ) else (
    fX13_blockAt_L308 p2 p0 v294 p4 M291
  )
def fX13_blockAt_B219 (k219 : Option Nat × Int32 × Int32 × Int32 × Int32 → Mem → Option (Int32 × Mem)) (p0 : Option Nat) (p2 : Int32) (p3 : Int32) (p4 : Int32) (p5 : Int32) (M : Mem) : Option (Int32 × Mem) :=
  bo (gI M p0 13 35) fun v222 =>
  if v222 ≤ p5 then (
    bo (gR M p0 13 45) fun v261 =>
    bo (aI M v261 15 2) fun v266 =>
    if p3 = 2 then (
      fX13_blockAt_L277 p0 p2 p3 p4 v261 2 v266 1 M
    ) else (
      fX13_blockAt_L277 p0 p2 p3 p4 v261 2 v266 0 M
    )
  ) else (
    bo (gR M p0 13 32) fun v229 =>
    bo (gI M p0 13 33) fun v233 =>
    bo (gR M p0 13 34) fun v237 =>
    bo (aI M v237 14 p5) fun v242 =>
    bo (wB M v229 v233 v242) fun M243 =>
    bo (gI M243 p0 13 33) fun v246 =>
    bo (pI M243 p0 13 33 (v246 + 1)) fun M251 =>
    bn (p5 + 1) fun v254 =>
    k219 ((p0, p2, p3, p4, v254)) M251
  )
def fX13_blockAt_L219 (p0 : Option Nat) (p2 : Int32) (p3 : Int32) (p4 : Int32) (p5 : Int32) (M : Mem) : Option (Int32 × Mem) :=
  lp (fun k219 (a : Option Nat × Int32 × Int32 × Int32 × Int32) M => fX13_blockAt_B219 k219 a.1 a.2.1 a.2.2.1 a.2.2.2.1 a.2.2.2.2 M) FU ((p0, p2, p3, p4, p5)) M
def fX13_blockAt_L191 (p0 : Option Nat) (p1 : Int32) (p2 : Int32) (p3 : Int32) (p4 : Int32) (M : Mem) : Option (Int32 × Mem) :=
  bo (gI M p0 13 33) fun v192 =>
  bo (gI M p0 13 35) fun v196 =>
  if (v192 + v196) ≤ 8000 then (
    bn (0) fun v217 =>
    fX13_blockAt_L219 p0 p2 p3 p4 v217 M
  ) else (
    bo (chk M p0 13) fun _ => bd (fX13_fails p0 7 p1 M) fun v210 M210 =>
    rtZ 1 M210
  )
def fX13_blockAt_L183 (k147 : Option Nat × Int32 × Int32 × Int32 × Int32 × Int32 → Mem → Option (Int32 × Mem)) (p0 : Option Nat) (p1 : Int32) (p2 : Int32) (p3 : Int32) (p4 : Int32) (p5 : Int32) (q0 : Option Nat) (q1 : Int32) (q2 : Option Nat) (q3 : Int32) (M : Mem) : Option (Int32 × Mem) :=
  bo (aI M q2 14 q3) fun v183 =>
  bo (wB M q0 q1 v183) fun M184 =>
  bn (p5 + 1) fun v185 =>
  k147 ((p0, p1, p2, p3, p4, v185)) M184
def fX13_blockAt_B147 (k147 : Option Nat × Int32 × Int32 × Int32 × Int32 × Int32 → Mem → Option (Int32 × Mem)) (p0 : Option Nat) (p1 : Int32) (p2 : Int32) (p3 : Int32) (p4 : Int32) (p5 : Int32) (M : Mem) : Option (Int32 × Mem) :=
  if p4 ≤ p5 then (
    fX13_blockAt_L191 p0 p1 p2 p3 p4 M
  ) else (
    bo (gR M p0 13 34) fun v155 =>
    bo (gR M p0 13 0) fun v161 =>
    if p3 = 1 then (
      bo (gI M p0 13 51) fun v170 =>
      fX13_blockAt_L183 k147 p0 p1 p2 p3 p4 p5 v155 p5 v161 v170 M
    ) else (
      bo (gI M p0 13 51) fun v177 =>
      fX13_blockAt_L183 k147 p0 p1 p2 p3 p4 p5 v155 p5 v161 (v177 + p5) M
    )
  )
def fX13_blockAt_L147 (p0 : Option Nat) (p1 : Int32) (p2 : Int32) (p3 : Int32) (p4 : Int32) (p5 : Int32) (M : Mem) : Option (Int32 × Mem) :=
  lp (fun k147 (a : Option Nat × Int32 × Int32 × Int32 × Int32 × Int32) M => fX13_blockAt_B147 k147 a.1 a.2.1 a.2.2.1 a.2.2.2.1 a.2.2.2.2.1 a.2.2.2.2.2 M) FU ((p0, p1, p2, p3, p4, p5)) M
def fX13_blockAt_L96 (p0 : Option Nat) (p1 : Int32) (p2 : Int32) (p3 : Int32) (p4 : Int32) (q0 : Option Nat) (q1 : Int32) (M : Mem) : Option (Int32 × Mem) :=
  bo (chk M q0 13) fun _ => bd (fX13_wants q0 q1 M) fun v96 M96 =>
  if v96 = 0 then (
    rtZ 1 M96
  ) else (
    if p3 = 2 then (
      bo (pI M96 p0 13 35 0) fun M111 =>
      bo (gI M111 p0 13 51) fun v116 =>
      bo (gI M111 p0 13 51) fun v120 =>
      bo (chk M111 p0 13) fun _ => bd (fX13_packed p0 v116 (v120 + p4) M111) fun v126 M126 =>
      bo (gI M126 p0 13 4) fun v130 =>
      if v130 ≤ 0 then (
        fX13_blockAt_L191 p0 p1 p2 p3 p4 M126
      ) else (
        rtZ 1 M126
      )
    ) else (
      bo (pI M96 p0 13 35 p4) fun M141 =>
      bn (0) fun v145 =>
      fX13_blockAt_L147 p0 p1 p2 p3 p4 v145 M141
    )
  )
def fX13_blockAt (a0 : Option Nat) (M : Mem) : Option (Int32 × Mem) :=
  bo (gI M a0 13 51) fun v1 =>
  bn (v1) fun v4 =>
  bo (chk M a0 13) fun _ => bd (fX13_wants a0 3 M) fun v7 M7 =>
  if v7 = 0 then (
    rtZ 1 M7
  ) else (
    bo (gR M7 a0 13 0) fun v16 =>
    bo (gI M7 a0 13 51) fun v20 =>
    bd (fX13_eight v16 v20 3 M7) fun v24 M24 =>
    bn (v24.toInt32) fun v28 =>
    bo (gR M24 a0 13 45) fun v30 =>
    bo (aI M24 v30 15 1) fun v35 =>
    bo (wI M24 v30 1 (v35 + 1)) fun M38 =>
    bn ((shrI v28 1) &&& 3) fun v44 =>
    bn (shrI v28 3) fun v48 =>
    if v44 = 3 then (
      fX13_blockAt_L64 a0 v4 M38
    ) else (
      bo (gI M38 a0 13 42) fun v58 =>
      if v48 ≤ v58 then (
        bo (gI M38 a0 13 51) fun v76 =>
        bo (pI M38 a0 13 51 (v76 + 3)) fun M81 =>
        if v44 = 1 then (
          fX13_blockAt_L96 a0 v4 v28 v44 v48 a0 1 M81
        ) else (
          fX13_blockAt_L96 a0 v4 v28 v44 v48 a0 v48 M81
        )
      ) else (
        fX13_blockAt_L64 a0 v4 M38
      )
    )
  )
def rmX13_blockAt : Room := { frames := 6, cells := 0, slots := 0, locals := 169 }
set_option maxRecDepth 100000 in
set_option maxHeartbeats 4000000 in
theorem ctX13_blockAt (l : Launch) (x : Cx) (a0 : Option Nat) (M : Mem) (v : Int32) (N : Mem) (h : fX13_blockAt a0 M = some (v, N)) : CT l yX13_blockAt cX13_blockAt 6 (some (FieldType.boolean)) rmX13_blockAt x [rv x a0] M (some (.int v)) N := by
  refine ct_mk (enc := fun v : Int32 => some (.int v)) (li := []) (ll := []) (lr := [(0, a0)]) (by decide +kernel) (by simp [lg_sl, rv_cat, cat_int, cat_long]) (by simp [flat, lv_args, rv_cat, cat_int, cat_long]) h ?_
  intro p e s m args below meth c E
  have hL64 : ∀ (p0 : Option Nat) (p1 : Int32) (M : Mem), RT p l e rmX13_blockAt s m args below meth c x 6 (QM below args s x (fun v : Int32 => some (.int v)) rmX13_blockAt.cells rmX13_blockAt.slots) 0 0 (fX13_blockAt_L64 p0 p1 M) 64 [(1, p1)] [] [(0, p0)] [] M := by
    intro p0 p1 M
    unfold fX13_blockAt_L64
    refine r_aload_n (pc := 64) E dX13_blockAt_64 rfl 0 rfl ?_
    refine r_bipush (pc := 65) (v := 6) E dX13_blockAt_65 (by decide) ?_
    refine r_iload_n (pc := 67) E dX13_blockAt_67 rfl 0 rfl ?_
    refine r_kVi (pc := 68) (As := [.int 6, .int p1]) (rest := []) E wc_X13_fails wi_RX13 hd_X13_fails (ci := 13) rfl wl_RX13_263 wn_X13_fails ws_X13_fails dX13_blockAt_68 (by decide) (Nat.le_of_ble_eq_true rfl) ⟨rfl, rfl⟩ (ctX13_fails l x _ _ _ _) rfl (fun v68 M68 => ?_)
    refine r_pop (pc := 71) E dX13_blockAt_71 rfl ?_
    refine r_iconst (pc := 72) (v := 1) E dX13_blockAt_72 (by decide) ?_
    exact e_bool (pc := 73) E dX13_blockAt_73
  have hL324 : ∀ (q0 : Int32) (M : Mem), RT p l e rmX13_blockAt s m args below meth c x 6 (QM below args s x (fun v : Int32 => some (.int v)) rmX13_blockAt.cells rmX13_blockAt.slots) 0 0 (fX13_blockAt_L324 q0 M) 324 [] [] [] [.int q0] M := by
    intro q0 M
    unfold fX13_blockAt_L324
    exact e_bool (pc := 324) E dX13_blockAt_324
  have hL308 : ∀ (p2 : Int32) (q0 : Option Nat) (q1 : Int32) (q2 : Int32) (M : Mem), RT p l e rmX13_blockAt s m args below meth c x 6 (QM below args s x (fun v : Int32 => some (.int v)) rmX13_blockAt.cells rmX13_blockAt.slots) 0 0 (fX13_blockAt_L308 p2 q0 q1 q2 M) 308 [(2, p2)] [] [] [.int q2, .int q1, rv x q0] M := by
    intro p2 q0 q1 q2 M
    unfold fX13_blockAt_L308
    refine r_iadd (pc := 308) E dX13_blockAt_308 ?_
    refine r_putI (pc := 309) E fd_13_51 wf_RX13_283 dX13_blockAt_309 (Or.inl rfl) (fun M309 => ?_)
    refine r_iload_n (pc := 312) E dX13_blockAt_312 rfl 0 rfl ?_
    refine r_iconst (pc := 313) (v := 1) E dX13_blockAt_313 (by decide) ?_
    refine r_iand (pc := 314) E dX13_blockAt_314 ?_
    refine r_iconst (pc := 315) (v := 1) E dX13_blockAt_315 (by decide) ?_
    refine r_icmp_ne (pc := 316) (tgt := 323) E dX13_blockAt_316 (by decide) ?_ ?_
    · refine r_iconst (pc := 323) (v := 0) E dX13_blockAt_323 (by decide) ?_
      exact r_sub [] [] [] rfl rfl rfl (hL324 0 _)
    · refine r_iconst (pc := 319) (v := 1) E dX13_blockAt_319 (by decide) ?_
      refine r_goto (pc := 320) (tgt := 324) E dX13_blockAt_320 (by decide) ?_
      exact r_sub [] [] [] rfl rfl rfl (hL324 1 _)
  have hL277 : ∀ (p0 : Option Nat) (p2 : Int32) (p3 : Int32) (p4 : Int32) (q0 : Option Nat) (q1 : Int32) (q2 : Int32) (q3 : Int32) (M : Mem), RT p l e rmX13_blockAt s m args below meth c x 6 (QM below args s x (fun v : Int32 => some (.int v)) rmX13_blockAt.cells rmX13_blockAt.slots) 0 0 (fX13_blockAt_L277 p0 p2 p3 p4 q0 q1 q2 q3 M) 277 [(2, p2), (3, p3), (4, p4)] [] [(0, p0)] [.int q3, .int q2, .int q1, rv x q0] M := by
    intro p0 p2 p3 p4 q0 q1 q2 q3 M
    unfold fX13_blockAt_L277
    refine r_iadd (pc := 277) E dX13_blockAt_277 ?_
    refine r_iastore (pc := 278) E dX13_blockAt_278 (fun M278 => ?_)
    refine r_aload_n (pc := 279) E dX13_blockAt_279 rfl 0 rfl ?_
    refine r_getA (pc := 280) E fd_13_45 wf_RX13_89 dX13_blockAt_280 (fun v280 => ?_)
    refine r_iconst (pc := 283) (v := 5) E dX13_blockAt_283 (by decide) ?_
    refine r_dup2 (pc := 284) E dX13_blockAt_284 rfl (rv_cat _ _) ?_
    refine r_iaload (pc := 285) E dX13_blockAt_285 (fun v285 => ?_)
    refine r_aload_n (pc := 286) E dX13_blockAt_286 rfl 0 rfl ?_
    refine r_getI (pc := 287) E fd_13_35 wf_RX13_344 dX13_blockAt_287 (fun v287 => ?_)
    refine r_iadd (pc := 290) E dX13_blockAt_290 ?_
    refine r_iastore (pc := 291) E dX13_blockAt_291 (fun M291 => ?_)
    refine r_aload_n (pc := 292) E dX13_blockAt_292 rfl 0 rfl ?_
    refine r_dup (pc := 293) E dX13_blockAt_293 (rv_cat _ _) ?_
    refine r_getI (pc := 294) E fd_13_51 wf_RX13_283 dX13_blockAt_294 (fun v294 => ?_)
    refine r_iload_n (pc := 297) E dX13_blockAt_297 rfl 1 rfl ?_
    refine r_iconst (pc := 298) (v := 1) E dX13_blockAt_298 (by decide) ?_
    refine r_icmp_ne (pc := 299) (tgt := 306) E dX13_blockAt_299 (by decide) ?_ ?_
    · refine r_iload (pc := 306) E dX13_blockAt_306 2 rfl ?_
      exact r_sub [0] [] [] rfl rfl rfl (hL308 p2 p0 v294 p4 _)
    · refine r_iconst (pc := 302) (v := 1) E dX13_blockAt_302 (by decide) ?_
      refine r_goto (pc := 303) (tgt := 308) E dX13_blockAt_303 (by decide) ?_
      exact r_sub [0] [] [] rfl rfl rfl (hL308 p2 p0 v294 1 _)
  have hL219 : ∀ (p0 : Option Nat) (p2 : Int32) (p3 : Int32) (p4 : Int32) (p5 : Int32) (M : Mem), RT p l e rmX13_blockAt s m args below meth c x 6 (QM below args s x (fun v : Int32 => some (.int v)) rmX13_blockAt.cells rmX13_blockAt.slots) 0 0 (fX13_blockAt_L219 p0 p2 p3 p4 p5 M) 219 [(2, p2), (3, p3), (4, p4), (5, p5)] [] [(0, p0)] [] M := by
    intro p0 p2 p3 p4 p5 M
    refine r_lp (fi := fun a : Option Nat × Int32 × Int32 × Int32 × Int32 => [(2, a.2.1), (3, a.2.2.1), (4, a.2.2.2.1), (5, a.2.2.2.2)]) (fl := fun a : Option Nat × Int32 × Int32 × Int32 × Int32 => []) (fr := fun a : Option Nat × Int32 × Int32 × Int32 × Int32 => [(0, a.1)]) (fs := fun a : Option Nat × Int32 × Int32 × Int32 × Int32 => []) ?_ FU ((p0, p2, p3, p4, p5)) M
    intro k219 hk219 a M
    obtain ⟨p0, p2, p3, p4, p5⟩ := a
    show RT p l e rmX13_blockAt s m args below meth c x 6 (QM below args s x (fun v : Int32 => some (.int v)) rmX13_blockAt.cells rmX13_blockAt.slots) 0 0 (fX13_blockAt_B219 k219 p0 p2 p3 p4 p5 M) 219 [(2, p2), (3, p3), (4, p4), (5, p5)] [] [(0, p0)] [] M
    unfold fX13_blockAt_B219
    refine r_iload (pc := 219) E dX13_blockAt_219 3 rfl ?_
    refine r_aload_n (pc := 221) E dX13_blockAt_221 rfl 0 rfl ?_
    refine r_getI (pc := 222) E fd_13_35 wf_RX13_344 dX13_blockAt_222 (fun v222 => ?_)
    refine r_icmp_ge (pc := 225) (tgt := 260) E dX13_blockAt_225 (by decide) ?_ ?_
    · refine r_aload_n (pc := 260) E dX13_blockAt_260 rfl 0 rfl ?_
      refine r_getA (pc := 261) E fd_13_45 wf_RX13_89 dX13_blockAt_261 (fun v261 => ?_)
      refine r_iconst (pc := 264) (v := 2) E dX13_blockAt_264 (by decide) ?_
      refine r_dup2 (pc := 265) E dX13_blockAt_265 rfl (rv_cat _ _) ?_
      refine r_iaload (pc := 266) E dX13_blockAt_266 (fun v266 => ?_)
      refine r_iload_n (pc := 267) E dX13_blockAt_267 rfl 1 rfl ?_
      refine r_iconst (pc := 268) (v := 2) E dX13_blockAt_268 (by decide) ?_
      refine r_icmp_ne (pc := 269) (tgt := 276) E dX13_blockAt_269 (by decide) ?_ ?_
      · refine r_iconst (pc := 276) (v := 0) E dX13_blockAt_276 (by decide) ?_
        exact r_sub [0, 1, 2] [] [0] rfl rfl rfl (hL277 p0 p2 p3 p4 v261 2 v266 0 _)
      · refine r_iconst (pc := 272) (v := 1) E dX13_blockAt_272 (by decide) ?_
        refine r_goto (pc := 273) (tgt := 277) E dX13_blockAt_273 (by decide) ?_
        exact r_sub [0, 1, 2] [] [0] rfl rfl rfl (hL277 p0 p2 p3 p4 v261 2 v266 1 _)
    · refine r_aload_n (pc := 228) E dX13_blockAt_228 rfl 0 rfl ?_
      refine r_getA (pc := 229) E fd_13_32 wf_RX13_71 dX13_blockAt_229 (fun v229 => ?_)
      refine r_aload_n (pc := 232) E dX13_blockAt_232 rfl 0 rfl ?_
      refine r_getI (pc := 233) E fd_13_33 wf_RX13_286 dX13_blockAt_233 (fun v233 => ?_)
      refine r_aload_n (pc := 236) E dX13_blockAt_236 rfl 0 rfl ?_
      refine r_getA (pc := 237) E fd_13_34 wf_RX13_75 dX13_blockAt_237 (fun v237 => ?_)
      refine r_iload (pc := 240) E dX13_blockAt_240 3 rfl ?_
      refine r_baload (pc := 242) E dX13_blockAt_242 (fun v242 => ?_)
      refine r_bastore (pc := 243) E dX13_blockAt_243 (fun M243 => ?_)
      refine r_aload_n (pc := 244) E dX13_blockAt_244 rfl 0 rfl ?_
      refine r_dup (pc := 245) E dX13_blockAt_245 (rv_cat _ _) ?_
      refine r_getI (pc := 246) E fd_13_33 wf_RX13_286 dX13_blockAt_246 (fun v246 => ?_)
      refine r_iconst (pc := 249) (v := 1) E dX13_blockAt_249 (by decide) ?_
      refine r_iadd (pc := 250) E dX13_blockAt_250 ?_
      refine r_putI (pc := 251) E fd_13_33 wf_RX13_286 dX13_blockAt_251 (Or.inl rfl) (fun M251 => ?_)
      refine r_iinc (pc := 254) (w := 1) (lf := fun v254 => [(5, v254), (2, p2), (3, p3), (4, p4)]) (ll' := []) (lr' := [(0, p0)]) E dX13_blockAt_254 3 rfl (by decide) (by decide) (fun _ => rfl) rfl rfl (fun v254 => ?_)
      refine r_goto (pc := 257) (tgt := 219) E dX13_blockAt_257 (by decide) ?_
      exact r_sub [1, 2, 3, 0] [] [0] rfl rfl rfl (hk219 ((p0, p2, p3, p4, v254)) _)
  have hL191 : ∀ (p0 : Option Nat) (p1 : Int32) (p2 : Int32) (p3 : Int32) (p4 : Int32) (M : Mem), RT p l e rmX13_blockAt s m args below meth c x 6 (QM below args s x (fun v : Int32 => some (.int v)) rmX13_blockAt.cells rmX13_blockAt.slots) 0 0 (fX13_blockAt_L191 p0 p1 p2 p3 p4 M) 191 [(1, p1), (2, p2), (3, p3), (4, p4)] [] [(0, p0)] [] M := by
    intro p0 p1 p2 p3 p4 M
    unfold fX13_blockAt_L191
    refine r_aload_n (pc := 191) E dX13_blockAt_191 rfl 0 rfl ?_
    refine r_getI (pc := 192) E fd_13_33 wf_RX13_286 dX13_blockAt_192 (fun v192 => ?_)
    refine r_aload_n (pc := 195) E dX13_blockAt_195 rfl 0 rfl ?_
    refine r_getI (pc := 196) E fd_13_35 wf_RX13_344 dX13_blockAt_196 (fun v196 => ?_)
    refine r_iadd (pc := 199) E dX13_blockAt_199 ?_
    refine r_sipush (pc := 200) (v := 8000) E dX13_blockAt_200 (by decide) ?_
    refine r_icmp_le (pc := 203) (tgt := 216) E dX13_blockAt_203 (by decide) ?_ ?_
    · refine r_iconst (pc := 216) (v := 0) E dX13_blockAt_216 (by decide) ?_
      refine r_istore (pc := 217) (lf := fun v217 => [(5, v217), (1, p1), (2, p2), (3, p3), (4, p4)]) (lg := fun v217 => []) (lk := fun v217 => [(0, p0)]) E dX13_blockAt_217 (by decide) (fun _ => rfl) (fun _ => rfl) (fun _ => rfl) (fun v217 => ?_)
      exact r_sub [2, 3, 4, 0] [] [0] rfl rfl rfl (hL219 p0 p2 p3 p4 v217 _)
    · refine r_aload_n (pc := 206) E dX13_blockAt_206 rfl 0 rfl ?_
      refine r_bipush (pc := 207) (v := 7) E dX13_blockAt_207 (by decide) ?_
      refine r_iload_n (pc := 209) E dX13_blockAt_209 rfl 0 rfl ?_
      refine r_kVi (pc := 210) (As := [.int 7, .int p1]) (rest := []) E wc_X13_fails wi_RX13 hd_X13_fails (ci := 13) rfl wl_RX13_263 wn_X13_fails ws_X13_fails dX13_blockAt_210 (by decide) (Nat.le_of_ble_eq_true rfl) ⟨rfl, rfl⟩ (ctX13_fails l x _ _ _ _) rfl (fun v210 M210 => ?_)
      refine r_pop (pc := 213) E dX13_blockAt_213 rfl ?_
      refine r_iconst (pc := 214) (v := 1) E dX13_blockAt_214 (by decide) ?_
      exact e_bool (pc := 215) E dX13_blockAt_215
  have hL183 : ∀ (k147 : Option Nat × Int32 × Int32 × Int32 × Int32 × Int32 → Mem → Option (Int32 × Mem)) (hk147 : ∀ a M, RT p l e rmX13_blockAt s m args below meth c x 6 (QM below args s x (fun v : Int32 => some (.int v)) rmX13_blockAt.cells rmX13_blockAt.slots) 0 0 (k147 a M) 147 [(1, a.2.1), (2, a.2.2.1), (3, a.2.2.2.1), (4, a.2.2.2.2.1), (5, a.2.2.2.2.2)] [] [(0, a.1)] [] M) (p0 : Option Nat) (p1 : Int32) (p2 : Int32) (p3 : Int32) (p4 : Int32) (p5 : Int32) (q0 : Option Nat) (q1 : Int32) (q2 : Option Nat) (q3 : Int32) (M : Mem), RT p l e rmX13_blockAt s m args below meth c x 6 (QM below args s x (fun v : Int32 => some (.int v)) rmX13_blockAt.cells rmX13_blockAt.slots) 0 0 (fX13_blockAt_L183 k147 p0 p1 p2 p3 p4 p5 q0 q1 q2 q3 M) 183 [(1, p1), (2, p2), (3, p3), (4, p4), (5, p5)] [] [(0, p0)] [.int q3, rv x q2, .int q1, rv x q0] M := by
    intro k147 hk147 p0 p1 p2 p3 p4 p5 q0 q1 q2 q3 M
    unfold fX13_blockAt_L183
    refine r_baload (pc := 183) E dX13_blockAt_183 (fun v183 => ?_)
    refine r_bastore (pc := 184) E dX13_blockAt_184 (fun M184 => ?_)
    refine r_iinc (pc := 185) (w := 1) (lf := fun v185 => [(5, v185), (1, p1), (2, p2), (3, p3), (4, p4)]) (ll' := []) (lr' := [(0, p0)]) E dX13_blockAt_185 4 rfl (by decide) (by decide) (fun _ => rfl) rfl rfl (fun v185 => ?_)
    refine r_goto (pc := 188) (tgt := 147) E dX13_blockAt_188 (by decide) ?_
    exact r_sub [1, 2, 3, 4, 0] [] [0] rfl rfl rfl (hk147 ((p0, p1, p2, p3, p4, v185)) _)
  have hL147 : ∀ (p0 : Option Nat) (p1 : Int32) (p2 : Int32) (p3 : Int32) (p4 : Int32) (p5 : Int32) (M : Mem), RT p l e rmX13_blockAt s m args below meth c x 6 (QM below args s x (fun v : Int32 => some (.int v)) rmX13_blockAt.cells rmX13_blockAt.slots) 0 0 (fX13_blockAt_L147 p0 p1 p2 p3 p4 p5 M) 147 [(1, p1), (2, p2), (3, p3), (4, p4), (5, p5)] [] [(0, p0)] [] M := by
    intro p0 p1 p2 p3 p4 p5 M
    refine r_lp (fi := fun a : Option Nat × Int32 × Int32 × Int32 × Int32 × Int32 => [(1, a.2.1), (2, a.2.2.1), (3, a.2.2.2.1), (4, a.2.2.2.2.1), (5, a.2.2.2.2.2)]) (fl := fun a : Option Nat × Int32 × Int32 × Int32 × Int32 × Int32 => []) (fr := fun a : Option Nat × Int32 × Int32 × Int32 × Int32 × Int32 => [(0, a.1)]) (fs := fun a : Option Nat × Int32 × Int32 × Int32 × Int32 × Int32 => []) ?_ FU ((p0, p1, p2, p3, p4, p5)) M
    intro k147 hk147 a M
    obtain ⟨p0, p1, p2, p3, p4, p5⟩ := a
    show RT p l e rmX13_blockAt s m args below meth c x 6 (QM below args s x (fun v : Int32 => some (.int v)) rmX13_blockAt.cells rmX13_blockAt.slots) 0 0 (fX13_blockAt_B147 k147 p0 p1 p2 p3 p4 p5 M) 147 [(1, p1), (2, p2), (3, p3), (4, p4), (5, p5)] [] [(0, p0)] [] M
    unfold fX13_blockAt_B147
    refine r_iload (pc := 147) E dX13_blockAt_147 4 rfl ?_
    refine r_iload (pc := 149) E dX13_blockAt_149 3 rfl ?_
    refine r_icmp_ge (pc := 151) (tgt := 191) E dX13_blockAt_151 (by decide) ?_ ?_
    · exact r_sub [0, 1, 2, 3] [] [0] rfl rfl rfl (hL191 p0 p1 p2 p3 p4 _)
    · refine r_aload_n (pc := 154) E dX13_blockAt_154 rfl 0 rfl ?_
      refine r_getA (pc := 155) E fd_13_34 wf_RX13_75 dX13_blockAt_155 (fun v155 => ?_)
      refine r_iload (pc := 158) E dX13_blockAt_158 4 rfl ?_
      refine r_aload_n (pc := 160) E dX13_blockAt_160 rfl 0 rfl ?_
      refine r_getA (pc := 161) E fd_13_0 wf_RX13_7 dX13_blockAt_161 (fun v161 => ?_)
      refine r_iload_n (pc := 164) E dX13_blockAt_164 rfl 2 rfl ?_
      refine r_iconst (pc := 165) (v := 1) E dX13_blockAt_165 (by decide) ?_
      refine r_icmp_ne (pc := 166) (tgt := 176) E dX13_blockAt_166 (by decide) ?_ ?_
      · refine r_aload_n (pc := 176) E dX13_blockAt_176 rfl 0 rfl ?_
        refine r_getI (pc := 177) E fd_13_51 wf_RX13_283 dX13_blockAt_177 (fun v177 => ?_)
        refine r_iload (pc := 180) E dX13_blockAt_180 4 rfl ?_
        refine r_iadd (pc := 182) E dX13_blockAt_182 ?_
        exact r_sub [0, 1, 2, 3, 4] [] [0] rfl rfl rfl (hL183 k147 hk147 p0 p1 p2 p3 p4 p5 v155 p5 v161 (v177 + p5) _)
      · refine r_aload_n (pc := 169) E dX13_blockAt_169 rfl 0 rfl ?_
        refine r_getI (pc := 170) E fd_13_51 wf_RX13_283 dX13_blockAt_170 (fun v170 => ?_)
        refine r_goto (pc := 173) (tgt := 183) E dX13_blockAt_173 (by decide) ?_
        exact r_sub [0, 1, 2, 3, 4] [] [0] rfl rfl rfl (hL183 k147 hk147 p0 p1 p2 p3 p4 p5 v155 p5 v161 v170 _)
  have hL96 : ∀ (p0 : Option Nat) (p1 : Int32) (p2 : Int32) (p3 : Int32) (p4 : Int32) (q0 : Option Nat) (q1 : Int32) (M : Mem), RT p l e rmX13_blockAt s m args below meth c x 6 (QM below args s x (fun v : Int32 => some (.int v)) rmX13_blockAt.cells rmX13_blockAt.slots) 0 0 (fX13_blockAt_L96 p0 p1 p2 p3 p4 q0 q1 M) 96 [(1, p1), (2, p2), (3, p3), (4, p4)] [] [(0, p0)] [.int q1, rv x q0] M := by
    intro p0 p1 p2 p3 p4 q0 q1 M
    unfold fX13_blockAt_L96
    refine r_kVi (pc := 96) (As := [.int q1]) (rest := []) E wc_X13_wants wi_RX13 hd_X13_wants (ci := 13) rfl wl_RX13_296 wn_X13_wants ws_X13_wants dX13_blockAt_96 (by decide) (Nat.le_of_ble_eq_true rfl) ⟨rfl, rfl⟩ (ctX13_wants l x _ _ _) rfl (fun v96 M96 => ?_)
    refine r_if_ne (pc := 99) (tgt := 104) E dX13_blockAt_99 (by decide) ?_ ?_
    · refine r_iload_n (pc := 104) E dX13_blockAt_104 rfl 2 rfl ?_
      refine r_iconst (pc := 105) (v := 2) E dX13_blockAt_105 (by decide) ?_
      refine r_icmp_ne (pc := 106) (tgt := 138) E dX13_blockAt_106 (by decide) ?_ ?_
      · refine r_aload_n (pc := 138) E dX13_blockAt_138 rfl 0 rfl ?_
        refine r_iload (pc := 139) E dX13_blockAt_139 3 rfl ?_
        refine r_putI (pc := 141) E fd_13_35 wf_RX13_344 dX13_blockAt_141 (Or.inl rfl) (fun M141 => ?_)
        refine r_iconst (pc := 144) (v := 0) E dX13_blockAt_144 (by decide) ?_
        refine r_istore (pc := 145) (lf := fun v145 => [(5, v145), (1, p1), (2, p2), (3, p3), (4, p4)]) (lg := fun v145 => []) (lk := fun v145 => [(0, p0)]) E dX13_blockAt_145 (by decide) (fun _ => rfl) (fun _ => rfl) (fun _ => rfl) (fun v145 => ?_)
        exact r_sub [1, 2, 3, 4, 0] [] [0] rfl rfl rfl (hL147 p0 p1 p2 p3 p4 v145 _)
      · refine r_aload_n (pc := 109) E dX13_blockAt_109 rfl 0 rfl ?_
        refine r_iconst (pc := 110) (v := 0) E dX13_blockAt_110 (by decide) ?_
        refine r_putI (pc := 111) E fd_13_35 wf_RX13_344 dX13_blockAt_111 (Or.inl rfl) (fun M111 => ?_)
        refine r_aload_n (pc := 114) E dX13_blockAt_114 rfl 0 rfl ?_
        refine r_aload_n (pc := 115) E dX13_blockAt_115 rfl 0 rfl ?_
        refine r_getI (pc := 116) E fd_13_51 wf_RX13_283 dX13_blockAt_116 (fun v116 => ?_)
        refine r_aload_n (pc := 119) E dX13_blockAt_119 rfl 0 rfl ?_
        refine r_getI (pc := 120) E fd_13_51 wf_RX13_283 dX13_blockAt_120 (fun v120 => ?_)
        refine r_iload (pc := 123) E dX13_blockAt_123 3 rfl ?_
        refine r_iadd (pc := 125) E dX13_blockAt_125 ?_
        refine r_kVv (pc := 126) (As := [.int v116, .int (v120 + p4)]) (rest := []) E wc_X13_packed wi_RX13 hd_X13_packed (ci := 13) rfl wl_RX13_347 wn_X13_packed ws_X13_packed dX13_blockAt_126 (by decide) (Nat.le_of_ble_eq_true rfl) ⟨rfl, rfl⟩ (ctX13_packed l x _ _ _ _) rfl (fun v126 M126 => ?_)
        refine r_aload_n (pc := 129) E dX13_blockAt_129 rfl 0 rfl ?_
        refine r_getI (pc := 130) E fd_13_4 wf_RX13_158 dX13_blockAt_130 (fun v130 => ?_)
        refine r_if_le (pc := 133) (tgt := 191) E dX13_blockAt_133 (by decide) ?_ ?_
        · exact r_sub [0, 1, 2, 3] [] [0] rfl rfl rfl (hL191 p0 p1 p2 p3 p4 _)
        · refine r_iconst (pc := 136) (v := 1) E dX13_blockAt_136 (by decide) ?_
          exact e_bool (pc := 137) E dX13_blockAt_137
    · refine r_iconst (pc := 102) (v := 1) E dX13_blockAt_102 (by decide) ?_
      exact e_bool (pc := 103) E dX13_blockAt_103
  show RT p l e rmX13_blockAt s m args below meth c x 6 (QM below args s x (fun v : Int32 => some (.int v)) rmX13_blockAt.cells rmX13_blockAt.slots) 0 0 (fX13_blockAt a0 M) 0 [] [] [(0, a0)] [] M
  unfold fX13_blockAt
  refine r_aload_n (pc := 0) E dX13_blockAt_0 rfl 0 rfl ?_
  refine r_getI (pc := 1) E fd_13_51 wf_RX13_283 dX13_blockAt_1 (fun v1 => ?_)
  refine r_istore_n (pc := 4) (lf := fun v4 => [(1, v4)]) (lg := fun v4 => []) (lk := fun v4 => [(0, a0)]) E dX13_blockAt_4 rfl (by decide) (fun _ => rfl) (fun _ => rfl) (fun _ => rfl) (fun v4 => ?_)
  refine r_aload_n (pc := 5) E dX13_blockAt_5 rfl 0 rfl ?_
  refine r_iconst (pc := 6) (v := 3) E dX13_blockAt_6 (by decide) ?_
  refine r_kVi (pc := 7) (As := [.int 3]) (rest := []) E wc_X13_wants wi_RX13 hd_X13_wants (ci := 13) rfl wl_RX13_296 wn_X13_wants ws_X13_wants dX13_blockAt_7 (by decide) (Nat.le_of_ble_eq_true rfl) ⟨rfl, rfl⟩ (ctX13_wants l x _ _ _) rfl (fun v7 M7 => ?_)
  refine r_if_ne (pc := 10) (tgt := 15) E dX13_blockAt_10 (by decide) ?_ ?_
  · refine r_aload_n (pc := 15) E dX13_blockAt_15 rfl 0 rfl ?_
    refine r_getA (pc := 16) E fd_13_0 wf_RX13_7 dX13_blockAt_16 (fun v16 => ?_)
    refine r_aload_n (pc := 19) E dX13_blockAt_19 rfl 0 rfl ?_
    refine r_getI (pc := 20) E fd_13_51 wf_RX13_283 dX13_blockAt_20 (fun v20 => ?_)
    refine r_iconst (pc := 23) (v := 3) E dX13_blockAt_23 (by decide) ?_
    refine r_kSl (pc := 24) (As := [rv x v16, .int v20, .int 3]) (rest := []) E wc_X13_eight wi_RX13 hd_X13_eight wl_RX13_175 wt_X13_eight dX13_blockAt_24 (by decide) (Nat.le_of_ble_eq_true rfl) ⟨rfl, rfl⟩ (ctX13_eight l x _ _ _ _) rfl (fun v24 M24 => ?_)
    refine r_l2i (pc := 27) E dX13_blockAt_27 ?_
    refine r_istore_n (pc := 28) (lf := fun v28 => [(2, v28), (1, v4)]) (lg := fun v28 => []) (lk := fun v28 => [(0, a0)]) E dX13_blockAt_28 rfl (by decide) (fun _ => rfl) (fun _ => rfl) (fun _ => rfl) (fun v28 => ?_)
    refine r_aload_n (pc := 29) E dX13_blockAt_29 rfl 0 rfl ?_
    refine r_getA (pc := 30) E fd_13_45 wf_RX13_89 dX13_blockAt_30 (fun v30 => ?_)
    refine r_iconst (pc := 33) (v := 1) E dX13_blockAt_33 (by decide) ?_
    refine r_dup2 (pc := 34) E dX13_blockAt_34 rfl (rv_cat _ _) ?_
    refine r_iaload (pc := 35) E dX13_blockAt_35 (fun v35 => ?_)
    refine r_iconst (pc := 36) (v := 1) E dX13_blockAt_36 (by decide) ?_
    refine r_iadd (pc := 37) E dX13_blockAt_37 ?_
    refine r_iastore (pc := 38) E dX13_blockAt_38 (fun M38 => ?_)
    refine r_iload_n (pc := 39) E dX13_blockAt_39 rfl 0 rfl ?_
    refine r_iconst (pc := 40) (v := 1) E dX13_blockAt_40 (by decide) ?_
    refine r_ishr (pc := 41) E dX13_blockAt_41 ?_
    refine r_iconst (pc := 42) (v := 3) E dX13_blockAt_42 (by decide) ?_
    refine r_iand (pc := 43) E dX13_blockAt_43 ?_
    refine r_istore_n (pc := 44) (lf := fun v44 => [(3, v44), (2, v28), (1, v4)]) (lg := fun v44 => []) (lk := fun v44 => [(0, a0)]) E dX13_blockAt_44 rfl (by decide) (fun _ => rfl) (fun _ => rfl) (fun _ => rfl) (fun v44 => ?_)
    refine r_iload_n (pc := 45) E dX13_blockAt_45 rfl 1 rfl ?_
    refine r_iconst (pc := 46) (v := 3) E dX13_blockAt_46 (by decide) ?_
    refine r_ishr (pc := 47) E dX13_blockAt_47 ?_
    refine r_istore (pc := 48) (lf := fun v48 => [(4, v48), (3, v44), (2, v28), (1, v4)]) (lg := fun v48 => []) (lk := fun v48 => [(0, a0)]) E dX13_blockAt_48 (by decide) (fun _ => rfl) (fun _ => rfl) (fun _ => rfl) (fun v48 => ?_)
    refine r_iload_n (pc := 50) E dX13_blockAt_50 rfl 1 rfl ?_
    refine r_iconst (pc := 51) (v := 3) E dX13_blockAt_51 (by decide) ?_
    refine r_icmp_eq (pc := 52) (tgt := 64) E dX13_blockAt_52 (by decide) ?_ ?_
    · exact r_sub [3] [] [0] rfl rfl rfl (hL64 a0 v4 _)
    · refine r_iload (pc := 55) E dX13_blockAt_55 0 rfl ?_
      refine r_aload_n (pc := 57) E dX13_blockAt_57 rfl 0 rfl ?_
      refine r_getI (pc := 58) E fd_13_42 wf_RX13_324 dX13_blockAt_58 (fun v58 => ?_)
      refine r_icmp_le (pc := 61) (tgt := 74) E dX13_blockAt_61 (by decide) ?_ ?_
      · refine r_aload_n (pc := 74) E dX13_blockAt_74 rfl 0 rfl ?_
        refine r_dup (pc := 75) E dX13_blockAt_75 (rv_cat _ _) ?_
        refine r_getI (pc := 76) E fd_13_51 wf_RX13_283 dX13_blockAt_76 (fun v76 => ?_)
        refine r_iconst (pc := 79) (v := 3) E dX13_blockAt_79 (by decide) ?_
        refine r_iadd (pc := 80) E dX13_blockAt_80 ?_
        refine r_putI (pc := 81) E fd_13_51 wf_RX13_283 dX13_blockAt_81 (Or.inl rfl) (fun M81 => ?_)
        refine r_aload_n (pc := 84) E dX13_blockAt_84 rfl 0 rfl ?_
        refine r_iload_n (pc := 85) E dX13_blockAt_85 rfl 1 rfl ?_
        refine r_iconst (pc := 86) (v := 1) E dX13_blockAt_86 (by decide) ?_
        refine r_icmp_ne (pc := 87) (tgt := 94) E dX13_blockAt_87 (by decide) ?_ ?_
        · refine r_iload (pc := 94) E dX13_blockAt_94 0 rfl ?_
          exact r_sub [3, 2, 1, 0] [] [0] rfl rfl rfl (hL96 a0 v4 v28 v44 v48 a0 v48 _)
        · refine r_iconst (pc := 90) (v := 1) E dX13_blockAt_90 (by decide) ?_
          refine r_goto (pc := 91) (tgt := 96) E dX13_blockAt_91 (by decide) ?_
          exact r_sub [3, 2, 1, 0] [] [0] rfl rfl rfl (hL96 a0 v4 v28 v44 v48 a0 1 _)
      · exact r_sub [3] [] [0] rfl rfl rfl (hL64 a0 v4 _)
  · refine r_iconst (pc := 13) (v := 1) E dX13_blockAt_13 (by decide) ?_
    exact e_bool (pc := 14) E dX13_blockAt_14
def fX13_sized_L379 (M : Mem) : Option (Unit × Mem) :=
  some ((), M)
def fX13_sized_L369 (p0 : Option Nat) (M : Mem) : Option (Unit × Mem) :=
  bo (gI M p0 13 51) fun v371 =>
  bo (pI M p0 13 51 (v371 + 4)) fun M376 =>
  fX13_sized_L379 M376
def fX13_sized_L293 (p0 : Option Nat) (p3 : Int32) (M : Mem) : Option (Unit × Mem) :=
  bo (gI M p0 13 4) fun v294 =>
  if v294 = 0 then (
    if (p3 &&& 4) ≤ 0 then (
      fX13_sized_L379 M
    ) else (
      bo (chk M p0 13) fun _ => bd (fX13_wants p0 4 M) fun v308 M308 =>
      if v308 = 0 then (
        fX13_sized_L379 M308
      ) else (
        bo (gR M308 p0 13 32) fun v315 =>
        bo (gI M308 p0 13 39) fun v319 =>
        bo (gI M308 p0 13 33) fun v323 =>
        bo (gI M308 p0 13 39) fun v327 =>
        bd (fX13_sumOf v315 v319 (v323 - v327) M308) fun v331 M331 =>
        bn (v331 &&& 4294967295) fun v338 =>
        bo (gR M331 p0 13 0) fun v341 =>
        bo (gI M331 p0 13 51) fun v345 =>
        bd (fX13_eight v341 v345 4 M331) fun v349 M349 =>
        if (lg_cmp v349 v338) = 0 then (
          fX13_sized_L369 p0 M349
        ) else (
          bo (gI M349 p0 13 51) fun v362 =>
          bo (chk M349 p0 13) fun _ => bd (fX13_fails p0 9 v362 M349) fun v365 M365 =>
          fX13_sized_L369 p0 M365
        )
      )
    )
  ) else (
    fX13_sized_L379 M
  )
def fX13_sized_L256 (p0 : Option Nat) (p3 : Int32) (p7 : Int32) (p8 : Int32) (p9 : Int64) (M : Mem) : Option (Unit × Mem) :=
  bo (gI M p0 13 4) fun v257 =>
  if v257 = 0 then (
    if p7 ≤ 0 then (
      fX13_sized_L293 p0 p3 M
    ) else (
      bo (gI M p0 13 33) fun v271 =>
      bo (gI M p0 13 39) fun v275 =>
      if (lg_cmp p9 ((v271 - v275).toInt64)) = 0 then (
        fX13_sized_L293 p0 p3 M
      ) else (
        bo (chk M p0 13) fun _ => bd (fX13_fails p0 8 p8 M) fun v289 M289 =>
        fX13_sized_L293 p0 p3 M289
      )
    )
  ) else (
    fX13_sized_L293 p0 p3 M
  )
def fX13_sized_L251 (k227 : Option Nat × Int32 × Int32 × Int32 × Int64 × Int32 → Mem → Option (Unit × Mem)) (p0 : Option Nat) (p3 : Int32) (p7 : Int32) (p8 : Int32) (p9 : Int64) (q0 : Int32) (M : Mem) : Option (Unit × Mem) :=
  bn (q0) fun v251 =>
  k227 ((p0, p3, p7, p8, p9, v251)) M
def fX13_sized_B227 (k227 : Option Nat × Int32 × Int32 × Int32 × Int64 × Int32 → Mem → Option (Unit × Mem)) (p0 : Option Nat) (p3 : Int32) (p7 : Int32) (p8 : Int32) (p9 : Int64) (p11 : Int32) (M : Mem) : Option (Unit × Mem) :=
  if p11 = 0 then (
    fX13_sized_L256 p0 p3 p7 p8 p9 M
  ) else (
    bo (gI M p0 13 4) fun v233 =>
    if v233 = 0 then (
      bo (chk M p0 13) fun _ => bd (fX13_blockAt p0 M) fun v240 M240 =>
      if v240 = 0 then (
        fX13_sized_L251 k227 p0 p3 p7 p8 p9 1 M240
      ) else (
        fX13_sized_L251 k227 p0 p3 p7 p8 p9 0 M240
      )
    ) else (
      fX13_sized_L256 p0 p3 p7 p8 p9 M
    )
  )
def fX13_sized_L227 (p0 : Option Nat) (p3 : Int32) (p7 : Int32) (p8 : Int32) (p9 : Int64) (p11 : Int32) (M : Mem) : Option (Unit × Mem) :=
  lp (fun k227 (a : Option Nat × Int32 × Int32 × Int32 × Int64 × Int32) M => fX13_sized_B227 k227 a.1 a.2.1 a.2.2.1 a.2.2.2.1 a.2.2.2.2.1 a.2.2.2.2.2 M) FU ((p0, p3, p7, p8, p9, p11)) M
def fX13_sized_L215 (p0 : Option Nat) (p3 : Int32) (p5 : Int32) (p7 : Int32) (p8 : Int32) (p9 : Int64) (q0 : Option Nat) (q1 : Int32) (M : Mem) : Option (Unit × Mem) :=
  bo (pI M q0 13 42 q1) fun M215 =>
  bo (chk M215 p0 13) fun _ => bd (fX13_begin p0 p5 M215) fun v221 M221 =>
  bn (1) fun v225 =>
  fX13_sized_L227 p0 p3 p7 p8 p9 v225 M221
def fX13_sized_L192 (p0 : Option Nat) (p3 : Int32) (p5 : Int32) (p7 : Int32) (p8 : Int32) (p9 : Int64) (q0 : Option Nat) (q1 : Int32) (q2 : Int32) (M : Mem) : Option (Unit × Mem) :=
  bo (wI M q0 q1 q2) fun M192 =>
  bo (gJ M192 p0 13 41) fun v195 =>
  if (lg_cmp v195 131072) ≤ 0 then (
    bo (gJ M192 p0 13 41) fun v211 =>
    fX13_sized_L215 p0 p3 p5 p7 p8 p9 p0 v211.toInt32 M192
  ) else (
    fX13_sized_L215 p0 p3 p5 p7 p8 p9 p0 131072 M192
  )
def fX13_sized_L133 (p0 : Option Nat) (p3 : Int32) (p5 : Int32) (p7 : Int32) (p8 : Int32) (p9 : Int64) (M : Mem) : Option (Unit × Mem) :=
  bo (gI M p0 13 51) fun v135 =>
  bo (pI M p0 13 51 (v135 + p7)) fun M141 =>
  bo (gR M141 p0 13 45) fun v145 =>
  bo (aI M141 v145 15 0) fun v150 =>
  bo (wI M141 v145 0 (v150 + 1)) fun M153 =>
  bo (gR M153 p0 13 45) fun v155 =>
  bo (gJ M153 p0 13 41) fun v161 =>
  bo (wI M153 v155 9 (v161.toInt32 &&& 2147483647)) fun M169 =>
  bo (gR M169 p0 13 45) fun v171 =>
  if p7 = 0 then (
    fX13_sized_L192 p0 p3 p5 p7 p8 p9 v171 10 ((-1)) M169
  ) else (
    fX13_sized_L192 p0 p3 p5 p7 p8 p9 v171 10 (p9.toInt32 &&& 2147483647) M169
  )
def fX13_sized_L122 (p0 : Option Nat) (M : Mem) : Option (Unit × Mem) :=
  bo (gI M p0 13 51) fun v125 =>
  bo (chk M p0 13) fun _ => bd (fX13_fails p0 4 v125 M) fun v128 M128 =>
  some ((), M128)
def fX13_sized_L90 (p0 : Option Nat) (p1 : Int64) (p3 : Int32) (p4 : Int32) (p5 : Int32) (p7 : Int32) (p8 : Int32) (q0 : Int64) (q1 : Int64) (M : Mem) : Option (Unit × Mem) :=
  bn (q0 + q1) fun v91 =>
  if p4 = 0 then (
    fX13_sized_L133 p0 p3 p5 p7 p8 v91 M
  ) else (
    bo (pJ M p0 13 41 v91) fun M101 =>
    bo (gJ M101 p0 13 41) fun v105 =>
    if (lg_cmp v105 0) < 0 then (
      fX13_sized_L122 p0 M101
    ) else (
      bo (gJ M101 p0 13 41) fun v114 =>
      if (lg_cmp v114 p1) ≤ 0 then (
        fX13_sized_L133 p0 p3 p5 p7 p8 v91 M101
      ) else (
        fX13_sized_L122 p0 M101
      )
    )
  )
def fX13_sized_L46 (p0 : Option Nat) (p1 : Int64) (p3 : Int32) (p4 : Int32) (p5 : Int32) (p6 : Int32) (q0 : Int32) (M : Mem) : Option (Unit × Mem) :=
  bn (q0) fun v46 =>
  bo (chk M p0 13) fun _ => bd (fX13_wants p0 v46 M) fun v51 M51 =>
  if v51 = 0 then (
    some ((), M51)
  ) else (
    bo (gI M51 p0 13 51) fun v59 =>
    bn (v59) fun v62 =>
    bo (gR M51 p0 13 0) fun v65 =>
    bo (gI M51 p0 13 51) fun v69 =>
    bd (fX13_eight v65 v69 v46 M51) fun v74 M74 =>
    if p6 = 1 then (
      fX13_sized_L90 p0 p1 p3 p4 p5 v46 v62 v74 256 M74
    ) else (
      fX13_sized_L90 p0 p1 p3 p4 p5 v46 v62 v74 0 M74
    )
  )
def fX13_sized (a0 : Option Nat) (a1 : Int64) (a3 : Int32) (a4 : Int32) (a5 : Int32) (M : Mem) : Option (Unit × Mem) :=
  bn (shrI a3 6) fun v4 =>
  if v4 = 0 then (
    if a4 = 0 then (
      fX13_sized_L46 a0 a1 a3 a4 a5 v4 0 M
    ) else (
      fX13_sized_L46 a0 a1 a3 a4 a5 v4 1 M
    )
  ) else (
    if v4 = 1 then (
      fX13_sized_L46 a0 a1 a3 a4 a5 v4 2 M
    ) else (
      if v4 = 2 then (
        fX13_sized_L46 a0 a1 a3 a4 a5 v4 4 M
      ) else (
        fX13_sized_L46 a0 a1 a3 a4 a5 v4 8 M
      )
    )
  )
def rmX13_sized : Room := { frames := 7, cells := 0, slots := 0, locals := 194 }
set_option maxRecDepth 100000 in
set_option maxHeartbeats 4000000 in
theorem ctX13_sized (l : Launch) (x : Cx) (a0 : Option Nat) (a1 : Int64) (a3 : Int32) (a4 : Int32) (a5 : Int32) (M : Mem) (v : Unit) (N : Mem) (h : fX13_sized a0 a1 a3 a4 a5 M = some (v, N)) : CT l yX13_sized cX13_sized 14 (none) rmX13_sized x [rv x a0, .long a1, .int a3, .int a4, .int a5] M none N := by
  refine ct_mk (enc := fun _ : Unit => none) (li := [(3, a3), (4, a4), (5, a5)]) (ll := [(1, a1)]) (lr := [(0, a0)]) (by decide +kernel) (by simp [lg_sl, rv_cat, cat_int, cat_long]) (by simp [flat, lv_args, rv_cat, cat_int, cat_long]) h ?_
  intro p e s m args below meth c E
  have hL379 : ∀ (M : Mem), RT p l e rmX13_sized s m args below meth c x 14 (QM below args s x (fun _ : Unit => none) rmX13_sized.cells rmX13_sized.slots) 0 0 (fX13_sized_L379 M) 379 [] [] [] [] M := by
    intro M
    unfold fX13_sized_L379
    exact e_void (pc := 379) E dX13_sized_379
  have hL369 : ∀ (p0 : Option Nat) (M : Mem), RT p l e rmX13_sized s m args below meth c x 14 (QM below args s x (fun _ : Unit => none) rmX13_sized.cells rmX13_sized.slots) 0 0 (fX13_sized_L369 p0 M) 369 [] [] [(0, p0)] [] M := by
    intro p0 M
    unfold fX13_sized_L369
    refine r_aload_n (pc := 369) E dX13_sized_369 rfl 0 rfl ?_
    refine r_dup (pc := 370) E dX13_sized_370 (rv_cat _ _) ?_
    refine r_getI (pc := 371) E fd_13_51 wf_RX13_283 dX13_sized_371 (fun v371 => ?_)
    refine r_iconst (pc := 374) (v := 4) E dX13_sized_374 (by decide) ?_
    refine r_iadd (pc := 375) E dX13_sized_375 ?_
    refine r_putI (pc := 376) E fd_13_51 wf_RX13_283 dX13_sized_376 (Or.inl rfl) (fun M376 => ?_)
    exact r_sub [] [] [] rfl rfl rfl (hL379 _)
  have hL293 : ∀ (p0 : Option Nat) (p3 : Int32) (M : Mem), RT p l e rmX13_sized s m args below meth c x 14 (QM below args s x (fun _ : Unit => none) rmX13_sized.cells rmX13_sized.slots) 0 0 (fX13_sized_L293 p0 p3 M) 293 [(3, p3)] [] [(0, p0)] [] M := by
    intro p0 p3 M
    unfold fX13_sized_L293
    refine r_aload_n (pc := 293) E dX13_sized_293 rfl 0 rfl ?_
    refine r_getI (pc := 294) E fd_13_4 wf_RX13_158 dX13_sized_294 (fun v294 => ?_)
    refine r_if_ne (pc := 297) (tgt := 379) E dX13_sized_297 (by decide) ?_ ?_
    · exact r_sub [] [] [] rfl rfl rfl (hL379 _)
    · refine r_iload_n (pc := 300) E dX13_sized_300 rfl 0 rfl ?_
      refine r_iconst (pc := 301) (v := 4) E dX13_sized_301 (by decide) ?_
      refine r_iand (pc := 302) E dX13_sized_302 ?_
      refine r_if_le (pc := 303) (tgt := 379) E dX13_sized_303 (by decide) ?_ ?_
      · exact r_sub [] [] [] rfl rfl rfl (hL379 _)
      · refine r_aload_n (pc := 306) E dX13_sized_306 rfl 0 rfl ?_
        refine r_iconst (pc := 307) (v := 4) E dX13_sized_307 (by decide) ?_
        refine r_kVi (pc := 308) (As := [.int 4]) (rest := []) E wc_X13_wants wi_RX13 hd_X13_wants (ci := 13) rfl wl_RX13_296 wn_X13_wants ws_X13_wants dX13_sized_308 (by decide) (Nat.le_of_ble_eq_true rfl) ⟨rfl, rfl⟩ (ctX13_wants l x _ _ _) rfl (fun v308 M308 => ?_)
        refine r_if_eq (pc := 311) (tgt := 379) E dX13_sized_311 (by decide) ?_ ?_
        · exact r_sub [] [] [] rfl rfl rfl (hL379 _)
        · refine r_aload_n (pc := 314) E dX13_sized_314 rfl 0 rfl ?_
          refine r_getA (pc := 315) E fd_13_32 wf_RX13_71 dX13_sized_315 (fun v315 => ?_)
          refine r_aload_n (pc := 318) E dX13_sized_318 rfl 0 rfl ?_
          refine r_getI (pc := 319) E fd_13_39 wf_RX13_334 dX13_sized_319 (fun v319 => ?_)
          refine r_aload_n (pc := 322) E dX13_sized_322 rfl 0 rfl ?_
          refine r_getI (pc := 323) E fd_13_33 wf_RX13_286 dX13_sized_323 (fun v323 => ?_)
          refine r_aload_n (pc := 326) E dX13_sized_326 rfl 0 rfl ?_
          refine r_getI (pc := 327) E fd_13_39 wf_RX13_334 dX13_sized_327 (fun v327 => ?_)
          refine r_isub (pc := 330) E dX13_sized_330 ?_
          refine r_kSl (pc := 331) (As := [rv x v315, .int v319, .int (v323 - v327)]) (rest := []) E wc_X13_sumOf wi_RX13 hd_X13_sumOf wl_RX13_187 wt_X13_sumOf dX13_sized_331 (by decide) (Nat.le_of_ble_eq_true rfl) ⟨rfl, rfl⟩ (ctX13_sumOf l x _ _ _ _) rfl (fun v331 M331 => ?_)
          refine r_ldc2 (pc := 334) E wk_RX13_337 dX13_sized_334 ?_
          refine r_land (pc := 337) E dX13_sized_337 ?_
          refine r_lstore (pc := 338) (lf := fun v338 => [(3, p3)]) (lg := fun v338 => [(12, v338)]) (lk := fun v338 => [(0, p0)]) E dX13_sized_338 (by decide) (fun _ => rfl) (fun _ => rfl) (fun _ => rfl) (fun v338 => ?_)
          refine r_aload_n (pc := 340) E dX13_sized_340 rfl 0 rfl ?_
          refine r_getA (pc := 341) E fd_13_0 wf_RX13_7 dX13_sized_341 (fun v341 => ?_)
          refine r_aload_n (pc := 344) E dX13_sized_344 rfl 0 rfl ?_
          refine r_getI (pc := 345) E fd_13_51 wf_RX13_283 dX13_sized_345 (fun v345 => ?_)
          refine r_iconst (pc := 348) (v := 4) E dX13_sized_348 (by decide) ?_
          refine r_kSl (pc := 349) (As := [rv x v341, .int v345, .int 4]) (rest := []) E wc_X13_eight wi_RX13 hd_X13_eight wl_RX13_175 wt_X13_eight dX13_sized_349 (by decide) (Nat.le_of_ble_eq_true rfl) ⟨rfl, rfl⟩ (ctX13_eight l x _ _ _ _) rfl (fun v349 M349 => ?_)
          refine r_lload (pc := 352) E dX13_sized_352 0 rfl ?_
          refine r_lcmp (pc := 354) E dX13_sized_354 ?_
          refine r_if_eq (pc := 355) (tgt := 369) E dX13_sized_355 (by decide) ?_ ?_
          · exact r_sub [] [] [0] rfl rfl rfl (hL369 p0 _)
          · refine r_aload_n (pc := 358) E dX13_sized_358 rfl 0 rfl ?_
            refine r_bipush (pc := 359) (v := 9) E dX13_sized_359 (by decide) ?_
            refine r_aload_n (pc := 361) E dX13_sized_361 rfl 0 rfl ?_
            refine r_getI (pc := 362) E fd_13_51 wf_RX13_283 dX13_sized_362 (fun v362 => ?_)
            refine r_kVi (pc := 365) (As := [.int 9, .int v362]) (rest := []) E wc_X13_fails wi_RX13 hd_X13_fails (ci := 13) rfl wl_RX13_263 wn_X13_fails ws_X13_fails dX13_sized_365 (by decide) (Nat.le_of_ble_eq_true rfl) ⟨rfl, rfl⟩ (ctX13_fails l x _ _ _ _) rfl (fun v365 M365 => ?_)
            refine r_pop (pc := 368) E dX13_sized_368 rfl ?_
            exact r_sub [] [] [0] rfl rfl rfl (hL369 p0 _)
  have hL256 : ∀ (p0 : Option Nat) (p3 : Int32) (p7 : Int32) (p8 : Int32) (p9 : Int64) (M : Mem), RT p l e rmX13_sized s m args below meth c x 14 (QM below args s x (fun _ : Unit => none) rmX13_sized.cells rmX13_sized.slots) 0 0 (fX13_sized_L256 p0 p3 p7 p8 p9 M) 256 [(3, p3), (7, p7), (8, p8)] [(9, p9)] [(0, p0)] [] M := by
    intro p0 p3 p7 p8 p9 M
    unfold fX13_sized_L256
    refine r_aload_n (pc := 256) E dX13_sized_256 rfl 0 rfl ?_
    refine r_getI (pc := 257) E fd_13_4 wf_RX13_158 dX13_sized_257 (fun v257 => ?_)
    refine r_if_ne (pc := 260) (tgt := 293) E dX13_sized_260 (by decide) ?_ ?_
    · exact r_sub [0] [] [0] rfl rfl rfl (hL293 p0 p3 _)
    · refine r_iload (pc := 263) E dX13_sized_263 1 rfl ?_
      refine r_if_le (pc := 265) (tgt := 293) E dX13_sized_265 (by decide) ?_ ?_
      · exact r_sub [0] [] [0] rfl rfl rfl (hL293 p0 p3 _)
      · refine r_lload (pc := 268) E dX13_sized_268 0 rfl ?_
        refine r_aload_n (pc := 270) E dX13_sized_270 rfl 0 rfl ?_
        refine r_getI (pc := 271) E fd_13_33 wf_RX13_286 dX13_sized_271 (fun v271 => ?_)
        refine r_aload_n (pc := 274) E dX13_sized_274 rfl 0 rfl ?_
        refine r_getI (pc := 275) E fd_13_39 wf_RX13_334 dX13_sized_275 (fun v275 => ?_)
        refine r_isub (pc := 278) E dX13_sized_278 ?_
        refine r_i2l (pc := 279) E dX13_sized_279 ?_
        refine r_lcmp (pc := 280) E dX13_sized_280 ?_
        refine r_if_eq (pc := 281) (tgt := 293) E dX13_sized_281 (by decide) ?_ ?_
        · exact r_sub [0] [] [0] rfl rfl rfl (hL293 p0 p3 _)
        · refine r_aload_n (pc := 284) E dX13_sized_284 rfl 0 rfl ?_
          refine r_bipush (pc := 285) (v := 8) E dX13_sized_285 (by decide) ?_
          refine r_iload (pc := 287) E dX13_sized_287 2 rfl ?_
          refine r_kVi (pc := 289) (As := [.int 8, .int p8]) (rest := []) E wc_X13_fails wi_RX13 hd_X13_fails (ci := 13) rfl wl_RX13_263 wn_X13_fails ws_X13_fails dX13_sized_289 (by decide) (Nat.le_of_ble_eq_true rfl) ⟨rfl, rfl⟩ (ctX13_fails l x _ _ _ _) rfl (fun v289 M289 => ?_)
          refine r_pop (pc := 292) E dX13_sized_292 rfl ?_
          exact r_sub [0] [] [0] rfl rfl rfl (hL293 p0 p3 _)
  have hL251 : ∀ (k227 : Option Nat × Int32 × Int32 × Int32 × Int64 × Int32 → Mem → Option (Unit × Mem)) (hk227 : ∀ a M, RT p l e rmX13_sized s m args below meth c x 14 (QM below args s x (fun _ : Unit => none) rmX13_sized.cells rmX13_sized.slots) 0 0 (k227 a M) 227 [(3, a.2.1), (7, a.2.2.1), (8, a.2.2.2.1), (11, a.2.2.2.2.2)] [(9, a.2.2.2.2.1)] [(0, a.1)] [] M) (p0 : Option Nat) (p3 : Int32) (p7 : Int32) (p8 : Int32) (p9 : Int64) (q0 : Int32) (M : Mem), RT p l e rmX13_sized s m args below meth c x 14 (QM below args s x (fun _ : Unit => none) rmX13_sized.cells rmX13_sized.slots) 0 0 (fX13_sized_L251 k227 p0 p3 p7 p8 p9 q0 M) 251 [(3, p3), (7, p7), (8, p8)] [(9, p9)] [(0, p0)] [.int q0] M := by
    intro k227 hk227 p0 p3 p7 p8 p9 q0 M
    unfold fX13_sized_L251
    refine r_istore (pc := 251) (lf := fun v251 => [(11, v251), (3, p3), (7, p7), (8, p8)]) (lg := fun v251 => [(9, p9)]) (lk := fun v251 => [(0, p0)]) E dX13_sized_251 (by decide) (fun _ => rfl) (fun _ => rfl) (fun _ => rfl) (fun v251 => ?_)
    refine r_goto (pc := 253) (tgt := 227) E dX13_sized_253 (by decide) ?_
    exact r_sub [1, 2, 3, 0] [0] [0] rfl rfl rfl (hk227 ((p0, p3, p7, p8, p9, v251)) _)
  have hL227 : ∀ (p0 : Option Nat) (p3 : Int32) (p7 : Int32) (p8 : Int32) (p9 : Int64) (p11 : Int32) (M : Mem), RT p l e rmX13_sized s m args below meth c x 14 (QM below args s x (fun _ : Unit => none) rmX13_sized.cells rmX13_sized.slots) 0 0 (fX13_sized_L227 p0 p3 p7 p8 p9 p11 M) 227 [(3, p3), (7, p7), (8, p8), (11, p11)] [(9, p9)] [(0, p0)] [] M := by
    intro p0 p3 p7 p8 p9 p11 M
    refine r_lp (fi := fun a : Option Nat × Int32 × Int32 × Int32 × Int64 × Int32 => [(3, a.2.1), (7, a.2.2.1), (8, a.2.2.2.1), (11, a.2.2.2.2.2)]) (fl := fun a : Option Nat × Int32 × Int32 × Int32 × Int64 × Int32 => [(9, a.2.2.2.2.1)]) (fr := fun a : Option Nat × Int32 × Int32 × Int32 × Int64 × Int32 => [(0, a.1)]) (fs := fun a : Option Nat × Int32 × Int32 × Int32 × Int64 × Int32 => []) ?_ FU ((p0, p3, p7, p8, p9, p11)) M
    intro k227 hk227 a M
    obtain ⟨p0, p3, p7, p8, p9, p11⟩ := a
    show RT p l e rmX13_sized s m args below meth c x 14 (QM below args s x (fun _ : Unit => none) rmX13_sized.cells rmX13_sized.slots) 0 0 (fX13_sized_B227 k227 p0 p3 p7 p8 p9 p11 M) 227 [(3, p3), (7, p7), (8, p8), (11, p11)] [(9, p9)] [(0, p0)] [] M
    unfold fX13_sized_B227
    refine r_iload (pc := 227) E dX13_sized_227 3 rfl ?_
    refine r_if_eq (pc := 229) (tgt := 256) E dX13_sized_229 (by decide) ?_ ?_
    · exact r_sub [0, 1, 2] [0] [0] rfl rfl rfl (hL256 p0 p3 p7 p8 p9 _)
    · refine r_aload_n (pc := 232) E dX13_sized_232 rfl 0 rfl ?_
      refine r_getI (pc := 233) E fd_13_4 wf_RX13_158 dX13_sized_233 (fun v233 => ?_)
      refine r_if_ne (pc := 236) (tgt := 256) E dX13_sized_236 (by decide) ?_ ?_
      · exact r_sub [0, 1, 2] [0] [0] rfl rfl rfl (hL256 p0 p3 p7 p8 p9 _)
      · refine r_aload_n (pc := 239) E dX13_sized_239 rfl 0 rfl ?_
        refine r_kVi (pc := 240) (As := []) (rest := []) E wc_X13_blockAt wi_RX13 hd_X13_blockAt (ci := 13) rfl wl_RX13_330 wn_X13_blockAt ws_X13_blockAt dX13_sized_240 (by decide) (Nat.le_of_ble_eq_true rfl) ⟨rfl, rfl⟩ (ctX13_blockAt l x _ _) rfl (fun v240 M240 => ?_)
        refine r_if_ne (pc := 243) (tgt := 250) E dX13_sized_243 (by decide) ?_ ?_
        · refine r_iconst (pc := 250) (v := 0) E dX13_sized_250 (by decide) ?_
          exact r_sub [0, 1, 2] [0] [0] rfl rfl rfl (hL251 k227 hk227 p0 p3 p7 p8 p9 0 _)
        · refine r_iconst (pc := 246) (v := 1) E dX13_sized_246 (by decide) ?_
          refine r_goto (pc := 247) (tgt := 251) E dX13_sized_247 (by decide) ?_
          exact r_sub [0, 1, 2] [0] [0] rfl rfl rfl (hL251 k227 hk227 p0 p3 p7 p8 p9 1 _)
  have hL215 : ∀ (p0 : Option Nat) (p3 : Int32) (p5 : Int32) (p7 : Int32) (p8 : Int32) (p9 : Int64) (q0 : Option Nat) (q1 : Int32) (M : Mem), RT p l e rmX13_sized s m args below meth c x 14 (QM below args s x (fun _ : Unit => none) rmX13_sized.cells rmX13_sized.slots) 0 0 (fX13_sized_L215 p0 p3 p5 p7 p8 p9 q0 q1 M) 215 [(3, p3), (5, p5), (7, p7), (8, p8)] [(9, p9)] [(0, p0)] [.int q1, rv x q0] M := by
    intro p0 p3 p5 p7 p8 p9 q0 q1 M
    unfold fX13_sized_L215
    refine r_putI (pc := 215) E fd_13_42 wf_RX13_324 dX13_sized_215 (Or.inl rfl) (fun M215 => ?_)
    refine r_aload_n (pc := 218) E dX13_sized_218 rfl 0 rfl ?_
    refine r_iload (pc := 219) E dX13_sized_219 1 rfl ?_
    refine r_kVv (pc := 221) (As := [.int p5]) (rest := []) E wc_X13_begin wi_RX13 hd_X13_begin (ci := 13) rfl wl_RX13_327 wn_X13_begin ws_X13_begin dX13_sized_221 (by decide) (Nat.le_of_ble_eq_true rfl) ⟨rfl, rfl⟩ (ctX13_begin l x _ _ _) rfl (fun v221 M221 => ?_)
    refine r_iconst (pc := 224) (v := 1) E dX13_sized_224 (by decide) ?_
    refine r_istore (pc := 225) (lf := fun v225 => [(11, v225), (3, p3), (5, p5), (7, p7), (8, p8)]) (lg := fun v225 => [(9, p9)]) (lk := fun v225 => [(0, p0)]) E dX13_sized_225 (by decide) (fun _ => rfl) (fun _ => rfl) (fun _ => rfl) (fun v225 => ?_)
    exact r_sub [1, 3, 4, 0] [0] [0] rfl rfl rfl (hL227 p0 p3 p7 p8 p9 v225 _)
  have hL192 : ∀ (p0 : Option Nat) (p3 : Int32) (p5 : Int32) (p7 : Int32) (p8 : Int32) (p9 : Int64) (q0 : Option Nat) (q1 : Int32) (q2 : Int32) (M : Mem), RT p l e rmX13_sized s m args below meth c x 14 (QM below args s x (fun _ : Unit => none) rmX13_sized.cells rmX13_sized.slots) 0 0 (fX13_sized_L192 p0 p3 p5 p7 p8 p9 q0 q1 q2 M) 192 [(3, p3), (5, p5), (7, p7), (8, p8)] [(9, p9)] [(0, p0)] [.int q2, .int q1, rv x q0] M := by
    intro p0 p3 p5 p7 p8 p9 q0 q1 q2 M
    unfold fX13_sized_L192
    refine r_iastore (pc := 192) E dX13_sized_192 (fun M192 => ?_)
    refine r_aload_n (pc := 193) E dX13_sized_193 rfl 0 rfl ?_
    refine r_aload_n (pc := 194) E dX13_sized_194 rfl 0 rfl ?_
    refine r_getJ (pc := 195) E fd_13_41 wf_RX13_311 dX13_sized_195 (fun v195 => ?_)
    refine r_ldc2 (pc := 198) E wk_RX13_322 dX13_sized_198 ?_
    refine r_lcmp (pc := 201) E dX13_sized_201 ?_
    refine r_if_le (pc := 202) (tgt := 210) E dX13_sized_202 (by decide) ?_ ?_
    · refine r_aload_n (pc := 210) E dX13_sized_210 rfl 0 rfl ?_
      refine r_getJ (pc := 211) E fd_13_41 wf_RX13_311 dX13_sized_211 (fun v211 => ?_)
      refine r_l2i (pc := 214) E dX13_sized_214 ?_
      exact r_sub [0, 1, 2, 3] [0] [0] rfl rfl rfl (hL215 p0 p3 p5 p7 p8 p9 p0 v211.toInt32 _)
    · refine r_ldc (pc := 205) E wk_RX13_78 dX13_sized_205 ?_
      refine r_goto (pc := 207) (tgt := 215) E dX13_sized_207 (by decide) ?_
      exact r_sub [0, 1, 2, 3] [0] [0] rfl rfl rfl (hL215 p0 p3 p5 p7 p8 p9 p0 131072 _)
  have hL133 : ∀ (p0 : Option Nat) (p3 : Int32) (p5 : Int32) (p7 : Int32) (p8 : Int32) (p9 : Int64) (M : Mem), RT p l e rmX13_sized s m args below meth c x 14 (QM below args s x (fun _ : Unit => none) rmX13_sized.cells rmX13_sized.slots) 0 0 (fX13_sized_L133 p0 p3 p5 p7 p8 p9 M) 133 [(3, p3), (5, p5), (7, p7), (8, p8)] [(9, p9)] [(0, p0)] [] M := by
    intro p0 p3 p5 p7 p8 p9 M
    unfold fX13_sized_L133
    refine r_aload_n (pc := 133) E dX13_sized_133 rfl 0 rfl ?_
    refine r_dup (pc := 134) E dX13_sized_134 (rv_cat _ _) ?_
    refine r_getI (pc := 135) E fd_13_51 wf_RX13_283 dX13_sized_135 (fun v135 => ?_)
    refine r_iload (pc := 138) E dX13_sized_138 2 rfl ?_
    refine r_iadd (pc := 140) E dX13_sized_140 ?_
    refine r_putI (pc := 141) E fd_13_51 wf_RX13_283 dX13_sized_141 (Or.inl rfl) (fun M141 => ?_)
    refine r_aload_n (pc := 144) E dX13_sized_144 rfl 0 rfl ?_
    refine r_getA (pc := 145) E fd_13_45 wf_RX13_89 dX13_sized_145 (fun v145 => ?_)
    refine r_iconst (pc := 148) (v := 0) E dX13_sized_148 (by decide) ?_
    refine r_dup2 (pc := 149) E dX13_sized_149 rfl (rv_cat _ _) ?_
    refine r_iaload (pc := 150) E dX13_sized_150 (fun v150 => ?_)
    refine r_iconst (pc := 151) (v := 1) E dX13_sized_151 (by decide) ?_
    refine r_iadd (pc := 152) E dX13_sized_152 ?_
    refine r_iastore (pc := 153) E dX13_sized_153 (fun M153 => ?_)
    refine r_aload_n (pc := 154) E dX13_sized_154 rfl 0 rfl ?_
    refine r_getA (pc := 155) E fd_13_45 wf_RX13_89 dX13_sized_155 (fun v155 => ?_)
    refine r_bipush (pc := 158) (v := 9) E dX13_sized_158 (by decide) ?_
    refine r_aload_n (pc := 160) E dX13_sized_160 rfl 0 rfl ?_
    refine r_getJ (pc := 161) E fd_13_41 wf_RX13_311 dX13_sized_161 (fun v161 => ?_)
    refine r_l2i (pc := 164) E dX13_sized_164 ?_
    refine r_ldc_w (pc := 165) E wk_RX13_321 dX13_sized_165 ?_
    refine r_iand (pc := 168) E dX13_sized_168 ?_
    refine r_iastore (pc := 169) E dX13_sized_169 (fun M169 => ?_)
    refine r_aload_n (pc := 170) E dX13_sized_170 rfl 0 rfl ?_
    refine r_getA (pc := 171) E fd_13_45 wf_RX13_89 dX13_sized_171 (fun v171 => ?_)
    refine r_bipush (pc := 174) (v := 10) E dX13_sized_174 (by decide) ?_
    refine r_iload (pc := 176) E dX13_sized_176 2 rfl ?_
    refine r_if_ne (pc := 178) (tgt := 185) E dX13_sized_178 (by decide) ?_ ?_
    · refine r_lload (pc := 185) E dX13_sized_185 0 rfl ?_
      refine r_l2i (pc := 187) E dX13_sized_187 ?_
      refine r_ldc_w (pc := 188) E wk_RX13_321 dX13_sized_188 ?_
      refine r_iand (pc := 191) E dX13_sized_191 ?_
      exact r_sub [0, 1, 2, 3] [0] [0] rfl rfl rfl (hL192 p0 p3 p5 p7 p8 p9 v171 10 (p9.toInt32 &&& 2147483647) _)
    · refine r_iconst (pc := 181) (v := (-1)) E dX13_sized_181 (by decide) ?_
      refine r_goto (pc := 182) (tgt := 192) E dX13_sized_182 (by decide) ?_
      exact r_sub [0, 1, 2, 3] [0] [0] rfl rfl rfl (hL192 p0 p3 p5 p7 p8 p9 v171 10 ((-1)) _)
  have hL122 : ∀ (p0 : Option Nat) (M : Mem), RT p l e rmX13_sized s m args below meth c x 14 (QM below args s x (fun _ : Unit => none) rmX13_sized.cells rmX13_sized.slots) 0 0 (fX13_sized_L122 p0 M) 122 [] [] [(0, p0)] [] M := by
    intro p0 M
    unfold fX13_sized_L122
    refine r_aload_n (pc := 122) E dX13_sized_122 rfl 0 rfl ?_
    refine r_iconst (pc := 123) (v := 4) E dX13_sized_123 (by decide) ?_
    refine r_aload_n (pc := 124) E dX13_sized_124 rfl 0 rfl ?_
    refine r_getI (pc := 125) E fd_13_51 wf_RX13_283 dX13_sized_125 (fun v125 => ?_)
    refine r_kVi (pc := 128) (As := [.int 4, .int v125]) (rest := []) E wc_X13_fails wi_RX13 hd_X13_fails (ci := 13) rfl wl_RX13_263 wn_X13_fails ws_X13_fails dX13_sized_128 (by decide) (Nat.le_of_ble_eq_true rfl) ⟨rfl, rfl⟩ (ctX13_fails l x _ _ _ _) rfl (fun v128 M128 => ?_)
    refine r_pop (pc := 131) E dX13_sized_131 rfl ?_
    exact e_void (pc := 132) E dX13_sized_132
  have hL90 : ∀ (p0 : Option Nat) (p1 : Int64) (p3 : Int32) (p4 : Int32) (p5 : Int32) (p7 : Int32) (p8 : Int32) (q0 : Int64) (q1 : Int64) (M : Mem), RT p l e rmX13_sized s m args below meth c x 14 (QM below args s x (fun _ : Unit => none) rmX13_sized.cells rmX13_sized.slots) 0 0 (fX13_sized_L90 p0 p1 p3 p4 p5 p7 p8 q0 q1 M) 90 [(3, p3), (4, p4), (5, p5), (7, p7), (8, p8)] [(1, p1)] [(0, p0)] [.long q1, .long q0] M := by
    intro p0 p1 p3 p4 p5 p7 p8 q0 q1 M
    unfold fX13_sized_L90
    refine r_ladd (pc := 90) E dX13_sized_90 ?_
    refine r_lstore (pc := 91) (lf := fun v91 => [(3, p3), (4, p4), (5, p5), (7, p7), (8, p8)]) (lg := fun v91 => [(9, v91), (1, p1)]) (lk := fun v91 => [(0, p0)]) E dX13_sized_91 (by decide) (fun _ => rfl) (fun _ => rfl) (fun _ => rfl) (fun v91 => ?_)
    refine r_iload (pc := 93) E dX13_sized_93 1 rfl ?_
    refine r_if_eq (pc := 95) (tgt := 133) E dX13_sized_95 (by decide) ?_ ?_
    · exact r_sub [0, 2, 3, 4] [0] [0] rfl rfl rfl (hL133 p0 p3 p5 p7 p8 v91 _)
    · refine r_aload_n (pc := 98) E dX13_sized_98 rfl 0 rfl ?_
      refine r_lload (pc := 99) E dX13_sized_99 0 rfl ?_
      refine r_putJ (pc := 101) E fd_13_41 wf_RX13_311 dX13_sized_101 (Or.inl rfl) (fun M101 => ?_)
      refine r_aload_n (pc := 104) E dX13_sized_104 rfl 0 rfl ?_
      refine r_getJ (pc := 105) E fd_13_41 wf_RX13_311 dX13_sized_105 (fun v105 => ?_)
      refine r_lconst (pc := 108) (v := 0) E dX13_sized_108 (by decide) ?_
      refine r_lcmp (pc := 109) E dX13_sized_109 ?_
      refine r_if_lt (pc := 110) (tgt := 122) E dX13_sized_110 (by decide) ?_ ?_
      · exact r_sub [] [] [0] rfl rfl rfl (hL122 p0 _)
      · refine r_aload_n (pc := 113) E dX13_sized_113 rfl 0 rfl ?_
        refine r_getJ (pc := 114) E fd_13_41 wf_RX13_311 dX13_sized_114 (fun v114 => ?_)
        refine r_lload_n (pc := 117) E dX13_sized_117 rfl 1 rfl ?_
        refine r_lcmp (pc := 118) E dX13_sized_118 ?_
        refine r_if_le (pc := 119) (tgt := 133) E dX13_sized_119 (by decide) ?_ ?_
        · exact r_sub [0, 2, 3, 4] [0] [0] rfl rfl rfl (hL133 p0 p3 p5 p7 p8 v91 _)
        · exact r_sub [] [] [0] rfl rfl rfl (hL122 p0 _)
  have hL46 : ∀ (p0 : Option Nat) (p1 : Int64) (p3 : Int32) (p4 : Int32) (p5 : Int32) (p6 : Int32) (q0 : Int32) (M : Mem), RT p l e rmX13_sized s m args below meth c x 14 (QM below args s x (fun _ : Unit => none) rmX13_sized.cells rmX13_sized.slots) 0 0 (fX13_sized_L46 p0 p1 p3 p4 p5 p6 q0 M) 46 [(3, p3), (4, p4), (5, p5), (6, p6)] [(1, p1)] [(0, p0)] [.int q0] M := by
    intro p0 p1 p3 p4 p5 p6 q0 M
    unfold fX13_sized_L46
    refine r_istore (pc := 46) (lf := fun v46 => [(7, v46), (3, p3), (4, p4), (5, p5), (6, p6)]) (lg := fun v46 => [(1, p1)]) (lk := fun v46 => [(0, p0)]) E dX13_sized_46 (by decide) (fun _ => rfl) (fun _ => rfl) (fun _ => rfl) (fun v46 => ?_)
    refine r_aload_n (pc := 48) E dX13_sized_48 rfl 0 rfl ?_
    refine r_iload (pc := 49) E dX13_sized_49 0 rfl ?_
    refine r_kVi (pc := 51) (As := [.int v46]) (rest := []) E wc_X13_wants wi_RX13 hd_X13_wants (ci := 13) rfl wl_RX13_296 wn_X13_wants ws_X13_wants dX13_sized_51 (by decide) (Nat.le_of_ble_eq_true rfl) ⟨rfl, rfl⟩ (ctX13_wants l x _ _ _) rfl (fun v51 M51 => ?_)
    refine r_if_ne (pc := 54) (tgt := 58) E dX13_sized_54 (by decide) ?_ ?_
    · refine r_aload_n (pc := 58) E dX13_sized_58 rfl 0 rfl ?_
      refine r_getI (pc := 59) E fd_13_51 wf_RX13_283 dX13_sized_59 (fun v59 => ?_)
      refine r_istore (pc := 62) (lf := fun v62 => [(8, v62), (7, v46), (3, p3), (4, p4), (5, p5), (6, p6)]) (lg := fun v62 => [(1, p1)]) (lk := fun v62 => [(0, p0)]) E dX13_sized_62 (by decide) (fun _ => rfl) (fun _ => rfl) (fun _ => rfl) (fun v62 => ?_)
      refine r_aload_n (pc := 64) E dX13_sized_64 rfl 0 rfl ?_
      refine r_getA (pc := 65) E fd_13_0 wf_RX13_7 dX13_sized_65 (fun v65 => ?_)
      refine r_aload_n (pc := 68) E dX13_sized_68 rfl 0 rfl ?_
      refine r_getI (pc := 69) E fd_13_51 wf_RX13_283 dX13_sized_69 (fun v69 => ?_)
      refine r_iload (pc := 72) E dX13_sized_72 1 rfl ?_
      refine r_kSl (pc := 74) (As := [rv x v65, .int v69, .int v46]) (rest := []) E wc_X13_eight wi_RX13 hd_X13_eight wl_RX13_175 wt_X13_eight dX13_sized_74 (by decide) (Nat.le_of_ble_eq_true rfl) ⟨rfl, rfl⟩ (ctX13_eight l x _ _ _ _) rfl (fun v74 M74 => ?_)
      refine r_iload (pc := 77) E dX13_sized_77 5 rfl ?_
      refine r_iconst (pc := 79) (v := 1) E dX13_sized_79 (by decide) ?_
      refine r_icmp_ne (pc := 80) (tgt := 89) E dX13_sized_80 (by decide) ?_ ?_
      · refine r_lconst (pc := 89) (v := 0) E dX13_sized_89 (by decide) ?_
        exact r_sub [2, 3, 4, 1, 0] [0] [0] rfl rfl rfl (hL90 p0 p1 p3 p4 p5 v46 v62 v74 0 _)
      · refine r_ldc2 (pc := 83) E wk_RX13_319 dX13_sized_83 ?_
        refine r_goto (pc := 86) (tgt := 90) E dX13_sized_86 (by decide) ?_
        exact r_sub [2, 3, 4, 1, 0] [0] [0] rfl rfl rfl (hL90 p0 p1 p3 p4 p5 v46 v62 v74 256 _)
    · exact e_void (pc := 57) E dX13_sized_57
  show RT p l e rmX13_sized s m args below meth c x 14 (QM below args s x (fun _ : Unit => none) rmX13_sized.cells rmX13_sized.slots) 0 0 (fX13_sized a0 a1 a3 a4 a5 M) 0 [(3, a3), (4, a4), (5, a5)] [(1, a1)] [(0, a0)] [] M
  unfold fX13_sized
  refine r_iload_n (pc := 0) E dX13_sized_0 rfl 0 rfl ?_
  refine r_bipush (pc := 1) (v := 6) E dX13_sized_1 (by decide) ?_
  refine r_ishr (pc := 3) E dX13_sized_3 ?_
  refine r_istore (pc := 4) (lf := fun v4 => [(6, v4), (3, a3), (4, a4), (5, a5)]) (lg := fun v4 => [(1, a1)]) (lk := fun v4 => [(0, a0)]) E dX13_sized_4 (by decide) (fun _ => rfl) (fun _ => rfl) (fun _ => rfl) (fun v4 => ?_)
  refine r_iload (pc := 6) E dX13_sized_6 0 rfl ?_
  refine r_if_ne (pc := 8) (tgt := 24) E dX13_sized_8 (by decide) ?_ ?_
  · refine r_iload (pc := 24) E dX13_sized_24 0 rfl ?_
    refine r_iconst (pc := 26) (v := 1) E dX13_sized_26 (by decide) ?_
    refine r_icmp_ne (pc := 27) (tgt := 34) E dX13_sized_27 (by decide) ?_ ?_
    · refine r_iload (pc := 34) E dX13_sized_34 0 rfl ?_
      refine r_iconst (pc := 36) (v := 2) E dX13_sized_36 (by decide) ?_
      refine r_icmp_ne (pc := 37) (tgt := 44) E dX13_sized_37 (by decide) ?_ ?_
      · refine r_bipush (pc := 44) (v := 8) E dX13_sized_44 (by decide) ?_
        exact r_sub [1, 2, 3, 0] [0] [0] rfl rfl rfl (hL46 a0 a1 a3 a4 a5 v4 8 _)
      · refine r_iconst (pc := 40) (v := 4) E dX13_sized_40 (by decide) ?_
        refine r_goto (pc := 41) (tgt := 46) E dX13_sized_41 (by decide) ?_
        exact r_sub [1, 2, 3, 0] [0] [0] rfl rfl rfl (hL46 a0 a1 a3 a4 a5 v4 4 _)
    · refine r_iconst (pc := 30) (v := 2) E dX13_sized_30 (by decide) ?_
      refine r_goto (pc := 31) (tgt := 46) E dX13_sized_31 (by decide) ?_
      exact r_sub [1, 2, 3, 0] [0] [0] rfl rfl rfl (hL46 a0 a1 a3 a4 a5 v4 2 _)
  · refine r_iload (pc := 11) E dX13_sized_11 2 rfl ?_
    refine r_if_eq (pc := 13) (tgt := 20) E dX13_sized_13 (by decide) ?_ ?_
    · refine r_iconst (pc := 20) (v := 0) E dX13_sized_20 (by decide) ?_
      refine r_goto (pc := 21) (tgt := 46) E dX13_sized_21 (by decide) ?_
      exact r_sub [1, 2, 3, 0] [0] [0] rfl rfl rfl (hL46 a0 a1 a3 a4 a5 v4 0 _)
    · refine r_iconst (pc := 16) (v := 1) E dX13_sized_16 (by decide) ?_
      refine r_goto (pc := 17) (tgt := 46) E dX13_sized_17 (by decide) ?_
      exact r_sub [1, 2, 3, 0] [0] [0] rfl rfl rfl (hL46 a0 a1 a3 a4 a5 v4 1 _)
def fX13_head_L234 (p0 : Option Nat) (p1 : Int64) (p3 : Int32) (p4 : Int32) (p5 : Int32) (p6 : Int32) (M : Mem) : Option (Unit × Mem) :=
  bo (gI M p0 13 51) fun v236 =>
  bo (pI M p0 13 51 (v236 + p5)) fun M242 =>
  bo (chk M242 p0 13) fun _ => bd (fX13_sized p0 p1 p3 p4 p6 M242) fun v252 M252 =>
  some ((), M252)
def fX13_head_L220 (p0 : Option Nat) (p1 : Int64) (p3 : Int32) (p4 : Int32) (p5 : Int32) (p6 : Int32) (q0 : Int32) (q1 : Int32) (M : Mem) : Option (Unit × Mem) :=
  if q0 = q1 then (
    fX13_head_L234 p0 p1 p3 p4 p5 p6 M
  ) else (
    bo (gI M p0 13 51) fun v226 =>
    bo (chk M p0 13) fun _ => bd (fX13_fails p0 5 v226 M) fun v229 M229 =>
    some ((), M229)
  )
def fX13_head_L170 (p0 : Option Nat) (p1 : Int64) (p3 : Int32) (p4 : Int32) (q0 : Int32) (M : Mem) : Option (Unit × Mem) :=
  bn (q0) fun v170 =>
  bo (chk M p0 13) fun _ => bd (fX13_wants p0 v170 M) fun v175 M175 =>
  if v175 = 0 then (
    some ((), M175)
  ) else (
    bo (gR M175 p0 13 0) fun v183 =>
    bo (gI M175 p0 13 51) fun v187 =>
    bd (fX13_eight v183 v187 v170 M175) fun v192 M192 =>
    bn (v192.toInt32) fun v196 =>
    if v196 = 0 then (
      fX13_head_L234 p0 p1 p3 p4 v170 v196 M192
    ) else (
      bo (gI M192 p0 13 27) fun v206 =>
      if v206 = 0 then (
        fX13_head_L220 p0 p1 p3 p4 v170 v196 v196 0 M192
      ) else (
        bo (gI M192 p0 13 29) fun v213 =>
        fX13_head_L220 p0 p1 p3 p4 v170 v196 v196 v213 M192
      )
    )
  )
def fX13_head_L156 (p0 : Option Nat) (p1 : Int64) (p3 : Int32) (p4 : Int32) (M : Mem) : Option (Unit × Mem) :=
  if (p3 &&& 3) = 3 then (
    fX13_head_L170 p0 p1 p3 p4 4 M
  ) else (
    fX13_head_L170 p0 p1 p3 p4 (p3 &&& 3) M
  )
def fX13_head_L63 (p0 : Option Nat) (p1 : Int64) (p3 : Int32) (q0 : Int32) (M : Mem) : Option (Unit × Mem) :=
  bn (q0) fun v63 =>
  if v63 = 0 then (
    bo (chk M p0 13) fun _ => bd (fX13_wants p0 1 M) fun v72 M72 =>
    if v72 = 0 then (
      some ((), M72)
    ) else (
      bo (gR M72 p0 13 0) fun v80 =>
      bo (gI M72 p0 13 51) fun v84 =>
      bo (aI M72 v80 14 v84) fun v87 =>
      bn (v87 &&& 255) fun v92 =>
      bo (dv v92 8) fun v101 =>
      bn (shlJ 1 (10 + v101)) fun v104 =>
      bo (rm v92 8) fun v113 =>
      bo (dvL v104 8) fun v120 =>
      bo (pJ M72 p0 13 41 (v104 + (v113.toInt64 * v120))) fun M123 =>
      bo (gJ M123 p0 13 41) fun v127 =>
      if (lg_cmp v127 p1) ≤ 0 then (
        bo (gI M123 p0 13 51) fun v148 =>
        bo (pI M123 p0 13 51 (v148 + 1)) fun M153 =>
        fX13_head_L156 p0 p1 p3 v63 M153
      ) else (
        bo (gI M123 p0 13 51) fun v138 =>
        bo (chk M123 p0 13) fun _ => bd (fX13_fails p0 4 v138 M123) fun v141 M141 =>
        some ((), M141)
      )
    )
  ) else (
    fX13_head_L156 p0 p1 p3 v63 M
  )
def fX13_head (a0 : Option Nat) (a1 : Int64) (M : Mem) : Option (Unit × Mem) :=
  bo (chk M a0 13) fun _ => bd (fX13_wants a0 1 M) fun v2 M2 =>
  if v2 = 0 then (
    some ((), M2)
  ) else (
    bo (gR M2 a0 13 0) fun v10 =>
    bo (gI M2 a0 13 51) fun v14 =>
    bo (aI M2 v10 14 v14) fun v17 =>
    bn (v17 &&& 255) fun v22 =>
    if (v22 &&& 8) ≤ 0 then (
      bo (gI M2 a0 13 51) fun v43 =>
      bo (pI M2 a0 13 51 (v43 + 1)) fun M48 =>
      if (v22 &&& 32) ≤ 0 then (
        fX13_head_L63 a0 a1 v22 0 M48
      ) else (
        fX13_head_L63 a0 a1 v22 1 M48
      )
    ) else (
      bo (gI M2 a0 13 51) fun v33 =>
      bo (chk M2 a0 13) fun _ => bd (fX13_fails a0 3 v33 M2) fun v36 M36 =>
      some ((), M36)
    )
  )
def rmX13_head : Room := { frames := 8, cells := 0, slots := 0, locals := 227 }
set_option maxRecDepth 100000 in
set_option maxHeartbeats 4000000 in
theorem ctX13_head (l : Launch) (x : Cx) (a0 : Option Nat) (a1 : Int64) (M : Mem) (v : Unit) (N : Mem) (h : fX13_head a0 a1 M = some (v, N)) : CT l yX13_head cX13_head 8 (none) rmX13_head x [rv x a0, .long a1] M none N := by
  refine ct_mk (enc := fun _ : Unit => none) (li := []) (ll := [(1, a1)]) (lr := [(0, a0)]) (by decide +kernel) (by simp [lg_sl, rv_cat, cat_int, cat_long]) (by simp [flat, lv_args, rv_cat, cat_int, cat_long]) h ?_
  intro p e s m args below meth c E
  have hL234 : ∀ (p0 : Option Nat) (p1 : Int64) (p3 : Int32) (p4 : Int32) (p5 : Int32) (p6 : Int32) (M : Mem), RT p l e rmX13_head s m args below meth c x 8 (QM below args s x (fun _ : Unit => none) rmX13_head.cells rmX13_head.slots) 0 0 (fX13_head_L234 p0 p1 p3 p4 p5 p6 M) 234 [(3, p3), (4, p4), (5, p5), (6, p6)] [(1, p1)] [(0, p0)] [] M := by
    intro p0 p1 p3 p4 p5 p6 M
    unfold fX13_head_L234
    refine r_aload_n (pc := 234) E dX13_head_234 rfl 0 rfl ?_
    refine r_dup (pc := 235) E dX13_head_235 (rv_cat _ _) ?_
    refine r_getI (pc := 236) E fd_13_51 wf_RX13_283 dX13_head_236 (fun v236 => ?_)
    refine r_iload (pc := 239) E dX13_head_239 2 rfl ?_
    refine r_iadd (pc := 241) E dX13_head_241 ?_
    refine r_putI (pc := 242) E fd_13_51 wf_RX13_283 dX13_head_242 (Or.inl rfl) (fun M242 => ?_)
    refine r_aload_n (pc := 245) E dX13_head_245 rfl 0 rfl ?_
    refine r_lload_n (pc := 246) E dX13_head_246 rfl 0 rfl ?_
    refine r_iload_n (pc := 247) E dX13_head_247 rfl 0 rfl ?_
    refine r_iload (pc := 248) E dX13_head_248 1 rfl ?_
    refine r_iload (pc := 250) E dX13_head_250 3 rfl ?_
    refine r_kVv (pc := 252) (As := [.long p1, .int p3, .int p4, .int p6]) (rest := []) E wc_X13_sized wi_RX13 hd_X13_sized (ci := 13) rfl wl_RX13_315 wn_X13_sized ws_X13_sized dX13_head_252 (by decide) (Nat.le_of_ble_eq_true rfl) ⟨rfl, rfl⟩ (ctX13_sized l x _ _ _ _ _ _) rfl (fun v252 M252 => ?_)
    exact e_void (pc := 255) E dX13_head_255
  have hL220 : ∀ (p0 : Option Nat) (p1 : Int64) (p3 : Int32) (p4 : Int32) (p5 : Int32) (p6 : Int32) (q0 : Int32) (q1 : Int32) (M : Mem), RT p l e rmX13_head s m args below meth c x 8 (QM below args s x (fun _ : Unit => none) rmX13_head.cells rmX13_head.slots) 0 0 (fX13_head_L220 p0 p1 p3 p4 p5 p6 q0 q1 M) 220 [(3, p3), (4, p4), (5, p5), (6, p6)] [(1, p1)] [(0, p0)] [.int q1, .int q0] M := by
    intro p0 p1 p3 p4 p5 p6 q0 q1 M
    unfold fX13_head_L220
    refine r_icmp_eq (pc := 220) (tgt := 234) E dX13_head_220 (by decide) ?_ ?_
    · exact r_sub [0, 1, 2, 3] [0] [0] rfl rfl rfl (hL234 p0 p1 p3 p4 p5 p6 _)
    · refine r_aload_n (pc := 223) E dX13_head_223 rfl 0 rfl ?_
      refine r_iconst (pc := 224) (v := 5) E dX13_head_224 (by decide) ?_
      refine r_aload_n (pc := 225) E dX13_head_225 rfl 0 rfl ?_
      refine r_getI (pc := 226) E fd_13_51 wf_RX13_283 dX13_head_226 (fun v226 => ?_)
      refine r_kVi (pc := 229) (As := [.int 5, .int v226]) (rest := []) E wc_X13_fails wi_RX13 hd_X13_fails (ci := 13) rfl wl_RX13_263 wn_X13_fails ws_X13_fails dX13_head_229 (by decide) (Nat.le_of_ble_eq_true rfl) ⟨rfl, rfl⟩ (ctX13_fails l x _ _ _ _) rfl (fun v229 M229 => ?_)
      refine r_pop (pc := 232) E dX13_head_232 rfl ?_
      exact e_void (pc := 233) E dX13_head_233
  have hL170 : ∀ (p0 : Option Nat) (p1 : Int64) (p3 : Int32) (p4 : Int32) (q0 : Int32) (M : Mem), RT p l e rmX13_head s m args below meth c x 8 (QM below args s x (fun _ : Unit => none) rmX13_head.cells rmX13_head.slots) 0 0 (fX13_head_L170 p0 p1 p3 p4 q0 M) 170 [(3, p3), (4, p4)] [(1, p1)] [(0, p0)] [.int q0] M := by
    intro p0 p1 p3 p4 q0 M
    unfold fX13_head_L170
    refine r_istore (pc := 170) (lf := fun v170 => [(5, v170), (3, p3), (4, p4)]) (lg := fun v170 => [(1, p1)]) (lk := fun v170 => [(0, p0)]) E dX13_head_170 (by decide) (fun _ => rfl) (fun _ => rfl) (fun _ => rfl) (fun v170 => ?_)
    refine r_aload_n (pc := 172) E dX13_head_172 rfl 0 rfl ?_
    refine r_iload (pc := 173) E dX13_head_173 0 rfl ?_
    refine r_kVi (pc := 175) (As := [.int v170]) (rest := []) E wc_X13_wants wi_RX13 hd_X13_wants (ci := 13) rfl wl_RX13_296 wn_X13_wants ws_X13_wants dX13_head_175 (by decide) (Nat.le_of_ble_eq_true rfl) ⟨rfl, rfl⟩ (ctX13_wants l x _ _ _) rfl (fun v175 M175 => ?_)
    refine r_if_ne (pc := 178) (tgt := 182) E dX13_head_178 (by decide) ?_ ?_
    · refine r_aload_n (pc := 182) E dX13_head_182 rfl 0 rfl ?_
      refine r_getA (pc := 183) E fd_13_0 wf_RX13_7 dX13_head_183 (fun v183 => ?_)
      refine r_aload_n (pc := 186) E dX13_head_186 rfl 0 rfl ?_
      refine r_getI (pc := 187) E fd_13_51 wf_RX13_283 dX13_head_187 (fun v187 => ?_)
      refine r_iload (pc := 190) E dX13_head_190 0 rfl ?_
      refine r_kSl (pc := 192) (As := [rv x v183, .int v187, .int v170]) (rest := []) E wc_X13_eight wi_RX13 hd_X13_eight wl_RX13_175 wt_X13_eight dX13_head_192 (by decide) (Nat.le_of_ble_eq_true rfl) ⟨rfl, rfl⟩ (ctX13_eight l x _ _ _ _) rfl (fun v192 M192 => ?_)
      refine r_l2i (pc := 195) E dX13_head_195 ?_
      refine r_istore (pc := 196) (lf := fun v196 => [(6, v196), (5, v170), (3, p3), (4, p4)]) (lg := fun v196 => [(1, p1)]) (lk := fun v196 => [(0, p0)]) E dX13_head_196 (by decide) (fun _ => rfl) (fun _ => rfl) (fun _ => rfl) (fun v196 => ?_)
      refine r_iload (pc := 198) E dX13_head_198 0 rfl ?_
      refine r_if_eq (pc := 200) (tgt := 234) E dX13_head_200 (by decide) ?_ ?_
      · exact r_sub [2, 3, 1, 0] [0] [0] rfl rfl rfl (hL234 p0 p1 p3 p4 v170 v196 _)
      · refine r_iload (pc := 203) E dX13_head_203 0 rfl ?_
        refine r_aload_n (pc := 205) E dX13_head_205 rfl 0 rfl ?_
        refine r_getZ (pc := 206) E fd_13_27 wf_RX13_245 dX13_head_206 (fun v206 => ?_)
        refine r_if_eq (pc := 209) (tgt := 219) E dX13_head_209 (by decide) ?_ ?_
        · refine r_iconst (pc := 219) (v := 0) E dX13_head_219 (by decide) ?_
          exact r_sub [2, 3, 1, 0] [0] [0] rfl rfl rfl (hL220 p0 p1 p3 p4 v170 v196 v196 0 _)
        · refine r_aload_n (pc := 212) E dX13_head_212 rfl 0 rfl ?_
          refine r_getI (pc := 213) E fd_13_29 wf_RX13_251 dX13_head_213 (fun v213 => ?_)
          refine r_goto (pc := 216) (tgt := 220) E dX13_head_216 (by decide) ?_
          exact r_sub [2, 3, 1, 0] [0] [0] rfl rfl rfl (hL220 p0 p1 p3 p4 v170 v196 v196 v213 _)
    · exact e_void (pc := 181) E dX13_head_181
  have hL156 : ∀ (p0 : Option Nat) (p1 : Int64) (p3 : Int32) (p4 : Int32) (M : Mem), RT p l e rmX13_head s m args below meth c x 8 (QM below args s x (fun _ : Unit => none) rmX13_head.cells rmX13_head.slots) 0 0 (fX13_head_L156 p0 p1 p3 p4 M) 156 [(3, p3), (4, p4)] [(1, p1)] [(0, p0)] [] M := by
    intro p0 p1 p3 p4 M
    unfold fX13_head_L156
    refine r_iload_n (pc := 156) E dX13_head_156 rfl 0 rfl ?_
    refine r_iconst (pc := 157) (v := 3) E dX13_head_157 (by decide) ?_
    refine r_iand (pc := 158) E dX13_head_158 ?_
    refine r_iconst (pc := 159) (v := 3) E dX13_head_159 (by decide) ?_
    refine r_icmp_ne (pc := 160) (tgt := 167) E dX13_head_160 (by decide) ?_ ?_
    · refine r_iload_n (pc := 167) E dX13_head_167 rfl 0 rfl ?_
      refine r_iconst (pc := 168) (v := 3) E dX13_head_168 (by decide) ?_
      refine r_iand (pc := 169) E dX13_head_169 ?_
      exact r_sub [0, 1] [0] [0] rfl rfl rfl (hL170 p0 p1 p3 p4 (p3 &&& 3) _)
    · refine r_iconst (pc := 163) (v := 4) E dX13_head_163 (by decide) ?_
      refine r_goto (pc := 164) (tgt := 170) E dX13_head_164 (by decide) ?_
      exact r_sub [0, 1] [0] [0] rfl rfl rfl (hL170 p0 p1 p3 p4 4 _)
  have hL63 : ∀ (p0 : Option Nat) (p1 : Int64) (p3 : Int32) (q0 : Int32) (M : Mem), RT p l e rmX13_head s m args below meth c x 8 (QM below args s x (fun _ : Unit => none) rmX13_head.cells rmX13_head.slots) 0 0 (fX13_head_L63 p0 p1 p3 q0 M) 63 [(3, p3)] [(1, p1)] [(0, p0)] [.int q0] M := by
    intro p0 p1 p3 q0 M
    unfold fX13_head_L63
    refine r_istore (pc := 63) (lf := fun v63 => [(4, v63), (3, p3)]) (lg := fun v63 => [(1, p1)]) (lk := fun v63 => [(0, p0)]) E dX13_head_63 (by decide) (fun _ => rfl) (fun _ => rfl) (fun _ => rfl) (fun v63 => ?_)
    refine r_iload (pc := 65) E dX13_head_65 0 rfl ?_
    refine r_if_ne (pc := 67) (tgt := 156) E dX13_head_67 (by decide) ?_ ?_
    · exact r_sub [1, 0] [0] [0] rfl rfl rfl (hL156 p0 p1 p3 v63 _)
    · refine r_aload_n (pc := 70) E dX13_head_70 rfl 0 rfl ?_
      refine r_iconst (pc := 71) (v := 1) E dX13_head_71 (by decide) ?_
      refine r_kVi (pc := 72) (As := [.int 1]) (rest := []) E wc_X13_wants wi_RX13 hd_X13_wants (ci := 13) rfl wl_RX13_296 wn_X13_wants ws_X13_wants dX13_head_72 (by decide) (Nat.le_of_ble_eq_true rfl) ⟨rfl, rfl⟩ (ctX13_wants l x _ _ _) rfl (fun v72 M72 => ?_)
      refine r_if_ne (pc := 75) (tgt := 79) E dX13_head_75 (by decide) ?_ ?_
      · refine r_aload_n (pc := 79) E dX13_head_79 rfl 0 rfl ?_
        refine r_getA (pc := 80) E fd_13_0 wf_RX13_7 dX13_head_80 (fun v80 => ?_)
        refine r_aload_n (pc := 83) E dX13_head_83 rfl 0 rfl ?_
        refine r_getI (pc := 84) E fd_13_51 wf_RX13_283 dX13_head_84 (fun v84 => ?_)
        refine r_baload (pc := 87) E dX13_head_87 (fun v87 => ?_)
        refine r_sipush (pc := 88) (v := 255) E dX13_head_88 (by decide) ?_
        refine r_iand (pc := 91) E dX13_head_91 ?_
        refine r_istore (pc := 92) (lf := fun v92 => [(5, v92), (4, v63), (3, p3)]) (lg := fun v92 => [(1, p1)]) (lk := fun v92 => [(0, p0)]) E dX13_head_92 (by decide) (fun _ => rfl) (fun _ => rfl) (fun _ => rfl) (fun v92 => ?_)
        refine r_lconst (pc := 94) (v := 1) E dX13_head_94 (by decide) ?_
        refine r_bipush (pc := 95) (v := 10) E dX13_head_95 (by decide) ?_
        refine r_iload (pc := 97) E dX13_head_97 0 rfl ?_
        refine r_bipush (pc := 99) (v := 8) E dX13_head_99 (by decide) ?_
        refine r_idiv (pc := 101) E dX13_head_101 (fun v101 => ?_)
        refine r_iadd (pc := 102) E dX13_head_102 ?_
        refine r_lshl (pc := 103) E dX13_head_103 ?_
        refine r_lstore (pc := 104) (lf := fun v104 => [(5, v92), (4, v63), (3, p3)]) (lg := fun v104 => [(6, v104), (1, p1)]) (lk := fun v104 => [(0, p0)]) E dX13_head_104 (by decide) (fun _ => rfl) (fun _ => rfl) (fun _ => rfl) (fun v104 => ?_)
        refine r_aload_n (pc := 106) E dX13_head_106 rfl 0 rfl ?_
        refine r_lload (pc := 107) E dX13_head_107 0 rfl ?_
        refine r_iload (pc := 109) E dX13_head_109 0 rfl ?_
        refine r_bipush (pc := 111) (v := 8) E dX13_head_111 (by decide) ?_
        refine r_irem (pc := 113) E dX13_head_113 (fun v113 => ?_)
        refine r_i2l (pc := 114) E dX13_head_114 ?_
        refine r_lload (pc := 115) E dX13_head_115 0 rfl ?_
        refine r_ldc2 (pc := 117) E wk_RX13_309 dX13_head_117 ?_
        refine r_ldiv (pc := 120) E dX13_head_120 (fun v120 => ?_)
        refine r_lmul (pc := 121) E dX13_head_121 ?_
        refine r_ladd (pc := 122) E dX13_head_122 ?_
        refine r_putJ (pc := 123) E fd_13_41 wf_RX13_311 dX13_head_123 (Or.inl rfl) (fun M123 => ?_)
        refine r_aload_n (pc := 126) E dX13_head_126 rfl 0 rfl ?_
        refine r_getJ (pc := 127) E fd_13_41 wf_RX13_311 dX13_head_127 (fun v127 => ?_)
        refine r_lload_n (pc := 130) E dX13_head_130 rfl 1 rfl ?_
        refine r_lcmp (pc := 131) E dX13_head_131 ?_
        refine r_if_le (pc := 132) (tgt := 146) E dX13_head_132 (by decide) ?_ ?_
        · refine r_aload_n (pc := 146) E dX13_head_146 rfl 0 rfl ?_
          refine r_dup (pc := 147) E dX13_head_147 (rv_cat _ _) ?_
          refine r_getI (pc := 148) E fd_13_51 wf_RX13_283 dX13_head_148 (fun v148 => ?_)
          refine r_iconst (pc := 151) (v := 1) E dX13_head_151 (by decide) ?_
          refine r_iadd (pc := 152) E dX13_head_152 ?_
          refine r_putI (pc := 153) E fd_13_51 wf_RX13_283 dX13_head_153 (Or.inl rfl) (fun M153 => ?_)
          exact r_sub [2, 1] [1] [0] rfl rfl rfl (hL156 p0 p1 p3 v63 _)
        · refine r_aload_n (pc := 135) E dX13_head_135 rfl 0 rfl ?_
          refine r_iconst (pc := 136) (v := 4) E dX13_head_136 (by decide) ?_
          refine r_aload_n (pc := 137) E dX13_head_137 rfl 0 rfl ?_
          refine r_getI (pc := 138) E fd_13_51 wf_RX13_283 dX13_head_138 (fun v138 => ?_)
          refine r_kVi (pc := 141) (As := [.int 4, .int v138]) (rest := []) E wc_X13_fails wi_RX13 hd_X13_fails (ci := 13) rfl wl_RX13_263 wn_X13_fails ws_X13_fails dX13_head_141 (by decide) (Nat.le_of_ble_eq_true rfl) ⟨rfl, rfl⟩ (ctX13_fails l x _ _ _ _) rfl (fun v141 M141 => ?_)
          refine r_pop (pc := 144) E dX13_head_144 rfl ?_
          exact e_void (pc := 145) E dX13_head_145
      · exact e_void (pc := 78) E dX13_head_78
  show RT p l e rmX13_head s m args below meth c x 8 (QM below args s x (fun _ : Unit => none) rmX13_head.cells rmX13_head.slots) 0 0 (fX13_head a0 a1 M) 0 [] [(1, a1)] [(0, a0)] [] M
  unfold fX13_head
  refine r_aload_n (pc := 0) E dX13_head_0 rfl 0 rfl ?_
  refine r_iconst (pc := 1) (v := 1) E dX13_head_1 (by decide) ?_
  refine r_kVi (pc := 2) (As := [.int 1]) (rest := []) E wc_X13_wants wi_RX13 hd_X13_wants (ci := 13) rfl wl_RX13_296 wn_X13_wants ws_X13_wants dX13_head_2 (by decide) (Nat.le_of_ble_eq_true rfl) ⟨rfl, rfl⟩ (ctX13_wants l x _ _ _) rfl (fun v2 M2 => ?_)
  refine r_if_ne (pc := 5) (tgt := 9) E dX13_head_5 (by decide) ?_ ?_
  · refine r_aload_n (pc := 9) E dX13_head_9 rfl 0 rfl ?_
    refine r_getA (pc := 10) E fd_13_0 wf_RX13_7 dX13_head_10 (fun v10 => ?_)
    refine r_aload_n (pc := 13) E dX13_head_13 rfl 0 rfl ?_
    refine r_getI (pc := 14) E fd_13_51 wf_RX13_283 dX13_head_14 (fun v14 => ?_)
    refine r_baload (pc := 17) E dX13_head_17 (fun v17 => ?_)
    refine r_sipush (pc := 18) (v := 255) E dX13_head_18 (by decide) ?_
    refine r_iand (pc := 21) E dX13_head_21 ?_
    refine r_istore_n (pc := 22) (lf := fun v22 => [(3, v22)]) (lg := fun v22 => [(1, a1)]) (lk := fun v22 => [(0, a0)]) E dX13_head_22 rfl (by decide) (fun _ => rfl) (fun _ => rfl) (fun _ => rfl) (fun v22 => ?_)
    refine r_iload_n (pc := 23) E dX13_head_23 rfl 0 rfl ?_
    refine r_bipush (pc := 24) (v := 8) E dX13_head_24 (by decide) ?_
    refine r_iand (pc := 26) E dX13_head_26 ?_
    refine r_if_le (pc := 27) (tgt := 41) E dX13_head_27 (by decide) ?_ ?_
    · refine r_aload_n (pc := 41) E dX13_head_41 rfl 0 rfl ?_
      refine r_dup (pc := 42) E dX13_head_42 (rv_cat _ _) ?_
      refine r_getI (pc := 43) E fd_13_51 wf_RX13_283 dX13_head_43 (fun v43 => ?_)
      refine r_iconst (pc := 46) (v := 1) E dX13_head_46 (by decide) ?_
      refine r_iadd (pc := 47) E dX13_head_47 ?_
      refine r_putI (pc := 48) E fd_13_51 wf_RX13_283 dX13_head_48 (Or.inl rfl) (fun M48 => ?_)
      refine r_iload_n (pc := 51) E dX13_head_51 rfl 0 rfl ?_
      refine r_bipush (pc := 52) (v := 32) E dX13_head_52 (by decide) ?_
      refine r_iand (pc := 54) E dX13_head_54 ?_
      refine r_if_le (pc := 55) (tgt := 62) E dX13_head_55 (by decide) ?_ ?_
      · refine r_iconst (pc := 62) (v := 0) E dX13_head_62 (by decide) ?_
        exact r_sub [0] [0] [0] rfl rfl rfl (hL63 a0 a1 v22 0 _)
      · refine r_iconst (pc := 58) (v := 1) E dX13_head_58 (by decide) ?_
        refine r_goto (pc := 59) (tgt := 63) E dX13_head_59 (by decide) ?_
        exact r_sub [0] [0] [0] rfl rfl rfl (hL63 a0 a1 v22 1 _)
    · refine r_aload_n (pc := 30) E dX13_head_30 rfl 0 rfl ?_
      refine r_iconst (pc := 31) (v := 3) E dX13_head_31 (by decide) ?_
      refine r_aload_n (pc := 32) E dX13_head_32 rfl 0 rfl ?_
      refine r_getI (pc := 33) E fd_13_51 wf_RX13_283 dX13_head_33 (fun v33 => ?_)
      refine r_kVi (pc := 36) (As := [.int 3, .int v33]) (rest := []) E wc_X13_fails wi_RX13 hd_X13_fails (ci := 13) rfl wl_RX13_263 wn_X13_fails ws_X13_fails dX13_head_36 (by decide) (Nat.le_of_ble_eq_true rfl) ⟨rfl, rfl⟩ (ctX13_fails l x _ _ _ _) rfl (fun v36 M36 => ?_)
      refine r_pop (pc := 39) E dX13_head_39 rfl ?_
      exact e_void (pc := 40) E dX13_head_40
  · exact e_void (pc := 8) E dX13_head_8
def fX13_frame_L166 (M : Mem) : Option (Unit × Mem) :=
  some ((), M)
def fX13_frame_L142 (p0 : Option Nat) (p1 : Int64) (p3 : Int32) (p4 : Int64) (M : Mem) : Option (Unit × Mem) :=
  if (lg_cmp p4 4247762216) = 0 then (
    bo (chk M p0 13) fun _ => bd (fX13_head p0 p1 M) fun v163 M163 =>
    fX13_frame_L166 M163
  ) else (
    bo (chk M p0 13) fun _ => bd (fX13_fails p0 2 p3 M) fun v154 M154 =>
    fX13_frame_L166 M154
  )
def fX13_frame (a0 : Option Nat) (a1 : Int64) (M : Mem) : Option (Unit × Mem) :=
  bo (gI M a0 13 51) fun v1 =>
  bn (v1) fun v4 =>
  bo (chk M a0 13) fun _ => bd (fX13_wants a0 4 M) fun v7 M7 =>
  if v7 = 0 then (
    some ((), M7)
  ) else (
    bo (gR M7 a0 13 0) fun v15 =>
    bo (gI M7 a0 13 51) fun v19 =>
    bd (fX13_eight v15 v19 4 M7) fun v23 M23 =>
    bn (v23) fun v26 =>
    bo (gI M23 a0 13 51) fun v30 =>
    bo (pI M23 a0 13 51 (v30 + 4)) fun M35 =>
    if (lg_cmp v26 407710288) < 0 then (
      fX13_frame_L142 a0 a1 v4 v26 M35
    ) else (
      if 0 < (lg_cmp v26 407710303) then (
        fX13_frame_L142 a0 a1 v4 v26 M35
      ) else (
        bo (chk M35 a0 13) fun _ => bd (fX13_wants a0 4 M35) fun v58 M58 =>
        if v58 = 0 then (
          some ((), M58)
        ) else (
          bo (gR M58 a0 13 0) fun v66 =>
          bo (gI M58 a0 13 51) fun v70 =>
          bd (fX13_eight v66 v70 4 M58) fun v74 M74 =>
          bn (v74) fun v77 =>
          bo (gI M74 a0 13 51) fun v81 =>
          bo (pI M74 a0 13 51 (v81 + 4)) fun M86 =>
          bo (gI M86 a0 13 1) fun v90 =>
          bo (gI M86 a0 13 51) fun v94 =>
          if 0 ≤ (lg_cmp ((v90 - v94).toInt64) v77) then (
            bo (gI M86 a0 13 51) fun v118 =>
            bo (pI M86 a0 13 51 (v118 + v77.toInt32)) fun M125 =>
            bo (gR M125 a0 13 45) fun v129 =>
            bo (aI M125 v129 15 11) fun v135 =>
            bo (wI M125 v129 11 (v135 + 1)) fun M138 =>
            fX13_frame_L166 M138
          ) else (
            bo (gI M86 a0 13 1) fun v108 =>
            bo (chk M86 a0 13) fun _ => bd (fX13_fails a0 1 v108 M86) fun v111 M111 =>
            some ((), M111)
          )
        )
      )
    )
  )
def rmX13_frame : Room := { frames := 9, cells := 0, slots := 0, locals := 254 }
set_option maxRecDepth 100000 in
set_option maxHeartbeats 4000000 in
theorem ctX13_frame (l : Launch) (x : Cx) (a0 : Option Nat) (a1 : Int64) (M : Mem) (v : Unit) (N : Mem) (h : fX13_frame a0 a1 M = some (v, N)) : CT l yX13_frame cX13_frame 8 (none) rmX13_frame x [rv x a0, .long a1] M none N := by
  refine ct_mk (enc := fun _ : Unit => none) (li := []) (ll := [(1, a1)]) (lr := [(0, a0)]) (by decide +kernel) (by simp [lg_sl, rv_cat, cat_int, cat_long]) (by simp [flat, lv_args, rv_cat, cat_int, cat_long]) h ?_
  intro p e s m args below meth c E
  have hL166 : ∀ (M : Mem), RT p l e rmX13_frame s m args below meth c x 8 (QM below args s x (fun _ : Unit => none) rmX13_frame.cells rmX13_frame.slots) 0 0 (fX13_frame_L166 M) 166 [] [] [] [] M := by
    intro M
    unfold fX13_frame_L166
    exact e_void (pc := 166) E dX13_frame_166
  have hL142 : ∀ (p0 : Option Nat) (p1 : Int64) (p3 : Int32) (p4 : Int64) (M : Mem), RT p l e rmX13_frame s m args below meth c x 8 (QM below args s x (fun _ : Unit => none) rmX13_frame.cells rmX13_frame.slots) 0 0 (fX13_frame_L142 p0 p1 p3 p4 M) 142 [(3, p3)] [(1, p1), (4, p4)] [(0, p0)] [] M := by
    intro p0 p1 p3 p4 M
    unfold fX13_frame_L142
    refine r_lload (pc := 142) E dX13_frame_142 1 rfl ?_
    refine r_ldc2 (pc := 144) E wk_RX13_304 dX13_frame_144 ?_
    refine r_lcmp (pc := 147) E dX13_frame_147 ?_
    refine r_if_eq (pc := 148) (tgt := 161) E dX13_frame_148 (by decide) ?_ ?_
    · refine r_aload_n (pc := 161) E dX13_frame_161 rfl 0 rfl ?_
      refine r_lload_n (pc := 162) E dX13_frame_162 rfl 0 rfl ?_
      refine r_kVv (pc := 163) (As := [.long p1]) (rest := []) E wc_X13_head wi_RX13 hd_X13_head (ci := 13) rfl wl_RX13_306 wn_X13_head ws_X13_head dX13_frame_163 (by decide) (Nat.le_of_ble_eq_true rfl) ⟨rfl, rfl⟩ (ctX13_head l x _ _ _) rfl (fun v163 M163 => ?_)
      exact r_sub [] [] [] rfl rfl rfl (hL166 _)
    · refine r_aload_n (pc := 151) E dX13_frame_151 rfl 0 rfl ?_
      refine r_iconst (pc := 152) (v := 2) E dX13_frame_152 (by decide) ?_
      refine r_iload_n (pc := 153) E dX13_frame_153 rfl 0 rfl ?_
      refine r_kVi (pc := 154) (As := [.int 2, .int p3]) (rest := []) E wc_X13_fails wi_RX13 hd_X13_fails (ci := 13) rfl wl_RX13_263 wn_X13_fails ws_X13_fails dX13_frame_154 (by decide) (Nat.le_of_ble_eq_true rfl) ⟨rfl, rfl⟩ (ctX13_fails l x _ _ _ _) rfl (fun v154 M154 => ?_)
      refine r_pop (pc := 157) E dX13_frame_157 rfl ?_
      refine r_goto (pc := 158) (tgt := 166) E dX13_frame_158 (by decide) ?_
      exact r_sub [] [] [] rfl rfl rfl (hL166 _)
  show RT p l e rmX13_frame s m args below meth c x 8 (QM below args s x (fun _ : Unit => none) rmX13_frame.cells rmX13_frame.slots) 0 0 (fX13_frame a0 a1 M) 0 [] [(1, a1)] [(0, a0)] [] M
  unfold fX13_frame
  refine r_aload_n (pc := 0) E dX13_frame_0 rfl 0 rfl ?_
  refine r_getI (pc := 1) E fd_13_51 wf_RX13_283 dX13_frame_1 (fun v1 => ?_)
  refine r_istore_n (pc := 4) (lf := fun v4 => [(3, v4)]) (lg := fun v4 => [(1, a1)]) (lk := fun v4 => [(0, a0)]) E dX13_frame_4 rfl (by decide) (fun _ => rfl) (fun _ => rfl) (fun _ => rfl) (fun v4 => ?_)
  refine r_aload_n (pc := 5) E dX13_frame_5 rfl 0 rfl ?_
  refine r_iconst (pc := 6) (v := 4) E dX13_frame_6 (by decide) ?_
  refine r_kVi (pc := 7) (As := [.int 4]) (rest := []) E wc_X13_wants wi_RX13 hd_X13_wants (ci := 13) rfl wl_RX13_296 wn_X13_wants ws_X13_wants dX13_frame_7 (by decide) (Nat.le_of_ble_eq_true rfl) ⟨rfl, rfl⟩ (ctX13_wants l x _ _ _) rfl (fun v7 M7 => ?_)
  refine r_if_ne (pc := 10) (tgt := 14) E dX13_frame_10 (by decide) ?_ ?_
  · refine r_aload_n (pc := 14) E dX13_frame_14 rfl 0 rfl ?_
    refine r_getA (pc := 15) E fd_13_0 wf_RX13_7 dX13_frame_15 (fun v15 => ?_)
    refine r_aload_n (pc := 18) E dX13_frame_18 rfl 0 rfl ?_
    refine r_getI (pc := 19) E fd_13_51 wf_RX13_283 dX13_frame_19 (fun v19 => ?_)
    refine r_iconst (pc := 22) (v := 4) E dX13_frame_22 (by decide) ?_
    refine r_kSl (pc := 23) (As := [rv x v15, .int v19, .int 4]) (rest := []) E wc_X13_eight wi_RX13 hd_X13_eight wl_RX13_175 wt_X13_eight dX13_frame_23 (by decide) (Nat.le_of_ble_eq_true rfl) ⟨rfl, rfl⟩ (ctX13_eight l x _ _ _ _) rfl (fun v23 M23 => ?_)
    refine r_lstore (pc := 26) (lf := fun v26 => [(3, v4)]) (lg := fun v26 => [(4, v26), (1, a1)]) (lk := fun v26 => [(0, a0)]) E dX13_frame_26 (by decide) (fun _ => rfl) (fun _ => rfl) (fun _ => rfl) (fun v26 => ?_)
    refine r_aload_n (pc := 28) E dX13_frame_28 rfl 0 rfl ?_
    refine r_dup (pc := 29) E dX13_frame_29 (rv_cat _ _) ?_
    refine r_getI (pc := 30) E fd_13_51 wf_RX13_283 dX13_frame_30 (fun v30 => ?_)
    refine r_iconst (pc := 33) (v := 4) E dX13_frame_33 (by decide) ?_
    refine r_iadd (pc := 34) E dX13_frame_34 ?_
    refine r_putI (pc := 35) E fd_13_51 wf_RX13_283 dX13_frame_35 (Or.inl rfl) (fun M35 => ?_)
    refine r_lload (pc := 38) E dX13_frame_38 0 rfl ?_
    refine r_ldc2 (pc := 40) E wk_RX13_300 dX13_frame_40 ?_
    refine r_lcmp (pc := 43) E dX13_frame_43 ?_
    refine r_if_lt (pc := 44) (tgt := 142) E dX13_frame_44 (by decide) ?_ ?_
    · exact r_sub [0] [1, 0] [0] rfl rfl rfl (hL142 a0 a1 v4 v26 _)
    · refine r_lload (pc := 47) E dX13_frame_47 0 rfl ?_
      refine r_ldc2 (pc := 49) E wk_RX13_302 dX13_frame_49 ?_
      refine r_lcmp (pc := 52) E dX13_frame_52 ?_
      refine r_if_gt (pc := 53) (tgt := 142) E dX13_frame_53 (by decide) ?_ ?_
      · exact r_sub [0] [1, 0] [0] rfl rfl rfl (hL142 a0 a1 v4 v26 _)
      · refine r_aload_n (pc := 56) E dX13_frame_56 rfl 0 rfl ?_
        refine r_iconst (pc := 57) (v := 4) E dX13_frame_57 (by decide) ?_
        refine r_kVi (pc := 58) (As := [.int 4]) (rest := []) E wc_X13_wants wi_RX13 hd_X13_wants (ci := 13) rfl wl_RX13_296 wn_X13_wants ws_X13_wants dX13_frame_58 (by decide) (Nat.le_of_ble_eq_true rfl) ⟨rfl, rfl⟩ (ctX13_wants l x _ _ _) rfl (fun v58 M58 => ?_)
        refine r_if_ne (pc := 61) (tgt := 65) E dX13_frame_61 (by decide) ?_ ?_
        · refine r_aload_n (pc := 65) E dX13_frame_65 rfl 0 rfl ?_
          refine r_getA (pc := 66) E fd_13_0 wf_RX13_7 dX13_frame_66 (fun v66 => ?_)
          refine r_aload_n (pc := 69) E dX13_frame_69 rfl 0 rfl ?_
          refine r_getI (pc := 70) E fd_13_51 wf_RX13_283 dX13_frame_70 (fun v70 => ?_)
          refine r_iconst (pc := 73) (v := 4) E dX13_frame_73 (by decide) ?_
          refine r_kSl (pc := 74) (As := [rv x v66, .int v70, .int 4]) (rest := []) E wc_X13_eight wi_RX13 hd_X13_eight wl_RX13_175 wt_X13_eight dX13_frame_74 (by decide) (Nat.le_of_ble_eq_true rfl) ⟨rfl, rfl⟩ (ctX13_eight l x _ _ _ _) rfl (fun v74 M74 => ?_)
          refine r_lstore (pc := 77) (lf := fun v77 => [(3, v4)]) (lg := fun v77 => [(6, v77), (4, v26), (1, a1)]) (lk := fun v77 => [(0, a0)]) E dX13_frame_77 (by decide) (fun _ => rfl) (fun _ => rfl) (fun _ => rfl) (fun v77 => ?_)
          refine r_aload_n (pc := 79) E dX13_frame_79 rfl 0 rfl ?_
          refine r_dup (pc := 80) E dX13_frame_80 (rv_cat _ _) ?_
          refine r_getI (pc := 81) E fd_13_51 wf_RX13_283 dX13_frame_81 (fun v81 => ?_)
          refine r_iconst (pc := 84) (v := 4) E dX13_frame_84 (by decide) ?_
          refine r_iadd (pc := 85) E dX13_frame_85 ?_
          refine r_putI (pc := 86) E fd_13_51 wf_RX13_283 dX13_frame_86 (Or.inl rfl) (fun M86 => ?_)
          refine r_aload_n (pc := 89) E dX13_frame_89 rfl 0 rfl ?_
          refine r_getI (pc := 90) E fd_13_1 wf_RX13_150 dX13_frame_90 (fun v90 => ?_)
          refine r_aload_n (pc := 93) E dX13_frame_93 rfl 0 rfl ?_
          refine r_getI (pc := 94) E fd_13_51 wf_RX13_283 dX13_frame_94 (fun v94 => ?_)
          refine r_isub (pc := 97) E dX13_frame_97 ?_
          refine r_i2l (pc := 98) E dX13_frame_98 ?_
          refine r_lload (pc := 99) E dX13_frame_99 0 rfl ?_
          refine r_lcmp (pc := 101) E dX13_frame_101 ?_
          refine r_if_ge (pc := 102) (tgt := 116) E dX13_frame_102 (by decide) ?_ ?_
          · refine r_aload_n (pc := 116) E dX13_frame_116 rfl 0 rfl ?_
            refine r_dup (pc := 117) E dX13_frame_117 (rv_cat _ _) ?_
            refine r_getI (pc := 118) E fd_13_51 wf_RX13_283 dX13_frame_118 (fun v118 => ?_)
            refine r_lload (pc := 121) E dX13_frame_121 0 rfl ?_
            refine r_l2i (pc := 123) E dX13_frame_123 ?_
            refine r_iadd (pc := 124) E dX13_frame_124 ?_
            refine r_putI (pc := 125) E fd_13_51 wf_RX13_283 dX13_frame_125 (Or.inl rfl) (fun M125 => ?_)
            refine r_aload_n (pc := 128) E dX13_frame_128 rfl 0 rfl ?_
            refine r_getA (pc := 129) E fd_13_45 wf_RX13_89 dX13_frame_129 (fun v129 => ?_)
            refine r_bipush (pc := 132) (v := 11) E dX13_frame_132 (by decide) ?_
            refine r_dup2 (pc := 134) E dX13_frame_134 rfl (rv_cat _ _) ?_
            refine r_iaload (pc := 135) E dX13_frame_135 (fun v135 => ?_)
            refine r_iconst (pc := 136) (v := 1) E dX13_frame_136 (by decide) ?_
            refine r_iadd (pc := 137) E dX13_frame_137 ?_
            refine r_iastore (pc := 138) E dX13_frame_138 (fun M138 => ?_)
            refine r_goto (pc := 139) (tgt := 166) E dX13_frame_139 (by decide) ?_
            exact r_sub [] [] [] rfl rfl rfl (hL166 _)
          · refine r_aload_n (pc := 105) E dX13_frame_105 rfl 0 rfl ?_
            refine r_iconst (pc := 106) (v := 1) E dX13_frame_106 (by decide) ?_
            refine r_aload_n (pc := 107) E dX13_frame_107 rfl 0 rfl ?_
            refine r_getI (pc := 108) E fd_13_1 wf_RX13_150 dX13_frame_108 (fun v108 => ?_)
            refine r_kVi (pc := 111) (As := [.int 1, .int v108]) (rest := []) E wc_X13_fails wi_RX13 hd_X13_fails (ci := 13) rfl wl_RX13_263 wn_X13_fails ws_X13_fails dX13_frame_111 (by decide) (Nat.le_of_ble_eq_true rfl) ⟨rfl, rfl⟩ (ctX13_fails l x _ _ _ _) rfl (fun v111 M111 => ?_)
            refine r_pop (pc := 114) E dX13_frame_114 rfl ?_
            exact e_void (pc := 115) E dX13_frame_115
        · exact e_void (pc := 64) E dX13_frame_64
  · exact e_void (pc := 13) E dX13_frame_13
def fX13_open_B169 (k169 : Option Nat × Int32 → Mem → Option (Int32 × Mem)) (p0 : Option Nat) (p3 : Int32) (M : Mem) : Option (Int32 × Mem) :=
  bo (gI M p0 13 33) fun v171 =>
  if v171 ≤ p3 then (
    bo (gI M p0 13 33) fun v197 =>
    bo (pI M p0 13 3 v197) fun M200 =>
    bo (gI M200 p0 13 3) fun v204 =>
    some (v204, M200)
  ) else (
    bo (gR M p0 13 2) fun v178 =>
    bo (gR M p0 13 32) fun v183 =>
    bo (aI M v183 14 p3) fun v187 =>
    bo (wB M v178 p3 v187) fun M188 =>
    bn (p3 + 1) fun v189 =>
    k169 ((p0, v189)) M188
  )
def fX13_open_L169 (p0 : Option Nat) (p3 : Int32) (M : Mem) : Option (Int32 × Mem) :=
  lp (fun k169 (a : Option Nat × Int32) M => fX13_open_B169 k169 a.1 a.2 M) FU ((p0, p3)) M
def fX13_open_B125 (k125 : Option Nat × Int32 → Mem → Option (Int32 × Mem)) (p0 : Option Nat) (p3 : Int32) (M : Mem) : Option (Int32 × Mem) :=
  if 3 ≤ p3 then (
    bo (gI M p0 13 4) fun v153 =>
    if v153 ≤ 0 then (
      bn (0) fun v168 =>
      fX13_open_L169 p0 v168 M
    ) else (
      bo (gI M p0 13 4) fun v162 =>
      some (((-10)) - v162, M)
    )
  ) else (
    bo (gR M p0 13 45) fun v131 =>
    bo (gR M p0 13 44) fun v139 =>
    bo (aJ M v139 p3) fun v143 =>
    bo (wI M v131 (6 + p3) v143.toInt32) fun M145 =>
    bn (p3 + 1) fun v146 =>
    k125 ((p0, v146)) M145
  )
def fX13_open_L125 (p0 : Option Nat) (p3 : Int32) (M : Mem) : Option (Int32 × Mem) :=
  lp (fun k125 (a : Option Nat × Int32) M => fX13_open_B125 k125 a.1 a.2 M) FU ((p0, p3)) M
def fX13_open_L123 (p0 : Option Nat) (M : Mem) : Option (Int32 × Mem) :=
  bn (0) fun v124 =>
  fX13_open_L125 p0 v124 M
def fX13_open_B97 (k97 : Option Nat × Int64 → Mem → Option (Int32 × Mem)) (p0 : Option Nat) (p1 : Int64) (M : Mem) : Option (Int32 × Mem) :=
  bo (gI M p0 13 51) fun v98 =>
  bo (gI M p0 13 1) fun v102 =>
  if v102 ≤ v98 then (
    fX13_open_L123 p0 M
  ) else (
    bo (gI M p0 13 4) fun v109 =>
    if v109 = 0 then (
      bo (chk M p0 13) fun _ => bd (fX13_frame p0 p1 M) fun v117 M117 =>
      k97 ((p0, p1)) M117
    ) else (
      fX13_open_L123 p0 M
    )
  )
def fX13_open_L97 (p0 : Option Nat) (p1 : Int64) (M : Mem) : Option (Int32 × Mem) :=
  lp (fun k97 (a : Option Nat × Int64) M => fX13_open_B97 k97 a.1 a.2 M) FU ((p0, p1)) M
def fX13_open_B60 (k60 : Option Nat × Int64 × Int32 → Mem → Option (Int32 × Mem)) (p0 : Option Nat) (p1 : Int64) (p3 : Int32) (M : Mem) : Option (Int32 × Mem) :=
  if 3 ≤ p3 then (
    bo (gR M p0 13 21) fun v86 =>
    bo (wZ M v86 0 0) fun M91 =>
    bo (pI M91 p0 13 51 0) fun M94 =>
    fX13_open_L97 p0 p1 M94
  ) else (
    bo (gR M p0 13 18) fun v66 =>
    bo (wZ M v66 p3 0) fun M71 =>
    bo (gR M71 p0 13 44) fun v73 =>
    bo (wJ M71 v73 p3 0) fun M78 =>
    bn (p3 + 1) fun v79 =>
    k60 ((p0, p1, v79)) M78
  )
def fX13_open_L60 (p0 : Option Nat) (p1 : Int64) (p3 : Int32) (M : Mem) : Option (Int32 × Mem) :=
  lp (fun k60 (a : Option Nat × Int64 × Int32) M => fX13_open_B60 k60 a.1 a.2.1 a.2.2 M) FU ((p0, p1, p3)) M
def fX13_open_B39 (k39 : Option Nat × Int64 × Int32 → Mem → Option (Int32 × Mem)) (p0 : Option Nat) (p1 : Int64) (p3 : Int32) (M : Mem) : Option (Int32 × Mem) :=
  if 12 ≤ p3 then (
    bn (0) fun v59 =>
    fX13_open_L60 p0 p1 v59 M
  ) else (
    bo (gR M p0 13 45) fun v46 =>
    bo (wI M v46 p3 0) fun M51 =>
    bn (p3 + 1) fun v52 =>
    k39 ((p0, p1, v52)) M51
  )
def fX13_open_L39 (p0 : Option Nat) (p1 : Int64) (p3 : Int32) (M : Mem) : Option (Int32 × Mem) :=
  lp (fun k39 (a : Option Nat × Int64 × Int32) M => fX13_open_B39 k39 a.1 a.2.1 a.2.2 M) FU ((p0, p1, p3)) M
def fX13_open (a0 : Option Nat) (a1 : Int64) (M : Mem) : Option (Int32 × Mem) :=
  if 0 ≤ (lg_cmp a1 0) then (
    bo (pI M a0 13 4 0) fun M11 =>
    bo (pI M11 a0 13 5 ((-1))) fun M16 =>
    bo (gR M16 a0 13 0) fun v21 =>
    bo (pR M16 a0 13 6 v21) fun M24 =>
    bo (pI M24 a0 13 33 0) fun M29 =>
    bo (pI M29 a0 13 46 0) fun M34 =>
    bn (0) fun v38 =>
    fX13_open_L39 a0 a1 v38 M34
  ) else (
    some ((-2), M)
  )
def rmX13_open : Room := { frames := 10, cells := 0, slots := 0, locals := 281 }
set_option maxRecDepth 100000 in
set_option maxHeartbeats 4000000 in
theorem ctX13_open (l : Launch) (x : Cx) (a0 : Option Nat) (a1 : Int64) (M : Mem) (v : Int32) (N : Mem) (h : fX13_open a0 a1 M = some (v, N)) : CT l yX13_open cX13_open 4 (some (FieldType.int)) rmX13_open x [rv x a0, .long a1] M (some (.int v)) N := by
  refine ct_mk (enc := fun v : Int32 => some (.int v)) (li := []) (ll := [(1, a1)]) (lr := [(0, a0)]) (by decide +kernel) (by simp [lg_sl, rv_cat, cat_int, cat_long]) (by simp [flat, lv_args, rv_cat, cat_int, cat_long]) h ?_
  intro p e s m args below meth c E
  have hL169 : ∀ (p0 : Option Nat) (p3 : Int32) (M : Mem), RT p l e rmX13_open s m args below meth c x 4 (QM below args s x (fun v : Int32 => some (.int v)) rmX13_open.cells rmX13_open.slots) 0 0 (fX13_open_L169 p0 p3 M) 169 [(3, p3)] [] [(0, p0)] [] M := by
    intro p0 p3 M
    refine r_lp (fi := fun a : Option Nat × Int32 => [(3, a.2)]) (fl := fun a : Option Nat × Int32 => []) (fr := fun a : Option Nat × Int32 => [(0, a.1)]) (fs := fun a : Option Nat × Int32 => []) ?_ FU ((p0, p3)) M
    intro k169 hk169 a M
    obtain ⟨p0, p3⟩ := a
    show RT p l e rmX13_open s m args below meth c x 4 (QM below args s x (fun v : Int32 => some (.int v)) rmX13_open.cells rmX13_open.slots) 0 0 (fX13_open_B169 k169 p0 p3 M) 169 [(3, p3)] [] [(0, p0)] [] M
    unfold fX13_open_B169
    refine r_iload_n (pc := 169) E dX13_open_169 rfl 0 rfl ?_
    refine r_aload_n (pc := 170) E dX13_open_170 rfl 0 rfl ?_
    refine r_getI (pc := 171) E fd_13_33 wf_RX13_286 dX13_open_171 (fun v171 => ?_)
    refine r_icmp_ge (pc := 174) (tgt := 195) E dX13_open_174 (by decide) ?_ ?_
    · refine r_aload_n (pc := 195) E dX13_open_195 rfl 0 rfl ?_
      refine r_aload_n (pc := 196) E dX13_open_196 rfl 0 rfl ?_
      refine r_getI (pc := 197) E fd_13_33 wf_RX13_286 dX13_open_197 (fun v197 => ?_)
      refine r_putI (pc := 200) E fd_13_3 wf_RX13_155 dX13_open_200 (Or.inl rfl) (fun M200 => ?_)
      refine r_aload_n (pc := 203) E dX13_open_203 rfl 0 rfl ?_
      refine r_getI (pc := 204) E fd_13_3 wf_RX13_155 dX13_open_204 (fun v204 => ?_)
      exact e_int (pc := 207) E dX13_open_207
    · refine r_aload_n (pc := 177) E dX13_open_177 rfl 0 rfl ?_
      refine r_getA (pc := 178) E fd_13_2 wf_RX13_13 dX13_open_178 (fun v178 => ?_)
      refine r_iload_n (pc := 181) E dX13_open_181 rfl 0 rfl ?_
      refine r_aload_n (pc := 182) E dX13_open_182 rfl 0 rfl ?_
      refine r_getA (pc := 183) E fd_13_32 wf_RX13_71 dX13_open_183 (fun v183 => ?_)
      refine r_iload_n (pc := 186) E dX13_open_186 rfl 0 rfl ?_
      refine r_baload (pc := 187) E dX13_open_187 (fun v187 => ?_)
      refine r_bastore (pc := 188) E dX13_open_188 (fun M188 => ?_)
      refine r_iinc (pc := 189) (w := 1) (lf := fun v189 => [(3, v189)]) (ll' := []) (lr' := [(0, p0)]) E dX13_open_189 0 rfl (by decide) (by decide) (fun _ => rfl) rfl rfl (fun v189 => ?_)
      refine r_goto (pc := 192) (tgt := 169) E dX13_open_192 (by decide) ?_
      exact r_sub [0] [] [0] rfl rfl rfl (hk169 ((p0, v189)) _)
  have hL125 : ∀ (p0 : Option Nat) (p3 : Int32) (M : Mem), RT p l e rmX13_open s m args below meth c x 4 (QM below args s x (fun v : Int32 => some (.int v)) rmX13_open.cells rmX13_open.slots) 0 0 (fX13_open_L125 p0 p3 M) 125 [(3, p3)] [] [(0, p0)] [] M := by
    intro p0 p3 M
    refine r_lp (fi := fun a : Option Nat × Int32 => [(3, a.2)]) (fl := fun a : Option Nat × Int32 => []) (fr := fun a : Option Nat × Int32 => [(0, a.1)]) (fs := fun a : Option Nat × Int32 => []) ?_ FU ((p0, p3)) M
    intro k125 hk125 a M
    obtain ⟨p0, p3⟩ := a
    show RT p l e rmX13_open s m args below meth c x 4 (QM below args s x (fun v : Int32 => some (.int v)) rmX13_open.cells rmX13_open.slots) 0 0 (fX13_open_B125 k125 p0 p3 M) 125 [(3, p3)] [] [(0, p0)] [] M
    unfold fX13_open_B125
    refine r_iload_n (pc := 125) E dX13_open_125 rfl 0 rfl ?_
    refine r_iconst (pc := 126) (v := 3) E dX13_open_126 (by decide) ?_
    refine r_icmp_ge (pc := 127) (tgt := 152) E dX13_open_127 (by decide) ?_ ?_
    · refine r_aload_n (pc := 152) E dX13_open_152 rfl 0 rfl ?_
      refine r_getI (pc := 153) E fd_13_4 wf_RX13_158 dX13_open_153 (fun v153 => ?_)
      refine r_if_le (pc := 156) (tgt := 167) E dX13_open_156 (by decide) ?_ ?_
      · refine r_iconst (pc := 167) (v := 0) E dX13_open_167 (by decide) ?_
        refine r_istore_n (pc := 168) (lf := fun v168 => [(3, v168)]) (lg := fun v168 => []) (lk := fun v168 => [(0, p0)]) E dX13_open_168 rfl (by decide) (fun _ => rfl) (fun _ => rfl) (fun _ => rfl) (fun v168 => ?_)
        exact r_sub [0] [] [0] rfl rfl rfl (hL169 p0 v168 _)
      · refine r_bipush (pc := 159) (v := (-10)) E dX13_open_159 (by decide) ?_
        refine r_aload_n (pc := 161) E dX13_open_161 rfl 0 rfl ?_
        refine r_getI (pc := 162) E fd_13_4 wf_RX13_158 dX13_open_162 (fun v162 => ?_)
        refine r_isub (pc := 165) E dX13_open_165 ?_
        exact e_int (pc := 166) E dX13_open_166
    · refine r_aload_n (pc := 130) E dX13_open_130 rfl 0 rfl ?_
      refine r_getA (pc := 131) E fd_13_45 wf_RX13_89 dX13_open_131 (fun v131 => ?_)
      refine r_bipush (pc := 134) (v := 6) E dX13_open_134 (by decide) ?_
      refine r_iload_n (pc := 136) E dX13_open_136 rfl 0 rfl ?_
      refine r_iadd (pc := 137) E dX13_open_137 ?_
      refine r_aload_n (pc := 138) E dX13_open_138 rfl 0 rfl ?_
      refine r_getA (pc := 139) E fd_13_44 wf_RX13_85 dX13_open_139 (fun v139 => ?_)
      refine r_iload_n (pc := 142) E dX13_open_142 rfl 0 rfl ?_
      refine r_laload (pc := 143) E dX13_open_143 (fun v143 => ?_)
      refine r_l2i (pc := 144) E dX13_open_144 ?_
      refine r_iastore (pc := 145) E dX13_open_145 (fun M145 => ?_)
      refine r_iinc (pc := 146) (w := 1) (lf := fun v146 => [(3, v146)]) (ll' := []) (lr' := [(0, p0)]) E dX13_open_146 0 rfl (by decide) (by decide) (fun _ => rfl) rfl rfl (fun v146 => ?_)
      refine r_goto (pc := 149) (tgt := 125) E dX13_open_149 (by decide) ?_
      exact r_sub [0] [] [0] rfl rfl rfl (hk125 ((p0, v146)) _)
  have hL123 : ∀ (p0 : Option Nat) (M : Mem), RT p l e rmX13_open s m args below meth c x 4 (QM below args s x (fun v : Int32 => some (.int v)) rmX13_open.cells rmX13_open.slots) 0 0 (fX13_open_L123 p0 M) 123 [] [] [(0, p0)] [] M := by
    intro p0 M
    unfold fX13_open_L123
    refine r_iconst (pc := 123) (v := 0) E dX13_open_123 (by decide) ?_
    refine r_istore_n (pc := 124) (lf := fun v124 => [(3, v124)]) (lg := fun v124 => []) (lk := fun v124 => [(0, p0)]) E dX13_open_124 rfl (by decide) (fun _ => rfl) (fun _ => rfl) (fun _ => rfl) (fun v124 => ?_)
    exact r_sub [0] [] [0] rfl rfl rfl (hL125 p0 v124 _)
  have hL97 : ∀ (p0 : Option Nat) (p1 : Int64) (M : Mem), RT p l e rmX13_open s m args below meth c x 4 (QM below args s x (fun v : Int32 => some (.int v)) rmX13_open.cells rmX13_open.slots) 0 0 (fX13_open_L97 p0 p1 M) 97 [] [(1, p1)] [(0, p0)] [] M := by
    intro p0 p1 M
    refine r_lp (fi := fun a : Option Nat × Int64 => []) (fl := fun a : Option Nat × Int64 => [(1, a.2)]) (fr := fun a : Option Nat × Int64 => [(0, a.1)]) (fs := fun a : Option Nat × Int64 => []) ?_ FU ((p0, p1)) M
    intro k97 hk97 a M
    obtain ⟨p0, p1⟩ := a
    show RT p l e rmX13_open s m args below meth c x 4 (QM below args s x (fun v : Int32 => some (.int v)) rmX13_open.cells rmX13_open.slots) 0 0 (fX13_open_B97 k97 p0 p1 M) 97 [] [(1, p1)] [(0, p0)] [] M
    unfold fX13_open_B97
    refine r_aload_n (pc := 97) E dX13_open_97 rfl 0 rfl ?_
    refine r_getI (pc := 98) E fd_13_51 wf_RX13_283 dX13_open_98 (fun v98 => ?_)
    refine r_aload_n (pc := 101) E dX13_open_101 rfl 0 rfl ?_
    refine r_getI (pc := 102) E fd_13_1 wf_RX13_150 dX13_open_102 (fun v102 => ?_)
    refine r_icmp_ge (pc := 105) (tgt := 123) E dX13_open_105 (by decide) ?_ ?_
    · exact r_sub [] [] [0] rfl rfl rfl (hL123 p0 _)
    · refine r_aload_n (pc := 108) E dX13_open_108 rfl 0 rfl ?_
      refine r_getI (pc := 109) E fd_13_4 wf_RX13_158 dX13_open_109 (fun v109 => ?_)
      refine r_if_ne (pc := 112) (tgt := 123) E dX13_open_112 (by decide) ?_ ?_
      · exact r_sub [] [] [0] rfl rfl rfl (hL123 p0 _)
      · refine r_aload_n (pc := 115) E dX13_open_115 rfl 0 rfl ?_
        refine r_lload_n (pc := 116) E dX13_open_116 rfl 0 rfl ?_
        refine r_kVv (pc := 117) (As := [.long p1]) (rest := []) E wc_X13_frame wi_RX13 hd_X13_frame (ci := 13) rfl wl_RX13_292 wn_X13_frame ws_X13_frame dX13_open_117 (by decide) (Nat.le_of_ble_eq_true rfl) ⟨rfl, rfl⟩ (ctX13_frame l x _ _ _) rfl (fun v117 M117 => ?_)
        refine r_goto (pc := 120) (tgt := 97) E dX13_open_120 (by decide) ?_
        exact r_sub [] [0] [0] rfl rfl rfl (hk97 ((p0, p1)) _)
  have hL60 : ∀ (p0 : Option Nat) (p1 : Int64) (p3 : Int32) (M : Mem), RT p l e rmX13_open s m args below meth c x 4 (QM below args s x (fun v : Int32 => some (.int v)) rmX13_open.cells rmX13_open.slots) 0 0 (fX13_open_L60 p0 p1 p3 M) 60 [(3, p3)] [(1, p1)] [(0, p0)] [] M := by
    intro p0 p1 p3 M
    refine r_lp (fi := fun a : Option Nat × Int64 × Int32 => [(3, a.2.2)]) (fl := fun a : Option Nat × Int64 × Int32 => [(1, a.2.1)]) (fr := fun a : Option Nat × Int64 × Int32 => [(0, a.1)]) (fs := fun a : Option Nat × Int64 × Int32 => []) ?_ FU ((p0, p1, p3)) M
    intro k60 hk60 a M
    obtain ⟨p0, p1, p3⟩ := a
    show RT p l e rmX13_open s m args below meth c x 4 (QM below args s x (fun v : Int32 => some (.int v)) rmX13_open.cells rmX13_open.slots) 0 0 (fX13_open_B60 k60 p0 p1 p3 M) 60 [(3, p3)] [(1, p1)] [(0, p0)] [] M
    unfold fX13_open_B60
    refine r_iload_n (pc := 60) E dX13_open_60 rfl 0 rfl ?_
    refine r_iconst (pc := 61) (v := 3) E dX13_open_61 (by decide) ?_
    refine r_icmp_ge (pc := 62) (tgt := 85) E dX13_open_62 (by decide) ?_ ?_
    · refine r_aload_n (pc := 85) E dX13_open_85 rfl 0 rfl ?_
      refine r_getA (pc := 86) E fd_13_21 wf_RX13_50 dX13_open_86 (fun v86 => ?_)
      refine r_iconst (pc := 89) (v := 0) E dX13_open_89 (by decide) ?_
      refine r_iconst (pc := 90) (v := 0) E dX13_open_90 (by decide) ?_
      refine r_zastore (pc := 91) E dX13_open_91 (fun M91 => ?_)
      refine r_aload_n (pc := 92) E dX13_open_92 rfl 0 rfl ?_
      refine r_iconst (pc := 93) (v := 0) E dX13_open_93 (by decide) ?_
      refine r_putI (pc := 94) E fd_13_51 wf_RX13_283 dX13_open_94 (Or.inl rfl) (fun M94 => ?_)
      exact r_sub [] [0] [0] rfl rfl rfl (hL97 p0 p1 _)
    · refine r_aload_n (pc := 65) E dX13_open_65 rfl 0 rfl ?_
      refine r_getA (pc := 66) E fd_13_18 wf_RX13_40 dX13_open_66 (fun v66 => ?_)
      refine r_iload_n (pc := 69) E dX13_open_69 rfl 0 rfl ?_
      refine r_iconst (pc := 70) (v := 0) E dX13_open_70 (by decide) ?_
      refine r_zastore (pc := 71) E dX13_open_71 (fun M71 => ?_)
      refine r_aload_n (pc := 72) E dX13_open_72 rfl 0 rfl ?_
      refine r_getA (pc := 73) E fd_13_44 wf_RX13_85 dX13_open_73 (fun v73 => ?_)
      refine r_iload_n (pc := 76) E dX13_open_76 rfl 0 rfl ?_
      refine r_lconst (pc := 77) (v := 0) E dX13_open_77 (by decide) ?_
      refine r_lastore (pc := 78) E dX13_open_78 (fun M78 => ?_)
      refine r_iinc (pc := 79) (w := 1) (lf := fun v79 => [(3, v79)]) (ll' := [(1, p1)]) (lr' := [(0, p0)]) E dX13_open_79 0 rfl (by decide) (by decide) (fun _ => rfl) rfl rfl (fun v79 => ?_)
      refine r_goto (pc := 82) (tgt := 60) E dX13_open_82 (by decide) ?_
      exact r_sub [0] [0] [0] rfl rfl rfl (hk60 ((p0, p1, v79)) _)
  have hL39 : ∀ (p0 : Option Nat) (p1 : Int64) (p3 : Int32) (M : Mem), RT p l e rmX13_open s m args below meth c x 4 (QM below args s x (fun v : Int32 => some (.int v)) rmX13_open.cells rmX13_open.slots) 0 0 (fX13_open_L39 p0 p1 p3 M) 39 [(3, p3)] [(1, p1)] [(0, p0)] [] M := by
    intro p0 p1 p3 M
    refine r_lp (fi := fun a : Option Nat × Int64 × Int32 => [(3, a.2.2)]) (fl := fun a : Option Nat × Int64 × Int32 => [(1, a.2.1)]) (fr := fun a : Option Nat × Int64 × Int32 => [(0, a.1)]) (fs := fun a : Option Nat × Int64 × Int32 => []) ?_ FU ((p0, p1, p3)) M
    intro k39 hk39 a M
    obtain ⟨p0, p1, p3⟩ := a
    show RT p l e rmX13_open s m args below meth c x 4 (QM below args s x (fun v : Int32 => some (.int v)) rmX13_open.cells rmX13_open.slots) 0 0 (fX13_open_B39 k39 p0 p1 p3 M) 39 [(3, p3)] [(1, p1)] [(0, p0)] [] M
    unfold fX13_open_B39
    refine r_iload_n (pc := 39) E dX13_open_39 rfl 0 rfl ?_
    refine r_bipush (pc := 40) (v := 12) E dX13_open_40 (by decide) ?_
    refine r_icmp_ge (pc := 42) (tgt := 58) E dX13_open_42 (by decide) ?_ ?_
    · refine r_iconst (pc := 58) (v := 0) E dX13_open_58 (by decide) ?_
      refine r_istore_n (pc := 59) (lf := fun v59 => [(3, v59)]) (lg := fun v59 => [(1, p1)]) (lk := fun v59 => [(0, p0)]) E dX13_open_59 rfl (by decide) (fun _ => rfl) (fun _ => rfl) (fun _ => rfl) (fun v59 => ?_)
      exact r_sub [0] [0] [0] rfl rfl rfl (hL60 p0 p1 v59 _)
    · refine r_aload_n (pc := 45) E dX13_open_45 rfl 0 rfl ?_
      refine r_getA (pc := 46) E fd_13_45 wf_RX13_89 dX13_open_46 (fun v46 => ?_)
      refine r_iload_n (pc := 49) E dX13_open_49 rfl 0 rfl ?_
      refine r_iconst (pc := 50) (v := 0) E dX13_open_50 (by decide) ?_
      refine r_iastore (pc := 51) E dX13_open_51 (fun M51 => ?_)
      refine r_iinc (pc := 52) (w := 1) (lf := fun v52 => [(3, v52)]) (ll' := [(1, p1)]) (lr' := [(0, p0)]) E dX13_open_52 0 rfl (by decide) (by decide) (fun _ => rfl) rfl rfl (fun v52 => ?_)
      refine r_goto (pc := 55) (tgt := 39) E dX13_open_55 (by decide) ?_
      exact r_sub [0] [0] [0] rfl rfl rfl (hk39 ((p0, p1, v52)) _)
  show RT p l e rmX13_open s m args below meth c x 4 (QM below args s x (fun v : Int32 => some (.int v)) rmX13_open.cells rmX13_open.slots) 0 0 (fX13_open a0 a1 M) 0 [] [(1, a1)] [(0, a0)] [] M
  unfold fX13_open
  refine r_lload_n (pc := 0) E dX13_open_0 rfl 0 rfl ?_
  refine r_lconst (pc := 1) (v := 0) E dX13_open_1 (by decide) ?_
  refine r_lcmp (pc := 2) E dX13_open_2 ?_
  refine r_if_ge (pc := 3) (tgt := 9) E dX13_open_3 (by decide) ?_ ?_
  · refine r_aload_n (pc := 9) E dX13_open_9 rfl 0 rfl ?_
    refine r_iconst (pc := 10) (v := 0) E dX13_open_10 (by decide) ?_
    refine r_putI (pc := 11) E fd_13_4 wf_RX13_158 dX13_open_11 (Or.inl rfl) (fun M11 => ?_)
    refine r_aload_n (pc := 14) E dX13_open_14 rfl 0 rfl ?_
    refine r_iconst (pc := 15) (v := (-1)) E dX13_open_15 (by decide) ?_
    refine r_putI (pc := 16) E fd_13_5 wf_RX13_16 dX13_open_16 (Or.inl rfl) (fun M16 => ?_)
    refine r_aload_n (pc := 19) E dX13_open_19 rfl 0 rfl ?_
    refine r_aload_n (pc := 20) E dX13_open_20 rfl 0 rfl ?_
    refine r_getA (pc := 21) E fd_13_0 wf_RX13_7 dX13_open_21 (fun v21 => ?_)
    refine r_putA (pc := 24) E fd_13_6 wf_RX13_20 dX13_open_24 (Or.inl rfl) (fun M24 => ?_)
    refine r_aload_n (pc := 27) E dX13_open_27 rfl 0 rfl ?_
    refine r_iconst (pc := 28) (v := 0) E dX13_open_28 (by decide) ?_
    refine r_putI (pc := 29) E fd_13_33 wf_RX13_286 dX13_open_29 (Or.inl rfl) (fun M29 => ?_)
    refine r_aload_n (pc := 32) E dX13_open_32 rfl 0 rfl ?_
    refine r_iconst (pc := 33) (v := 0) E dX13_open_33 (by decide) ?_
    refine r_putI (pc := 34) E fd_13_46 wf_RX13_289 dX13_open_34 (Or.inl rfl) (fun M34 => ?_)
    refine r_iconst (pc := 37) (v := 0) E dX13_open_37 (by decide) ?_
    refine r_istore_n (pc := 38) (lf := fun v38 => [(3, v38)]) (lg := fun v38 => [(1, a1)]) (lk := fun v38 => [(0, a0)]) E dX13_open_38 rfl (by decide) (fun _ => rfl) (fun _ => rfl) (fun _ => rfl) (fun v38 => ?_)
    exact r_sub [0] [0] [0] rfl rfl rfl (hL39 a0 a1 v38 _)
  · refine r_bipush (pc := 6) (v := (-2)) E dX13_open_6 (by decide) ?_
    exact e_int (pc := 8) E dX13_open_8
def fX13_told_L21 (q0 : Int32) (M : Mem) : Option (Int32 × Mem) :=
  some (q0, M)
def fX13_told_L10 (M : Mem) : Option (Int32 × Mem) :=
  fX13_told_L21 ((-2)) M
def fX13_told (a0 : Option Nat) (a1 : Int32) (M : Mem) : Option (Int32 × Mem) :=
  if a1 < 0 then (
    fX13_told_L10 M
  ) else (
    if a1 ≤ 11 then (
      bo (gR M a0 13 45) fun v16 =>
      bo (aI M v16 15 a1) fun v20 =>
      fX13_told_L21 v20 M
    ) else (
      fX13_told_L10 M
    )
  )
def rmX13_told : Room := { frames := 0, cells := 0, slots := 0, locals := 0 }
set_option maxRecDepth 100000 in
set_option maxHeartbeats 4000000 in
theorem ctX13_told (l : Launch) (x : Cx) (a0 : Option Nat) (a1 : Int32) (M : Mem) (v : Int32) (N : Mem) (h : fX13_told a0 a1 M = some (v, N)) : CT l yX13_told cX13_told 2 (some (FieldType.int)) rmX13_told x [rv x a0, .int a1] M (some (.int v)) N := by
  refine ct_mk (enc := fun v : Int32 => some (.int v)) (li := [(1, a1)]) (ll := []) (lr := [(0, a0)]) (by decide +kernel) (by simp [lg_sl, rv_cat, cat_int, cat_long]) (by simp [flat, lv_args, rv_cat, cat_int, cat_long]) h ?_
  intro p e s m args below meth c E
  have hL21 : ∀ (q0 : Int32) (M : Mem), RT p l e rmX13_told s m args below meth c x 2 (QM below args s x (fun v : Int32 => some (.int v)) rmX13_told.cells rmX13_told.slots) 0 0 (fX13_told_L21 q0 M) 21 [] [] [] [.int q0] M := by
    intro q0 M
    unfold fX13_told_L21
    exact e_int (pc := 21) E dX13_told_21
  have hL10 : ∀ (M : Mem), RT p l e rmX13_told s m args below meth c x 2 (QM below args s x (fun v : Int32 => some (.int v)) rmX13_told.cells rmX13_told.slots) 0 0 (fX13_told_L10 M) 10 [] [] [] [] M := by
    intro M
    unfold fX13_told_L10
    refine r_bipush (pc := 10) (v := (-2)) E dX13_told_10 (by decide) ?_
    refine r_goto (pc := 12) (tgt := 21) E dX13_told_12 (by decide) ?_
    exact r_sub [] [] [] rfl rfl rfl (hL21 ((-2)) _)
  show RT p l e rmX13_told s m args below meth c x 2 (QM below args s x (fun v : Int32 => some (.int v)) rmX13_told.cells rmX13_told.slots) 0 0 (fX13_told a0 a1 M) 0 [(1, a1)] [] [(0, a0)] [] M
  unfold fX13_told
  refine r_iload_n (pc := 0) E dX13_told_0 rfl 0 rfl ?_
  refine r_if_lt (pc := 1) (tgt := 10) E dX13_told_1 (by decide) ?_ ?_
  · exact r_sub [] [] [] rfl rfl rfl (hL10 _)
  · refine r_iload_n (pc := 4) E dX13_told_4 rfl 0 rfl ?_
    refine r_bipush (pc := 5) (v := 11) E dX13_told_5 (by decide) ?_
    refine r_icmp_le (pc := 7) (tgt := 15) E dX13_told_7 (by decide) ?_ ?_
    · refine r_aload_n (pc := 15) E dX13_told_15 rfl 0 rfl ?_
      refine r_getA (pc := 16) E fd_13_45 wf_RX13_89 dX13_told_16 (fun v16 => ?_)
      refine r_iload_n (pc := 19) E dX13_told_19 rfl 0 rfl ?_
      refine r_iaload (pc := 20) E dX13_told_20 (fun v20 => ?_)
      exact r_sub [] [] [] rfl rfl rfl (hL21 v20 _)
    · exact r_sub [] [] [] rfl rfl rfl (hL10 _)
def fX13_sequence__L21 (M : Mem) : Option (Int32 × Mem) :=
  some ((-2), M)
def fX13_sequence__L71 (q0 : Int32) (M : Mem) : Option (Int32 × Mem) :=
  some (q0, M)
def fX13_sequence_ (a0 : Option Nat) (a1 : Int32) (a2 : Int32) (M : Mem) : Option (Int32 × Mem) :=
  if a1 < 0 then (
    fX13_sequence__L21 M
  ) else (
    bo (gI M a0 13 46) fun v6 =>
    if v6 ≤ a1 then (
      fX13_sequence__L21 M
    ) else (
      if a2 < 0 then (
        fX13_sequence__L21 M
      ) else (
        if a2 ≤ 3 then (
          if a2 = 0 then (
            bo (gR M a0 13 47) fun v29 =>
            bo (aI M v29 15 a1) fun v33 =>
            fX13_sequence__L71 v33 M
          ) else (
            if a2 = 1 then (
              bo (gR M a0 13 48) fun v43 =>
              bo (aI M v43 15 a1) fun v47 =>
              fX13_sequence__L71 v47 M
            ) else (
              if a2 = 2 then (
                bo (gR M a0 13 49) fun v57 =>
                bo (aI M v57 15 a1) fun v61 =>
                fX13_sequence__L71 v61 M
              ) else (
                bo (gR M a0 13 50) fun v66 =>
                bo (aI M v66 15 a1) fun v70 =>
                fX13_sequence__L71 v70 M
              )
            )
          )
        ) else (
          fX13_sequence__L21 M
        )
      )
    )
  )
def rmX13_sequence_ : Room := { frames := 0, cells := 0, slots := 0, locals := 0 }
set_option maxRecDepth 100000 in
set_option maxHeartbeats 4000000 in
theorem ctX13_sequence_ (l : Launch) (x : Cx) (a0 : Option Nat) (a1 : Int32) (a2 : Int32) (M : Mem) (v : Int32) (N : Mem) (h : fX13_sequence_ a0 a1 a2 M = some (v, N)) : CT l yX13_sequence_ cX13_sequence_ 3 (some (FieldType.int)) rmX13_sequence_ x [rv x a0, .int a1, .int a2] M (some (.int v)) N := by
  refine ct_mk (enc := fun v : Int32 => some (.int v)) (li := [(1, a1), (2, a2)]) (ll := []) (lr := [(0, a0)]) (by decide +kernel) (by simp [lg_sl, rv_cat, cat_int, cat_long]) (by simp [flat, lv_args, rv_cat, cat_int, cat_long]) h ?_
  intro p e s m args below meth c E
  have hL21 : ∀ (M : Mem), RT p l e rmX13_sequence_ s m args below meth c x 3 (QM below args s x (fun v : Int32 => some (.int v)) rmX13_sequence_.cells rmX13_sequence_.slots) 0 0 (fX13_sequence__L21 M) 21 [] [] [] [] M := by
    intro M
    unfold fX13_sequence__L21
    refine r_bipush (pc := 21) (v := (-2)) E dX13_sequence__21 (by decide) ?_
    exact e_int (pc := 23) E dX13_sequence__23
  have hL71 : ∀ (q0 : Int32) (M : Mem), RT p l e rmX13_sequence_ s m args below meth c x 3 (QM below args s x (fun v : Int32 => some (.int v)) rmX13_sequence_.cells rmX13_sequence_.slots) 0 0 (fX13_sequence__L71 q0 M) 71 [] [] [] [.int q0] M := by
    intro q0 M
    unfold fX13_sequence__L71
    exact e_int (pc := 71) E dX13_sequence__71
  show RT p l e rmX13_sequence_ s m args below meth c x 3 (QM below args s x (fun v : Int32 => some (.int v)) rmX13_sequence_.cells rmX13_sequence_.slots) 0 0 (fX13_sequence_ a0 a1 a2 M) 0 [(1, a1), (2, a2)] [] [(0, a0)] [] M
  unfold fX13_sequence_
  refine r_iload_n (pc := 0) E dX13_sequence__0 rfl 0 rfl ?_
  refine r_if_lt (pc := 1) (tgt := 21) E dX13_sequence__1 (by decide) ?_ ?_
  · exact r_sub [] [] [] rfl rfl rfl (hL21 _)
  · refine r_iload_n (pc := 4) E dX13_sequence__4 rfl 0 rfl ?_
    refine r_aload_n (pc := 5) E dX13_sequence__5 rfl 0 rfl ?_
    refine r_getI (pc := 6) E fd_13_46 wf_RX13_289 dX13_sequence__6 (fun v6 => ?_)
    refine r_icmp_ge (pc := 9) (tgt := 21) E dX13_sequence__9 (by decide) ?_ ?_
    · exact r_sub [] [] [] rfl rfl rfl (hL21 _)
    · refine r_iload_n (pc := 12) E dX13_sequence__12 rfl 1 rfl ?_
      refine r_if_lt (pc := 13) (tgt := 21) E dX13_sequence__13 (by decide) ?_ ?_
      · exact r_sub [] [] [] rfl rfl rfl (hL21 _)
      · refine r_iload_n (pc := 16) E dX13_sequence__16 rfl 1 rfl ?_
        refine r_iconst (pc := 17) (v := 3) E dX13_sequence__17 (by decide) ?_
        refine r_icmp_le (pc := 18) (tgt := 24) E dX13_sequence__18 (by decide) ?_ ?_
        · refine r_iload_n (pc := 24) E dX13_sequence__24 rfl 1 rfl ?_
          refine r_if_ne (pc := 25) (tgt := 37) E dX13_sequence__25 (by decide) ?_ ?_
          · refine r_iload_n (pc := 37) E dX13_sequence__37 rfl 1 rfl ?_
            refine r_iconst (pc := 38) (v := 1) E dX13_sequence__38 (by decide) ?_
            refine r_icmp_ne (pc := 39) (tgt := 51) E dX13_sequence__39 (by decide) ?_ ?_
            · refine r_iload_n (pc := 51) E dX13_sequence__51 rfl 1 rfl ?_
              refine r_iconst (pc := 52) (v := 2) E dX13_sequence__52 (by decide) ?_
              refine r_icmp_ne (pc := 53) (tgt := 65) E dX13_sequence__53 (by decide) ?_ ?_
              · refine r_aload_n (pc := 65) E dX13_sequence__65 rfl 0 rfl ?_
                refine r_getA (pc := 66) E fd_13_50 wf_RX13_101 dX13_sequence__66 (fun v66 => ?_)
                refine r_iload_n (pc := 69) E dX13_sequence__69 rfl 0 rfl ?_
                refine r_iaload (pc := 70) E dX13_sequence__70 (fun v70 => ?_)
                exact r_sub [] [] [] rfl rfl rfl (hL71 v70 _)
              · refine r_aload_n (pc := 56) E dX13_sequence__56 rfl 0 rfl ?_
                refine r_getA (pc := 57) E fd_13_49 wf_RX13_98 dX13_sequence__57 (fun v57 => ?_)
                refine r_iload_n (pc := 60) E dX13_sequence__60 rfl 0 rfl ?_
                refine r_iaload (pc := 61) E dX13_sequence__61 (fun v61 => ?_)
                refine r_goto (pc := 62) (tgt := 71) E dX13_sequence__62 (by decide) ?_
                exact r_sub [] [] [] rfl rfl rfl (hL71 v61 _)
            · refine r_aload_n (pc := 42) E dX13_sequence__42 rfl 0 rfl ?_
              refine r_getA (pc := 43) E fd_13_48 wf_RX13_95 dX13_sequence__43 (fun v43 => ?_)
              refine r_iload_n (pc := 46) E dX13_sequence__46 rfl 0 rfl ?_
              refine r_iaload (pc := 47) E dX13_sequence__47 (fun v47 => ?_)
              refine r_goto (pc := 48) (tgt := 71) E dX13_sequence__48 (by decide) ?_
              exact r_sub [] [] [] rfl rfl rfl (hL71 v47 _)
          · refine r_aload_n (pc := 28) E dX13_sequence__28 rfl 0 rfl ?_
            refine r_getA (pc := 29) E fd_13_47 wf_RX13_92 dX13_sequence__29 (fun v29 => ?_)
            refine r_iload_n (pc := 32) E dX13_sequence__32 rfl 0 rfl ?_
            refine r_iaload (pc := 33) E dX13_sequence__33 (fun v33 => ?_)
            refine r_goto (pc := 34) (tgt := 71) E dX13_sequence__34 (by decide) ?_
            exact r_sub [] [] [] rfl rfl rfl (hL71 v33 _)
        · exact r_sub [] [] [] rfl rfl rfl (hL21 _)
def fX13_table__L18 (M : Mem) : Option (Int32 × Mem) :=
  some ((-2), M)
def fX13_table__L50 (M : Mem) : Option (Int32 × Mem) :=
  some ((-2), M)
def fX13_table__L111 (q0 : Int32) (M : Mem) : Option (Int32 × Mem) :=
  some (q0, M)
def fX13_table_ (a0 : Option Nat) (a1 : Int32) (a2 : Int32) (a3 : Int32) (M : Mem) : Option (Int32 × Mem) :=
  if a1 < 0 then (
    fX13_table__L18 M
  ) else (
    if 2 < a1 then (
      fX13_table__L18 M
    ) else (
      if a3 < 0 then (
        fX13_table__L18 M
      ) else (
        if a3 ≤ 2 then (
          bo (gR M a0 13 18) fun v22 =>
          bo (aI M v22 18 a1) fun v26 =>
          if v26 = 0 then (
            some ((-3), M)
          ) else (
            if a2 < ((-1)) then (
              fX13_table__L50 M
            ) else (
              bo (gR M a0 13 17) fun v41 =>
              bo (aI M v41 15 a1) fun v45 =>
              if a2 < (shlI 1 v45) then (
                bn ((512 * a1) + a2) fun v60 =>
                if 0 ≤ a2 then (
                  if a3 = 0 then (
                    bo (gR M a0 13 14) fun v80 =>
                    bo (aI M v80 17 v60) fun v85 =>
                    fX13_table__L111 v85 M
                  ) else (
                    if a3 = 1 then (
                      bo (gR M a0 13 15) fun v95 =>
                      bo (aI M v95 14 v60) fun v100 =>
                      fX13_table__L111 v100 M
                    ) else (
                      bo (gR M a0 13 16) fun v105 =>
                      bo (aI M v105 15 v60) fun v110 =>
                      fX13_table__L111 v110 M
                    )
                  )
                ) else (
                  bo (gR M a0 13 17) fun v67 =>
                  bo (aI M v67 15 a1) fun v71 =>
                  fX13_table__L111 v71 M
                )
              ) else (
                fX13_table__L50 M
              )
            )
          )
        ) else (
          fX13_table__L18 M
        )
      )
    )
  )
def rmX13_table_ : Room := { frames := 0, cells := 0, slots := 0, locals := 0 }
set_option maxRecDepth 100000 in
set_option maxHeartbeats 4000000 in
theorem ctX13_table_ (l : Launch) (x : Cx) (a0 : Option Nat) (a1 : Int32) (a2 : Int32) (a3 : Int32) (M : Mem) (v : Int32) (N : Mem) (h : fX13_table_ a0 a1 a2 a3 M = some (v, N)) : CT l yX13_table_ cX13_table_ 5 (some (FieldType.int)) rmX13_table_ x [rv x a0, .int a1, .int a2, .int a3] M (some (.int v)) N := by
  refine ct_mk (enc := fun v : Int32 => some (.int v)) (li := [(1, a1), (2, a2), (3, a3)]) (ll := []) (lr := [(0, a0)]) (by decide +kernel) (by simp [lg_sl, rv_cat, cat_int, cat_long]) (by simp [flat, lv_args, rv_cat, cat_int, cat_long]) h ?_
  intro p e s m args below meth c E
  have hL18 : ∀ (M : Mem), RT p l e rmX13_table_ s m args below meth c x 5 (QM below args s x (fun v : Int32 => some (.int v)) rmX13_table_.cells rmX13_table_.slots) 0 0 (fX13_table__L18 M) 18 [] [] [] [] M := by
    intro M
    unfold fX13_table__L18
    refine r_bipush (pc := 18) (v := (-2)) E dX13_table__18 (by decide) ?_
    exact e_int (pc := 20) E dX13_table__20
  have hL50 : ∀ (M : Mem), RT p l e rmX13_table_ s m args below meth c x 5 (QM below args s x (fun v : Int32 => some (.int v)) rmX13_table_.cells rmX13_table_.slots) 0 0 (fX13_table__L50 M) 50 [] [] [] [] M := by
    intro M
    unfold fX13_table__L50
    refine r_bipush (pc := 50) (v := (-2)) E dX13_table__50 (by decide) ?_
    exact e_int (pc := 52) E dX13_table__52
  have hL111 : ∀ (q0 : Int32) (M : Mem), RT p l e rmX13_table_ s m args below meth c x 5 (QM below args s x (fun v : Int32 => some (.int v)) rmX13_table_.cells rmX13_table_.slots) 0 0 (fX13_table__L111 q0 M) 111 [] [] [] [.int q0] M := by
    intro q0 M
    unfold fX13_table__L111
    exact e_int (pc := 111) E dX13_table__111
  show RT p l e rmX13_table_ s m args below meth c x 5 (QM below args s x (fun v : Int32 => some (.int v)) rmX13_table_.cells rmX13_table_.slots) 0 0 (fX13_table_ a0 a1 a2 a3 M) 0 [(1, a1), (2, a2), (3, a3)] [] [(0, a0)] [] M
  unfold fX13_table_
  refine r_iload_n (pc := 0) E dX13_table__0 rfl 0 rfl ?_
  refine r_if_lt (pc := 1) (tgt := 18) E dX13_table__1 (by decide) ?_ ?_
  · exact r_sub [] [] [] rfl rfl rfl (hL18 _)
  · refine r_iload_n (pc := 4) E dX13_table__4 rfl 0 rfl ?_
    refine r_iconst (pc := 5) (v := 2) E dX13_table__5 (by decide) ?_
    refine r_icmp_gt (pc := 6) (tgt := 18) E dX13_table__6 (by decide) ?_ ?_
    · exact r_sub [] [] [] rfl rfl rfl (hL18 _)
    · refine r_iload_n (pc := 9) E dX13_table__9 rfl 2 rfl ?_
      refine r_if_lt (pc := 10) (tgt := 18) E dX13_table__10 (by decide) ?_ ?_
      · exact r_sub [] [] [] rfl rfl rfl (hL18 _)
      · refine r_iload_n (pc := 13) E dX13_table__13 rfl 2 rfl ?_
        refine r_iconst (pc := 14) (v := 2) E dX13_table__14 (by decide) ?_
        refine r_icmp_le (pc := 15) (tgt := 21) E dX13_table__15 (by decide) ?_ ?_
        · refine r_aload_n (pc := 21) E dX13_table__21 rfl 0 rfl ?_
          refine r_getA (pc := 22) E fd_13_18 wf_RX13_40 dX13_table__22 (fun v22 => ?_)
          refine r_iload_n (pc := 25) E dX13_table__25 rfl 0 rfl ?_
          refine r_zaload (pc := 26) E dX13_table__26 (fun v26 => ?_)
          refine r_if_ne (pc := 27) (tgt := 33) E dX13_table__27 (by decide) ?_ ?_
          · refine r_iload_n (pc := 33) E dX13_table__33 rfl 1 rfl ?_
            refine r_iconst (pc := 34) (v := (-1)) E dX13_table__34 (by decide) ?_
            refine r_icmp_lt (pc := 35) (tgt := 50) E dX13_table__35 (by decide) ?_ ?_
            · exact r_sub [] [] [] rfl rfl rfl (hL50 _)
            · refine r_iload_n (pc := 38) E dX13_table__38 rfl 1 rfl ?_
              refine r_iconst (pc := 39) (v := 1) E dX13_table__39 (by decide) ?_
              refine r_aload_n (pc := 40) E dX13_table__40 rfl 0 rfl ?_
              refine r_getA (pc := 41) E fd_13_17 wf_RX13_37 dX13_table__41 (fun v41 => ?_)
              refine r_iload_n (pc := 44) E dX13_table__44 rfl 0 rfl ?_
              refine r_iaload (pc := 45) E dX13_table__45 (fun v45 => ?_)
              refine r_ishl (pc := 46) E dX13_table__46 ?_
              refine r_icmp_lt (pc := 47) (tgt := 53) E dX13_table__47 (by decide) ?_ ?_
              · refine r_sipush (pc := 53) (v := 512) E dX13_table__53 (by decide) ?_
                refine r_iload_n (pc := 56) E dX13_table__56 rfl 0 rfl ?_
                refine r_imul (pc := 57) E dX13_table__57 ?_
                refine r_iload_n (pc := 58) E dX13_table__58 rfl 1 rfl ?_
                refine r_iadd (pc := 59) E dX13_table__59 ?_
                refine r_istore (pc := 60) (lf := fun v60 => [(4, v60), (1, a1), (2, a2), (3, a3)]) (lg := fun v60 => []) (lk := fun v60 => [(0, a0)]) E dX13_table__60 (by decide) (fun _ => rfl) (fun _ => rfl) (fun _ => rfl) (fun v60 => ?_)
                refine r_iload_n (pc := 62) E dX13_table__62 rfl 2 rfl ?_
                refine r_if_ge (pc := 63) (tgt := 75) E dX13_table__63 (by decide) ?_ ?_
                · refine r_iload_n (pc := 75) E dX13_table__75 rfl 3 rfl ?_
                  refine r_if_ne (pc := 76) (tgt := 89) E dX13_table__76 (by decide) ?_ ?_
                  · refine r_iload_n (pc := 89) E dX13_table__89 rfl 3 rfl ?_
                    refine r_iconst (pc := 90) (v := 1) E dX13_table__90 (by decide) ?_
                    refine r_icmp_ne (pc := 91) (tgt := 104) E dX13_table__91 (by decide) ?_ ?_
                    · refine r_aload_n (pc := 104) E dX13_table__104 rfl 0 rfl ?_
                      refine r_getA (pc := 105) E fd_13_16 wf_RX13_34 dX13_table__105 (fun v105 => ?_)
                      refine r_iload (pc := 108) E dX13_table__108 0 rfl ?_
                      refine r_iaload (pc := 110) E dX13_table__110 (fun v110 => ?_)
                      exact r_sub [] [] [] rfl rfl rfl (hL111 v110 _)
                    · refine r_aload_n (pc := 94) E dX13_table__94 rfl 0 rfl ?_
                      refine r_getA (pc := 95) E fd_13_15 wf_RX13_31 dX13_table__95 (fun v95 => ?_)
                      refine r_iload (pc := 98) E dX13_table__98 0 rfl ?_
                      refine r_baload (pc := 100) E dX13_table__100 (fun v100 => ?_)
                      refine r_goto (pc := 101) (tgt := 111) E dX13_table__101 (by decide) ?_
                      exact r_sub [] [] [] rfl rfl rfl (hL111 v100 _)
                  · refine r_aload_n (pc := 79) E dX13_table__79 rfl 0 rfl ?_
                    refine r_getA (pc := 80) E fd_13_14 wf_RX13_27 dX13_table__80 (fun v80 => ?_)
                    refine r_iload (pc := 83) E dX13_table__83 0 rfl ?_
                    refine r_saload (pc := 85) E dX13_table__85 (fun v85 => ?_)
                    refine r_goto (pc := 86) (tgt := 111) E dX13_table__86 (by decide) ?_
                    exact r_sub [] [] [] rfl rfl rfl (hL111 v85 _)
                · refine r_aload_n (pc := 66) E dX13_table__66 rfl 0 rfl ?_
                  refine r_getA (pc := 67) E fd_13_17 wf_RX13_37 dX13_table__67 (fun v67 => ?_)
                  refine r_iload_n (pc := 70) E dX13_table__70 rfl 1 rfl ?_
                  refine r_iaload (pc := 71) E dX13_table__71 (fun v71 => ?_)
                  refine r_goto (pc := 72) (tgt := 111) E dX13_table__72 (by decide) ?_
                  exact r_sub [] [] [] rfl rfl rfl (hL111 v71 _)
              · exact r_sub [] [] [] rfl rfl rfl (hL50 _)
          · refine r_bipush (pc := 30) (v := (-3)) E dX13_table__30 (by decide) ?_
            exact e_int (pc := 32) E dX13_table__32
        · exact r_sub [] [] [] rfl rfl rfl (hL18 _)
