/-! the run of SEQUENCES: the reference's -/
def WAl (a j : Nat) : Prop := WSq a j ∨ (a = 198 ∧ (j = 9 ∨ j = 10 ∨ j = 11))
section MALL
variable {M : Mem} {Ts : Nat → Tb} {e F ff blk cnt lim span cs d : Nat} {u ct ls old : Nat → Nat}
theorem goK_lt {k q L : Nat} (hT : TG k (Ts k)) (hq : q < 2 ^ (Ts k).1) : goK u F Ts k q L < 2 ^ (Ts k).1 := by
  obtain ⟨h0a, h0b, h0c⟩ := hT.1.2 q hq
  have t0 := tkV_lt u F L ((Ts k).2.2.1 q)
  unfold goK
  omega
theorem sL_le (L l o c : Nat) : sL3 Ts L l o c ≤ L ∧ sL6 Ts L l o c ≤ L := by
  have h1 := tkL_le L (syK Ts 1 o)
  have h2 := tkL_le (sL1 Ts L o) (exK 2 (syK Ts 2 c))
  have h3 := tkL_le (sL2 Ts L o c) (exK 0 (syK Ts 0 l))
  have h4 := tkL_le (sL3 Ts L l o c) ((Ts 0).2.2.1 l)
  have h5 := tkL_le (sL4 Ts L l o c) ((Ts 2).2.2.1 c)
  have h6 := tkL_le (sL5 Ts L l o c) ((Ts 1).2.2.1 o)
  have g1 : sL1 Ts L o = tkL L (syK Ts 1 o) := rfl
  have g2 : sL2 Ts L o c = tkL (sL1 Ts L o) (exK 2 (syK Ts 2 c)) := rfl
  have g3 : sL3 Ts L l o c = tkL (sL2 Ts L o c) (exK 0 (syK Ts 0 l)) := rfl
  have g4 : sL4 Ts L l o c = tkL (sL3 Ts L l o c) ((Ts 0).2.2.1 l) := rfl
  have g5 : sL5 Ts L l o c = tkL (sL4 Ts L l o c) ((Ts 2).2.2.1 c) := rfl
  have g6 : sL6 Ts L l o c = tkL (sL5 Ts L l o c) ((Ts 1).2.2.1 o) := rfl
  omega
abbrev MAp (M : Mem) (ff blk cnt : Nat) (old ls : Nat → Nat) (ok : Bool) (s' : SSt) (N : Mem) : Prop := Sq WAl M N ∧ RJ N 220 s'.2.1 ∧ NTm N s'.2.2.2.2.2.1 s'.2.2.2.2.2.2 ∧
  ((ok = true ∧ s'.1.1 = 0) → mI N 198 4 = iI 0 ∧ MB N ff blk s'.2.2.2.1 cnt s'.2.2.1 old s'.2.2.2.2.1 ls ∧ blk ≤ s'.2.2.2.1 ∧ s'.2.2.1 ≤ cnt ∧ s'.2.2.2.1 - blk ≤ 131072) ∧
  (¬ (ok = true ∧ s'.1.1 = 0) → ∃ z : Int, mI N 198 4 = iI z ∧ 0 < z ∧ z < 100)
set_option maxHeartbeats 8000000 in
theorem mall_loop {L l o c us t ts many : Nat} {r w : Nat → Nat} {nt : Nat → Nat → Int} {pl : Int32} {ok : Bool} {s' : SSt} (hT : RSt M) (hMS : MSd M Ts) (hb : BV M 199 8000 e u) (hu : ∀ i, u i < 256) (he : 8 * F + L ≤ 8 * e) (hK : RK M 198 199 F L (0 : Nat)) (hl : l < 2 ^ (Ts 0).1) (ho : o < 2 ^ (Ts 1).1) (hc : c < 2 ^ (Ts 2).1) (hmany : many < 100000) (h4 : mI M 198 4 = iI 0)
    (hB : MB M ff blk t cnt us old w ls) (hF : MF M lim span cs d ct) (hN : NTm M ts nt) (hR : RJ M 220 r) (hbt : blk ≤ t) (hlim : lim ≤ 131072) (htb : t - blk ≤ 131072) (hcnt : cnt ≤ 131072) (husc : us ≤ cnt) (hff : ff + blk ≤ 8000) (hcs : cs ≤ 3000) (hts : ts + many < 900000000) (hsp : span < 9223372036854775808)
    (hrn : rnK u F Ts ls cnt blk lim span cs ct many ((L, l, o, c), r, us, t, w, ts, nt) = (ok, s')) :
    Wp (fX13_all_L76 (some 198) (iI many) pl (iI l) (iI o) (iI c) (iI 0) M) fun _ N => MAp M ff blk cnt old ls ok s' N := by
  unfold fX13_all_L76
  refine w_lpF (fun dd x O => ∃ k : Nat, Sq WAl M O ∧ k < 1000000 ∧
      ((∃ L l o c us t ts r w nt, k + dd = many + 1 ∧ 1 ≤ dd ∧ mI O 198 4 = iI 0 ∧ RK O 198 199 F L (0 : Nat) ∧ 8 * F + L ≤ 8 * e ∧ l < 2 ^ (Ts 0).1 ∧ o < 2 ^ (Ts 1).1 ∧ c < 2 ^ (Ts 2).1 ∧ MB O ff blk t cnt us old w ls ∧ NTm O ts nt ∧ RJ O 220 r ∧ blk ≤ t ∧ t - blk ≤ 131072 ∧ us ≤ cnt ∧ ts + dd < 900000002 ∧ rnK u F Ts ls cnt blk lim span cs ct (many - k) ((L, l, o, c), r, us, t, w, ts, nt) = (ok, s') ∧ x = (some 198, iI many, pl, iI (l : Nat), iI (o : Nat), iI (c : Nat), iI k)) ∨
       (dd = 0 ∧ ok = false ∧ (∃ z : Int, mI O 198 4 = iI z ∧ 0 < z ∧ z < 100) ∧ NTm O s'.2.2.2.2.2.1 s'.2.2.2.2.2.2 ∧ RJ O 220 s'.2.1 ∧ ∃ l o c : Int32, x = (some 198, iI many, pl, l, o, c, iI k)))) (many + 1) (by omega)
    ⟨0, Sq.rf, by omega, Or.inl ⟨L, l, o, c, us, t, ts, r, w, nt, by omega, by omega, h4, hK, he, hl, ho, hc, hB, hN, hR, hbt, htb, husc, by omega, hrn, rfl⟩⟩ ?_
  rintro g dd x O ⟨k, hS, hk6, hcase⟩ ih
  have hq := hT.q hS
  have qk := hq.k
  have k0 : mK O 198 = 13 := qk 198 (by omega) (by omega)
  rcases hcase with ⟨L, l, o, c, us, t, ts, r, w, nt, hd, hd1, h4, hK, he, hl, ho, hc, hB, hN, hR, hbt, htb, husc, hts, hrn, rfl⟩ | ⟨hd, hok, ⟨z, hz, hz1, hz2⟩, hN, hR, l, o, c, rfl⟩
  · by_cases hk : k = many
    · subst hk
      rw [Nat.sub_self, rnK] at hrn
      cases hrn
      have l11 := hK.2.2.2.1
      by_cases hL : L = 0
      · have fin : MAp M ff blk cnt old ls true ((L, l, o, c), r, us, t, w, ts, nt) O := ⟨hS, hR, hN, fun _ => ⟨h4, hB, hbt, husc, htb⟩, fun h => absurd ⟨rfl, hL⟩ h⟩
        clear hB hF hN hR hMS hb hK
        simp -implicitDefEqProofs (disch := omega) only [fX13_all_B76, fX13_all_L305, fX13_all_L327, qk, h4, l11, bo_s, bd_s, bn_s, gI_s, gJ_s, gR_s, pI_s, pZ_s, pJ_s, pR_s, chk_s, chN_s, chN_n, aL_s, aI_c, aJ_c, aR_c, wI_c, wB_c, wS_c, wZ_c, wJ_c, wR_c, mK_sI, mK_sJ, mK_sR, mK_cpI, mL_sI, mL_sJ, mL_sR, mL_cpI, mI_sI, mI_sJ, mI_sR, mI_cpI, mJ_sI, mJ_sJ, mJ_sR, mJ_cpI, mR_sI, mR_sJ, mR_sR, mR_cpI, i2b_i2b, i2b_sb, iI_lit, iI_add, iI_sub, iI_mul, iI_neg, iI_lt, iI_le, iI_eq, iI_J, lt_T, lt_F, le_T, le_F, eq_T, eq_F, eqN_T, eqN_F, leN_T, leN_F, ltN_T, ltN_F, if_true, if_false, and_true, true_and, and_false, false_and, or_true, true_or, or_false, false_or, not_true_eq_false, not_false_eq_true, and_self, or_self, tn_c, ne_eq, dite_true, dite_false, K0_198, K0_199, L0_199, K0_200, L0_200, K0_201, L0_201, K0_202, L0_202, K0_203, L0_203, K0_204, L0_204, K0_205, L0_205, K0_206, L0_206, K0_207, L0_207, K0_208, L0_208, K0_209, L0_209, K0_210, L0_210, K0_211, L0_211, K0_212, L0_212, K0_213, L0_213, K0_214, L0_214, K0_215, L0_215, K0_216, L0_216, K0_217, L0_217, K0_218, L0_218, K0_219, L0_219, K0_220, L0_220, K0_221, L0_221, K0_222, L0_222, K0_223, L0_223, K0_224, L0_224, K0_225, L0_225, K0_226, L0_226, K0_227, L0_227, K0_228, L0_228, K0_229, L0_229, K0_230, L0_230, K0_231, L0_231, K0_232, L0_232, K0_233, L0_233, K0_234, L0_234, K0_235, L0_235, K0_236, L0_236, K0_237, L0_237, K0_238, L0_238, K0_239, L0_239, K0_240, L0_240, R0_0, R0_2, R0_6, R0_12, R0_14, R0_15, R0_16, R0_17, R0_18, R0_19, R0_20, R0_21, R0_22, R0_23, R0_24, R0_25, R0_30, R0_31, R0_32, R0_34, R0_36, R0_43, R0_44, R0_45, R0_47, R0_48, R0_49, R0_50, R0_53, R0_55, R0_57, R0_59, R0_60, R0_62, R0_63, R0_64, R0_65, R0_66, R0_67, R0_69, R0_70, R0_71, R0_72]
        exact w_ret fin
      · have e1 := fails_ok k0 h4 (iI 17) pl
        have hs : Sq (fun a j => a = 198 ∧ (j = 4 ∨ j = 5)) O (sI (sI O 198 4 (iI 17)) 198 5 pl) := by refine Sq.sI (Sq.sI Sq.rf ?_) ?_ <;> omega
        have fin : MAp M ff blk cnt old ls true ((L, l, o, c), r, us, t, w, ts, nt) (sI (sI O 198 4 (iI 17)) 198 5 pl) := ⟨hS.tr (hs.weak fun a j h => Or.inl (Or.inl (by omega))), hR.sq hs (by omega), hN.sq hs (by omega) (by omega), fun h => absurd h.2 hL, fun _ => ⟨17, by simp -implicitDefEqProofs (disch := omega) only [mK_sI, mK_sJ, mK_sR, mK_cpI, mL_sI, mL_sJ, mL_sR, mL_cpI, mI_sI, mI_sJ, mI_sR, mI_cpI, mJ_sI, mJ_sJ, mJ_sR, mJ_cpI, mR_sI, mR_sJ, mR_sR, mR_cpI, eqN_T, eqN_F, if_true, if_false, and_true, true_and, and_false, false_and, or_true, true_or, or_false, false_or, not_true_eq_false, not_false_eq_true, and_self, or_self, tn_c, ne_eq, dite_true, dite_false], by omega, by omega⟩⟩
        clear hB hF hN hR hMS hb hK hs
        simp -implicitDefEqProofs (disch := omega) only [fX13_all_B76, fX13_all_L305, fX13_all_L327, qk, h4, l11, e1, bo_s, bd_s, bn_s, gI_s, gJ_s, gR_s, pI_s, pZ_s, pJ_s, pR_s, chk_s, chN_s, chN_n, aL_s, aI_c, aJ_c, aR_c, wI_c, wB_c, wS_c, wZ_c, wJ_c, wR_c, mK_sI, mK_sJ, mK_sR, mK_cpI, mL_sI, mL_sJ, mL_sR, mL_cpI, mI_sI, mI_sJ, mI_sR, mI_cpI, mJ_sI, mJ_sJ, mJ_sR, mJ_cpI, mR_sI, mR_sJ, mR_sR, mR_cpI, i2b_i2b, i2b_sb, iI_lit, iI_add, iI_sub, iI_mul, iI_neg, iI_lt, iI_le, iI_eq, iI_J, lt_T, lt_F, le_T, le_F, eq_T, eq_F, eqN_T, eqN_F, leN_T, leN_F, ltN_T, ltN_F, if_true, if_false, and_true, true_and, and_false, false_and, or_true, true_or, or_false, false_or, not_true_eq_false, not_false_eq_true, and_self, or_self, tn_c, ne_eq, dite_true, dite_false, K0_198, K0_199, L0_199, K0_200, L0_200, K0_201, L0_201, K0_202, L0_202, K0_203, L0_203, K0_204, L0_204, K0_205, L0_205, K0_206, L0_206, K0_207, L0_207, K0_208, L0_208, K0_209, L0_209, K0_210, L0_210, K0_211, L0_211, K0_212, L0_212, K0_213, L0_213, K0_214, L0_214, K0_215, L0_215, K0_216, L0_216, K0_217, L0_217, K0_218, L0_218, K0_219, L0_219, K0_220, L0_220, K0_221, L0_221, K0_222, L0_222, K0_223, L0_223, K0_224, L0_224, K0_225, L0_225, K0_226, L0_226, K0_227, L0_227, K0_228, L0_228, K0_229, L0_229, K0_230, L0_230, K0_231, L0_231, K0_232, L0_232, K0_233, L0_233, K0_234, L0_234, K0_235, L0_235, K0_236, L0_236, K0_237, L0_237, K0_238, L0_238, K0_239, L0_239, K0_240, L0_240, R0_0, R0_2, R0_6, R0_12, R0_14, R0_15, R0_16, R0_17, R0_18, R0_19, R0_20, R0_21, R0_22, R0_23, R0_24, R0_25, R0_30, R0_31, R0_32, R0_34, R0_36, R0_43, R0_44, R0_45, R0_47, R0_48, R0_49, R0_50, R0_53, R0_55, R0_57, R0_59, R0_60, R0_62, R0_63, R0_64, R0_65, R0_66, R0_67, R0_69, R0_70, R0_71, R0_72]
        exact w_ret fin
    · obtain ⟨j, hj⟩ : ∃ j, many - k = j + 1 := ⟨many - k - 1, by omega⟩
      rw [hj, rnK] at hrn
      obtain ⟨lst, hl1, hl2⟩ : ∃ lst : Nat, ((lst = 1 ∧ k + 1 = many) ∨ (lst = 0 ∧ k + 1 < many)) ∧ (lst == 1) = (j == 0) := by
        by_cases h : j = 0
        · exact ⟨1, Or.inl ⟨rfl, by omega⟩, by subst h; rfl⟩
        · exact ⟨0, Or.inr ⟨rfl, by omega⟩, by rw [show (j == 0) = false from by simpa using h]; rfl⟩
      rw [← hl2] at hrn
      have hMS' := hMS.sq hS (by unfold WAl WSq; omega) (by unfold WAl WSq; omega)
      have hb' := hb.sm hS.sm (by unfold WAl WSq; omega)
      have g0 := (hMS 0 (by omega)).1
      have g1 := (hMS 1 (by omega)).1
      have g2 := (hMS 2 (by omega)).1
      have hc1 : sC u F Ts L o c < 200000 := ex_r (u := u) (F := F) (L := sL1 Ts L o) (Or.inr rfl) g2 hc
      have hn1 : sN u F Ts L l o c < 200000 := ex_r (u := u) (F := F) (L := sL2 Ts L o c) (Or.inl rfl) g0 hl
      obtain ⟨v1, v2, v3⟩ := sV_r (u := u) (F := F) (L := L) g1 ho
      refine mdec_ok hq hMS' hb' hu he hK hl ho hc hl1 (by omega) h4 fun N z l' o' c' hS9 z9 zle ziff hz1 hz0 => ?_
      obtain ⟨k1, k2⟩ := stK_L (u := u) (F := F) (Ts := Ts) (ls := ls) (cnt := cnt) (blk := blk) (lim := lim) (span := span) (cs := cs) (ct := ct) (L := L) (l := l) (o := o) (c := c) (us := us) (t := t) (ts := ts) (r := r) (w := w) (nt := nt) (last := (lst == 1)) rfl
      have hqN := hq.q hS9
      have qkN := hqN.k
      have n4 := (hS9.I 198 4 (by omega)).trans h4
      have hBN := hB.sq hS9 (by omega) (by omega)
      have hNN := hN.sq hS9 (by omega) (by omega)
      have hRN := hR.sq hS9 (by omega)
      have hSN : Sq WAl M N := hS.tr (hS9.weak fun a j h => Or.inr (by omega))
      by_cases hz : z = 0
      · subst hz
        have zt := ziff.mp rfl
        obtain ⟨y, P, e2, hP1, hP2, hP3⟩ := msequence_ok (d := d) (pl := pl) (cp := sC u F Ts L o c) (n := sN u F Ts L l o c) (v := sV u F Ts L o) (lim := lim) (span := span) (cs := cs) (ct := ct) hqN hBN ((hF.sq hS (by unfold WAl WSq; omega) (by unfold WAl WSq; omega)).sq hS9 (by omega) (by omega)) hNN hRN n4 hbt hlim htb hcnt husc hff hcs v2 v3 hc1 hn1 (by omega) hsp
        have hSP : Sq WAl M P := hSN.tr (hP1.weak fun a j h => Or.inl h)
        by_cases hO : MQo lim span blk cnt cs r (sV u F Ts L o) (sC u F Ts L o c) (sN u F Ts L l o c) us t
        · rw [k2 ⟨zt, hO⟩] at hrn
          obtain ⟨p4, pB, pR, pN⟩ := hP3 hO
          obtain ⟨L', hK', hst', hL', hl', ho', hc'⟩ : ∃ L', RK N 198 199 F L' (0 : Nat) ∧ (if (lst == 1) = true then (sL3 Ts L l o c, l, o, c) else (sL6 Ts L l o c, goK u F Ts 0 l (sL3 Ts L l o c), goK u F Ts 1 o (sL5 Ts L l o c), goK u F Ts 2 c (sL4 Ts L l o c))) = (L', l', o', c') ∧ L' ≤ L ∧ l' < 2 ^ (Ts 0).1 ∧ o' < 2 ^ (Ts 1).1 ∧ c' < 2 ^ (Ts 2).1 := by
            rcases hl1 with ⟨rfl, -⟩ | ⟨rfl, -⟩
            · obtain ⟨a1, rfl, rfl, rfl⟩ := hz1 rfl rfl
              exact ⟨_, a1, rfl, (sL_le L l' o' c').1, hl, ho, hc⟩
            · obtain ⟨a1, rfl, rfl, rfl⟩ := hz0 rfl rfl
              exact ⟨_, a1, rfl, (sL_le L l o c).2, goK_lt g0 hl, goK_lt g1 ho, goK_lt g2 hc⟩
          rw [hst'] at hrn
          have hK'' : RK P 198 199 F L' (0 : Nat) := ⟨(hP1.K _).trans hK'.1, (hP1.R _ _).trans hK'.2.1, (hP1.I 198 10 (by unfold WSq; omega)).trans hK'.2.2.1, (hP1.I 198 11 (by unfold WSq; omega)).trans hK'.2.2.2.1, (hP1.I 198 9 (by unfold WSq; omega)).trans hK'.2.2.2.2⟩
          have := ih (dd - 1) (some 198, iI many, pl, iI (l' : Nat), iI (o' : Nat), iI (c' : Nat), iI ((k + 1 : Nat) : Int)) P (by omega) ⟨k + 1, hSP, by omega, Or.inl ⟨L', l', o', c', _, _, _, _, _, _, by omega, by omega, p4, hK'', by omega, hl', ho', hc', pB, pN, pR, by omega, by have := hO.2.2; omega, by have := hO.1; omega, by omega, by rw [show many - (k + 1) = j by omega]; exact hrn, rfl⟩⟩
          rw [show ((k + 1 : Nat) : Int) = (k : Int) + 1 by omega] at this
          rw [show ((0 : Nat) : Int) = 0 from rfl] at z9
          clear hB hF hN hR hMS hb hK hMS' hb' hBN hNN hRN hP1 hP2 hP3 pB pR pN k1 k2 ih hrn hst' hK' hK'' hz1 hz0 ziff zt hO
          simp -implicitDefEqProofs (disch := omega) only [fX13_all_L270, fX13_all_L299, qkN, z9, e2, bo_s, bd_s, bn_s, gI_s, gJ_s, gR_s, pI_s, pZ_s, pJ_s, pR_s, chk_s, chN_s, chN_n, aL_s, aI_c, aJ_c, aR_c, wI_c, wB_c, wS_c, wZ_c, wJ_c, wR_c, mK_sI, mK_sJ, mK_sR, mK_cpI, mL_sI, mL_sJ, mL_sR, mL_cpI, mI_sI, mI_sJ, mI_sR, mI_cpI, mJ_sI, mJ_sJ, mJ_sR, mJ_cpI, mR_sI, mR_sJ, mR_sR, mR_cpI, i2b_i2b, i2b_sb, iI_lit, iI_add, iI_sub, iI_mul, iI_neg, iI_lt, iI_le, iI_eq, iI_J, lt_T, lt_F, le_T, le_F, eq_T, eq_F, eqN_T, eqN_F, leN_T, leN_F, ltN_T, ltN_F, if_true, if_false, and_true, true_and, and_false, false_and, or_true, true_or, or_false, false_or, not_true_eq_false, not_false_eq_true, and_self, or_self, tn_c, ne_eq, dite_true, dite_false, K0_198, K0_199, L0_199, K0_200, L0_200, K0_201, L0_201, K0_202, L0_202, K0_203, L0_203, K0_204, L0_204, K0_205, L0_205, K0_206, L0_206, K0_207, L0_207, K0_208, L0_208, K0_209, L0_209, K0_210, L0_210, K0_211, L0_211, K0_212, L0_212, K0_213, L0_213, K0_214, L0_214, K0_215, L0_215, K0_216, L0_216, K0_217, L0_217, K0_218, L0_218, K0_219, L0_219, K0_220, L0_220, K0_221, L0_221, K0_222, L0_222, K0_223, L0_223, K0_224, L0_224, K0_225, L0_225, K0_226, L0_226, K0_227, L0_227, K0_228, L0_228, K0_229, L0_229, K0_230, L0_230, K0_231, L0_231, K0_232, L0_232, K0_233, L0_233, K0_234, L0_234, K0_235, L0_235, K0_236, L0_236, K0_237, L0_237, K0_238, L0_238, K0_239, L0_239, K0_240, L0_240, R0_0, R0_2, R0_6, R0_12, R0_14, R0_15, R0_16, R0_17, R0_18, R0_19, R0_20, R0_21, R0_22, R0_23, R0_24, R0_25, R0_30, R0_31, R0_32, R0_34, R0_36, R0_43, R0_44, R0_45, R0_47, R0_48, R0_49, R0_50, R0_53, R0_55, R0_57, R0_59, R0_60, R0_62, R0_63, R0_64, R0_65, R0_66, R0_67, R0_69, R0_70, R0_71, R0_72]
          exact this
        · rw [k1 (fun h => hO h.2)] at hrn
          obtain ⟨⟨y1, p4, py1, py2⟩, pN, pR⟩ := hP2 hO
          cases hrn
          have := ih 0 (some 198, iI many, pl, iI (l' : Nat), iI (o' : Nat), iI (c' : Nat), iI ((k + 1 : Nat) : Int)) P (by omega) ⟨k + 1, hSP, by omega, Or.inr ⟨rfl, rfl, ⟨y1, p4, py1, py2⟩, pN, pR, _, _, _, rfl⟩⟩
          rw [show ((k + 1 : Nat) : Int) = (k : Int) + 1 by omega] at this
          rw [show ((0 : Nat) : Int) = 0 from rfl] at z9
          clear hB hF hN hR hMS hb hK hMS' hb' hBN hNN hRN hP1 hP2 hP3 pR pN k1 k2 ih hz1 hz0 ziff zt hO
          simp -implicitDefEqProofs (disch := omega) only [fX13_all_L270, fX13_all_L299, qkN, z9, e2, bo_s, bd_s, bn_s, gI_s, gJ_s, gR_s, pI_s, pZ_s, pJ_s, pR_s, chk_s, chN_s, chN_n, aL_s, aI_c, aJ_c, aR_c, wI_c, wB_c, wS_c, wZ_c, wJ_c, wR_c, mK_sI, mK_sJ, mK_sR, mK_cpI, mL_sI, mL_sJ, mL_sR, mL_cpI, mI_sI, mI_sJ, mI_sR, mI_cpI, mJ_sI, mJ_sJ, mJ_sR, mJ_cpI, mR_sI, mR_sJ, mR_sR, mR_cpI, i2b_i2b, i2b_sb, iI_lit, iI_add, iI_sub, iI_mul, iI_neg, iI_lt, iI_le, iI_eq, iI_J, lt_T, lt_F, le_T, le_F, eq_T, eq_F, eqN_T, eqN_F, leN_T, leN_F, ltN_T, ltN_F, if_true, if_false, and_true, true_and, and_false, false_and, or_true, true_or, or_false, false_or, not_true_eq_false, not_false_eq_true, and_self, or_self, tn_c, ne_eq, dite_true, dite_false, K0_198, K0_199, L0_199, K0_200, L0_200, K0_201, L0_201, K0_202, L0_202, K0_203, L0_203, K0_204, L0_204, K0_205, L0_205, K0_206, L0_206, K0_207, L0_207, K0_208, L0_208, K0_209, L0_209, K0_210, L0_210, K0_211, L0_211, K0_212, L0_212, K0_213, L0_213, K0_214, L0_214, K0_215, L0_215, K0_216, L0_216, K0_217, L0_217, K0_218, L0_218, K0_219, L0_219, K0_220, L0_220, K0_221, L0_221, K0_222, L0_222, K0_223, L0_223, K0_224, L0_224, K0_225, L0_225, K0_226, L0_226, K0_227, L0_227, K0_228, L0_228, K0_229, L0_229, K0_230, L0_230, K0_231, L0_231, K0_232, L0_232, K0_233, L0_233, K0_234, L0_234, K0_235, L0_235, K0_236, L0_236, K0_237, L0_237, K0_238, L0_238, K0_239, L0_239, K0_240, L0_240, R0_0, R0_2, R0_6, R0_12, R0_14, R0_15, R0_16, R0_17, R0_18, R0_19, R0_20, R0_21, R0_22, R0_23, R0_24, R0_25, R0_30, R0_31, R0_32, R0_34, R0_36, R0_43, R0_44, R0_45, R0_47, R0_48, R0_49, R0_50, R0_53, R0_55, R0_57, R0_59, R0_60, R0_62, R0_63, R0_64, R0_65, R0_66, R0_67, R0_69, R0_70, R0_71, R0_72]
          exact this
      · have zt : ¬ (if (lst == 1) = true then sZ3 Ts L l o c else sZ6 Ts L l o c) = 0 := fun h => hz (ziff.mpr h)
        rw [k1 (fun h => zt h.1)] at hrn
        cases hrn
        have e1 := fails_ok ((hS9.K 198).trans k0) n4 (iI 17) pl
        have hs : Sq (fun a j => a = 198 ∧ (j = 4 ∨ j = 5)) N (sI (sI N 198 4 (iI 17)) 198 5 pl) := by refine Sq.sI (Sq.sI Sq.rf ?_) ?_ <;> omega
        have := ih 0 (some 198, iI many, pl, iI (l' : Nat), iI (o' : Nat), iI (c' : Nat), iI ((k + 1 : Nat) : Int)) _ (by omega) ⟨k + 1, hSN.tr (hs.weak fun a j h => Or.inl (Or.inl (by omega))), by omega, Or.inr ⟨rfl, rfl, ⟨17, by simp -implicitDefEqProofs (disch := omega) only [mK_sI, mK_sJ, mK_sR, mK_cpI, mL_sI, mL_sJ, mL_sR, mL_cpI, mI_sI, mI_sJ, mI_sR, mI_cpI, mJ_sI, mJ_sJ, mJ_sR, mJ_cpI, mR_sI, mR_sJ, mR_sR, mR_cpI, eqN_T, eqN_F, if_true, if_false, and_true, true_and, and_false, false_and, or_true, true_or, or_false, false_or, not_true_eq_false, not_false_eq_true, and_self, or_self, tn_c, ne_eq, dite_true, dite_false], by omega, by omega⟩, hNN.sq hs (by omega) (by omega), hRN.sq hs (by omega), _, _, _, rfl⟩⟩
        rw [show ((k + 1 : Nat) : Int) = (k : Int) + 1 by omega] at this
        have ez : z = 1 := by omega
        rw [ez, show ((1 : Nat) : Int) = 1 from rfl] at z9
        clear hB hF hN hR hMS hb hK hMS' hb' hBN hNN hRN k1 k2 ih hz1 hz0 ziff zt hs
        simp -implicitDefEqProofs (disch := omega) only [fX13_all_L270, fX13_all_L299, qkN, z9, e1, bo_s, bd_s, bn_s, gI_s, gJ_s, gR_s, pI_s, pZ_s, pJ_s, pR_s, chk_s, chN_s, chN_n, aL_s, aI_c, aJ_c, aR_c, wI_c, wB_c, wS_c, wZ_c, wJ_c, wR_c, mK_sI, mK_sJ, mK_sR, mK_cpI, mL_sI, mL_sJ, mL_sR, mL_cpI, mI_sI, mI_sJ, mI_sR, mI_cpI, mJ_sI, mJ_sJ, mJ_sR, mJ_cpI, mR_sI, mR_sJ, mR_sR, mR_cpI, i2b_i2b, i2b_sb, iI_lit, iI_add, iI_sub, iI_mul, iI_neg, iI_lt, iI_le, iI_eq, iI_J, lt_T, lt_F, le_T, le_F, eq_T, eq_F, eqN_T, eqN_F, leN_T, leN_F, ltN_T, ltN_F, if_true, if_false, and_true, true_and, and_false, false_and, or_true, true_or, or_false, false_or, not_true_eq_false, not_false_eq_true, and_self, or_self, tn_c, ne_eq, dite_true, dite_false, K0_198, K0_199, L0_199, K0_200, L0_200, K0_201, L0_201, K0_202, L0_202, K0_203, L0_203, K0_204, L0_204, K0_205, L0_205, K0_206, L0_206, K0_207, L0_207, K0_208, L0_208, K0_209, L0_209, K0_210, L0_210, K0_211, L0_211, K0_212, L0_212, K0_213, L0_213, K0_214, L0_214, K0_215, L0_215, K0_216, L0_216, K0_217, L0_217, K0_218, L0_218, K0_219, L0_219, K0_220, L0_220, K0_221, L0_221, K0_222, L0_222, K0_223, L0_223, K0_224, L0_224, K0_225, L0_225, K0_226, L0_226, K0_227, L0_227, K0_228, L0_228, K0_229, L0_229, K0_230, L0_230, K0_231, L0_231, K0_232, L0_232, K0_233, L0_233, K0_234, L0_234, K0_235, L0_235, K0_236, L0_236, K0_237, L0_237, K0_238, L0_238, K0_239, L0_239, K0_240, L0_240, R0_0, R0_2, R0_6, R0_12, R0_14, R0_15, R0_16, R0_17, R0_18, R0_19, R0_20, R0_21, R0_22, R0_23, R0_24, R0_25, R0_30, R0_31, R0_32, R0_34, R0_36, R0_43, R0_44, R0_45, R0_47, R0_48, R0_49, R0_50, R0_53, R0_55, R0_57, R0_59, R0_60, R0_62, R0_63, R0_64, R0_65, R0_66, R0_67, R0_69, R0_70, R0_71, R0_72]
        exact this
  · subst hok
    have fin : MAp M ff blk cnt old ls false s' O := ⟨hS, hR, hN, fun h => by cases h.1, fun _ => ⟨z, hz, hz1, hz2⟩⟩
    clear hB hF hN hR hMS hb hK ih
    by_cases hk : many ≤ k
    · simp -implicitDefEqProofs (disch := omega) only [fX13_all_B76, fX13_all_L305, fX13_all_L327, qk, hz, bo_s, bd_s, bn_s, gI_s, gJ_s, gR_s, pI_s, pZ_s, pJ_s, pR_s, chk_s, chN_s, chN_n, aL_s, aI_c, aJ_c, aR_c, wI_c, wB_c, wS_c, wZ_c, wJ_c, wR_c, mK_sI, mK_sJ, mK_sR, mK_cpI, mL_sI, mL_sJ, mL_sR, mL_cpI, mI_sI, mI_sJ, mI_sR, mI_cpI, mJ_sI, mJ_sJ, mJ_sR, mJ_cpI, mR_sI, mR_sJ, mR_sR, mR_cpI, i2b_i2b, i2b_sb, iI_lit, iI_add, iI_sub, iI_mul, iI_neg, iI_lt, iI_le, iI_eq, iI_J, lt_T, lt_F, le_T, le_F, eq_T, eq_F, eqN_T, eqN_F, leN_T, leN_F, ltN_T, ltN_F, if_true, if_false, and_true, true_and, and_false, false_and, or_true, true_or, or_false, false_or, not_true_eq_false, not_false_eq_true, and_self, or_self, tn_c, ne_eq, dite_true, dite_false, K0_198, K0_199, L0_199, K0_200, L0_200, K0_201, L0_201, K0_202, L0_202, K0_203, L0_203, K0_204, L0_204, K0_205, L0_205, K0_206, L0_206, K0_207, L0_207, K0_208, L0_208, K0_209, L0_209, K0_210, L0_210, K0_211, L0_211, K0_212, L0_212, K0_213, L0_213, K0_214, L0_214, K0_215, L0_215, K0_216, L0_216, K0_217, L0_217, K0_218, L0_218, K0_219, L0_219, K0_220, L0_220, K0_221, L0_221, K0_222, L0_222, K0_223, L0_223, K0_224, L0_224, K0_225, L0_225, K0_226, L0_226, K0_227, L0_227, K0_228, L0_228, K0_229, L0_229, K0_230, L0_230, K0_231, L0_231, K0_232, L0_232, K0_233, L0_233, K0_234, L0_234, K0_235, L0_235, K0_236, L0_236, K0_237, L0_237, K0_238, L0_238, K0_239, L0_239, K0_240, L0_240, R0_0, R0_2, R0_6, R0_12, R0_14, R0_15, R0_16, R0_17, R0_18, R0_19, R0_20, R0_21, R0_22, R0_23, R0_24, R0_25, R0_30, R0_31, R0_32, R0_34, R0_36, R0_43, R0_44, R0_45, R0_47, R0_48, R0_49, R0_50, R0_53, R0_55, R0_57, R0_59, R0_60, R0_62, R0_63, R0_64, R0_65, R0_66, R0_67, R0_69, R0_70, R0_71, R0_72]
      exact w_ret fin
    · simp -implicitDefEqProofs (disch := omega) only [fX13_all_B76, fX13_all_L305, fX13_all_L327, qk, hz, bo_s, bd_s, bn_s, gI_s, gJ_s, gR_s, pI_s, pZ_s, pJ_s, pR_s, chk_s, chN_s, chN_n, aL_s, aI_c, aJ_c, aR_c, wI_c, wB_c, wS_c, wZ_c, wJ_c, wR_c, mK_sI, mK_sJ, mK_sR, mK_cpI, mL_sI, mL_sJ, mL_sR, mL_cpI, mI_sI, mI_sJ, mI_sR, mI_cpI, mJ_sI, mJ_sJ, mJ_sR, mJ_cpI, mR_sI, mR_sJ, mR_sR, mR_cpI, i2b_i2b, i2b_sb, iI_lit, iI_add, iI_sub, iI_mul, iI_neg, iI_lt, iI_le, iI_eq, iI_J, lt_T, lt_F, le_T, le_F, eq_T, eq_F, eqN_T, eqN_F, leN_T, leN_F, ltN_T, ltN_F, if_true, if_false, and_true, true_and, and_false, false_and, or_true, true_or, or_false, false_or, not_true_eq_false, not_false_eq_true, and_self, or_self, tn_c, ne_eq, dite_true, dite_false, K0_198, K0_199, L0_199, K0_200, L0_200, K0_201, L0_201, K0_202, L0_202, K0_203, L0_203, K0_204, L0_204, K0_205, L0_205, K0_206, L0_206, K0_207, L0_207, K0_208, L0_208, K0_209, L0_209, K0_210, L0_210, K0_211, L0_211, K0_212, L0_212, K0_213, L0_213, K0_214, L0_214, K0_215, L0_215, K0_216, L0_216, K0_217, L0_217, K0_218, L0_218, K0_219, L0_219, K0_220, L0_220, K0_221, L0_221, K0_222, L0_222, K0_223, L0_223, K0_224, L0_224, K0_225, L0_225, K0_226, L0_226, K0_227, L0_227, K0_228, L0_228, K0_229, L0_229, K0_230, L0_230, K0_231, L0_231, K0_232, L0_232, K0_233, L0_233, K0_234, L0_234, K0_235, L0_235, K0_236, L0_236, K0_237, L0_237, K0_238, L0_238, K0_239, L0_239, K0_240, L0_240, R0_0, R0_2, R0_6, R0_12, R0_14, R0_15, R0_16, R0_17, R0_18, R0_19, R0_20, R0_21, R0_22, R0_23, R0_24, R0_25, R0_30, R0_31, R0_32, R0_34, R0_36, R0_43, R0_44, R0_45, R0_47, R0_48, R0_49, R0_50, R0_53, R0_55, R0_57, R0_59, R0_60, R0_62, R0_63, R0_64, R0_65, R0_66, R0_67, R0_69, R0_70, R0_71, R0_72]
      exact w_ret fin
end MALL
