/-! The class ends a day -/
section CDAY2
variable {sc : jSc} {σ : jH} {D : jD} {w : Nat → Int} {q t : Nat} {f : Int}
theorem TW_l {r k : Nat} {z : Int} (h : TW σ q D w f) : TW (hsl σ r k z) q D w f := by
  unfold TW OW at *
  rw [hsh_sl, hp_sl, hi_sl]
  exact h
theorem CX_l {r k : Nat} {z : Int} (h : CX σ t D) : CX (hsl σ r k z) t D := by
  unfold CX OT RDc at *
  rw [hsh_sl, hp_sl, hi_sl]
  exact h
theorem dy_low (hW : WW D w) {b : Nat} (hb : b < 8) : dyW D w b = if w b = 1 then 2 else w b := by
  have := (hW.1 b hb).2.2.2.2
  simp only [dyW]
  rw [if_neg (by omega), if_neg (by omega), if_neg (by omega), if_pos hb]
  by_cases h : w b = 1
  · rw [if_pos ⟨by omega, h⟩, if_pos h]
  · rw [if_neg (fun z => h z.2), if_neg h]
theorem dy_cel (hW : WW D w) {b : Nat} (hb : b < 8) : dyW D w (8 + b) = -1 := by
  have h1 := hW.1 b hb
  simp only [dyW]
  rw [if_neg (by omega), if_neg (by omega), if_neg (by omega), if_neg (by omega), if_pos (by omega), show 8 + b - 8 = b by omega]
  by_cases h : w b = 1
  · rw [if_pos ⟨by omega, h⟩]
  · rw [if_neg (fun z => h z.2)]
    exact h1.2.2.1 h
theorem dy_mil (hW : WW D w) {b : Nat} (hb : b < 8) : dyW D w (16 + b) = if w b = 1 then w 170 else w (16 + b) := by
  have := (hW.1 b hb).2.2.2.2
  simp only [dyW]
  rw [if_neg (by omega), if_neg (by omega), if_neg (by omega), if_neg (by omega), if_neg (by omega), if_pos (by omega), show 16 + b - 16 = b by omega]
  by_cases h : w b = 1
  · rw [if_pos ⟨by omega, h⟩, if_pos h]
  · rw [if_neg (fun z => h z.2), if_neg h]
theorem dy_168 : dyW D w 168 = w 168 + 1 := rfl
theorem dy_169 : dyW D w 169 = D 0 4 := rfl
theorem dy_170 : dyW D w 170 = w 170 + D 0 5 := rfl
theorem dy_not (hW : WW D w) {d x : Nat} (hd : d < 12) (hx : x < 12) : dyW D w (24 + 12 * d + x) = if (d : Int) = w 168 then kdW D w x else w (24 + 12 * d + x) := by
  have h3 := hW.2.2.1
  simp only [dyW]
  rw [if_neg (by omega), if_neg (by omega), if_neg (by omega), if_neg (by omega), if_neg (by omega), if_neg (by omega)]
  by_cases h : (d : Int) = w 168
  · rw [if_pos (by omega), if_pos h, show 24 + 12 * d + x - 24 - 12 * (w 168).toNat = x by omega]
  · rw [if_neg (by omega), if_neg h]
theorem pkd_dy (hW : WW D w) {d : Nat} (hd : d < 12) (h : (d : Int) = w 168) : ∀ n, n ≤ 12 → pkd (dyW D w) d n = pkk D w n
  | 0, _ => rfl
  | n + 1, hn => by rw [pkd, pkk, dy_not hW hd (by omega), if_pos h, pkd_dy hW hd h n (by omega)]
theorem pkd_old (hW : WW D w) {d : Nat} (hd : d < 12) (h : ¬ (d : Int) = w 168) : ∀ n, n ≤ 12 → pkd (dyW D w) d n = pkd w d n
  | 0, _ => rfl
  | n + 1, hn => by rw [pkd, pkd, dy_not hW hd (by omega), if_neg h, pkd_old hW hd h n (by omega)]
theorem c_89 (hT : TW σ q D w f) (hX : CX σ t D) (hW : WW D w) (hNT : NT σ q w) (hq : q + 4 < t ∨ t + 11 < q) : Ct sc 2 89 [vR q, vR t] σ (fun r τ => (w 168 = 200 ∧ r = rV (vI 0) ∧ τ = σ) ∨ (¬ w 168 = 200 ∧ r = rV (vI 1) ∧ TW τ q D (dyW D w) f ∧ NT τ q (dyW D w) ∧ Fr (Sq q) σ τ)) := by
  have hl := OWl hT.1
  have hday := hW.2.2.1
  have h4 : hi σ q 4 = w 168 := hT.2.2.2.2.1
  have hQ := hT.1
  have hG := hX.1
  refine Ct.of (n := 1) (L := [vR q, vR t, vU]) cov_89 rfl (Nat.le_of_ble_eq_true rfl) ?_
  unfold T_89
  simp only [↓x_eInt, ↓x_eLng, ↓x_eNul, ↓x_eStr, ↓x_eLoc, ↓x_eLol, ↓x_eLor, ↓x_eBin, ↓x_eDiv, ↓x_eRem, ↓x_eNeg, ↓x_eLbin, ↓x_eLdiv, ↓x_eLrem, ↓x_eLshl, ↓x_eLshr, ↓x_eI2l, ↓x_eL2i, ↓x_eFldI, ↓x_eFldL, ↓x_eFldP, ↓x_eAldI, ↓x_eAldS, ↓x_eAldL, ↓x_eAldP, ↓x_eLen, ↓x_eLenS, ↓x_eCall, ↓x_eCalv, ↓x_eMin, ↓x_eMax, ↓x_eLmin, ↓x_eAbs, ↓x_eSlen, ↓x_eSat, ↓x_eIte, ↓x_eNewa, ↓x_eNewo, ↓x_esN, ↓x_esC, ↓x_cCmp, ↓x_cCmpz, ↓x_cLcmp, ↓x_cIsn, ↓x_cNot, ↓x_cAnd, ↓x_cOr, ↓x_tSkip, ↓x_tSup, ↓x_tSeq, ↓x_tSetI, ↓x_tSetL, ↓x_tSetR, ↓x_tInc, ↓x_tPutI, ↓x_tPutL, ↓x_tPutP, ↓x_tPutc, ↓x_tAstI, ↓x_tAstL, ↓x_tAstP, ↓x_tAstcI, ↓x_tAstcL, ↓x_tAcpI, ↓x_tAcpL, ↓x_tExp, ↓x_tExv, ↓x_tExw, ↓x_tIte, ↓x_tSw, ↓x_tRet, ↓x_tRetB, ↓x_tRetL, ↓x_tRetv, ↓x_tBrk, ↓x_tCont, ↓x_tThr, ↓x_wD, ↓x_wK, ↓x_jIx, ↓x_jOb, ↓x_jInt_I, ↓x_jLng_L, ↓x_jRef_R, ↓x_jStr_S, ↓x_jPls_R, ↓x_jPls_N, ↓x_jAny_R, ↓x_jAny_S, ↓jIntg_0, ↓jLngg_0, ↓jRefg_0, ↓jAnyg_0, ↓jStrg_0, ↓jPlsg_0, ↓jst_x0, ↓jst2_x0, ↓jIntg_1, ↓jLngg_1, ↓jRefg_1, ↓jAnyg_1, ↓jst_x1, ↓jst2_x1, ↓jIntg_2, ↓jLngg_2, ↓jRefg_2, ↓jAnyg_2, ↓jst_x2, ↓jst2_x2, ↓jIntg_3, ↓jLngg_3, ↓jRefg_3, ↓jAnyg_3, ↓jst_x3, ↓jst2_x3, ↓jIntg_4, ↓jLngg_4, ↓jRefg_4, ↓jAnyg_4, ↓jst_x4, ↓jst2_x4, ↓jIntg_5, ↓jLngg_5, ↓jRefg_5, ↓jAnyg_5, ↓jst_x5, ↓jst2_x5, ↓jIntg_6, ↓jLngg_6, ↓jRefg_6, ↓jAnyg_6, ↓jst_x6, ↓jst2_x6, ↓jIntg_7, ↓jLngg_7, ↓jRefg_7, ↓jAnyg_7, ↓jst_x7, ↓jst2_x7, ↓jIntg_8, ↓jLngg_8, ↓jRefg_8, ↓jAnyg_8, ↓jst_x8, ↓jst2_x8, ↓jIntg_9, ↓jLngg_9, ↓jRefg_9, ↓jAnyg_9, ↓jst_x9, ↓jst2_x9, ↓jIntg_10, ↓jLngg_10, ↓jRefg_10, ↓jAnyg_10, ↓jst_x10, ↓jst2_x10, ↓jIntg_11, ↓jLngg_11, ↓jRefg_11, ↓jAnyg_11, ↓jst_x11, ↓jst2_x11, ↓jIntg_12, ↓jLngg_12, ↓jRefg_12, ↓jAnyg_12, ↓jst_x12, ↓jst2_x12, ↓jIntg_13, ↓jLngg_13, ↓jRefg_13, ↓jAnyg_13, ↓jst_x13, ↓jst2_x13, ↓jIntg_14, ↓jLngg_14, ↓jRefg_14, ↓jAnyg_14, ↓jst_x14, ↓jst2_x14, ↓ex_some, jpv_some, jpv_none, jPls_pv, jisL_I, jisL_L, jisL_R, jisL_S, jisL_N, jisL_U, j_op0, j_op1, j_op2, j_c2, true_and, and_true, true_or, or_true, Int.toNat_natCast, nat1, ex_row, ex_row2, jwb1, jwb, jwb2, Classical.not_not, not_true_eq_false, false_implies, true_implies, ne_eq, not_false_eq_true, rV_inj, vI_inj, vL_inj, hi_tp, Nat.reduceEqDiff, Nat.reduceLeDiff, Nat.reduceAdd, Int.reduceLE, Int.reduceLT, Int.reduceEq, Int.reduceNeg, Int.reduceToNat, Int.reduceAdd, Int.reduceSub, Int.reduceMul, OWs0 hQ, OWs1 hQ, OWs2 hQ, OWs3 hQ, OWs4 hQ, OWp0 hQ, OWp1 hQ, OWp2 hQ, OWp3 hQ, jf_9_4, jf_9_5, jf_9_6, jf_9_7, jf_9_8, jf_9_9]
  simp (disch := omega) only [↓x_eInt, ↓x_eLng, ↓x_eNul, ↓x_eStr, ↓x_eLoc, ↓x_eLol, ↓x_eLor, ↓x_eBin, ↓x_eDiv, ↓x_eRem, ↓x_eNeg, ↓x_eLbin, ↓x_eLdiv, ↓x_eLrem, ↓x_eLshl, ↓x_eLshr, ↓x_eI2l, ↓x_eL2i, ↓x_eFldI, ↓x_eFldL, ↓x_eFldP, ↓x_eAldI, ↓x_eAldS, ↓x_eAldL, ↓x_eAldP, ↓x_eLen, ↓x_eLenS, ↓x_eCall, ↓x_eCalv, ↓x_eMin, ↓x_eMax, ↓x_eLmin, ↓x_eAbs, ↓x_eSlen, ↓x_eSat, ↓x_eIte, ↓x_eNewa, ↓x_eNewo, ↓x_esN, ↓x_esC, ↓x_cCmp, ↓x_cCmpz, ↓x_cLcmp, ↓x_cIsn, ↓x_cNot, ↓x_cAnd, ↓x_cOr, ↓x_tSkip, ↓x_tSup, ↓x_tSeq, ↓x_tSetI, ↓x_tSetL, ↓x_tSetR, ↓x_tInc, ↓x_tPutI, ↓x_tPutL, ↓x_tPutP, ↓x_tPutc, ↓x_tAstI, ↓x_tAstL, ↓x_tAstP, ↓x_tAstcI, ↓x_tAstcL, ↓x_tAcpI, ↓x_tAcpL, ↓x_tExp, ↓x_tExv, ↓x_tExw, ↓x_tIte, ↓x_tSw, ↓x_tRet, ↓x_tRetB, ↓x_tRetL, ↓x_tRetv, ↓x_tBrk, ↓x_tCont, ↓x_tThr, ↓x_wD, ↓x_wK, ↓x_jIx, ↓x_jOb, ↓x_jInt_I, ↓x_jLng_L, ↓x_jRef_R, ↓x_jStr_S, ↓x_jPls_R, ↓x_jPls_N, ↓x_jAny_R, ↓x_jAny_S, ↓jIntg_0, ↓jLngg_0, ↓jRefg_0, ↓jAnyg_0, ↓jStrg_0, ↓jPlsg_0, ↓jst_x0, ↓jst2_x0, ↓jIntg_1, ↓jLngg_1, ↓jRefg_1, ↓jAnyg_1, ↓jst_x1, ↓jst2_x1, ↓jIntg_2, ↓jLngg_2, ↓jRefg_2, ↓jAnyg_2, ↓jst_x2, ↓jst2_x2, ↓jIntg_3, ↓jLngg_3, ↓jRefg_3, ↓jAnyg_3, ↓jst_x3, ↓jst2_x3, ↓jIntg_4, ↓jLngg_4, ↓jRefg_4, ↓jAnyg_4, ↓jst_x4, ↓jst2_x4, ↓jIntg_5, ↓jLngg_5, ↓jRefg_5, ↓jAnyg_5, ↓jst_x5, ↓jst2_x5, ↓jIntg_6, ↓jLngg_6, ↓jRefg_6, ↓jAnyg_6, ↓jst_x6, ↓jst2_x6, ↓jIntg_7, ↓jLngg_7, ↓jRefg_7, ↓jAnyg_7, ↓jst_x7, ↓jst2_x7, ↓jIntg_8, ↓jLngg_8, ↓jRefg_8, ↓jAnyg_8, ↓jst_x8, ↓jst2_x8, ↓jIntg_9, ↓jLngg_9, ↓jRefg_9, ↓jAnyg_9, ↓jst_x9, ↓jst2_x9, ↓jIntg_10, ↓jLngg_10, ↓jRefg_10, ↓jAnyg_10, ↓jst_x10, ↓jst2_x10, ↓jIntg_11, ↓jLngg_11, ↓jRefg_11, ↓jAnyg_11, ↓jst_x11, ↓jst2_x11, ↓jIntg_12, ↓jLngg_12, ↓jRefg_12, ↓jAnyg_12, ↓jst_x12, ↓jst2_x12, ↓jIntg_13, ↓jLngg_13, ↓jRefg_13, ↓jAnyg_13, ↓jst_x13, ↓jst2_x13, ↓jIntg_14, ↓jLngg_14, ↓jRefg_14, ↓jAnyg_14, ↓jst_x14, ↓jst2_x14, ↓ex_some, jpv_some, jpv_none, jPls_pv, jisL_I, jisL_L, jisL_R, jisL_S, jisL_N, jisL_U, j_op0, j_op1, j_op2, j_c2, true_and, and_true, true_or, or_true, Int.toNat_natCast, nat1, ex_row, ex_row2, jwb1, jwb, jwb2, Classical.not_not, not_true_eq_false, false_implies, true_implies, ne_eq, not_false_eq_true, rV_inj, vI_inj, vL_inj, hi_tp, Nat.reduceEqDiff, Nat.reduceLeDiff, Nat.reduceAdd, Int.reduceLE, Int.reduceLT, Int.reduceEq, Int.reduceNeg, Int.reduceToNat, Int.reduceAdd, Int.reduceSub, Int.reduceMul, w_id, hsh_si, hp_si, hi_si_ne, OWs0 hQ, OWs1 hQ, OWs2 hQ, OWs3 hQ, OWs4 hQ, OWp0 hQ, OWp1 hQ, OWp2 hQ, OWp3 hQ, jf_9_4, jf_9_5, jf_9_6, jf_9_7, jf_9_8, jf_9_9, OTs0 hG, OTs1 hG, OTs2 hG, OTs3 hG, OTs4 hG, OTs5 hG, OTs6 hG, OTs7 hG, OTs8 hG, OTs9 hG, OTs10 hG, OTs11 hG, OTp0 hG, OTp1 hG, OTp2 hG, OTp3 hG, OTp4 hG, OTp5 hG, OTp6 hG, OTp7 hG, OTp8 hG, OTp9 hG, OTp10 hG, h4]
  refine ⟨fun g0 => Or.inl (by omega), fun g0 => ⟨fun g1 => ?_, fun g1 => ?_⟩⟩
  · refine (c_90 hT hX).val (by omega) rfl ?_
    simp (disch := omega) only [↓x_eInt, ↓x_eLng, ↓x_eNul, ↓x_eStr, ↓x_eLoc, ↓x_eLol, ↓x_eLor, ↓x_eBin, ↓x_eDiv, ↓x_eRem, ↓x_eNeg, ↓x_eLbin, ↓x_eLdiv, ↓x_eLrem, ↓x_eLshl, ↓x_eLshr, ↓x_eI2l, ↓x_eL2i, ↓x_eFldI, ↓x_eFldL, ↓x_eFldP, ↓x_eAldI, ↓x_eAldS, ↓x_eAldL, ↓x_eAldP, ↓x_eLen, ↓x_eLenS, ↓x_eCall, ↓x_eCalv, ↓x_eMin, ↓x_eMax, ↓x_eLmin, ↓x_eAbs, ↓x_eSlen, ↓x_eSat, ↓x_eIte, ↓x_eNewa, ↓x_eNewo, ↓x_esN, ↓x_esC, ↓x_cCmp, ↓x_cCmpz, ↓x_cLcmp, ↓x_cIsn, ↓x_cNot, ↓x_cAnd, ↓x_cOr, ↓x_tSkip, ↓x_tSup, ↓x_tSeq, ↓x_tSetI, ↓x_tSetL, ↓x_tSetR, ↓x_tInc, ↓x_tPutI, ↓x_tPutL, ↓x_tPutP, ↓x_tPutc, ↓x_tAstI, ↓x_tAstL, ↓x_tAstP, ↓x_tAstcI, ↓x_tAstcL, ↓x_tAcpI, ↓x_tAcpL, ↓x_tExp, ↓x_tExv, ↓x_tExw, ↓x_tIte, ↓x_tSw, ↓x_tRet, ↓x_tRetB, ↓x_tRetL, ↓x_tRetv, ↓x_tBrk, ↓x_tCont, ↓x_tThr, ↓x_wD, ↓x_wK, ↓x_jIx, ↓x_jOb, ↓x_jInt_I, ↓x_jLng_L, ↓x_jRef_R, ↓x_jStr_S, ↓x_jPls_R, ↓x_jPls_N, ↓x_jAny_R, ↓x_jAny_S, ↓jIntg_0, ↓jLngg_0, ↓jRefg_0, ↓jAnyg_0, ↓jStrg_0, ↓jPlsg_0, ↓jst_x0, ↓jst2_x0, ↓jIntg_1, ↓jLngg_1, ↓jRefg_1, ↓jAnyg_1, ↓jst_x1, ↓jst2_x1, ↓jIntg_2, ↓jLngg_2, ↓jRefg_2, ↓jAnyg_2, ↓jst_x2, ↓jst2_x2, ↓jIntg_3, ↓jLngg_3, ↓jRefg_3, ↓jAnyg_3, ↓jst_x3, ↓jst2_x3, ↓jIntg_4, ↓jLngg_4, ↓jRefg_4, ↓jAnyg_4, ↓jst_x4, ↓jst2_x4, ↓jIntg_5, ↓jLngg_5, ↓jRefg_5, ↓jAnyg_5, ↓jst_x5, ↓jst2_x5, ↓jIntg_6, ↓jLngg_6, ↓jRefg_6, ↓jAnyg_6, ↓jst_x6, ↓jst2_x6, ↓jIntg_7, ↓jLngg_7, ↓jRefg_7, ↓jAnyg_7, ↓jst_x7, ↓jst2_x7, ↓jIntg_8, ↓jLngg_8, ↓jRefg_8, ↓jAnyg_8, ↓jst_x8, ↓jst2_x8, ↓jIntg_9, ↓jLngg_9, ↓jRefg_9, ↓jAnyg_9, ↓jst_x9, ↓jst2_x9, ↓jIntg_10, ↓jLngg_10, ↓jRefg_10, ↓jAnyg_10, ↓jst_x10, ↓jst2_x10, ↓jIntg_11, ↓jLngg_11, ↓jRefg_11, ↓jAnyg_11, ↓jst_x11, ↓jst2_x11, ↓jIntg_12, ↓jLngg_12, ↓jRefg_12, ↓jAnyg_12, ↓jst_x12, ↓jst2_x12, ↓jIntg_13, ↓jLngg_13, ↓jRefg_13, ↓jAnyg_13, ↓jst_x13, ↓jst2_x13, ↓jIntg_14, ↓jLngg_14, ↓jRefg_14, ↓jAnyg_14, ↓jst_x14, ↓jst2_x14, ↓ex_some, jpv_some, jpv_none, jPls_pv, jisL_I, jisL_L, jisL_R, jisL_S, jisL_N, jisL_U, j_op0, j_op1, j_op2, j_c2, true_and, and_true, true_or, or_true, Int.toNat_natCast, nat1, ex_row, ex_row2, jwb1, jwb, jwb2, Classical.not_not, not_true_eq_false, false_implies, true_implies, ne_eq, not_false_eq_true, rV_inj, vI_inj, vL_inj, hi_tp, Nat.reduceEqDiff, Nat.reduceLeDiff, Nat.reduceAdd, Int.reduceLE, Int.reduceLT, Int.reduceEq, Int.reduceNeg, Int.reduceToNat, Int.reduceAdd, Int.reduceSub, Int.reduceMul, w_id, hsh_si, hp_si, hi_si_ne, OWs0 hQ, OWs1 hQ, OWs2 hQ, OWs3 hQ, OWs4 hQ, OWp0 hQ, OWp1 hQ, OWp2 hQ, OWp3 hQ, jf_9_4, jf_9_5, jf_9_6, jf_9_7, jf_9_8, jf_9_9, OTs0 hG, OTs1 hG, OTs2 hG, OTs3 hG, OTs4 hG, OTs5 hG, OTs6 hG, OTs7 hG, OTs8 hG, OTs9 hG, OTs10 hG, OTs11 hG, OTp0 hG, OTp1 hG, OTp2 hG, OTp3 hG, OTp4 hG, OTp5 hG, OTp6 hG, OTp7 hG, OTp8 hG, OTp9 hG, OTp10 hG, h4]
    refine ⟨by omega, by omega, ?_⟩
    have hNT1 : NT (hsl σ (q + 4) (w 168).toNat (pkk D w 12 : Nat)) q (dyW D w) := by
      intro d hd hd2
      rw [dy_168] at hd2
      rw [hl_sl]
      by_cases e : (d : Int) = w 168
      · rw [if_pos ⟨rfl, by omega⟩, pkd_dy hW hd e 12 (by omega)]
      · rw [if_neg (fun z => e (by omega)), pkd_old hW hd e 12 (by omega)]
        exact hNT d hd (by omega)
    have hT1 : TW (hsl σ (q + 4) (w 168).toNat (pkk D w 12 : Nat)) q D w f := TW_l hT
    have hX1 : CX (hsl σ (q + 4) (w 168).toNat (pkk D w 12 : Nat)) t D := CX_l hX
    have hF1 : Fr (Sq q) σ (hsl σ (q + 4) (w 168).toNat (pkk D w 12 : Nat)) := (Fr.refl _ _).sl (by unfold Sq; omega)
    generalize hsl σ (q + 4) (w 168).toNat (pkk D w 12 : Nat) = σ1 at *
    obtain ⟨hQ, k1, k2, k3, k4, k5, k6, k7, k8⟩ := id hT1
    have hG := hX1.1
    have k12 : hi σ1 t 12 = D 0 4 := hX1.2.1.1.2.2.2.2.1
    have k13 : hi σ1 t 13 = D 0 5 := hX1.2.1.1.2.2.2.2.2.1
    have hd0 := hX1.2.2.1
    refine tLoop_go (fun y : Nat => 8 - y) (fun y => [vR q, vR t, vI y]) (fun y τ => y ≤ 8 ∧ Fr (fun r _ => r = q + 1 ∨ r = q + 2) σ1 τ ∧ (∀ j, j < 8 → hi τ (q + 1) j = if j < y then -1 else w (8 + j)) ∧ (∀ j, j < 8 → hi τ (q + 2) j = if w j = 1 ∧ j < y then w 170 else if w j = 2 then w (16 + j) else -1)) (fun y τ => Fr (fun r _ => r = q + 1 ∨ r = q + 2) σ1 τ ∧ (∀ j, j < 8 → hi τ (q + 1) j = -1) ∧ (∀ j, j < 8 → hi τ (q + 2) j = if w j = 1 then w 170 else if w j = 2 then w (16 + j) else -1)) 0 rfl ⟨Nat.zero_le _, Fr.refl _ _, fun j hj => by rw [if_neg (by omega)]; exact k1 j hj, fun j hj => by rw [if_neg (by omega)]; exact k2 j hj⟩ ?_ ?_
    · rintro y τ N' N ⟨hy, hF, i1, i2⟩ hN hE
      have hQ := OW_fr hQ hF
      have e5 : hi τ q 5 = w 170 := by rw [hF.i (by omega)]; exact k5
      simp (disch := omega) only [↓x_eInt, ↓x_eLng, ↓x_eNul, ↓x_eStr, ↓x_eLoc, ↓x_eLol, ↓x_eLor, ↓x_eBin, ↓x_eDiv, ↓x_eRem, ↓x_eNeg, ↓x_eLbin, ↓x_eLdiv, ↓x_eLrem, ↓x_eLshl, ↓x_eLshr, ↓x_eI2l, ↓x_eL2i, ↓x_eFldI, ↓x_eFldL, ↓x_eFldP, ↓x_eAldI, ↓x_eAldS, ↓x_eAldL, ↓x_eAldP, ↓x_eLen, ↓x_eLenS, ↓x_eCall, ↓x_eCalv, ↓x_eMin, ↓x_eMax, ↓x_eLmin, ↓x_eAbs, ↓x_eSlen, ↓x_eSat, ↓x_eIte, ↓x_eNewa, ↓x_eNewo, ↓x_esN, ↓x_esC, ↓x_cCmp, ↓x_cCmpz, ↓x_cLcmp, ↓x_cIsn, ↓x_cNot, ↓x_cAnd, ↓x_cOr, ↓x_tSkip, ↓x_tSup, ↓x_tSeq, ↓x_tSetI, ↓x_tSetL, ↓x_tSetR, ↓x_tInc, ↓x_tPutI, ↓x_tPutL, ↓x_tPutP, ↓x_tPutc, ↓x_tAstI, ↓x_tAstL, ↓x_tAstP, ↓x_tAstcI, ↓x_tAstcL, ↓x_tAcpI, ↓x_tAcpL, ↓x_tExp, ↓x_tExv, ↓x_tExw, ↓x_tIte, ↓x_tSw, ↓x_tRet, ↓x_tRetB, ↓x_tRetL, ↓x_tRetv, ↓x_tBrk, ↓x_tCont, ↓x_tThr, ↓x_wD, ↓x_wK, ↓x_jIx, ↓x_jOb, ↓x_jInt_I, ↓x_jLng_L, ↓x_jRef_R, ↓x_jStr_S, ↓x_jPls_R, ↓x_jPls_N, ↓x_jAny_R, ↓x_jAny_S, ↓jIntg_0, ↓jLngg_0, ↓jRefg_0, ↓jAnyg_0, ↓jStrg_0, ↓jPlsg_0, ↓jst_x0, ↓jst2_x0, ↓jIntg_1, ↓jLngg_1, ↓jRefg_1, ↓jAnyg_1, ↓jst_x1, ↓jst2_x1, ↓jIntg_2, ↓jLngg_2, ↓jRefg_2, ↓jAnyg_2, ↓jst_x2, ↓jst2_x2, ↓jIntg_3, ↓jLngg_3, ↓jRefg_3, ↓jAnyg_3, ↓jst_x3, ↓jst2_x3, ↓jIntg_4, ↓jLngg_4, ↓jRefg_4, ↓jAnyg_4, ↓jst_x4, ↓jst2_x4, ↓jIntg_5, ↓jLngg_5, ↓jRefg_5, ↓jAnyg_5, ↓jst_x5, ↓jst2_x5, ↓jIntg_6, ↓jLngg_6, ↓jRefg_6, ↓jAnyg_6, ↓jst_x6, ↓jst2_x6, ↓jIntg_7, ↓jLngg_7, ↓jRefg_7, ↓jAnyg_7, ↓jst_x7, ↓jst2_x7, ↓jIntg_8, ↓jLngg_8, ↓jRefg_8, ↓jAnyg_8, ↓jst_x8, ↓jst2_x8, ↓jIntg_9, ↓jLngg_9, ↓jRefg_9, ↓jAnyg_9, ↓jst_x9, ↓jst2_x9, ↓jIntg_10, ↓jLngg_10, ↓jRefg_10, ↓jAnyg_10, ↓jst_x10, ↓jst2_x10, ↓jIntg_11, ↓jLngg_11, ↓jRefg_11, ↓jAnyg_11, ↓jst_x11, ↓jst2_x11, ↓jIntg_12, ↓jLngg_12, ↓jRefg_12, ↓jAnyg_12, ↓jst_x12, ↓jst2_x12, ↓jIntg_13, ↓jLngg_13, ↓jRefg_13, ↓jAnyg_13, ↓jst_x13, ↓jst2_x13, ↓jIntg_14, ↓jLngg_14, ↓jRefg_14, ↓jAnyg_14, ↓jst_x14, ↓jst2_x14, ↓ex_some, jpv_some, jpv_none, jPls_pv, jisL_I, jisL_L, jisL_R, jisL_S, jisL_N, jisL_U, j_op0, j_op1, j_op2, j_c2, true_and, and_true, true_or, or_true, Int.toNat_natCast, nat1, ex_row, ex_row2, jwb1, jwb, jwb2, Classical.not_not, not_true_eq_false, false_implies, true_implies, ne_eq, not_false_eq_true, rV_inj, vI_inj, vL_inj, hi_tp, Nat.reduceEqDiff, Nat.reduceLeDiff, Nat.reduceAdd, Int.reduceLE, Int.reduceLT, Int.reduceEq, Int.reduceNeg, Int.reduceToNat, Int.reduceAdd, Int.reduceSub, Int.reduceMul, w_id, hsh_si, hp_si, hi_si_ne, OWs0 hQ, OWs1 hQ, OWs2 hQ, OWs3 hQ, OWs4 hQ, OWp0 hQ, OWp1 hQ, OWp2 hQ, OWp3 hQ, jf_9_4, jf_9_5, jf_9_6, jf_9_7, jf_9_8, jf_9_9, e5]
      refine ⟨fun hlt => ?_, fun hlt => hE y _ ⟨hF, fun j hj => by rw [i1 j hj, if_pos (by omega)], fun j hj => by rw [i2 j hj]; by_cases h : w j = 1 <;> simp [h]; omega⟩⟩
      have hy8 : y < 8 := by omega
      have e1 := i1 y hy8
      have hwy := hW.1 y hy8
      have hla := laid_iff hW hy8
      rw [if_neg (by omega)] at e1
      rw [e1]
      have hrw : -1 ≤ w (8 + y) ∧ w (8 + y) ≤ 11 := by
        by_cases h : w y = 1
        · have := hwy.2.1 h; omega
        · have := hwy.2.2.1 h; omega
      simp (disch := omega) only [w_id]
      refine ⟨by omega, by omega, fun g2 => ⟨by omega, by omega, by omega, by omega, hN (y + 1) _ (by omega) ⟨by omega, (hF.si (Or.inl rfl)).si (Or.inr rfl), fun j hj => ?_, fun j hj => ?_⟩⟩, fun g2 => hN (y + 1) _ (by omega) ⟨by omega, hF, fun j hj => ?_, fun j hj => ?_⟩⟩
      · rw [hi_si, if_neg (by omega), hi_si, i1 j hj]
        by_cases e : j = y
        · rw [if_pos ⟨rfl, e⟩, if_pos (by omega)]
        · rw [if_neg (fun z => e z.2)]
          by_cases e2 : j < y
          · rw [if_pos e2, if_pos (by omega)]
          · rw [if_neg e2, if_neg (by omega)]
      · rw [hi_si, hi_si, i2 j hj]
        have hy1 : w y = 1 := Classical.byContradiction (fun z => g2 (hla.mpr z))
        by_cases e : j = y
        · rw [if_pos ⟨rfl, e⟩, e, if_pos ⟨hy1, by omega⟩]
        · rw [if_neg (fun z => e z.2), if_neg (by omega)]
          by_cases e2 : w j = 1 ∧ j < y
          · rw [if_pos e2, if_pos ⟨e2.1, by omega⟩]
          · rw [if_neg e2, if_neg (show ¬ (w j = 1 ∧ j < y + 1) from fun z => e2 ⟨z.1, by omega⟩)]
      · rw [i1 j hj]
        by_cases e : j = y
        · rw [if_neg (by omega), if_pos (by omega), e]; exact g2
        · by_cases e2 : j < y
          · rw [if_pos e2, if_pos (by omega)]
          · rw [if_neg e2, if_neg (by omega)]
      · rw [i2 j hj]
        by_cases e2 : w j = 1 ∧ j < y
        · rw [if_pos e2, if_pos ⟨e2.1, by omega⟩]
        · have e3 : ¬ (w j = 1 ∧ j < y + 1) := fun z => e2 ⟨z.1, by
            by_cases e : j = y
            · rw [e] at z; exact (hla.mp g2 z.1).elim
            · omega⟩
          rw [if_neg e2, if_neg e3]
    · rintro y τ ⟨hF, i1, i2⟩
      have hQ := OW_fr hQ hF
      have hG : OT τ t := by unfold OT; rw [hF.sh, hF.hp]; exact hG
      have e4 : hi τ q 4 = w 168 := by rw [hF.i (by omega)]; exact k4
      have e5 : hi τ q 5 = w 170 := by rw [hF.i (by omega)]; exact k5
      have e7 : hi τ q 7 = f := by rw [hF.i (by omega)]; exact k7
      have e12 : hi τ t 12 = D 0 4 := by rw [hF.i (by omega)]; exact k12
      have e13 : hi τ t 13 = D 0 5 := by rw [hF.i (by omega)]; exact k13
      simp (disch := omega) only [↓x_eInt, ↓x_eLng, ↓x_eNul, ↓x_eStr, ↓x_eLoc, ↓x_eLol, ↓x_eLor, ↓x_eBin, ↓x_eDiv, ↓x_eRem, ↓x_eNeg, ↓x_eLbin, ↓x_eLdiv, ↓x_eLrem, ↓x_eLshl, ↓x_eLshr, ↓x_eI2l, ↓x_eL2i, ↓x_eFldI, ↓x_eFldL, ↓x_eFldP, ↓x_eAldI, ↓x_eAldS, ↓x_eAldL, ↓x_eAldP, ↓x_eLen, ↓x_eLenS, ↓x_eCall, ↓x_eCalv, ↓x_eMin, ↓x_eMax, ↓x_eLmin, ↓x_eAbs, ↓x_eSlen, ↓x_eSat, ↓x_eIte, ↓x_eNewa, ↓x_eNewo, ↓x_esN, ↓x_esC, ↓x_cCmp, ↓x_cCmpz, ↓x_cLcmp, ↓x_cIsn, ↓x_cNot, ↓x_cAnd, ↓x_cOr, ↓x_tSkip, ↓x_tSup, ↓x_tSeq, ↓x_tSetI, ↓x_tSetL, ↓x_tSetR, ↓x_tInc, ↓x_tPutI, ↓x_tPutL, ↓x_tPutP, ↓x_tPutc, ↓x_tAstI, ↓x_tAstL, ↓x_tAstP, ↓x_tAstcI, ↓x_tAstcL, ↓x_tAcpI, ↓x_tAcpL, ↓x_tExp, ↓x_tExv, ↓x_tExw, ↓x_tIte, ↓x_tSw, ↓x_tRet, ↓x_tRetB, ↓x_tRetL, ↓x_tRetv, ↓x_tBrk, ↓x_tCont, ↓x_tThr, ↓x_wD, ↓x_wK, ↓x_jIx, ↓x_jOb, ↓x_jInt_I, ↓x_jLng_L, ↓x_jRef_R, ↓x_jStr_S, ↓x_jPls_R, ↓x_jPls_N, ↓x_jAny_R, ↓x_jAny_S, ↓jIntg_0, ↓jLngg_0, ↓jRefg_0, ↓jAnyg_0, ↓jStrg_0, ↓jPlsg_0, ↓jst_x0, ↓jst2_x0, ↓jIntg_1, ↓jLngg_1, ↓jRefg_1, ↓jAnyg_1, ↓jst_x1, ↓jst2_x1, ↓jIntg_2, ↓jLngg_2, ↓jRefg_2, ↓jAnyg_2, ↓jst_x2, ↓jst2_x2, ↓jIntg_3, ↓jLngg_3, ↓jRefg_3, ↓jAnyg_3, ↓jst_x3, ↓jst2_x3, ↓jIntg_4, ↓jLngg_4, ↓jRefg_4, ↓jAnyg_4, ↓jst_x4, ↓jst2_x4, ↓jIntg_5, ↓jLngg_5, ↓jRefg_5, ↓jAnyg_5, ↓jst_x5, ↓jst2_x5, ↓jIntg_6, ↓jLngg_6, ↓jRefg_6, ↓jAnyg_6, ↓jst_x6, ↓jst2_x6, ↓jIntg_7, ↓jLngg_7, ↓jRefg_7, ↓jAnyg_7, ↓jst_x7, ↓jst2_x7, ↓jIntg_8, ↓jLngg_8, ↓jRefg_8, ↓jAnyg_8, ↓jst_x8, ↓jst2_x8, ↓jIntg_9, ↓jLngg_9, ↓jRefg_9, ↓jAnyg_9, ↓jst_x9, ↓jst2_x9, ↓jIntg_10, ↓jLngg_10, ↓jRefg_10, ↓jAnyg_10, ↓jst_x10, ↓jst2_x10, ↓jIntg_11, ↓jLngg_11, ↓jRefg_11, ↓jAnyg_11, ↓jst_x11, ↓jst2_x11, ↓jIntg_12, ↓jLngg_12, ↓jRefg_12, ↓jAnyg_12, ↓jst_x12, ↓jst2_x12, ↓jIntg_13, ↓jLngg_13, ↓jRefg_13, ↓jAnyg_13, ↓jst_x13, ↓jst2_x13, ↓jIntg_14, ↓jLngg_14, ↓jRefg_14, ↓jAnyg_14, ↓jst_x14, ↓jst2_x14, ↓ex_some, jpv_some, jpv_none, jPls_pv, jisL_I, jisL_L, jisL_R, jisL_S, jisL_N, jisL_U, j_op0, j_op1, j_op2, j_c2, true_and, and_true, true_or, or_true, Int.toNat_natCast, nat1, ex_row, ex_row2, jwb1, jwb, jwb2, Classical.not_not, not_true_eq_false, false_implies, true_implies, ne_eq, not_false_eq_true, rV_inj, vI_inj, vL_inj, hi_tp, Nat.reduceEqDiff, Nat.reduceLeDiff, Nat.reduceAdd, Int.reduceLE, Int.reduceLT, Int.reduceEq, Int.reduceNeg, Int.reduceToNat, Int.reduceAdd, Int.reduceSub, Int.reduceMul, w_id, hsh_si, hp_si, hi_si_ne, OWs0 hQ, OWs1 hQ, OWs2 hQ, OWs3 hQ, OWs4 hQ, OWp0 hQ, OWp1 hQ, OWp2 hQ, OWp3 hQ, jf_9_4, jf_9_5, jf_9_6, jf_9_7, jf_9_8, jf_9_9]
      refine (c_291 (OWs3 hQ) (by decide)).cav (by omega) (fun r υ hh => ?_)
      obtain ⟨hh1, rfl⟩ := hh
      refine ⟨hh1, ?_⟩
      simp (disch := omega) only [↓x_eInt, ↓x_eLng, ↓x_eNul, ↓x_eStr, ↓x_eLoc, ↓x_eLol, ↓x_eLor, ↓x_eBin, ↓x_eDiv, ↓x_eRem, ↓x_eNeg, ↓x_eLbin, ↓x_eLdiv, ↓x_eLrem, ↓x_eLshl, ↓x_eLshr, ↓x_eI2l, ↓x_eL2i, ↓x_eFldI, ↓x_eFldL, ↓x_eFldP, ↓x_eAldI, ↓x_eAldS, ↓x_eAldL, ↓x_eAldP, ↓x_eLen, ↓x_eLenS, ↓x_eCall, ↓x_eCalv, ↓x_eMin, ↓x_eMax, ↓x_eLmin, ↓x_eAbs, ↓x_eSlen, ↓x_eSat, ↓x_eIte, ↓x_eNewa, ↓x_eNewo, ↓x_esN, ↓x_esC, ↓x_cCmp, ↓x_cCmpz, ↓x_cLcmp, ↓x_cIsn, ↓x_cNot, ↓x_cAnd, ↓x_cOr, ↓x_tSkip, ↓x_tSup, ↓x_tSeq, ↓x_tSetI, ↓x_tSetL, ↓x_tSetR, ↓x_tInc, ↓x_tPutI, ↓x_tPutL, ↓x_tPutP, ↓x_tPutc, ↓x_tAstI, ↓x_tAstL, ↓x_tAstP, ↓x_tAstcI, ↓x_tAstcL, ↓x_tAcpI, ↓x_tAcpL, ↓x_tExp, ↓x_tExv, ↓x_tExw, ↓x_tIte, ↓x_tSw, ↓x_tRet, ↓x_tRetB, ↓x_tRetL, ↓x_tRetv, ↓x_tBrk, ↓x_tCont, ↓x_tThr, ↓x_wD, ↓x_wK, ↓x_jIx, ↓x_jOb, ↓x_jInt_I, ↓x_jLng_L, ↓x_jRef_R, ↓x_jStr_S, ↓x_jPls_R, ↓x_jPls_N, ↓x_jAny_R, ↓x_jAny_S, ↓jIntg_0, ↓jLngg_0, ↓jRefg_0, ↓jAnyg_0, ↓jStrg_0, ↓jPlsg_0, ↓jst_x0, ↓jst2_x0, ↓jIntg_1, ↓jLngg_1, ↓jRefg_1, ↓jAnyg_1, ↓jst_x1, ↓jst2_x1, ↓jIntg_2, ↓jLngg_2, ↓jRefg_2, ↓jAnyg_2, ↓jst_x2, ↓jst2_x2, ↓jIntg_3, ↓jLngg_3, ↓jRefg_3, ↓jAnyg_3, ↓jst_x3, ↓jst2_x3, ↓jIntg_4, ↓jLngg_4, ↓jRefg_4, ↓jAnyg_4, ↓jst_x4, ↓jst2_x4, ↓jIntg_5, ↓jLngg_5, ↓jRefg_5, ↓jAnyg_5, ↓jst_x5, ↓jst2_x5, ↓jIntg_6, ↓jLngg_6, ↓jRefg_6, ↓jAnyg_6, ↓jst_x6, ↓jst2_x6, ↓jIntg_7, ↓jLngg_7, ↓jRefg_7, ↓jAnyg_7, ↓jst_x7, ↓jst2_x7, ↓jIntg_8, ↓jLngg_8, ↓jRefg_8, ↓jAnyg_8, ↓jst_x8, ↓jst2_x8, ↓jIntg_9, ↓jLngg_9, ↓jRefg_9, ↓jAnyg_9, ↓jst_x9, ↓jst2_x9, ↓jIntg_10, ↓jLngg_10, ↓jRefg_10, ↓jAnyg_10, ↓jst_x10, ↓jst2_x10, ↓jIntg_11, ↓jLngg_11, ↓jRefg_11, ↓jAnyg_11, ↓jst_x11, ↓jst2_x11, ↓jIntg_12, ↓jLngg_12, ↓jRefg_12, ↓jAnyg_12, ↓jst_x12, ↓jst2_x12, ↓jIntg_13, ↓jLngg_13, ↓jRefg_13, ↓jAnyg_13, ↓jst_x13, ↓jst2_x13, ↓jIntg_14, ↓jLngg_14, ↓jRefg_14, ↓jAnyg_14, ↓jst_x14, ↓jst2_x14, ↓ex_some, jpv_some, jpv_none, jPls_pv, jisL_I, jisL_L, jisL_R, jisL_S, jisL_N, jisL_U, j_op0, j_op1, j_op2, j_c2, true_and, and_true, true_or, or_true, Int.toNat_natCast, nat1, ex_row, ex_row2, jwb1, jwb, jwb2, Classical.not_not, not_true_eq_false, false_implies, true_implies, ne_eq, not_false_eq_true, rV_inj, vI_inj, vL_inj, hi_tp, Nat.reduceEqDiff, Nat.reduceLeDiff, Nat.reduceAdd, Int.reduceLE, Int.reduceLT, Int.reduceEq, Int.reduceNeg, Int.reduceToNat, Int.reduceAdd, Int.reduceSub, Int.reduceMul, w_id, hsh_si, hp_si, hi_si_ne, OWs0 hQ, OWs1 hQ, OWs2 hQ, OWs3 hQ, OWs4 hQ, OWp0 hQ, OWp1 hQ, OWp2 hQ, OWp3 hQ, jf_9_4, jf_9_5, jf_9_6, jf_9_7, jf_9_8, jf_9_9, OTs0 hG, OTs1 hG, OTs2 hG, OTs3 hG, OTs4 hG, OTs5 hG, OTs6 hG, OTs7 hG, OTs8 hG, OTs9 hG, OTs10 hG, OTs11 hG, OTp0 hG, OTp1 hG, OTp2 hG, OTp3 hG, OTp4 hG, OTp5 hG, OTp6 hG, OTp7 hG, OTp8 hG, OTp9 hG, OTp10 hG, hsh_sr, hp_sr, hi_sr_ne, hi_si_nk, e4, e5, e12, e13]
      refine Or.inr ⟨by omega, ⟨?_, ?_, ?_, ?_, ?_, ?_, ?_, ?_, ?_⟩, ?_, ?_⟩
      · exact hQ
      · intro b hb
        simp (disch := omega) only [hi_si_ne, hi_sr_ne]
        rw [i1 b hb, dy_cel hW hb]
      · intro b hb
        simp (disch := omega) only [hi_si_ne, hi_sr_ne]
        rw [i2 b hb, dy_low hW hb, dy_mil hW hb]
        by_cases h : w b = 1
        · simp only [if_pos h]; rfl
        · simp only [if_neg h]
      · intro x hx
        simp (disch := omega) only [hi_si_ne, hi_sr_eq]
        unfold ffl
        rw [if_pos hx]
        refine (std_no.mpr (fun b hb => ?_)).symm
        rw [dy_low hW (by omega)]
        by_cases h : w b = 1
        · rw [if_pos h]; intro z; omega
        · rw [if_neg h]; intro z; exact h z.1
      · simp [hi_si, dy_168]
      · simp [hi_si, dy_170]
      · simp [hi_si, dy_169]
      · simp (disch := omega) only [hi_si_nk, hi_sr_ne]
        exact e7
      · have hz : lbt (dyW D w) 8 = 0 := by
          refine Nat.eq_of_testBit_eq (fun i => ?_)
          rw [lbt_bit, Nat.zero_testBit]
          by_cases hi8 : i < 8
          · rw [dy_low hW hi8]
            by_cases h : w i = 1
            · simp [h]
            · simp [h]
          · simp [hi8]
        rw [hz]
        simp [hi_si]
      · intro d hd hd2
        rw [hl_si, hl_si, hl_si, hl_si, hl_sr, hF.l (by omega)]
        exact hNT1 d hd hd2
      · refine (((((hF1.trans (hF.mono (fun r k h => by unfold Sq; omega))).sr ?_).si ?_).si ?_).si ?_).si ?_ <;> unfold Sq <;> intros <;> omega
  · have hNT1 : NT σ q (dyW D w) := by
      intro d hd hd2
      rw [dy_168] at hd2
      rw [pkd_old hW hd (by omega) 12 (by omega)]
      exact hNT d hd (by omega)
    have hF1 : Fr (Sq q) σ σ := Fr.refl _ _
    have hT1 := hT
    have hX1 := hX
    obtain ⟨hQ, k1, k2, k3, k4, k5, k6, k7, k8⟩ := id hT1
    have hG := hX1.1
    have k12 : hi σ t 12 = D 0 4 := hX1.2.1.1.2.2.2.2.1
    have k13 : hi σ t 13 = D 0 5 := hX1.2.1.1.2.2.2.2.2.1
    have hd0 := hX1.2.2.1
    refine tLoop_go (fun y : Nat => 8 - y) (fun y => [vR q, vR t, vI y]) (fun y τ => y ≤ 8 ∧ Fr (fun r _ => r = q + 1 ∨ r = q + 2) σ τ ∧ (∀ j, j < 8 → hi τ (q + 1) j = if j < y then -1 else w (8 + j)) ∧ (∀ j, j < 8 → hi τ (q + 2) j = if w j = 1 ∧ j < y then w 170 else if w j = 2 then w (16 + j) else -1)) (fun y τ => Fr (fun r _ => r = q + 1 ∨ r = q + 2) σ τ ∧ (∀ j, j < 8 → hi τ (q + 1) j = -1) ∧ (∀ j, j < 8 → hi τ (q + 2) j = if w j = 1 then w 170 else if w j = 2 then w (16 + j) else -1)) 0 rfl ⟨Nat.zero_le _, Fr.refl _ _, fun j hj => by rw [if_neg (by omega)]; exact k1 j hj, fun j hj => by rw [if_neg (by omega)]; exact k2 j hj⟩ ?_ ?_
    · rintro y τ N' N ⟨hy, hF, i1, i2⟩ hN hE
      have hQ := OW_fr hQ hF
      have e5 : hi τ q 5 = w 170 := by rw [hF.i (by omega)]; exact k5
      simp (disch := omega) only [↓x_eInt, ↓x_eLng, ↓x_eNul, ↓x_eStr, ↓x_eLoc, ↓x_eLol, ↓x_eLor, ↓x_eBin, ↓x_eDiv, ↓x_eRem, ↓x_eNeg, ↓x_eLbin, ↓x_eLdiv, ↓x_eLrem, ↓x_eLshl, ↓x_eLshr, ↓x_eI2l, ↓x_eL2i, ↓x_eFldI, ↓x_eFldL, ↓x_eFldP, ↓x_eAldI, ↓x_eAldS, ↓x_eAldL, ↓x_eAldP, ↓x_eLen, ↓x_eLenS, ↓x_eCall, ↓x_eCalv, ↓x_eMin, ↓x_eMax, ↓x_eLmin, ↓x_eAbs, ↓x_eSlen, ↓x_eSat, ↓x_eIte, ↓x_eNewa, ↓x_eNewo, ↓x_esN, ↓x_esC, ↓x_cCmp, ↓x_cCmpz, ↓x_cLcmp, ↓x_cIsn, ↓x_cNot, ↓x_cAnd, ↓x_cOr, ↓x_tSkip, ↓x_tSup, ↓x_tSeq, ↓x_tSetI, ↓x_tSetL, ↓x_tSetR, ↓x_tInc, ↓x_tPutI, ↓x_tPutL, ↓x_tPutP, ↓x_tPutc, ↓x_tAstI, ↓x_tAstL, ↓x_tAstP, ↓x_tAstcI, ↓x_tAstcL, ↓x_tAcpI, ↓x_tAcpL, ↓x_tExp, ↓x_tExv, ↓x_tExw, ↓x_tIte, ↓x_tSw, ↓x_tRet, ↓x_tRetB, ↓x_tRetL, ↓x_tRetv, ↓x_tBrk, ↓x_tCont, ↓x_tThr, ↓x_wD, ↓x_wK, ↓x_jIx, ↓x_jOb, ↓x_jInt_I, ↓x_jLng_L, ↓x_jRef_R, ↓x_jStr_S, ↓x_jPls_R, ↓x_jPls_N, ↓x_jAny_R, ↓x_jAny_S, ↓jIntg_0, ↓jLngg_0, ↓jRefg_0, ↓jAnyg_0, ↓jStrg_0, ↓jPlsg_0, ↓jst_x0, ↓jst2_x0, ↓jIntg_1, ↓jLngg_1, ↓jRefg_1, ↓jAnyg_1, ↓jst_x1, ↓jst2_x1, ↓jIntg_2, ↓jLngg_2, ↓jRefg_2, ↓jAnyg_2, ↓jst_x2, ↓jst2_x2, ↓jIntg_3, ↓jLngg_3, ↓jRefg_3, ↓jAnyg_3, ↓jst_x3, ↓jst2_x3, ↓jIntg_4, ↓jLngg_4, ↓jRefg_4, ↓jAnyg_4, ↓jst_x4, ↓jst2_x4, ↓jIntg_5, ↓jLngg_5, ↓jRefg_5, ↓jAnyg_5, ↓jst_x5, ↓jst2_x5, ↓jIntg_6, ↓jLngg_6, ↓jRefg_6, ↓jAnyg_6, ↓jst_x6, ↓jst2_x6, ↓jIntg_7, ↓jLngg_7, ↓jRefg_7, ↓jAnyg_7, ↓jst_x7, ↓jst2_x7, ↓jIntg_8, ↓jLngg_8, ↓jRefg_8, ↓jAnyg_8, ↓jst_x8, ↓jst2_x8, ↓jIntg_9, ↓jLngg_9, ↓jRefg_9, ↓jAnyg_9, ↓jst_x9, ↓jst2_x9, ↓jIntg_10, ↓jLngg_10, ↓jRefg_10, ↓jAnyg_10, ↓jst_x10, ↓jst2_x10, ↓jIntg_11, ↓jLngg_11, ↓jRefg_11, ↓jAnyg_11, ↓jst_x11, ↓jst2_x11, ↓jIntg_12, ↓jLngg_12, ↓jRefg_12, ↓jAnyg_12, ↓jst_x12, ↓jst2_x12, ↓jIntg_13, ↓jLngg_13, ↓jRefg_13, ↓jAnyg_13, ↓jst_x13, ↓jst2_x13, ↓jIntg_14, ↓jLngg_14, ↓jRefg_14, ↓jAnyg_14, ↓jst_x14, ↓jst2_x14, ↓ex_some, jpv_some, jpv_none, jPls_pv, jisL_I, jisL_L, jisL_R, jisL_S, jisL_N, jisL_U, j_op0, j_op1, j_op2, j_c2, true_and, and_true, true_or, or_true, Int.toNat_natCast, nat1, ex_row, ex_row2, jwb1, jwb, jwb2, Classical.not_not, not_true_eq_false, false_implies, true_implies, ne_eq, not_false_eq_true, rV_inj, vI_inj, vL_inj, hi_tp, Nat.reduceEqDiff, Nat.reduceLeDiff, Nat.reduceAdd, Int.reduceLE, Int.reduceLT, Int.reduceEq, Int.reduceNeg, Int.reduceToNat, Int.reduceAdd, Int.reduceSub, Int.reduceMul, w_id, hsh_si, hp_si, hi_si_ne, OWs0 hQ, OWs1 hQ, OWs2 hQ, OWs3 hQ, OWs4 hQ, OWp0 hQ, OWp1 hQ, OWp2 hQ, OWp3 hQ, jf_9_4, jf_9_5, jf_9_6, jf_9_7, jf_9_8, jf_9_9, e5]
      refine ⟨fun hlt => ?_, fun hlt => hE y _ ⟨hF, fun j hj => by rw [i1 j hj, if_pos (by omega)], fun j hj => by rw [i2 j hj]; by_cases h : w j = 1 <;> simp [h]; omega⟩⟩
      have hy8 : y < 8 := by omega
      have e1 := i1 y hy8
      have hwy := hW.1 y hy8
      have hla := laid_iff hW hy8
      rw [if_neg (by omega)] at e1
      rw [e1]
      have hrw : -1 ≤ w (8 + y) ∧ w (8 + y) ≤ 11 := by
        by_cases h : w y = 1
        · have := hwy.2.1 h; omega
        · have := hwy.2.2.1 h; omega
      simp (disch := omega) only [w_id]
      refine ⟨by omega, by omega, fun g2 => ⟨by omega, by omega, by omega, by omega, hN (y + 1) _ (by omega) ⟨by omega, (hF.si (Or.inl rfl)).si (Or.inr rfl), fun j hj => ?_, fun j hj => ?_⟩⟩, fun g2 => hN (y + 1) _ (by omega) ⟨by omega, hF, fun j hj => ?_, fun j hj => ?_⟩⟩
      · rw [hi_si, if_neg (by omega), hi_si, i1 j hj]
        by_cases e : j = y
        · rw [if_pos ⟨rfl, e⟩, if_pos (by omega)]
        · rw [if_neg (fun z => e z.2)]
          by_cases e2 : j < y
          · rw [if_pos e2, if_pos (by omega)]
          · rw [if_neg e2, if_neg (by omega)]
      · rw [hi_si, hi_si, i2 j hj]
        have hy1 : w y = 1 := Classical.byContradiction (fun z => g2 (hla.mpr z))
        by_cases e : j = y
        · rw [if_pos ⟨rfl, e⟩, e, if_pos ⟨hy1, by omega⟩]
        · rw [if_neg (fun z => e z.2), if_neg (by omega)]
          by_cases e2 : w j = 1 ∧ j < y
          · rw [if_pos e2, if_pos ⟨e2.1, by omega⟩]
          · rw [if_neg e2, if_neg (show ¬ (w j = 1 ∧ j < y + 1) from fun z => e2 ⟨z.1, by omega⟩)]
      · rw [i1 j hj]
        by_cases e : j = y
        · rw [if_neg (by omega), if_pos (by omega), e]; exact g2
        · by_cases e2 : j < y
          · rw [if_pos e2, if_pos (by omega)]
          · rw [if_neg e2, if_neg (by omega)]
      · rw [i2 j hj]
        by_cases e2 : w j = 1 ∧ j < y
        · rw [if_pos e2, if_pos ⟨e2.1, by omega⟩]
        · have e3 : ¬ (w j = 1 ∧ j < y + 1) := fun z => e2 ⟨z.1, by
            by_cases e : j = y
            · rw [e] at z; exact (hla.mp g2 z.1).elim
            · omega⟩
          rw [if_neg e2, if_neg e3]
    · rintro y τ ⟨hF, i1, i2⟩
      have hQ := OW_fr hQ hF
      have hG : OT τ t := by unfold OT; rw [hF.sh, hF.hp]; exact hG
      have e4 : hi τ q 4 = w 168 := by rw [hF.i (by omega)]; exact k4
      have e5 : hi τ q 5 = w 170 := by rw [hF.i (by omega)]; exact k5
      have e7 : hi τ q 7 = f := by rw [hF.i (by omega)]; exact k7
      have e12 : hi τ t 12 = D 0 4 := by rw [hF.i (by omega)]; exact k12
      have e13 : hi τ t 13 = D 0 5 := by rw [hF.i (by omega)]; exact k13
      simp (disch := omega) only [↓x_eInt, ↓x_eLng, ↓x_eNul, ↓x_eStr, ↓x_eLoc, ↓x_eLol, ↓x_eLor, ↓x_eBin, ↓x_eDiv, ↓x_eRem, ↓x_eNeg, ↓x_eLbin, ↓x_eLdiv, ↓x_eLrem, ↓x_eLshl, ↓x_eLshr, ↓x_eI2l, ↓x_eL2i, ↓x_eFldI, ↓x_eFldL, ↓x_eFldP, ↓x_eAldI, ↓x_eAldS, ↓x_eAldL, ↓x_eAldP, ↓x_eLen, ↓x_eLenS, ↓x_eCall, ↓x_eCalv, ↓x_eMin, ↓x_eMax, ↓x_eLmin, ↓x_eAbs, ↓x_eSlen, ↓x_eSat, ↓x_eIte, ↓x_eNewa, ↓x_eNewo, ↓x_esN, ↓x_esC, ↓x_cCmp, ↓x_cCmpz, ↓x_cLcmp, ↓x_cIsn, ↓x_cNot, ↓x_cAnd, ↓x_cOr, ↓x_tSkip, ↓x_tSup, ↓x_tSeq, ↓x_tSetI, ↓x_tSetL, ↓x_tSetR, ↓x_tInc, ↓x_tPutI, ↓x_tPutL, ↓x_tPutP, ↓x_tPutc, ↓x_tAstI, ↓x_tAstL, ↓x_tAstP, ↓x_tAstcI, ↓x_tAstcL, ↓x_tAcpI, ↓x_tAcpL, ↓x_tExp, ↓x_tExv, ↓x_tExw, ↓x_tIte, ↓x_tSw, ↓x_tRet, ↓x_tRetB, ↓x_tRetL, ↓x_tRetv, ↓x_tBrk, ↓x_tCont, ↓x_tThr, ↓x_wD, ↓x_wK, ↓x_jIx, ↓x_jOb, ↓x_jInt_I, ↓x_jLng_L, ↓x_jRef_R, ↓x_jStr_S, ↓x_jPls_R, ↓x_jPls_N, ↓x_jAny_R, ↓x_jAny_S, ↓jIntg_0, ↓jLngg_0, ↓jRefg_0, ↓jAnyg_0, ↓jStrg_0, ↓jPlsg_0, ↓jst_x0, ↓jst2_x0, ↓jIntg_1, ↓jLngg_1, ↓jRefg_1, ↓jAnyg_1, ↓jst_x1, ↓jst2_x1, ↓jIntg_2, ↓jLngg_2, ↓jRefg_2, ↓jAnyg_2, ↓jst_x2, ↓jst2_x2, ↓jIntg_3, ↓jLngg_3, ↓jRefg_3, ↓jAnyg_3, ↓jst_x3, ↓jst2_x3, ↓jIntg_4, ↓jLngg_4, ↓jRefg_4, ↓jAnyg_4, ↓jst_x4, ↓jst2_x4, ↓jIntg_5, ↓jLngg_5, ↓jRefg_5, ↓jAnyg_5, ↓jst_x5, ↓jst2_x5, ↓jIntg_6, ↓jLngg_6, ↓jRefg_6, ↓jAnyg_6, ↓jst_x6, ↓jst2_x6, ↓jIntg_7, ↓jLngg_7, ↓jRefg_7, ↓jAnyg_7, ↓jst_x7, ↓jst2_x7, ↓jIntg_8, ↓jLngg_8, ↓jRefg_8, ↓jAnyg_8, ↓jst_x8, ↓jst2_x8, ↓jIntg_9, ↓jLngg_9, ↓jRefg_9, ↓jAnyg_9, ↓jst_x9, ↓jst2_x9, ↓jIntg_10, ↓jLngg_10, ↓jRefg_10, ↓jAnyg_10, ↓jst_x10, ↓jst2_x10, ↓jIntg_11, ↓jLngg_11, ↓jRefg_11, ↓jAnyg_11, ↓jst_x11, ↓jst2_x11, ↓jIntg_12, ↓jLngg_12, ↓jRefg_12, ↓jAnyg_12, ↓jst_x12, ↓jst2_x12, ↓jIntg_13, ↓jLngg_13, ↓jRefg_13, ↓jAnyg_13, ↓jst_x13, ↓jst2_x13, ↓jIntg_14, ↓jLngg_14, ↓jRefg_14, ↓jAnyg_14, ↓jst_x14, ↓jst2_x14, ↓ex_some, jpv_some, jpv_none, jPls_pv, jisL_I, jisL_L, jisL_R, jisL_S, jisL_N, jisL_U, j_op0, j_op1, j_op2, j_c2, true_and, and_true, true_or, or_true, Int.toNat_natCast, nat1, ex_row, ex_row2, jwb1, jwb, jwb2, Classical.not_not, not_true_eq_false, false_implies, true_implies, ne_eq, not_false_eq_true, rV_inj, vI_inj, vL_inj, hi_tp, Nat.reduceEqDiff, Nat.reduceLeDiff, Nat.reduceAdd, Int.reduceLE, Int.reduceLT, Int.reduceEq, Int.reduceNeg, Int.reduceToNat, Int.reduceAdd, Int.reduceSub, Int.reduceMul, w_id, hsh_si, hp_si, hi_si_ne, OWs0 hQ, OWs1 hQ, OWs2 hQ, OWs3 hQ, OWs4 hQ, OWp0 hQ, OWp1 hQ, OWp2 hQ, OWp3 hQ, jf_9_4, jf_9_5, jf_9_6, jf_9_7, jf_9_8, jf_9_9]
      refine (c_291 (OWs3 hQ) (by decide)).cav (by omega) (fun r υ hh => ?_)
      obtain ⟨hh1, rfl⟩ := hh
      refine ⟨hh1, ?_⟩
      simp (disch := omega) only [↓x_eInt, ↓x_eLng, ↓x_eNul, ↓x_eStr, ↓x_eLoc, ↓x_eLol, ↓x_eLor, ↓x_eBin, ↓x_eDiv, ↓x_eRem, ↓x_eNeg, ↓x_eLbin, ↓x_eLdiv, ↓x_eLrem, ↓x_eLshl, ↓x_eLshr, ↓x_eI2l, ↓x_eL2i, ↓x_eFldI, ↓x_eFldL, ↓x_eFldP, ↓x_eAldI, ↓x_eAldS, ↓x_eAldL, ↓x_eAldP, ↓x_eLen, ↓x_eLenS, ↓x_eCall, ↓x_eCalv, ↓x_eMin, ↓x_eMax, ↓x_eLmin, ↓x_eAbs, ↓x_eSlen, ↓x_eSat, ↓x_eIte, ↓x_eNewa, ↓x_eNewo, ↓x_esN, ↓x_esC, ↓x_cCmp, ↓x_cCmpz, ↓x_cLcmp, ↓x_cIsn, ↓x_cNot, ↓x_cAnd, ↓x_cOr, ↓x_tSkip, ↓x_tSup, ↓x_tSeq, ↓x_tSetI, ↓x_tSetL, ↓x_tSetR, ↓x_tInc, ↓x_tPutI, ↓x_tPutL, ↓x_tPutP, ↓x_tPutc, ↓x_tAstI, ↓x_tAstL, ↓x_tAstP, ↓x_tAstcI, ↓x_tAstcL, ↓x_tAcpI, ↓x_tAcpL, ↓x_tExp, ↓x_tExv, ↓x_tExw, ↓x_tIte, ↓x_tSw, ↓x_tRet, ↓x_tRetB, ↓x_tRetL, ↓x_tRetv, ↓x_tBrk, ↓x_tCont, ↓x_tThr, ↓x_wD, ↓x_wK, ↓x_jIx, ↓x_jOb, ↓x_jInt_I, ↓x_jLng_L, ↓x_jRef_R, ↓x_jStr_S, ↓x_jPls_R, ↓x_jPls_N, ↓x_jAny_R, ↓x_jAny_S, ↓jIntg_0, ↓jLngg_0, ↓jRefg_0, ↓jAnyg_0, ↓jStrg_0, ↓jPlsg_0, ↓jst_x0, ↓jst2_x0, ↓jIntg_1, ↓jLngg_1, ↓jRefg_1, ↓jAnyg_1, ↓jst_x1, ↓jst2_x1, ↓jIntg_2, ↓jLngg_2, ↓jRefg_2, ↓jAnyg_2, ↓jst_x2, ↓jst2_x2, ↓jIntg_3, ↓jLngg_3, ↓jRefg_3, ↓jAnyg_3, ↓jst_x3, ↓jst2_x3, ↓jIntg_4, ↓jLngg_4, ↓jRefg_4, ↓jAnyg_4, ↓jst_x4, ↓jst2_x4, ↓jIntg_5, ↓jLngg_5, ↓jRefg_5, ↓jAnyg_5, ↓jst_x5, ↓jst2_x5, ↓jIntg_6, ↓jLngg_6, ↓jRefg_6, ↓jAnyg_6, ↓jst_x6, ↓jst2_x6, ↓jIntg_7, ↓jLngg_7, ↓jRefg_7, ↓jAnyg_7, ↓jst_x7, ↓jst2_x7, ↓jIntg_8, ↓jLngg_8, ↓jRefg_8, ↓jAnyg_8, ↓jst_x8, ↓jst2_x8, ↓jIntg_9, ↓jLngg_9, ↓jRefg_9, ↓jAnyg_9, ↓jst_x9, ↓jst2_x9, ↓jIntg_10, ↓jLngg_10, ↓jRefg_10, ↓jAnyg_10, ↓jst_x10, ↓jst2_x10, ↓jIntg_11, ↓jLngg_11, ↓jRefg_11, ↓jAnyg_11, ↓jst_x11, ↓jst2_x11, ↓jIntg_12, ↓jLngg_12, ↓jRefg_12, ↓jAnyg_12, ↓jst_x12, ↓jst2_x12, ↓jIntg_13, ↓jLngg_13, ↓jRefg_13, ↓jAnyg_13, ↓jst_x13, ↓jst2_x13, ↓jIntg_14, ↓jLngg_14, ↓jRefg_14, ↓jAnyg_14, ↓jst_x14, ↓jst2_x14, ↓ex_some, jpv_some, jpv_none, jPls_pv, jisL_I, jisL_L, jisL_R, jisL_S, jisL_N, jisL_U, j_op0, j_op1, j_op2, j_c2, true_and, and_true, true_or, or_true, Int.toNat_natCast, nat1, ex_row, ex_row2, jwb1, jwb, jwb2, Classical.not_not, not_true_eq_false, false_implies, true_implies, ne_eq, not_false_eq_true, rV_inj, vI_inj, vL_inj, hi_tp, Nat.reduceEqDiff, Nat.reduceLeDiff, Nat.reduceAdd, Int.reduceLE, Int.reduceLT, Int.reduceEq, Int.reduceNeg, Int.reduceToNat, Int.reduceAdd, Int.reduceSub, Int.reduceMul, w_id, hsh_si, hp_si, hi_si_ne, OWs0 hQ, OWs1 hQ, OWs2 hQ, OWs3 hQ, OWs4 hQ, OWp0 hQ, OWp1 hQ, OWp2 hQ, OWp3 hQ, jf_9_4, jf_9_5, jf_9_6, jf_9_7, jf_9_8, jf_9_9, OTs0 hG, OTs1 hG, OTs2 hG, OTs3 hG, OTs4 hG, OTs5 hG, OTs6 hG, OTs7 hG, OTs8 hG, OTs9 hG, OTs10 hG, OTs11 hG, OTp0 hG, OTp1 hG, OTp2 hG, OTp3 hG, OTp4 hG, OTp5 hG, OTp6 hG, OTp7 hG, OTp8 hG, OTp9 hG, OTp10 hG, hsh_sr, hp_sr, hi_sr_ne, hi_si_nk, e4, e5, e12, e13]
      refine Or.inr ⟨by omega, ⟨?_, ?_, ?_, ?_, ?_, ?_, ?_, ?_, ?_⟩, ?_, ?_⟩
      · exact hQ
      · intro b hb
        simp (disch := omega) only [hi_si_ne, hi_sr_ne]
        rw [i1 b hb, dy_cel hW hb]
      · intro b hb
        simp (disch := omega) only [hi_si_ne, hi_sr_ne]
        rw [i2 b hb, dy_low hW hb, dy_mil hW hb]
        by_cases h : w b = 1
        · simp only [if_pos h]; rfl
        · simp only [if_neg h]
      · intro x hx
        simp (disch := omega) only [hi_si_ne, hi_sr_eq]
        unfold ffl
        rw [if_pos hx]
        refine (std_no.mpr (fun b hb => ?_)).symm
        rw [dy_low hW (by omega)]
        by_cases h : w b = 1
        · rw [if_pos h]; intro z; omega
        · rw [if_neg h]; intro z; exact h z.1
      · simp [hi_si, dy_168]
      · simp [hi_si, dy_170]
      · simp [hi_si, dy_169]
      · simp (disch := omega) only [hi_si_nk, hi_sr_ne]
        exact e7
      · have hz : lbt (dyW D w) 8 = 0 := by
          refine Nat.eq_of_testBit_eq (fun i => ?_)
          rw [lbt_bit, Nat.zero_testBit]
          by_cases hi8 : i < 8
          · rw [dy_low hW hi8]
            by_cases h : w i = 1
            · simp [h]
            · simp [h]
          · simp [hi8]
        rw [hz]
        simp [hi_si]
      · intro d hd hd2
        rw [hl_si, hl_si, hl_si, hl_si, hl_sr, hF.l (by omega)]
        exact hNT1 d hd hd2
      · refine (((((hF1.trans (hF.mono (fun r k h => by unfold Sq; omega))).sr ?_).si ?_).si ?_).si ?_).si ?_ <;> unfold Sq <;> intros <;> omega
end CDAY2
