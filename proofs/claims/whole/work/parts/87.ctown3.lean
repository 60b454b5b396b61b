/-! The class takes up and fetches -/
section CTOWN3
variable {sc : jSc} {σ : jH} {D : jD} {w : Nat → Int} {q t : Nat} {f : Int}
theorem tu_low {a : Nat} (ha : a < 8) : ∀ b, b < 8 → tuW D w a b = if b = a then 0 else w b := fun b hb => by
  simp only [tuW, upw_eq]
  rw [if_neg (by omega)]
  split
  · rfl
  · rw [if_neg (by omega)]
theorem tu_cel {a : Nat} (ha : a < 8) : ∀ b, b < 8 → tuW D w a (8 + b) = if b = a then -1 else w (8 + b) := fun b hb => by
  simp only [tuW, upw_eq]
  by_cases e : b = a
  · rw [if_pos (by omega), if_pos e]
  · rw [if_neg (by omega), if_neg (by omega), if_neg (by omega), if_neg e]
theorem tu_oth {a : Nat} (ha : a < 8) : ∀ j, 16 ≤ j → j ≠ 169 → tuW D w a j = w j := fun j hj hj2 => by
  simp only [tuW, upw_eq]
  rw [if_neg (by omega), if_neg (by omega), if_neg hj2]
theorem std_tu {a n : Nat} (hn : n ≤ 8) (ha : a < n) (hW : WW D w) (h1 : w a = 1) (y : Nat) : std (tuW D w a) y n = if (y : Int) = w (8 + a) then -1 else std w y n := by
  by_cases hy : (y : Int) = w (8 + a)
  · rw [if_pos hy]
    refine std_no.mpr (fun b hb => ?_)
    rw [tu_low (by omega) b (by omega), tu_cel (by omega) b (by omega)]
    by_cases e : b = a
    · rw [if_pos e]; intro z; omega
    · rw [if_neg e, if_neg e]
      intro z
      exact e (hW.2.1 b a (by omega) (by omega) z.1 h1 (by omega))
  · rw [if_neg hy]
    refine std_ext (fun b hb => ?_)
    rw [tu_low (by omega) b (by omega), tu_cel (by omega) b (by omega)]
    by_cases e : b = a
    · rw [if_pos e, if_pos e, e]
      constructor
      · intro z; omega
      · intro z; omega
    · rw [if_neg e, if_neg e]
theorem c_86 {a : Nat} (hT : TW σ q D w f) (hX : CX σ t D) (hW : WW D w) (ha : (a : Int) < D 0 0) : Ct sc 2 86 [vR q, vR t, vI a] σ (fun r τ => (tkW D w a = true ∧ r = rV (vI 1) ∧ TW τ q D (tuW D w a) f ∧ Fr (Sp q) σ τ) ∨ (¬ tkW D w a = true ∧ r = rV (vI 0) ∧ τ = σ)) := by
  obtain ⟨hQ, h1, h2, h3, h4, h5, h6, h7, h8⟩ := id hT
  have hl := OWl hQ
  have hG := hX.1
  have hd := hX.2.2.1
  have hA := hX.2.2.2.1 a ha
  have hrA := (hX.2.1.2.1 a ha).1
  have hwa := hW.1 a (by omega)
  have hla := laid_iff hW (a := a) (by omega)
  have hday := hW.2.2.1
  have htk := tkW_iff (D := D) (w := w) (a := a)
  have e1 := h1 a (by omega)
  have r1 : -1 ≤ w (8 + a) ∧ w (8 + a) ≤ 11 := by
    by_cases h : w a = 1
    · have := hwa.2.1 h; omega
    · have := hwa.2.2.1 h; omega
  have hl8 := lbt_lt w 8
  have h2a : (2 : Nat) ^ a ≤ 2 ^ 7 := Nat.pow_le_pow_right (by decide) (by omega)
  refine Ct.of (n := 1) (L := [vR q, vR t, vI a, vU, vU]) cov_86 rfl (Nat.le_of_ble_eq_true rfl) ?_
  unfold T_86
  simp only [↓x_eInt, ↓x_eLng, ↓x_eNul, ↓x_eStr, ↓x_eLoc, ↓x_eLol, ↓x_eLor, ↓x_eBin, ↓x_eDiv, ↓x_eRem, ↓x_eNeg, ↓x_eLbin, ↓x_eLdiv, ↓x_eLrem, ↓x_eLshl, ↓x_eLshr, ↓x_eI2l, ↓x_eL2i, ↓x_eFldI, ↓x_eFldL, ↓x_eFldP, ↓x_eAldI, ↓x_eAldS, ↓x_eAldL, ↓x_eAldP, ↓x_eLen, ↓x_eLenS, ↓x_eCall, ↓x_eCalv, ↓x_eMin, ↓x_eMax, ↓x_eLmin, ↓x_eAbs, ↓x_eSlen, ↓x_eSat, ↓x_eIte, ↓x_eNewa, ↓x_eNewo, ↓x_esN, ↓x_esC, ↓x_cCmp, ↓x_cCmpz, ↓x_cLcmp, ↓x_cIsn, ↓x_cNot, ↓x_cAnd, ↓x_cOr, ↓x_tSkip, ↓x_tSup, ↓x_tSeq, ↓x_tSetI, ↓x_tSetL, ↓x_tSetR, ↓x_tInc, ↓x_tPutI, ↓x_tPutL, ↓x_tPutP, ↓x_tPutc, ↓x_tAstI, ↓x_tAstL, ↓x_tAstP, ↓x_tAstcI, ↓x_tAstcL, ↓x_tAcpI, ↓x_tAcpL, ↓x_tExp, ↓x_tExv, ↓x_tExw, ↓x_tIte, ↓x_tSw, ↓x_tRet, ↓x_tRetB, ↓x_tRetL, ↓x_tRetv, ↓x_tBrk, ↓x_tCont, ↓x_tThr, ↓x_wD, ↓x_wK, ↓x_jIx, ↓x_jOb, ↓x_jInt_I, ↓x_jLng_L, ↓x_jRef_R, ↓x_jStr_S, ↓x_jPls_R, ↓x_jPls_N, ↓x_jAny_R, ↓x_jAny_S, ↓jIntg_0, ↓jLngg_0, ↓jRefg_0, ↓jAnyg_0, ↓jStrg_0, ↓jPlsg_0, ↓jst_x0, ↓jst2_x0, ↓jIntg_1, ↓jLngg_1, ↓jRefg_1, ↓jAnyg_1, ↓jst_x1, ↓jst2_x1, ↓jIntg_2, ↓jLngg_2, ↓jRefg_2, ↓jAnyg_2, ↓jst_x2, ↓jst2_x2, ↓jIntg_3, ↓jLngg_3, ↓jRefg_3, ↓jAnyg_3, ↓jst_x3, ↓jst2_x3, ↓jIntg_4, ↓jLngg_4, ↓jRefg_4, ↓jAnyg_4, ↓jst_x4, ↓jst2_x4, ↓jIntg_5, ↓jLngg_5, ↓jRefg_5, ↓jAnyg_5, ↓jst_x5, ↓jst2_x5, ↓jIntg_6, ↓jLngg_6, ↓jRefg_6, ↓jAnyg_6, ↓jst_x6, ↓jst2_x6, ↓jIntg_7, ↓jLngg_7, ↓jRefg_7, ↓jAnyg_7, ↓jst_x7, ↓jst2_x7, ↓jIntg_8, ↓jLngg_8, ↓jRefg_8, ↓jAnyg_8, ↓jst_x8, ↓jst2_x8, ↓jIntg_9, ↓jLngg_9, ↓jRefg_9, ↓jAnyg_9, ↓jst_x9, ↓jst2_x9, ↓jIntg_10, ↓jLngg_10, ↓jRefg_10, ↓jAnyg_10, ↓jst_x10, ↓jst2_x10, ↓jIntg_11, ↓jLngg_11, ↓jRefg_11, ↓jAnyg_11, ↓jst_x11, ↓jst2_x11, ↓jIntg_12, ↓jLngg_12, ↓jRefg_12, ↓jAnyg_12, ↓jst_x12, ↓jst2_x12, ↓jIntg_13, ↓jLngg_13, ↓jRefg_13, ↓jAnyg_13, ↓jst_x13, ↓jst2_x13, ↓jIntg_14, ↓jLngg_14, ↓jRefg_14, ↓jAnyg_14, ↓jst_x14, ↓jst2_x14, ↓ex_some, jpv_some, jpv_none, jPls_pv, jisL_I, jisL_L, jisL_R, jisL_S, jisL_N, jisL_U, j_op0, j_op1, j_op2, j_c2, true_and, and_true, true_or, or_true, Int.toNat_natCast, nat1, ex_row, ex_row2, jwb1, jwb, jwb2, Classical.not_not, not_true_eq_false, false_implies, true_implies, ne_eq, not_false_eq_true, rV_inj, vI_inj, vL_inj, hi_tp, Nat.reduceEqDiff, Nat.reduceLeDiff, Nat.reduceAdd, Int.reduceLE, Int.reduceLT, Int.reduceEq, Int.reduceNeg, Int.reduceToNat, Int.reduceAdd, Int.reduceSub, Int.reduceMul, OWs0 hQ, OWs1 hQ, OWs2 hQ, OWs3 hQ, OWs4 hQ, OWp0 hQ, OWp1 hQ, OWp2 hQ, OWp3 hQ, jf_9_4, jf_9_5, jf_9_6, jf_9_7, jf_9_8, jf_9_9]
  simp (disch := omega) only [↓x_eInt, ↓x_eLng, ↓x_eNul, ↓x_eStr, ↓x_eLoc, ↓x_eLol, ↓x_eLor, ↓x_eBin, ↓x_eDiv, ↓x_eRem, ↓x_eNeg, ↓x_eLbin, ↓x_eLdiv, ↓x_eLrem, ↓x_eLshl, ↓x_eLshr, ↓x_eI2l, ↓x_eL2i, ↓x_eFldI, ↓x_eFldL, ↓x_eFldP, ↓x_eAldI, ↓x_eAldS, ↓x_eAldL, ↓x_eAldP, ↓x_eLen, ↓x_eLenS, ↓x_eCall, ↓x_eCalv, ↓x_eMin, ↓x_eMax, ↓x_eLmin, ↓x_eAbs, ↓x_eSlen, ↓x_eSat, ↓x_eIte, ↓x_eNewa, ↓x_eNewo, ↓x_esN, ↓x_esC, ↓x_cCmp, ↓x_cCmpz, ↓x_cLcmp, ↓x_cIsn, ↓x_cNot, ↓x_cAnd, ↓x_cOr, ↓x_tSkip, ↓x_tSup, ↓x_tSeq, ↓x_tSetI, ↓x_tSetL, ↓x_tSetR, ↓x_tInc, ↓x_tPutI, ↓x_tPutL, ↓x_tPutP, ↓x_tPutc, ↓x_tAstI, ↓x_tAstL, ↓x_tAstP, ↓x_tAstcI, ↓x_tAstcL, ↓x_tAcpI, ↓x_tAcpL, ↓x_tExp, ↓x_tExv, ↓x_tExw, ↓x_tIte, ↓x_tSw, ↓x_tRet, ↓x_tRetB, ↓x_tRetL, ↓x_tRetv, ↓x_tBrk, ↓x_tCont, ↓x_tThr, ↓x_wD, ↓x_wK, ↓x_jIx, ↓x_jOb, ↓x_jInt_I, ↓x_jLng_L, ↓x_jRef_R, ↓x_jStr_S, ↓x_jPls_R, ↓x_jPls_N, ↓x_jAny_R, ↓x_jAny_S, ↓jIntg_0, ↓jLngg_0, ↓jRefg_0, ↓jAnyg_0, ↓jStrg_0, ↓jPlsg_0, ↓jst_x0, ↓jst2_x0, ↓jIntg_1, ↓jLngg_1, ↓jRefg_1, ↓jAnyg_1, ↓jst_x1, ↓jst2_x1, ↓jIntg_2, ↓jLngg_2, ↓jRefg_2, ↓jAnyg_2, ↓jst_x2, ↓jst2_x2, ↓jIntg_3, ↓jLngg_3, ↓jRefg_3, ↓jAnyg_3, ↓jst_x3, ↓jst2_x3, ↓jIntg_4, ↓jLngg_4, ↓jRefg_4, ↓jAnyg_4, ↓jst_x4, ↓jst2_x4, ↓jIntg_5, ↓jLngg_5, ↓jRefg_5, ↓jAnyg_5, ↓jst_x5, ↓jst2_x5, ↓jIntg_6, ↓jLngg_6, ↓jRefg_6, ↓jAnyg_6, ↓jst_x6, ↓jst2_x6, ↓jIntg_7, ↓jLngg_7, ↓jRefg_7, ↓jAnyg_7, ↓jst_x7, ↓jst2_x7, ↓jIntg_8, ↓jLngg_8, ↓jRefg_8, ↓jAnyg_8, ↓jst_x8, ↓jst2_x8, ↓jIntg_9, ↓jLngg_9, ↓jRefg_9, ↓jAnyg_9, ↓jst_x9, ↓jst2_x9, ↓jIntg_10, ↓jLngg_10, ↓jRefg_10, ↓jAnyg_10, ↓jst_x10, ↓jst2_x10, ↓jIntg_11, ↓jLngg_11, ↓jRefg_11, ↓jAnyg_11, ↓jst_x11, ↓jst2_x11, ↓jIntg_12, ↓jLngg_12, ↓jRefg_12, ↓jAnyg_12, ↓jst_x12, ↓jst2_x12, ↓jIntg_13, ↓jLngg_13, ↓jRefg_13, ↓jAnyg_13, ↓jst_x13, ↓jst2_x13, ↓jIntg_14, ↓jLngg_14, ↓jRefg_14, ↓jAnyg_14, ↓jst_x14, ↓jst2_x14, ↓ex_some, jpv_some, jpv_none, jPls_pv, jisL_I, jisL_L, jisL_R, jisL_S, jisL_N, jisL_U, j_op0, j_op1, j_op2, j_c2, true_and, and_true, true_or, or_true, Int.toNat_natCast, nat1, ex_row, ex_row2, jwb1, jwb, jwb2, Classical.not_not, not_true_eq_false, false_implies, true_implies, ne_eq, not_false_eq_true, rV_inj, vI_inj, vL_inj, hi_tp, Nat.reduceEqDiff, Nat.reduceLeDiff, Nat.reduceAdd, Int.reduceLE, Int.reduceLT, Int.reduceEq, Int.reduceNeg, Int.reduceToNat, Int.reduceAdd, Int.reduceSub, Int.reduceMul, w_id, hsh_si, hp_si, hi_si_ne, OWs0 hQ, OWs1 hQ, OWs2 hQ, OWs3 hQ, OWs4 hQ, OWp0 hQ, OWp1 hQ, OWp2 hQ, OWp3 hQ, jf_9_4, jf_9_5, jf_9_6, jf_9_7, jf_9_8, jf_9_9, OTs0 hG, OTs1 hG, OTs2 hG, OTs3 hG, OTs4 hG, OTs5 hG, OTs6 hG, OTs7 hG, OTs8 hG, OTs9 hG, OTs10 hG, OTs11 hG, OTp0 hG, OTp1 hG, OTp2 hG, OTp3 hG, OTp4 hG, OTp5 hG, OTp6 hG, OTp7 hG, OTp8 hG, OTp9 hG, OTp10 hG, h6, h8, hi_si_nk]
  rw [hrA, e1, jdiv (by omega) (by omega)]
  have hhf : (if 1 < D 1 a / 2 then D 1 a / 2 else 1) = hfW D a := by
    unfold hfW
    split
    · rw [if_pos (by omega)]
    · split <;> omega
  try simp (disch := omega) only [w_id]
  rw [hhf]
  have hhr : 1 ≤ hfW D a ∧ hfW D a ≤ 3 := by unfold hfW; split <;> omega
  try simp (disch := omega) only [w_id]
  refine ⟨by omega, by omega, by omega, by omega, fun g1 => Or.inr (fun z => hla.mp g1 (htk.mp z).1), fun g1 => ⟨fun g2 => Or.inr (fun z => by have := (htk.mp z).2.1; omega), fun g2 => ?_⟩⟩
  have hw1 : w a = 1 := Classical.byContradiction (fun z => g1 (hla.mpr z))
  refine (c_87 hT hX hW ha).val (by omega) rfl ?_
  simp (disch := omega) only [↓x_eInt, ↓x_eLng, ↓x_eNul, ↓x_eStr, ↓x_eLoc, ↓x_eLol, ↓x_eLor, ↓x_eBin, ↓x_eDiv, ↓x_eRem, ↓x_eNeg, ↓x_eLbin, ↓x_eLdiv, ↓x_eLrem, ↓x_eLshl, ↓x_eLshr, ↓x_eI2l, ↓x_eL2i, ↓x_eFldI, ↓x_eFldL, ↓x_eFldP, ↓x_eAldI, ↓x_eAldS, ↓x_eAldL, ↓x_eAldP, ↓x_eLen, ↓x_eLenS, ↓x_eCall, ↓x_eCalv, ↓x_eMin, ↓x_eMax, ↓x_eLmin, ↓x_eAbs, ↓x_eSlen, ↓x_eSat, ↓x_eIte, ↓x_eNewa, ↓x_eNewo, ↓x_esN, ↓x_esC, ↓x_cCmp, ↓x_cCmpz, ↓x_cLcmp, ↓x_cIsn, ↓x_cNot, ↓x_cAnd, ↓x_cOr, ↓x_tSkip, ↓x_tSup, ↓x_tSeq, ↓x_tSetI, ↓x_tSetL, ↓x_tSetR, ↓x_tInc, ↓x_tPutI, ↓x_tPutL, ↓x_tPutP, ↓x_tPutc, ↓x_tAstI, ↓x_tAstL, ↓x_tAstP, ↓x_tAstcI, ↓x_tAstcL, ↓x_tAcpI, ↓x_tAcpL, ↓x_tExp, ↓x_tExv, ↓x_tExw, ↓x_tIte, ↓x_tSw, ↓x_tRet, ↓x_tRetB, ↓x_tRetL, ↓x_tRetv, ↓x_tBrk, ↓x_tCont, ↓x_tThr, ↓x_wD, ↓x_wK, ↓x_jIx, ↓x_jOb, ↓x_jInt_I, ↓x_jLng_L, ↓x_jRef_R, ↓x_jStr_S, ↓x_jPls_R, ↓x_jPls_N, ↓x_jAny_R, ↓x_jAny_S, ↓jIntg_0, ↓jLngg_0, ↓jRefg_0, ↓jAnyg_0, ↓jStrg_0, ↓jPlsg_0, ↓jst_x0, ↓jst2_x0, ↓jIntg_1, ↓jLngg_1, ↓jRefg_1, ↓jAnyg_1, ↓jst_x1, ↓jst2_x1, ↓jIntg_2, ↓jLngg_2, ↓jRefg_2, ↓jAnyg_2, ↓jst_x2, ↓jst2_x2, ↓jIntg_3, ↓jLngg_3, ↓jRefg_3, ↓jAnyg_3, ↓jst_x3, ↓jst2_x3, ↓jIntg_4, ↓jLngg_4, ↓jRefg_4, ↓jAnyg_4, ↓jst_x4, ↓jst2_x4, ↓jIntg_5, ↓jLngg_5, ↓jRefg_5, ↓jAnyg_5, ↓jst_x5, ↓jst2_x5, ↓jIntg_6, ↓jLngg_6, ↓jRefg_6, ↓jAnyg_6, ↓jst_x6, ↓jst2_x6, ↓jIntg_7, ↓jLngg_7, ↓jRefg_7, ↓jAnyg_7, ↓jst_x7, ↓jst2_x7, ↓jIntg_8, ↓jLngg_8, ↓jRefg_8, ↓jAnyg_8, ↓jst_x8, ↓jst2_x8, ↓jIntg_9, ↓jLngg_9, ↓jRefg_9, ↓jAnyg_9, ↓jst_x9, ↓jst2_x9, ↓jIntg_10, ↓jLngg_10, ↓jRefg_10, ↓jAnyg_10, ↓jst_x10, ↓jst2_x10, ↓jIntg_11, ↓jLngg_11, ↓jRefg_11, ↓jAnyg_11, ↓jst_x11, ↓jst2_x11, ↓jIntg_12, ↓jLngg_12, ↓jRefg_12, ↓jAnyg_12, ↓jst_x12, ↓jst2_x12, ↓jIntg_13, ↓jLngg_13, ↓jRefg_13, ↓jAnyg_13, ↓jst_x13, ↓jst2_x13, ↓jIntg_14, ↓jLngg_14, ↓jRefg_14, ↓jAnyg_14, ↓jst_x14, ↓jst2_x14, ↓ex_some, jpv_some, jpv_none, jPls_pv, jisL_I, jisL_L, jisL_R, jisL_S, jisL_N, jisL_U, j_op0, j_op1, j_op2, j_c2, true_and, and_true, true_or, or_true, Int.toNat_natCast, nat1, ex_row, ex_row2, jwb1, jwb, jwb2, Classical.not_not, not_true_eq_false, false_implies, true_implies, ne_eq, not_false_eq_true, rV_inj, vI_inj, vL_inj, hi_tp, Nat.reduceEqDiff, Nat.reduceLeDiff, Nat.reduceAdd, Int.reduceLE, Int.reduceLT, Int.reduceEq, Int.reduceNeg, Int.reduceToNat, Int.reduceAdd, Int.reduceSub, Int.reduceMul, w_id, hsh_si, hp_si, hi_si_ne, OWs0 hQ, OWs1 hQ, OWs2 hQ, OWs3 hQ, OWs4 hQ, OWp0 hQ, OWp1 hQ, OWp2 hQ, OWp3 hQ, jf_9_4, jf_9_5, jf_9_6, jf_9_7, jf_9_8, jf_9_9, OTs0 hG, OTs1 hG, OTs2 hG, OTs3 hG, OTs4 hG, OTs5 hG, OTs6 hG, OTs7 hG, OTs8 hG, OTs9 hG, OTs10 hG, OTs11 hG, OTp0 hG, OTp1 hG, OTp2 hG, OTp3 hG, OTp4 hG, OTp5 hG, OTp6 hG, OTp7 hG, OTp8 hG, OTp9 hG, OTp10 hG, h6, h8, hi_si_nk]
  by_cases hnt : ntW D w a = true
  · rw [if_pos hnt]
    obtain ⟨r, hr1, hr2, hr3⟩ := jandn (m := lbt w 8) (L := 2 ^ a) (by omega) (by omega)
    rw [jsh1 (by omega), hr1]
    have hb : r = lbt (tuW D w a) 8 := by
      refine Nat.eq_of_testBit_eq (fun i => ?_)
      rw [hr3, lbt_bit, lbt_bit, Nat.testBit_two_pow]
      by_cases hi : i < 8
      · rw [tu_low (by omega) i hi]
        by_cases e : i = a
        · subst e; simp [hi]
        · have e2 : ¬ a = i := fun z => e z.symm
          simp [hi, e, e2]
      · simp [hi]
    try simp (disch := omega) only [w_id]
    refine ⟨fun h => (h trivial).elim, fun _ => ⟨by omega, by omega, by omega, by omega, Or.inl ⟨htk.mpr ⟨hw1, by omega, hnt⟩, ⟨?_, ?_, ?_, ?_, ?_, ?_, ?_, ?_, ?_⟩, ?_⟩⟩⟩
    · exact hQ
    · intro b hb
      rw [tu_cel (by omega) b hb]
      simp [hi_si]
      split
      · rfl
      · exact h1 b hb
    · intro b hb
      rw [tu_low (by omega) b hb, tu_oth (by omega) (16 + b) (by omega) (by omega)]
      simp [hi_si]
      rw [h2 b hb]
      by_cases e : b = a
      · rw [if_pos e, e, hw1]; rfl
      · rw [if_neg e]
    · intro y hy
      rw [std_tu (by omega) (by omega) hW hw1 y]
      simp [hi_si]
      by_cases e : (y : Int) = w (8 + a)
      · rw [if_pos e, if_pos (by omega)]
      · rw [if_neg e, if_neg (by omega)]
        exact h3 y hy
    · rw [tu_oth (by omega) 168 (by omega) (by omega)]
      simp [hi_si]; exact h4
    · rw [tu_oth (by omega) 170 (by omega) (by omega)]
      simp [hi_si]; exact h5
    · simp [hi_si, tuW, upw_eq]
      rw [if_neg (by omega), if_neg (by omega)]
    · simp [hi_si]; exact h7
    · rw [← hb]
      simp [hi_si]
    · refine ((((Fr.refl _ _).si ?_).si ?_).si ?_).si ?_ <;> unfold Sp <;> omega
  · rw [if_neg hnt]
    try simp (disch := omega) only [w_id]
    exact ⟨fun _ => Or.inr (fun z => hnt (htk.mp z).2.2), fun h => by omega⟩
theorem c_88 {a : Nat} (hT : TW σ q D w f) (hW : WW D w) (hd8 : D 0 0 ≤ 8) (ha8 : a < 8) : Ct sc 2 88 [vR q, vI a] σ (fun r τ => (ftW w a = true ∧ r = rV (vI 1) ∧ TW τ q D (fbW w a) f ∧ Fr (Sp q) σ τ) ∨ (¬ ftW w a = true ∧ r = rV (vI 0) ∧ τ = σ)) := by
  obtain ⟨hQ, h1, h2, h3, h4, h5, h6, h7, h8⟩ := id hT
  have hl := OWl hQ
  have hwa := hW.1 a ha8
  have hday := hW.2.2.1
  have hft := ftW_iff (w := w) (a := a)
  have e2 := h2 a ha8
  have r2 : -1 ≤ hi σ (q + 2) a ∧ hi σ (q + 2) a ≤ 4000 := by
    rw [e2]
    split
    · rename_i h; have := hwa.2.2.2.1 h; omega
    · omega
  have hb : 0 ≤ bhW w a ∧ bhW w a ≤ 4000 := by
    unfold bhW
    split
    · rename_i h
      have := hwa.2.2.2.1 h
      omega
    · omega
  have flow : ∀ b, b < 8 → fbW w a b = if b = a then 0 else w b := fun b hb => by
    simp only [fbW, upw_eq]
    split
    · rfl
    · rw [if_neg (by omega)]
  have foth : ∀ j, 8 ≤ j → j ≠ 169 → fbW w a j = w j := fun j hj hj2 => by
    simp only [fbW, upw_eq]
    rw [if_neg (by omega), if_neg hj2]
  refine Ct.of (n := 1) (L := [vR q, vI a, vU]) cov_88 rfl (Nat.le_of_ble_eq_true rfl) ?_
  unfold T_88
  simp only [↓x_eInt, ↓x_eLng, ↓x_eNul, ↓x_eStr, ↓x_eLoc, ↓x_eLol, ↓x_eLor, ↓x_eBin, ↓x_eDiv, ↓x_eRem, ↓x_eNeg, ↓x_eLbin, ↓x_eLdiv, ↓x_eLrem, ↓x_eLshl, ↓x_eLshr, ↓x_eI2l, ↓x_eL2i, ↓x_eFldI, ↓x_eFldL, ↓x_eFldP, ↓x_eAldI, ↓x_eAldS, ↓x_eAldL, ↓x_eAldP, ↓x_eLen, ↓x_eLenS, ↓x_eCall, ↓x_eCalv, ↓x_eMin, ↓x_eMax, ↓x_eLmin, ↓x_eAbs, ↓x_eSlen, ↓x_eSat, ↓x_eIte, ↓x_eNewa, ↓x_eNewo, ↓x_esN, ↓x_esC, ↓x_cCmp, ↓x_cCmpz, ↓x_cLcmp, ↓x_cIsn, ↓x_cNot, ↓x_cAnd, ↓x_cOr, ↓x_tSkip, ↓x_tSup, ↓x_tSeq, ↓x_tSetI, ↓x_tSetL, ↓x_tSetR, ↓x_tInc, ↓x_tPutI, ↓x_tPutL, ↓x_tPutP, ↓x_tPutc, ↓x_tAstI, ↓x_tAstL, ↓x_tAstP, ↓x_tAstcI, ↓x_tAstcL, ↓x_tAcpI, ↓x_tAcpL, ↓x_tExp, ↓x_tExv, ↓x_tExw, ↓x_tIte, ↓x_tSw, ↓x_tRet, ↓x_tRetB, ↓x_tRetL, ↓x_tRetv, ↓x_tBrk, ↓x_tCont, ↓x_tThr, ↓x_wD, ↓x_wK, ↓x_jIx, ↓x_jOb, ↓x_jInt_I, ↓x_jLng_L, ↓x_jRef_R, ↓x_jStr_S, ↓x_jPls_R, ↓x_jPls_N, ↓x_jAny_R, ↓x_jAny_S, ↓jIntg_0, ↓jLngg_0, ↓jRefg_0, ↓jAnyg_0, ↓jStrg_0, ↓jPlsg_0, ↓jst_x0, ↓jst2_x0, ↓jIntg_1, ↓jLngg_1, ↓jRefg_1, ↓jAnyg_1, ↓jst_x1, ↓jst2_x1, ↓jIntg_2, ↓jLngg_2, ↓jRefg_2, ↓jAnyg_2, ↓jst_x2, ↓jst2_x2, ↓jIntg_3, ↓jLngg_3, ↓jRefg_3, ↓jAnyg_3, ↓jst_x3, ↓jst2_x3, ↓jIntg_4, ↓jLngg_4, ↓jRefg_4, ↓jAnyg_4, ↓jst_x4, ↓jst2_x4, ↓jIntg_5, ↓jLngg_5, ↓jRefg_5, ↓jAnyg_5, ↓jst_x5, ↓jst2_x5, ↓jIntg_6, ↓jLngg_6, ↓jRefg_6, ↓jAnyg_6, ↓jst_x6, ↓jst2_x6, ↓jIntg_7, ↓jLngg_7, ↓jRefg_7, ↓jAnyg_7, ↓jst_x7, ↓jst2_x7, ↓jIntg_8, ↓jLngg_8, ↓jRefg_8, ↓jAnyg_8, ↓jst_x8, ↓jst2_x8, ↓jIntg_9, ↓jLngg_9, ↓jRefg_9, ↓jAnyg_9, ↓jst_x9, ↓jst2_x9, ↓jIntg_10, ↓jLngg_10, ↓jRefg_10, ↓jAnyg_10, ↓jst_x10, ↓jst2_x10, ↓jIntg_11, ↓jLngg_11, ↓jRefg_11, ↓jAnyg_11, ↓jst_x11, ↓jst2_x11, ↓jIntg_12, ↓jLngg_12, ↓jRefg_12, ↓jAnyg_12, ↓jst_x12, ↓jst2_x12, ↓jIntg_13, ↓jLngg_13, ↓jRefg_13, ↓jAnyg_13, ↓jst_x13, ↓jst2_x13, ↓jIntg_14, ↓jLngg_14, ↓jRefg_14, ↓jAnyg_14, ↓jst_x14, ↓jst2_x14, ↓ex_some, jpv_some, jpv_none, jPls_pv, jisL_I, jisL_L, jisL_R, jisL_S, jisL_N, jisL_U, j_op0, j_op1, j_op2, j_c2, true_and, and_true, true_or, or_true, Int.toNat_natCast, nat1, ex_row, ex_row2, jwb1, jwb, jwb2, Classical.not_not, not_true_eq_false, false_implies, true_implies, ne_eq, not_false_eq_true, rV_inj, vI_inj, vL_inj, hi_tp, Nat.reduceEqDiff, Nat.reduceLeDiff, Nat.reduceAdd, Int.reduceLE, Int.reduceLT, Int.reduceEq, Int.reduceNeg, Int.reduceToNat, Int.reduceAdd, Int.reduceSub, Int.reduceMul, OWs0 hQ, OWs1 hQ, OWs2 hQ, OWs3 hQ, OWs4 hQ, OWp0 hQ, OWp1 hQ, OWp2 hQ, OWp3 hQ, jf_9_4, jf_9_5, jf_9_6, jf_9_7, jf_9_8, jf_9_9]
  refine (c_80 hT hW ha8).val (by omega) rfl ?_
  simp (disch := omega) only [↓x_eInt, ↓x_eLng, ↓x_eNul, ↓x_eStr, ↓x_eLoc, ↓x_eLol, ↓x_eLor, ↓x_eBin, ↓x_eDiv, ↓x_eRem, ↓x_eNeg, ↓x_eLbin, ↓x_eLdiv, ↓x_eLrem, ↓x_eLshl, ↓x_eLshr, ↓x_eI2l, ↓x_eL2i, ↓x_eFldI, ↓x_eFldL, ↓x_eFldP, ↓x_eAldI, ↓x_eAldS, ↓x_eAldL, ↓x_eAldP, ↓x_eLen, ↓x_eLenS, ↓x_eCall, ↓x_eCalv, ↓x_eMin, ↓x_eMax, ↓x_eLmin, ↓x_eAbs, ↓x_eSlen, ↓x_eSat, ↓x_eIte, ↓x_eNewa, ↓x_eNewo, ↓x_esN, ↓x_esC, ↓x_cCmp, ↓x_cCmpz, ↓x_cLcmp, ↓x_cIsn, ↓x_cNot, ↓x_cAnd, ↓x_cOr, ↓x_tSkip, ↓x_tSup, ↓x_tSeq, ↓x_tSetI, ↓x_tSetL, ↓x_tSetR, ↓x_tInc, ↓x_tPutI, ↓x_tPutL, ↓x_tPutP, ↓x_tPutc, ↓x_tAstI, ↓x_tAstL, ↓x_tAstP, ↓x_tAstcI, ↓x_tAstcL, ↓x_tAcpI, ↓x_tAcpL, ↓x_tExp, ↓x_tExv, ↓x_tExw, ↓x_tIte, ↓x_tSw, ↓x_tRet, ↓x_tRetB, ↓x_tRetL, ↓x_tRetv, ↓x_tBrk, ↓x_tCont, ↓x_tThr, ↓x_wD, ↓x_wK, ↓x_jIx, ↓x_jOb, ↓x_jInt_I, ↓x_jLng_L, ↓x_jRef_R, ↓x_jStr_S, ↓x_jPls_R, ↓x_jPls_N, ↓x_jAny_R, ↓x_jAny_S, ↓jIntg_0, ↓jLngg_0, ↓jRefg_0, ↓jAnyg_0, ↓jStrg_0, ↓jPlsg_0, ↓jst_x0, ↓jst2_x0, ↓jIntg_1, ↓jLngg_1, ↓jRefg_1, ↓jAnyg_1, ↓jst_x1, ↓jst2_x1, ↓jIntg_2, ↓jLngg_2, ↓jRefg_2, ↓jAnyg_2, ↓jst_x2, ↓jst2_x2, ↓jIntg_3, ↓jLngg_3, ↓jRefg_3, ↓jAnyg_3, ↓jst_x3, ↓jst2_x3, ↓jIntg_4, ↓jLngg_4, ↓jRefg_4, ↓jAnyg_4, ↓jst_x4, ↓jst2_x4, ↓jIntg_5, ↓jLngg_5, ↓jRefg_5, ↓jAnyg_5, ↓jst_x5, ↓jst2_x5, ↓jIntg_6, ↓jLngg_6, ↓jRefg_6, ↓jAnyg_6, ↓jst_x6, ↓jst2_x6, ↓jIntg_7, ↓jLngg_7, ↓jRefg_7, ↓jAnyg_7, ↓jst_x7, ↓jst2_x7, ↓jIntg_8, ↓jLngg_8, ↓jRefg_8, ↓jAnyg_8, ↓jst_x8, ↓jst2_x8, ↓jIntg_9, ↓jLngg_9, ↓jRefg_9, ↓jAnyg_9, ↓jst_x9, ↓jst2_x9, ↓jIntg_10, ↓jLngg_10, ↓jRefg_10, ↓jAnyg_10, ↓jst_x10, ↓jst2_x10, ↓jIntg_11, ↓jLngg_11, ↓jRefg_11, ↓jAnyg_11, ↓jst_x11, ↓jst2_x11, ↓jIntg_12, ↓jLngg_12, ↓jRefg_12, ↓jAnyg_12, ↓jst_x12, ↓jst2_x12, ↓jIntg_13, ↓jLngg_13, ↓jRefg_13, ↓jAnyg_13, ↓jst_x13, ↓jst2_x13, ↓jIntg_14, ↓jLngg_14, ↓jRefg_14, ↓jAnyg_14, ↓jst_x14, ↓jst2_x14, ↓ex_some, jpv_some, jpv_none, jPls_pv, jisL_I, jisL_L, jisL_R, jisL_S, jisL_N, jisL_U, j_op0, j_op1, j_op2, j_c2, true_and, and_true, true_or, or_true, Int.toNat_natCast, nat1, ex_row, ex_row2, jwb1, jwb, jwb2, Classical.not_not, not_true_eq_false, false_implies, true_implies, ne_eq, not_false_eq_true, rV_inj, vI_inj, vL_inj, hi_tp, Nat.reduceEqDiff, Nat.reduceLeDiff, Nat.reduceAdd, Int.reduceLE, Int.reduceLT, Int.reduceEq, Int.reduceNeg, Int.reduceToNat, Int.reduceAdd, Int.reduceSub, Int.reduceMul, w_id, hsh_si, hp_si, hi_si_ne, OWs0 hQ, OWs1 hQ, OWs2 hQ, OWs3 hQ, OWs4 hQ, OWp0 hQ, OWp1 hQ, OWp2 hQ, OWp3 hQ, jf_9_4, jf_9_5, jf_9_6, jf_9_7, jf_9_8, jf_9_9, h6, hi_si_nk]
  rw [jdiv (by omega) (by omega)]
  have hfn : 1 + (bhW w a + 9) / 10 = fnW w a := rfl
  rw [hfn]
  have hfr : 1 ≤ fnW w a ∧ fnW w a ≤ 1000 := by rw [← hfn]; omega
  simp (disch := omega) only [w_id]
  refine ⟨by omega, by omega, fun g1 => Or.inr (fun z => ?_), fun g1 => ⟨fun g2 => Or.inr (fun z => by have := (hft.mp z).2; omega), fun g2 => ⟨by omega, by omega, Or.inl ?_⟩⟩⟩
  · have hw2 := (hft.mp z).1
    rw [e2, if_pos hw2] at g1
    have := hwa.2.2.2.1 hw2
    omega
  · have hw2 : w a = 2 := Classical.byContradiction (fun z => g1 (by rw [e2, if_neg z]))
    refine ⟨hft.mpr ⟨hw2, by omega⟩, ⟨?_, ?_, ?_, ?_, ?_, ?_, ?_, ?_, ?_⟩, ?_⟩
    · exact hQ
    · intro b hb
      rw [foth (8 + b) (by omega) (by omega)]
      simp [hi_si]
      exact h1 b hb
    · intro b hb
      rw [flow b hb, foth (16 + b) (by omega) (by omega)]
      simp [hi_si]
      by_cases e : b = a
      · rw [if_pos e, if_pos e]; rfl
      · rw [if_neg e, if_neg e]; exact h2 b hb
    · intro y hy
      rw [std_ext (v := w) (fun b hb => ?_)]
      · simp [hi_si]
        exact h3 y hy
      · have hb8 : b < 8 := by
          omega
        rw [flow b hb8, foth (8 + b) (by omega) (by omega)]
        by_cases e : b = a
        · rw [if_pos e, e, hw2]
          constructor
          · intro z; omega
          · intro z; omega
        · rw [if_neg e]
    · rw [foth 168 (by omega) (by omega)]
      simp [hi_si]; exact h4
    · rw [foth 170 (by omega) (by omega)]
      simp [hi_si]; exact h5
    · simp [hi_si, fbW, upw_eq]
      intro z; omega
    · simp [hi_si]; exact h7
    · rw [lbt_congr (v := w) (fun i hi => ?_)]
      · simp [hi_si]; exact h8
      · rw [flow i hi]
        by_cases e : i = a
        · rw [if_pos e, e, hw2]
          constructor
          · intro z; omega
          · intro z; omega
        · rw [if_neg e]
    · refine ((Fr.refl _ _).si ?_).si ?_ <;> unfold Sp <;> omega
end CTOWN3
