/-! The class's town: five cells from q on -/
section CTOWN
def OW (σ : jH) (q : Nat) : Prop := (q = 28 ∨ q = 58 ∨ 103 ≤ q) ∧ (hsh σ)[q]? = some (12, 0) ∧ (hsh σ)[q + 1]? = some (0, 8) ∧ (hsh σ)[q + 2]? = some (0, 8) ∧ (hsh σ)[q + 3]? = some (0, 12) ∧ (hsh σ)[q + 4]? = some (1, 12) ∧ hp σ q 0 = some (q + 1) ∧ hp σ q 1 = some (q + 2) ∧ hp σ q 2 = some (q + 3) ∧ hp σ q 3 = some (q + 4)
section
variable {σ : jH} {q : Nat}
theorem OWl (h : OW σ q) : q = 28 ∨ q = 58 ∨ 103 ≤ q := h.1
theorem OWs0 (h : OW σ q) : (hsh σ)[q]? = some (12, 0) := h.2.1
theorem OWs1 (h : OW σ q) : (hsh σ)[q + 1]? = some (0, 8) := h.2.2.1
theorem OWs2 (h : OW σ q) : (hsh σ)[q + 2]? = some (0, 8) := h.2.2.2.1
theorem OWs3 (h : OW σ q) : (hsh σ)[q + 3]? = some (0, 12) := h.2.2.2.2.1
theorem OWs4 (h : OW σ q) : (hsh σ)[q + 4]? = some (1, 12) := h.2.2.2.2.2.1
theorem OWp0 (h : OW σ q) : hp σ q 0 = some (q + 1) := h.2.2.2.2.2.2.1
theorem OWp1 (h : OW σ q) : hp σ q 1 = some (q + 2) := h.2.2.2.2.2.2.2.1
theorem OWp2 (h : OW σ q) : hp σ q 2 = some (q + 3) := h.2.2.2.2.2.2.2.2.1
theorem OWp3 (h : OW σ q) : hp σ q 3 = some (q + 4) := h.2.2.2.2.2.2.2.2.2
theorem OW_fr {S : Nat → Nat → Prop} {τ : jH} (h : OW σ q) (hF : Fr S σ τ) : OW τ q := by unfold OW; rw [hF.sh, hF.hp]; exact h
end
/-- what is noted of a day, three bits a cell from cell y on -/
def pkd (w : Nat → Int) (d : Nat) : Nat → Nat
  | 0 => 0
  | n + 1 => (w (24 + 12 * d + (11 - n))).toNat + 8 * pkd w d n
/-- the class's town at q is w (with frost f) -/
def TW (σ : jH) (q : Nat) (D : jD) (w : Nat → Int) (f : Int) : Prop := OW σ q ∧ (∀ a, a < 8 → hi σ (q + 1) a = w (8 + a)) ∧ (∀ a, a < 8 → hi σ (q + 2) a = if w a = 2 then w (16 + a) else -1) ∧ (∀ x : Nat, x < 12 → hi σ (q + 3) x = std w x (D 0 0).toNat) ∧
  (hi σ q 4 = w 168 ∧ hi σ q 5 = w 170 ∧ hi σ q 6 = w 169 ∧ hi σ q 7 = f ∧ hi σ q 8 = (lbt w 8 : Nat))
variable {sc : jSc} {σ : jH} {D : jD} {w : Nat → Int} {q t : Nat} {f : Int}
theorem laid_iff {a : Nat} (hW : WW D w) (ha : a < 8) : w (8 + a) = -1 ↔ ¬ w a = 1 := by
  have h := hW.1 a ha
  constructor
  · intro h1 h2
    have := h.2.1 h2
    omega
  · intro h1
    exact h.2.2.1 h1
theorem c_79 {a : Nat} (hT : TW σ q D w f) (hW : WW D w) (ha : a < 8) : Ct sc 1 79 [vR q, vI a] σ (fun r τ => r = rV (vI (w a)) ∧ τ = σ) := by
  obtain ⟨hQ, h1, h2, -⟩ := hT
  have hl := laid_iff hW ha
  have hw := hW.1 a ha
  have hday := hW.2.2.1
  have e1 := h1 a ha
  have e2 := h2 a ha
  have r1 : -1 ≤ w (8 + a) ∧ w (8 + a) ≤ 11 := by
    by_cases h : w a = 1
    · have := hw.2.1 h; omega
    · have := hw.2.2.1 h; omega
  have r2 : -1 ≤ hi σ (q + 2) a ∧ hi σ (q + 2) a ≤ 4000 := by
    rw [e2]
    split
    · rename_i h; have := hw.2.2.2.1 h; omega
    · omega
  refine Ct.of (n := 0) (L := [vR q, vI a]) cov_79 rfl (Nat.le_of_ble_eq_true rfl) ?_
  unfold T_79
  simp only [↓x_eInt, ↓x_eLng, ↓x_eNul, ↓x_eStr, ↓x_eLoc, ↓x_eLol, ↓x_eLor, ↓x_eBin, ↓x_eDiv, ↓x_eRem, ↓x_eNeg, ↓x_eLbin, ↓x_eLdiv, ↓x_eLrem, ↓x_eLshl, ↓x_eLshr, ↓x_eI2l, ↓x_eL2i, ↓x_eFldI, ↓x_eFldL, ↓x_eFldP, ↓x_eAldI, ↓x_eAldS, ↓x_eAldL, ↓x_eAldP, ↓x_eLen, ↓x_eLenS, ↓x_eCall, ↓x_eCalv, ↓x_eMin, ↓x_eMax, ↓x_eLmin, ↓x_eAbs, ↓x_eSlen, ↓x_eSat, ↓x_eIte, ↓x_eNewa, ↓x_eNewo, ↓x_esN, ↓x_esC, ↓x_cCmp, ↓x_cCmpz, ↓x_cLcmp, ↓x_cIsn, ↓x_cNot, ↓x_cAnd, ↓x_cOr, ↓x_tSkip, ↓x_tSup, ↓x_tSeq, ↓x_tSetI, ↓x_tSetL, ↓x_tSetR, ↓x_tInc, ↓x_tPutI, ↓x_tPutL, ↓x_tPutP, ↓x_tPutc, ↓x_tAstI, ↓x_tAstL, ↓x_tAstP, ↓x_tAstcI, ↓x_tAstcL, ↓x_tAcpI, ↓x_tAcpL, ↓x_tExp, ↓x_tExv, ↓x_tExw, ↓x_tIte, ↓x_tSw, ↓x_tRet, ↓x_tRetB, ↓x_tRetL, ↓x_tRetv, ↓x_tBrk, ↓x_tCont, ↓x_tThr, ↓x_wD, ↓x_wK, ↓x_jIx, ↓x_jOb, ↓x_jInt_I, ↓x_jLng_L, ↓x_jRef_R, ↓x_jStr_S, ↓x_jPls_R, ↓x_jPls_N, ↓x_jAny_R, ↓x_jAny_S, ↓jIntg_0, ↓jLngg_0, ↓jRefg_0, ↓jAnyg_0, ↓jStrg_0, ↓jPlsg_0, ↓jst_x0, ↓jst2_x0, ↓jIntg_1, ↓jLngg_1, ↓jRefg_1, ↓jAnyg_1, ↓jst_x1, ↓jst2_x1, ↓jIntg_2, ↓jLngg_2, ↓jRefg_2, ↓jAnyg_2, ↓jst_x2, ↓jst2_x2, ↓jIntg_3, ↓jLngg_3, ↓jRefg_3, ↓jAnyg_3, ↓jst_x3, ↓jst2_x3, ↓jIntg_4, ↓jLngg_4, ↓jRefg_4, ↓jAnyg_4, ↓jst_x4, ↓jst2_x4, ↓jIntg_5, ↓jLngg_5, ↓jRefg_5, ↓jAnyg_5, ↓jst_x5, ↓jst2_x5, ↓jIntg_6, ↓jLngg_6, ↓jRefg_6, ↓jAnyg_6, ↓jst_x6, ↓jst2_x6, ↓jIntg_7, ↓jLngg_7, ↓jRefg_7, ↓jAnyg_7, ↓jst_x7, ↓jst2_x7, ↓jIntg_8, ↓jLngg_8, ↓jRefg_8, ↓jAnyg_8, ↓jst_x8, ↓jst2_x8, ↓jIntg_9, ↓jLngg_9, ↓jRefg_9, ↓jAnyg_9, ↓jst_x9, ↓jst2_x9, ↓jIntg_10, ↓jLngg_10, ↓jRefg_10, ↓jAnyg_10, ↓jst_x10, ↓jst2_x10, ↓jIntg_11, ↓jLngg_11, ↓jRefg_11, ↓jAnyg_11, ↓jst_x11, ↓jst2_x11, ↓jIntg_12, ↓jLngg_12, ↓jRefg_12, ↓jAnyg_12, ↓jst_x12, ↓jst2_x12, ↓jIntg_13, ↓jLngg_13, ↓jRefg_13, ↓jAnyg_13, ↓jst_x13, ↓jst2_x13, ↓jIntg_14, ↓jLngg_14, ↓jRefg_14, ↓jAnyg_14, ↓jst_x14, ↓jst2_x14, ↓ex_some, jpv_some, jpv_none, jPls_pv, jisL_I, jisL_L, jisL_R, jisL_S, jisL_N, jisL_U, j_op0, j_op1, j_op2, j_c2, true_and, and_true, true_or, or_true, Int.toNat_natCast, nat1, ex_row, ex_row2, jwb1, jwb, jwb2, Classical.not_not, not_true_eq_false, false_implies, true_implies, ne_eq, not_false_eq_true, rV_inj, vI_inj, vL_inj, hi_tp, Nat.reduceEqDiff, Nat.reduceLeDiff, Nat.reduceAdd, Int.reduceLE, Int.reduceLT, Int.reduceEq, Int.reduceNeg, Int.reduceToNat, Int.reduceAdd, Int.reduceSub, Int.reduceMul, OWs0 hQ, OWs1 hQ, OWs2 hQ, OWs3 hQ, OWs4 hQ, OWp0 hQ, OWp1 hQ, OWp2 hQ, OWp3 hQ, jf_9_4, jf_9_5, jf_9_6, jf_9_7, jf_9_8, jf_9_9]
  simp (disch := omega) only [↓x_eInt, ↓x_eLng, ↓x_eNul, ↓x_eStr, ↓x_eLoc, ↓x_eLol, ↓x_eLor, ↓x_eBin, ↓x_eDiv, ↓x_eRem, ↓x_eNeg, ↓x_eLbin, ↓x_eLdiv, ↓x_eLrem, ↓x_eLshl, ↓x_eLshr, ↓x_eI2l, ↓x_eL2i, ↓x_eFldI, ↓x_eFldL, ↓x_eFldP, ↓x_eAldI, ↓x_eAldS, ↓x_eAldL, ↓x_eAldP, ↓x_eLen, ↓x_eLenS, ↓x_eCall, ↓x_eCalv, ↓x_eMin, ↓x_eMax, ↓x_eLmin, ↓x_eAbs, ↓x_eSlen, ↓x_eSat, ↓x_eIte, ↓x_eNewa, ↓x_eNewo, ↓x_esN, ↓x_esC, ↓x_cCmp, ↓x_cCmpz, ↓x_cLcmp, ↓x_cIsn, ↓x_cNot, ↓x_cAnd, ↓x_cOr, ↓x_tSkip, ↓x_tSup, ↓x_tSeq, ↓x_tSetI, ↓x_tSetL, ↓x_tSetR, ↓x_tInc, ↓x_tPutI, ↓x_tPutL, ↓x_tPutP, ↓x_tPutc, ↓x_tAstI, ↓x_tAstL, ↓x_tAstP, ↓x_tAstcI, ↓x_tAstcL, ↓x_tAcpI, ↓x_tAcpL, ↓x_tExp, ↓x_tExv, ↓x_tExw, ↓x_tIte, ↓x_tSw, ↓x_tRet, ↓x_tRetB, ↓x_tRetL, ↓x_tRetv, ↓x_tBrk, ↓x_tCont, ↓x_tThr, ↓x_wD, ↓x_wK, ↓x_jIx, ↓x_jOb, ↓x_jInt_I, ↓x_jLng_L, ↓x_jRef_R, ↓x_jStr_S, ↓x_jPls_R, ↓x_jPls_N, ↓x_jAny_R, ↓x_jAny_S, ↓jIntg_0, ↓jLngg_0, ↓jRefg_0, ↓jAnyg_0, ↓jStrg_0, ↓jPlsg_0, ↓jst_x0, ↓jst2_x0, ↓jIntg_1, ↓jLngg_1, ↓jRefg_1, ↓jAnyg_1, ↓jst_x1, ↓jst2_x1, ↓jIntg_2, ↓jLngg_2, ↓jRefg_2, ↓jAnyg_2, ↓jst_x2, ↓jst2_x2, ↓jIntg_3, ↓jLngg_3, ↓jRefg_3, ↓jAnyg_3, ↓jst_x3, ↓jst2_x3, ↓jIntg_4, ↓jLngg_4, ↓jRefg_4, ↓jAnyg_4, ↓jst_x4, ↓jst2_x4, ↓jIntg_5, ↓jLngg_5, ↓jRefg_5, ↓jAnyg_5, ↓jst_x5, ↓jst2_x5, ↓jIntg_6, ↓jLngg_6, ↓jRefg_6, ↓jAnyg_6, ↓jst_x6, ↓jst2_x6, ↓jIntg_7, ↓jLngg_7, ↓jRefg_7, ↓jAnyg_7, ↓jst_x7, ↓jst2_x7, ↓jIntg_8, ↓jLngg_8, ↓jRefg_8, ↓jAnyg_8, ↓jst_x8, ↓jst2_x8, ↓jIntg_9, ↓jLngg_9, ↓jRefg_9, ↓jAnyg_9, ↓jst_x9, ↓jst2_x9, ↓jIntg_10, ↓jLngg_10, ↓jRefg_10, ↓jAnyg_10, ↓jst_x10, ↓jst2_x10, ↓jIntg_11, ↓jLngg_11, ↓jRefg_11, ↓jAnyg_11, ↓jst_x11, ↓jst2_x11, ↓jIntg_12, ↓jLngg_12, ↓jRefg_12, ↓jAnyg_12, ↓jst_x12, ↓jst2_x12, ↓jIntg_13, ↓jLngg_13, ↓jRefg_13, ↓jAnyg_13, ↓jst_x13, ↓jst2_x13, ↓jIntg_14, ↓jLngg_14, ↓jRefg_14, ↓jAnyg_14, ↓jst_x14, ↓jst2_x14, ↓ex_some, jpv_some, jpv_none, jPls_pv, jisL_I, jisL_L, jisL_R, jisL_S, jisL_N, jisL_U, j_op0, j_op1, j_op2, j_c2, true_and, and_true, true_or, or_true, Int.toNat_natCast, nat1, ex_row, ex_row2, jwb1, jwb, jwb2, Classical.not_not, not_true_eq_false, false_implies, true_implies, ne_eq, not_false_eq_true, rV_inj, vI_inj, vL_inj, hi_tp, Nat.reduceEqDiff, Nat.reduceLeDiff, Nat.reduceAdd, Int.reduceLE, Int.reduceLT, Int.reduceEq, Int.reduceNeg, Int.reduceToNat, Int.reduceAdd, Int.reduceSub, Int.reduceMul, w_id, hsh_si, hp_si, hi_si_ne, OWs0 hQ, OWs1 hQ, OWs2 hQ, OWs3 hQ, OWs4 hQ, OWp0 hQ, OWp1 hQ, OWp2 hQ, OWp3 hQ, jf_9_4, jf_9_5, jf_9_6, jf_9_7, jf_9_8, jf_9_9, e1]
  refine ⟨by omega, by omega, fun h => ?_, fun h => ⟨by omega, by omega, fun h3 => ?_, fun h3 => ?_⟩⟩
  · have : w a = 1 := Classical.byContradiction (fun z => h (hl.mpr z))
    omega
  · have hn := hl.mp h
    rw [e2] at h3
    split at h3
    · omega
    · exact (h3 rfl).elim
  · have hn := hl.mp h
    rw [e2] at h3
    split at h3
    · rename_i h4; have := hw.2.2.2.1 h4; omega
    · omega
theorem c_80 {a : Nat} (hT : TW σ q D w f) (hW : WW D w) (ha : a < 8) : Ct sc 1 80 [vR q, vI a] σ (fun r τ => r = rV (vI (bhW w a)) ∧ τ = σ) := by
  obtain ⟨hQ, h1, h2, -, h4, h5, -⟩ := hT
  have hw := hW.1 a ha
  have hday := hW.2.2.1
  have e2 := h2 a ha
  have r2 : -1 ≤ hi σ (q + 2) a ∧ hi σ (q + 2) a ≤ 4000 := by
    rw [e2]
    split
    · rename_i h; have := hw.2.2.2.1 h; omega
    · omega
  refine Ct.of (n := 0) (L := [vR q, vI a]) cov_80 rfl (Nat.le_of_ble_eq_true rfl) ?_
  unfold T_80
  simp only [↓x_eInt, ↓x_eLng, ↓x_eNul, ↓x_eStr, ↓x_eLoc, ↓x_eLol, ↓x_eLor, ↓x_eBin, ↓x_eDiv, ↓x_eRem, ↓x_eNeg, ↓x_eLbin, ↓x_eLdiv, ↓x_eLrem, ↓x_eLshl, ↓x_eLshr, ↓x_eI2l, ↓x_eL2i, ↓x_eFldI, ↓x_eFldL, ↓x_eFldP, ↓x_eAldI, ↓x_eAldS, ↓x_eAldL, ↓x_eAldP, ↓x_eLen, ↓x_eLenS, ↓x_eCall, ↓x_eCalv, ↓x_eMin, ↓x_eMax, ↓x_eLmin, ↓x_eAbs, ↓x_eSlen, ↓x_eSat, ↓x_eIte, ↓x_eNewa, ↓x_eNewo, ↓x_esN, ↓x_esC, ↓x_cCmp, ↓x_cCmpz, ↓x_cLcmp, ↓x_cIsn, ↓x_cNot, ↓x_cAnd, ↓x_cOr, ↓x_tSkip, ↓x_tSup, ↓x_tSeq, ↓x_tSetI, ↓x_tSetL, ↓x_tSetR, ↓x_tInc, ↓x_tPutI, ↓x_tPutL, ↓x_tPutP, ↓x_tPutc, ↓x_tAstI, ↓x_tAstL, ↓x_tAstP, ↓x_tAstcI, ↓x_tAstcL, ↓x_tAcpI, ↓x_tAcpL, ↓x_tExp, ↓x_tExv, ↓x_tExw, ↓x_tIte, ↓x_tSw, ↓x_tRet, ↓x_tRetB, ↓x_tRetL, ↓x_tRetv, ↓x_tBrk, ↓x_tCont, ↓x_tThr, ↓x_wD, ↓x_wK, ↓x_jIx, ↓x_jOb, ↓x_jInt_I, ↓x_jLng_L, ↓x_jRef_R, ↓x_jStr_S, ↓x_jPls_R, ↓x_jPls_N, ↓x_jAny_R, ↓x_jAny_S, ↓jIntg_0, ↓jLngg_0, ↓jRefg_0, ↓jAnyg_0, ↓jStrg_0, ↓jPlsg_0, ↓jst_x0, ↓jst2_x0, ↓jIntg_1, ↓jLngg_1, ↓jRefg_1, ↓jAnyg_1, ↓jst_x1, ↓jst2_x1, ↓jIntg_2, ↓jLngg_2, ↓jRefg_2, ↓jAnyg_2, ↓jst_x2, ↓jst2_x2, ↓jIntg_3, ↓jLngg_3, ↓jRefg_3, ↓jAnyg_3, ↓jst_x3, ↓jst2_x3, ↓jIntg_4, ↓jLngg_4, ↓jRefg_4, ↓jAnyg_4, ↓jst_x4, ↓jst2_x4, ↓jIntg_5, ↓jLngg_5, ↓jRefg_5, ↓jAnyg_5, ↓jst_x5, ↓jst2_x5, ↓jIntg_6, ↓jLngg_6, ↓jRefg_6, ↓jAnyg_6, ↓jst_x6, ↓jst2_x6, ↓jIntg_7, ↓jLngg_7, ↓jRefg_7, ↓jAnyg_7, ↓jst_x7, ↓jst2_x7, ↓jIntg_8, ↓jLngg_8, ↓jRefg_8, ↓jAnyg_8, ↓jst_x8, ↓jst2_x8, ↓jIntg_9, ↓jLngg_9, ↓jRefg_9, ↓jAnyg_9, ↓jst_x9, ↓jst2_x9, ↓jIntg_10, ↓jLngg_10, ↓jRefg_10, ↓jAnyg_10, ↓jst_x10, ↓jst2_x10, ↓jIntg_11, ↓jLngg_11, ↓jRefg_11, ↓jAnyg_11, ↓jst_x11, ↓jst2_x11, ↓jIntg_12, ↓jLngg_12, ↓jRefg_12, ↓jAnyg_12, ↓jst_x12, ↓jst2_x12, ↓jIntg_13, ↓jLngg_13, ↓jRefg_13, ↓jAnyg_13, ↓jst_x13, ↓jst2_x13, ↓jIntg_14, ↓jLngg_14, ↓jRefg_14, ↓jAnyg_14, ↓jst_x14, ↓jst2_x14, ↓ex_some, jpv_some, jpv_none, jPls_pv, jisL_I, jisL_L, jisL_R, jisL_S, jisL_N, jisL_U, j_op0, j_op1, j_op2, j_c2, true_and, and_true, true_or, or_true, Int.toNat_natCast, nat1, ex_row, ex_row2, jwb1, jwb, jwb2, Classical.not_not, not_true_eq_false, false_implies, true_implies, ne_eq, not_false_eq_true, rV_inj, vI_inj, vL_inj, hi_tp, Nat.reduceEqDiff, Nat.reduceLeDiff, Nat.reduceAdd, Int.reduceLE, Int.reduceLT, Int.reduceEq, Int.reduceNeg, Int.reduceToNat, Int.reduceAdd, Int.reduceSub, Int.reduceMul, OWs0 hQ, OWs1 hQ, OWs2 hQ, OWs3 hQ, OWs4 hQ, OWp0 hQ, OWp1 hQ, OWp2 hQ, OWp3 hQ, jf_9_4, jf_9_5, jf_9_6, jf_9_7, jf_9_8, jf_9_9]
  simp (disch := omega) only [↓x_eInt, ↓x_eLng, ↓x_eNul, ↓x_eStr, ↓x_eLoc, ↓x_eLol, ↓x_eLor, ↓x_eBin, ↓x_eDiv, ↓x_eRem, ↓x_eNeg, ↓x_eLbin, ↓x_eLdiv, ↓x_eLrem, ↓x_eLshl, ↓x_eLshr, ↓x_eI2l, ↓x_eL2i, ↓x_eFldI, ↓x_eFldL, ↓x_eFldP, ↓x_eAldI, ↓x_eAldS, ↓x_eAldL, ↓x_eAldP, ↓x_eLen, ↓x_eLenS, ↓x_eCall, ↓x_eCalv, ↓x_eMin, ↓x_eMax, ↓x_eLmin, ↓x_eAbs, ↓x_eSlen, ↓x_eSat, ↓x_eIte, ↓x_eNewa, ↓x_eNewo, ↓x_esN, ↓x_esC, ↓x_cCmp, ↓x_cCmpz, ↓x_cLcmp, ↓x_cIsn, ↓x_cNot, ↓x_cAnd, ↓x_cOr, ↓x_tSkip, ↓x_tSup, ↓x_tSeq, ↓x_tSetI, ↓x_tSetL, ↓x_tSetR, ↓x_tInc, ↓x_tPutI, ↓x_tPutL, ↓x_tPutP, ↓x_tPutc, ↓x_tAstI, ↓x_tAstL, ↓x_tAstP, ↓x_tAstcI, ↓x_tAstcL, ↓x_tAcpI, ↓x_tAcpL, ↓x_tExp, ↓x_tExv, ↓x_tExw, ↓x_tIte, ↓x_tSw, ↓x_tRet, ↓x_tRetB, ↓x_tRetL, ↓x_tRetv, ↓x_tBrk, ↓x_tCont, ↓x_tThr, ↓x_wD, ↓x_wK, ↓x_jIx, ↓x_jOb, ↓x_jInt_I, ↓x_jLng_L, ↓x_jRef_R, ↓x_jStr_S, ↓x_jPls_R, ↓x_jPls_N, ↓x_jAny_R, ↓x_jAny_S, ↓jIntg_0, ↓jLngg_0, ↓jRefg_0, ↓jAnyg_0, ↓jStrg_0, ↓jPlsg_0, ↓jst_x0, ↓jst2_x0, ↓jIntg_1, ↓jLngg_1, ↓jRefg_1, ↓jAnyg_1, ↓jst_x1, ↓jst2_x1, ↓jIntg_2, ↓jLngg_2, ↓jRefg_2, ↓jAnyg_2, ↓jst_x2, ↓jst2_x2, ↓jIntg_3, ↓jLngg_3, ↓jRefg_3, ↓jAnyg_3, ↓jst_x3, ↓jst2_x3, ↓jIntg_4, ↓jLngg_4, ↓jRefg_4, ↓jAnyg_4, ↓jst_x4, ↓jst2_x4, ↓jIntg_5, ↓jLngg_5, ↓jRefg_5, ↓jAnyg_5, ↓jst_x5, ↓jst2_x5, ↓jIntg_6, ↓jLngg_6, ↓jRefg_6, ↓jAnyg_6, ↓jst_x6, ↓jst2_x6, ↓jIntg_7, ↓jLngg_7, ↓jRefg_7, ↓jAnyg_7, ↓jst_x7, ↓jst2_x7, ↓jIntg_8, ↓jLngg_8, ↓jRefg_8, ↓jAnyg_8, ↓jst_x8, ↓jst2_x8, ↓jIntg_9, ↓jLngg_9, ↓jRefg_9, ↓jAnyg_9, ↓jst_x9, ↓jst2_x9, ↓jIntg_10, ↓jLngg_10, ↓jRefg_10, ↓jAnyg_10, ↓jst_x10, ↓jst2_x10, ↓jIntg_11, ↓jLngg_11, ↓jRefg_11, ↓jAnyg_11, ↓jst_x11, ↓jst2_x11, ↓jIntg_12, ↓jLngg_12, ↓jRefg_12, ↓jAnyg_12, ↓jst_x12, ↓jst2_x12, ↓jIntg_13, ↓jLngg_13, ↓jRefg_13, ↓jAnyg_13, ↓jst_x13, ↓jst2_x13, ↓jIntg_14, ↓jLngg_14, ↓jRefg_14, ↓jAnyg_14, ↓jst_x14, ↓jst2_x14, ↓ex_some, jpv_some, jpv_none, jPls_pv, jisL_I, jisL_L, jisL_R, jisL_S, jisL_N, jisL_U, j_op0, j_op1, j_op2, j_c2, true_and, and_true, true_or, or_true, Int.toNat_natCast, nat1, ex_row, ex_row2, jwb1, jwb, jwb2, Classical.not_not, not_true_eq_false, false_implies, true_implies, ne_eq, not_false_eq_true, rV_inj, vI_inj, vL_inj, hi_tp, Nat.reduceEqDiff, Nat.reduceLeDiff, Nat.reduceAdd, Int.reduceLE, Int.reduceLT, Int.reduceEq, Int.reduceNeg, Int.reduceToNat, Int.reduceAdd, Int.reduceSub, Int.reduceMul, w_id, hsh_si, hp_si, hi_si_ne, OWs0 hQ, OWs1 hQ, OWs2 hQ, OWs3 hQ, OWs4 hQ, OWp0 hQ, OWp1 hQ, OWp2 hQ, OWp3 hQ, jf_9_4, jf_9_5, jf_9_6, jf_9_7, jf_9_8, jf_9_9, h5]
  unfold bhW
  refine ⟨by omega, by omega, fun h => ?_, fun h => ⟨by omega, by omega, ?_⟩⟩
  · rw [e2] at h
    split at h
    · rename_i h6; have := hw.2.2.2.1 h6; omega
    · rename_i h6; rw [if_neg h6]
  · rw [e2] at h ⊢
    split at h
    · rename_i h6; rw [if_pos h6, if_pos h6]
    · exact (h rfl).elim
/-- the class holds the train D at t -/
def CX (σ : jH) (t : Nat) (D : jD) : Prop := OT σ t ∧ RDc σ t D ∧ WD D 61
theorem needs_at {a : Nat} (hX : CX σ t D) (ha : (a : Int) < D 0 0) : hi σ (t + 4) a = ((D 4 a).toNat : Int) ∧ (D 4 a).toNat < 256 ∧ (D 4 a).toNat < 2 ^ a := by
  have hd := hX.2.2.1
  have h1 := hX.2.1.2.2.1 a (by omega)
  have h2 := hX.2.2.2.1 a ha
  have h5 : (2 : Nat) ^ a ≤ 2 ^ 8 := Nat.pow_le_pow_right (by decide) (by omega)
  rw [h1, if_pos ha]
  omega
theorem c_84 {a : Nat} (hT : TW σ q D w f) (hX : CX σ t D) (hW : WW D w) (ha : (a : Int) < D 0 0) : Ct sc 2 84 [vR q, vR t, vI a] σ (fun r τ => r = rV (vI (if 0 < w 169 ∧ w a = 0 ∧ ndW D w a = true then 1 else 0)) ∧ τ = σ) := by
  obtain ⟨hQ, h1, h2, h3, h4, h5, h6, h7, h8⟩ := id hT
  have hG := hX.1
  have hd := hX.2.2.1
  have hn := needs_at hX ha
  have hday := hW.2.2.1
  have hwa := hW.1 a (by omega)
  have hnd := ndW_iff (D := D) (w := w) (a := a)
  have hl8 := lbt_lt w 8
  obtain ⟨r, hr1, hr2, hr3⟩ := jandn (m := (D 4 a).toNat) (L := lbt w 8) (by omega) (by omega)
  have hrz : (r : Int) = 0 ↔ ndW D w a = true := by
    rw [hnd]
    constructor
    · intro h0 b hb ht
      have := hr3 b
      rw [show r = 0 by omega, Nat.zero_testBit, ht, lbt_bit] at this
      simp at this
      exact this.2
    · intro hh
      have : r = 0 := by
        refine Nat.eq_of_testBit_eq (fun i => ?_)
        rw [hr3 i, Nat.zero_testBit]
        cases ht : (D 4 a).toNat.testBit i with
        | false => rfl
        | true =>
          have hia : i < a := by
            by_cases hc : i < a
            · exact hc
            · have := Nat.testBit_lt_two_pow (x := (D 4 a).toNat) (i := i) (Nat.lt_of_lt_of_le hn.2.2 (Nat.pow_le_pow_right (by decide) (by omega)))
              rw [this] at ht; cases ht
          rw [lbt_bit]
          simp [hh i hia ht]
          omega
      omega
  refine Ct.of (n := 1) (L := [vR q, vR t, vI a]) cov_84 rfl (Nat.le_of_ble_eq_true rfl) ?_
  unfold T_84
  simp only [↓x_eInt, ↓x_eLng, ↓x_eNul, ↓x_eStr, ↓x_eLoc, ↓x_eLol, ↓x_eLor, ↓x_eBin, ↓x_eDiv, ↓x_eRem, ↓x_eNeg, ↓x_eLbin, ↓x_eLdiv, ↓x_eLrem, ↓x_eLshl, ↓x_eLshr, ↓x_eI2l, ↓x_eL2i, ↓x_eFldI, ↓x_eFldL, ↓x_eFldP, ↓x_eAldI, ↓x_eAldS, ↓x_eAldL, ↓x_eAldP, ↓x_eLen, ↓x_eLenS, ↓x_eCall, ↓x_eCalv, ↓x_eMin, ↓x_eMax, ↓x_eLmin, ↓x_eAbs, ↓x_eSlen, ↓x_eSat, ↓x_eIte, ↓x_eNewa, ↓x_eNewo, ↓x_esN, ↓x_esC, ↓x_cCmp, ↓x_cCmpz, ↓x_cLcmp, ↓x_cIsn, ↓x_cNot, ↓x_cAnd, ↓x_cOr, ↓x_tSkip, ↓x_tSup, ↓x_tSeq, ↓x_tSetI, ↓x_tSetL, ↓x_tSetR, ↓x_tInc, ↓x_tPutI, ↓x_tPutL, ↓x_tPutP, ↓x_tPutc, ↓x_tAstI, ↓x_tAstL, ↓x_tAstP, ↓x_tAstcI, ↓x_tAstcL, ↓x_tAcpI, ↓x_tAcpL, ↓x_tExp, ↓x_tExv, ↓x_tExw, ↓x_tIte, ↓x_tSw, ↓x_tRet, ↓x_tRetB, ↓x_tRetL, ↓x_tRetv, ↓x_tBrk, ↓x_tCont, ↓x_tThr, ↓x_wD, ↓x_wK, ↓x_jIx, ↓x_jOb, ↓x_jInt_I, ↓x_jLng_L, ↓x_jRef_R, ↓x_jStr_S, ↓x_jPls_R, ↓x_jPls_N, ↓x_jAny_R, ↓x_jAny_S, ↓jIntg_0, ↓jLngg_0, ↓jRefg_0, ↓jAnyg_0, ↓jStrg_0, ↓jPlsg_0, ↓jst_x0, ↓jst2_x0, ↓jIntg_1, ↓jLngg_1, ↓jRefg_1, ↓jAnyg_1, ↓jst_x1, ↓jst2_x1, ↓jIntg_2, ↓jLngg_2, ↓jRefg_2, ↓jAnyg_2, ↓jst_x2, ↓jst2_x2, ↓jIntg_3, ↓jLngg_3, ↓jRefg_3, ↓jAnyg_3, ↓jst_x3, ↓jst2_x3, ↓jIntg_4, ↓jLngg_4, ↓jRefg_4, ↓jAnyg_4, ↓jst_x4, ↓jst2_x4, ↓jIntg_5, ↓jLngg_5, ↓jRefg_5, ↓jAnyg_5, ↓jst_x5, ↓jst2_x5, ↓jIntg_6, ↓jLngg_6, ↓jRefg_6, ↓jAnyg_6, ↓jst_x6, ↓jst2_x6, ↓jIntg_7, ↓jLngg_7, ↓jRefg_7, ↓jAnyg_7, ↓jst_x7, ↓jst2_x7, ↓jIntg_8, ↓jLngg_8, ↓jRefg_8, ↓jAnyg_8, ↓jst_x8, ↓jst2_x8, ↓jIntg_9, ↓jLngg_9, ↓jRefg_9, ↓jAnyg_9, ↓jst_x9, ↓jst2_x9, ↓jIntg_10, ↓jLngg_10, ↓jRefg_10, ↓jAnyg_10, ↓jst_x10, ↓jst2_x10, ↓jIntg_11, ↓jLngg_11, ↓jRefg_11, ↓jAnyg_11, ↓jst_x11, ↓jst2_x11, ↓jIntg_12, ↓jLngg_12, ↓jRefg_12, ↓jAnyg_12, ↓jst_x12, ↓jst2_x12, ↓jIntg_13, ↓jLngg_13, ↓jRefg_13, ↓jAnyg_13, ↓jst_x13, ↓jst2_x13, ↓jIntg_14, ↓jLngg_14, ↓jRefg_14, ↓jAnyg_14, ↓jst_x14, ↓jst2_x14, ↓ex_some, jpv_some, jpv_none, jPls_pv, jisL_I, jisL_L, jisL_R, jisL_S, jisL_N, jisL_U, j_op0, j_op1, j_op2, j_c2, true_and, and_true, true_or, or_true, Int.toNat_natCast, nat1, ex_row, ex_row2, jwb1, jwb, jwb2, Classical.not_not, not_true_eq_false, false_implies, true_implies, ne_eq, not_false_eq_true, rV_inj, vI_inj, vL_inj, hi_tp, Nat.reduceEqDiff, Nat.reduceLeDiff, Nat.reduceAdd, Int.reduceLE, Int.reduceLT, Int.reduceEq, Int.reduceNeg, Int.reduceToNat, Int.reduceAdd, Int.reduceSub, Int.reduceMul, OWs0 hQ, OWs1 hQ, OWs2 hQ, OWs3 hQ, OWs4 hQ, OWp0 hQ, OWp1 hQ, OWp2 hQ, OWp3 hQ, jf_9_4, jf_9_5, jf_9_6, jf_9_7, jf_9_8, jf_9_9]
  simp (disch := omega) only [↓x_eInt, ↓x_eLng, ↓x_eNul, ↓x_eStr, ↓x_eLoc, ↓x_eLol, ↓x_eLor, ↓x_eBin, ↓x_eDiv, ↓x_eRem, ↓x_eNeg, ↓x_eLbin, ↓x_eLdiv, ↓x_eLrem, ↓x_eLshl, ↓x_eLshr, ↓x_eI2l, ↓x_eL2i, ↓x_eFldI, ↓x_eFldL, ↓x_eFldP, ↓x_eAldI, ↓x_eAldS, ↓x_eAldL, ↓x_eAldP, ↓x_eLen, ↓x_eLenS, ↓x_eCall, ↓x_eCalv, ↓x_eMin, ↓x_eMax, ↓x_eLmin, ↓x_eAbs, ↓x_eSlen, ↓x_eSat, ↓x_eIte, ↓x_eNewa, ↓x_eNewo, ↓x_esN, ↓x_esC, ↓x_cCmp, ↓x_cCmpz, ↓x_cLcmp, ↓x_cIsn, ↓x_cNot, ↓x_cAnd, ↓x_cOr, ↓x_tSkip, ↓x_tSup, ↓x_tSeq, ↓x_tSetI, ↓x_tSetL, ↓x_tSetR, ↓x_tInc, ↓x_tPutI, ↓x_tPutL, ↓x_tPutP, ↓x_tPutc, ↓x_tAstI, ↓x_tAstL, ↓x_tAstP, ↓x_tAstcI, ↓x_tAstcL, ↓x_tAcpI, ↓x_tAcpL, ↓x_tExp, ↓x_tExv, ↓x_tExw, ↓x_tIte, ↓x_tSw, ↓x_tRet, ↓x_tRetB, ↓x_tRetL, ↓x_tRetv, ↓x_tBrk, ↓x_tCont, ↓x_tThr, ↓x_wD, ↓x_wK, ↓x_jIx, ↓x_jOb, ↓x_jInt_I, ↓x_jLng_L, ↓x_jRef_R, ↓x_jStr_S, ↓x_jPls_R, ↓x_jPls_N, ↓x_jAny_R, ↓x_jAny_S, ↓jIntg_0, ↓jLngg_0, ↓jRefg_0, ↓jAnyg_0, ↓jStrg_0, ↓jPlsg_0, ↓jst_x0, ↓jst2_x0, ↓jIntg_1, ↓jLngg_1, ↓jRefg_1, ↓jAnyg_1, ↓jst_x1, ↓jst2_x1, ↓jIntg_2, ↓jLngg_2, ↓jRefg_2, ↓jAnyg_2, ↓jst_x2, ↓jst2_x2, ↓jIntg_3, ↓jLngg_3, ↓jRefg_3, ↓jAnyg_3, ↓jst_x3, ↓jst2_x3, ↓jIntg_4, ↓jLngg_4, ↓jRefg_4, ↓jAnyg_4, ↓jst_x4, ↓jst2_x4, ↓jIntg_5, ↓jLngg_5, ↓jRefg_5, ↓jAnyg_5, ↓jst_x5, ↓jst2_x5, ↓jIntg_6, ↓jLngg_6, ↓jRefg_6, ↓jAnyg_6, ↓jst_x6, ↓jst2_x6, ↓jIntg_7, ↓jLngg_7, ↓jRefg_7, ↓jAnyg_7, ↓jst_x7, ↓jst2_x7, ↓jIntg_8, ↓jLngg_8, ↓jRefg_8, ↓jAnyg_8, ↓jst_x8, ↓jst2_x8, ↓jIntg_9, ↓jLngg_9, ↓jRefg_9, ↓jAnyg_9, ↓jst_x9, ↓jst2_x9, ↓jIntg_10, ↓jLngg_10, ↓jRefg_10, ↓jAnyg_10, ↓jst_x10, ↓jst2_x10, ↓jIntg_11, ↓jLngg_11, ↓jRefg_11, ↓jAnyg_11, ↓jst_x11, ↓jst2_x11, ↓jIntg_12, ↓jLngg_12, ↓jRefg_12, ↓jAnyg_12, ↓jst_x12, ↓jst2_x12, ↓jIntg_13, ↓jLngg_13, ↓jRefg_13, ↓jAnyg_13, ↓jst_x13, ↓jst2_x13, ↓jIntg_14, ↓jLngg_14, ↓jRefg_14, ↓jAnyg_14, ↓jst_x14, ↓jst2_x14, ↓ex_some, jpv_some, jpv_none, jPls_pv, jisL_I, jisL_L, jisL_R, jisL_S, jisL_N, jisL_U, j_op0, j_op1, j_op2, j_c2, true_and, and_true, true_or, or_true, Int.toNat_natCast, nat1, ex_row, ex_row2, jwb1, jwb, jwb2, Classical.not_not, not_true_eq_false, false_implies, true_implies, ne_eq, not_false_eq_true, rV_inj, vI_inj, vL_inj, hi_tp, Nat.reduceEqDiff, Nat.reduceLeDiff, Nat.reduceAdd, Int.reduceLE, Int.reduceLT, Int.reduceEq, Int.reduceNeg, Int.reduceToNat, Int.reduceAdd, Int.reduceSub, Int.reduceMul, w_id, hsh_si, hp_si, hi_si_ne, OWs0 hQ, OWs1 hQ, OWs2 hQ, OWs3 hQ, OWs4 hQ, OWp0 hQ, OWp1 hQ, OWp2 hQ, OWp3 hQ, jf_9_4, jf_9_5, jf_9_6, jf_9_7, jf_9_8, jf_9_9, OTs0 hG, OTs1 hG, OTs2 hG, OTs3 hG, OTs4 hG, OTs5 hG, OTs6 hG, OTs7 hG, OTs8 hG, OTs9 hG, OTs10 hG, OTs11 hG, OTp0 hG, OTp1 hG, OTp2 hG, OTp3 hG, OTp4 hG, OTp5 hG, OTp6 hG, OTp7 hG, OTp8 hG, OTp9 hG, OTp10 hG, h6]
  refine ⟨fun g1 => ?_, fun g1 => by rw [if_neg (fun z => g1 z.1)]⟩
  refine (c_79 hT hW (by omega)).val (by omega) rfl ?_
  simp (disch := omega) only [↓x_eInt, ↓x_eLng, ↓x_eNul, ↓x_eStr, ↓x_eLoc, ↓x_eLol, ↓x_eLor, ↓x_eBin, ↓x_eDiv, ↓x_eRem, ↓x_eNeg, ↓x_eLbin, ↓x_eLdiv, ↓x_eLrem, ↓x_eLshl, ↓x_eLshr, ↓x_eI2l, ↓x_eL2i, ↓x_eFldI, ↓x_eFldL, ↓x_eFldP, ↓x_eAldI, ↓x_eAldS, ↓x_eAldL, ↓x_eAldP, ↓x_eLen, ↓x_eLenS, ↓x_eCall, ↓x_eCalv, ↓x_eMin, ↓x_eMax, ↓x_eLmin, ↓x_eAbs, ↓x_eSlen, ↓x_eSat, ↓x_eIte, ↓x_eNewa, ↓x_eNewo, ↓x_esN, ↓x_esC, ↓x_cCmp, ↓x_cCmpz, ↓x_cLcmp, ↓x_cIsn, ↓x_cNot, ↓x_cAnd, ↓x_cOr, ↓x_tSkip, ↓x_tSup, ↓x_tSeq, ↓x_tSetI, ↓x_tSetL, ↓x_tSetR, ↓x_tInc, ↓x_tPutI, ↓x_tPutL, ↓x_tPutP, ↓x_tPutc, ↓x_tAstI, ↓x_tAstL, ↓x_tAstP, ↓x_tAstcI, ↓x_tAstcL, ↓x_tAcpI, ↓x_tAcpL, ↓x_tExp, ↓x_tExv, ↓x_tExw, ↓x_tIte, ↓x_tSw, ↓x_tRet, ↓x_tRetB, ↓x_tRetL, ↓x_tRetv, ↓x_tBrk, ↓x_tCont, ↓x_tThr, ↓x_wD, ↓x_wK, ↓x_jIx, ↓x_jOb, ↓x_jInt_I, ↓x_jLng_L, ↓x_jRef_R, ↓x_jStr_S, ↓x_jPls_R, ↓x_jPls_N, ↓x_jAny_R, ↓x_jAny_S, ↓jIntg_0, ↓jLngg_0, ↓jRefg_0, ↓jAnyg_0, ↓jStrg_0, ↓jPlsg_0, ↓jst_x0, ↓jst2_x0, ↓jIntg_1, ↓jLngg_1, ↓jRefg_1, ↓jAnyg_1, ↓jst_x1, ↓jst2_x1, ↓jIntg_2, ↓jLngg_2, ↓jRefg_2, ↓jAnyg_2, ↓jst_x2, ↓jst2_x2, ↓jIntg_3, ↓jLngg_3, ↓jRefg_3, ↓jAnyg_3, ↓jst_x3, ↓jst2_x3, ↓jIntg_4, ↓jLngg_4, ↓jRefg_4, ↓jAnyg_4, ↓jst_x4, ↓jst2_x4, ↓jIntg_5, ↓jLngg_5, ↓jRefg_5, ↓jAnyg_5, ↓jst_x5, ↓jst2_x5, ↓jIntg_6, ↓jLngg_6, ↓jRefg_6, ↓jAnyg_6, ↓jst_x6, ↓jst2_x6, ↓jIntg_7, ↓jLngg_7, ↓jRefg_7, ↓jAnyg_7, ↓jst_x7, ↓jst2_x7, ↓jIntg_8, ↓jLngg_8, ↓jRefg_8, ↓jAnyg_8, ↓jst_x8, ↓jst2_x8, ↓jIntg_9, ↓jLngg_9, ↓jRefg_9, ↓jAnyg_9, ↓jst_x9, ↓jst2_x9, ↓jIntg_10, ↓jLngg_10, ↓jRefg_10, ↓jAnyg_10, ↓jst_x10, ↓jst2_x10, ↓jIntg_11, ↓jLngg_11, ↓jRefg_11, ↓jAnyg_11, ↓jst_x11, ↓jst2_x11, ↓jIntg_12, ↓jLngg_12, ↓jRefg_12, ↓jAnyg_12, ↓jst_x12, ↓jst2_x12, ↓jIntg_13, ↓jLngg_13, ↓jRefg_13, ↓jAnyg_13, ↓jst_x13, ↓jst2_x13, ↓jIntg_14, ↓jLngg_14, ↓jRefg_14, ↓jAnyg_14, ↓jst_x14, ↓jst2_x14, ↓ex_some, jpv_some, jpv_none, jPls_pv, jisL_I, jisL_L, jisL_R, jisL_S, jisL_N, jisL_U, j_op0, j_op1, j_op2, j_c2, true_and, and_true, true_or, or_true, Int.toNat_natCast, nat1, ex_row, ex_row2, jwb1, jwb, jwb2, Classical.not_not, not_true_eq_false, false_implies, true_implies, ne_eq, not_false_eq_true, rV_inj, vI_inj, vL_inj, hi_tp, Nat.reduceEqDiff, Nat.reduceLeDiff, Nat.reduceAdd, Int.reduceLE, Int.reduceLT, Int.reduceEq, Int.reduceNeg, Int.reduceToNat, Int.reduceAdd, Int.reduceSub, Int.reduceMul, w_id, hsh_si, hp_si, hi_si_ne, OWs0 hQ, OWs1 hQ, OWs2 hQ, OWs3 hQ, OWs4 hQ, OWp0 hQ, OWp1 hQ, OWp2 hQ, OWp3 hQ, jf_9_4, jf_9_5, jf_9_6, jf_9_7, jf_9_8, jf_9_9, OTs0 hG, OTs1 hG, OTs2 hG, OTs3 hG, OTs4 hG, OTs5 hG, OTs6 hG, OTs7 hG, OTs8 hG, OTs9 hG, OTs10 hG, OTs11 hG, OTp0 hG, OTp1 hG, OTp2 hG, OTp3 hG, OTp4 hG, OTp5 hG, OTp6 hG, OTp7 hG, OTp8 hG, OTp9 hG, OTp10 hG, h8]
  rw [hn.1, hr1]
  simp (disch := omega) only [w_id]
  refine ⟨fun g2 => ⟨by omega, by omega, fun g3 => by rw [if_pos ⟨g1, g2, hrz.mp g3⟩], fun g3 => by rw [if_neg (fun z => g3 (hrz.mpr z.2.2))]⟩, fun g2 => by rw [if_neg (fun z => g2 z.2.1)]⟩
theorem c_87 {a : Nat} (hT : TW σ q D w f) (hX : CX σ t D) (hW : WW D w) (ha : (a : Int) < D 0 0) : Ct sc 1 87 [vR q, vR t, vI a] σ (fun r τ => r = rV (vI (if ntW D w a = true then 0 else 1)) ∧ τ = σ) := by
  obtain ⟨hQ, h1, h2, h3, h4, h5, h6, h7, h8⟩ := id hT
  have hG := hX.1
  have hd := hX.2.2.1
  have h9 : hi σ t 9 = D 0 0 := hX.2.1.1.1
  have hnt := ntW_iff (D := D) (w := w) (a := a)
  obtain ⟨n, hn⟩ := Int.eq_ofNat_of_zero_le (show 0 ≤ D 0 0 by omega)
  rw [hn, Int.toNat_natCast] at hnt
  rw [hn] at h9
  refine Ct.of (n := 0) (L := [vR q, vR t, vI a, vU]) cov_87 rfl (Nat.le_of_ble_eq_true rfl) ?_
  unfold T_87
  simp only [↓x_eInt, ↓x_eLng, ↓x_eNul, ↓x_eStr, ↓x_eLoc, ↓x_eLol, ↓x_eLor, ↓x_eBin, ↓x_eDiv, ↓x_eRem, ↓x_eNeg, ↓x_eLbin, ↓x_eLdiv, ↓x_eLrem, ↓x_eLshl, ↓x_eLshr, ↓x_eI2l, ↓x_eL2i, ↓x_eFldI, ↓x_eFldL, ↓x_eFldP, ↓x_eAldI, ↓x_eAldS, ↓x_eAldL, ↓x_eAldP, ↓x_eLen, ↓x_eLenS, ↓x_eCall, ↓x_eCalv, ↓x_eMin, ↓x_eMax, ↓x_eLmin, ↓x_eAbs, ↓x_eSlen, ↓x_eSat, ↓x_eIte, ↓x_eNewa, ↓x_eNewo, ↓x_esN, ↓x_esC, ↓x_cCmp, ↓x_cCmpz, ↓x_cLcmp, ↓x_cIsn, ↓x_cNot, ↓x_cAnd, ↓x_cOr, ↓x_tSkip, ↓x_tSup, ↓x_tSeq, ↓x_tSetI, ↓x_tSetL, ↓x_tSetR, ↓x_tInc, ↓x_tPutI, ↓x_tPutL, ↓x_tPutP, ↓x_tPutc, ↓x_tAstI, ↓x_tAstL, ↓x_tAstP, ↓x_tAstcI, ↓x_tAstcL, ↓x_tAcpI, ↓x_tAcpL, ↓x_tExp, ↓x_tExv, ↓x_tExw, ↓x_tIte, ↓x_tSw, ↓x_tRet, ↓x_tRetB, ↓x_tRetL, ↓x_tRetv, ↓x_tBrk, ↓x_tCont, ↓x_tThr, ↓x_wD, ↓x_wK, ↓x_jIx, ↓x_jOb, ↓x_jInt_I, ↓x_jLng_L, ↓x_jRef_R, ↓x_jStr_S, ↓x_jPls_R, ↓x_jPls_N, ↓x_jAny_R, ↓x_jAny_S, ↓jIntg_0, ↓jLngg_0, ↓jRefg_0, ↓jAnyg_0, ↓jStrg_0, ↓jPlsg_0, ↓jst_x0, ↓jst2_x0, ↓jIntg_1, ↓jLngg_1, ↓jRefg_1, ↓jAnyg_1, ↓jst_x1, ↓jst2_x1, ↓jIntg_2, ↓jLngg_2, ↓jRefg_2, ↓jAnyg_2, ↓jst_x2, ↓jst2_x2, ↓jIntg_3, ↓jLngg_3, ↓jRefg_3, ↓jAnyg_3, ↓jst_x3, ↓jst2_x3, ↓jIntg_4, ↓jLngg_4, ↓jRefg_4, ↓jAnyg_4, ↓jst_x4, ↓jst2_x4, ↓jIntg_5, ↓jLngg_5, ↓jRefg_5, ↓jAnyg_5, ↓jst_x5, ↓jst2_x5, ↓jIntg_6, ↓jLngg_6, ↓jRefg_6, ↓jAnyg_6, ↓jst_x6, ↓jst2_x6, ↓jIntg_7, ↓jLngg_7, ↓jRefg_7, ↓jAnyg_7, ↓jst_x7, ↓jst2_x7, ↓jIntg_8, ↓jLngg_8, ↓jRefg_8, ↓jAnyg_8, ↓jst_x8, ↓jst2_x8, ↓jIntg_9, ↓jLngg_9, ↓jRefg_9, ↓jAnyg_9, ↓jst_x9, ↓jst2_x9, ↓jIntg_10, ↓jLngg_10, ↓jRefg_10, ↓jAnyg_10, ↓jst_x10, ↓jst2_x10, ↓jIntg_11, ↓jLngg_11, ↓jRefg_11, ↓jAnyg_11, ↓jst_x11, ↓jst2_x11, ↓jIntg_12, ↓jLngg_12, ↓jRefg_12, ↓jAnyg_12, ↓jst_x12, ↓jst2_x12, ↓jIntg_13, ↓jLngg_13, ↓jRefg_13, ↓jAnyg_13, ↓jst_x13, ↓jst2_x13, ↓jIntg_14, ↓jLngg_14, ↓jRefg_14, ↓jAnyg_14, ↓jst_x14, ↓jst2_x14, ↓ex_some, jpv_some, jpv_none, jPls_pv, jisL_I, jisL_L, jisL_R, jisL_S, jisL_N, jisL_U, j_op0, j_op1, j_op2, j_c2, true_and, and_true, true_or, or_true, Int.toNat_natCast, nat1, ex_row, ex_row2, jwb1, jwb, jwb2, Classical.not_not, not_true_eq_false, false_implies, true_implies, ne_eq, not_false_eq_true, rV_inj, vI_inj, vL_inj, hi_tp, Nat.reduceEqDiff, Nat.reduceLeDiff, Nat.reduceAdd, Int.reduceLE, Int.reduceLT, Int.reduceEq, Int.reduceNeg, Int.reduceToNat, Int.reduceAdd, Int.reduceSub, Int.reduceMul, OWs0 hQ, OWs1 hQ, OWs2 hQ, OWs3 hQ, OWs4 hQ, OWp0 hQ, OWp1 hQ, OWp2 hQ, OWp3 hQ, jf_9_4, jf_9_5, jf_9_6, jf_9_7, jf_9_8, jf_9_9]
  refine tLoop_go (fun y : Nat => n - y) (fun y => [vR q, vR t, vI a, vI y]) (fun y τ => y ≤ n ∧ τ = σ ∧ ∀ b, b < y → a < b → w b = 1 → ¬ (D 4 b).toNat.testBit a = true) (fun y τ => τ = σ ∧ ntW D w a = true) 0 rfl ⟨Nat.zero_le _, rfl, fun b hb => by omega⟩ ?_ ?_
  · rintro y τ N' N ⟨hy, rfl, hno⟩ hN hE
    simp (disch := omega) only [↓x_eInt, ↓x_eLng, ↓x_eNul, ↓x_eStr, ↓x_eLoc, ↓x_eLol, ↓x_eLor, ↓x_eBin, ↓x_eDiv, ↓x_eRem, ↓x_eNeg, ↓x_eLbin, ↓x_eLdiv, ↓x_eLrem, ↓x_eLshl, ↓x_eLshr, ↓x_eI2l, ↓x_eL2i, ↓x_eFldI, ↓x_eFldL, ↓x_eFldP, ↓x_eAldI, ↓x_eAldS, ↓x_eAldL, ↓x_eAldP, ↓x_eLen, ↓x_eLenS, ↓x_eCall, ↓x_eCalv, ↓x_eMin, ↓x_eMax, ↓x_eLmin, ↓x_eAbs, ↓x_eSlen, ↓x_eSat, ↓x_eIte, ↓x_eNewa, ↓x_eNewo, ↓x_esN, ↓x_esC, ↓x_cCmp, ↓x_cCmpz, ↓x_cLcmp, ↓x_cIsn, ↓x_cNot, ↓x_cAnd, ↓x_cOr, ↓x_tSkip, ↓x_tSup, ↓x_tSeq, ↓x_tSetI, ↓x_tSetL, ↓x_tSetR, ↓x_tInc, ↓x_tPutI, ↓x_tPutL, ↓x_tPutP, ↓x_tPutc, ↓x_tAstI, ↓x_tAstL, ↓x_tAstP, ↓x_tAstcI, ↓x_tAstcL, ↓x_tAcpI, ↓x_tAcpL, ↓x_tExp, ↓x_tExv, ↓x_tExw, ↓x_tIte, ↓x_tSw, ↓x_tRet, ↓x_tRetB, ↓x_tRetL, ↓x_tRetv, ↓x_tBrk, ↓x_tCont, ↓x_tThr, ↓x_wD, ↓x_wK, ↓x_jIx, ↓x_jOb, ↓x_jInt_I, ↓x_jLng_L, ↓x_jRef_R, ↓x_jStr_S, ↓x_jPls_R, ↓x_jPls_N, ↓x_jAny_R, ↓x_jAny_S, ↓jIntg_0, ↓jLngg_0, ↓jRefg_0, ↓jAnyg_0, ↓jStrg_0, ↓jPlsg_0, ↓jst_x0, ↓jst2_x0, ↓jIntg_1, ↓jLngg_1, ↓jRefg_1, ↓jAnyg_1, ↓jst_x1, ↓jst2_x1, ↓jIntg_2, ↓jLngg_2, ↓jRefg_2, ↓jAnyg_2, ↓jst_x2, ↓jst2_x2, ↓jIntg_3, ↓jLngg_3, ↓jRefg_3, ↓jAnyg_3, ↓jst_x3, ↓jst2_x3, ↓jIntg_4, ↓jLngg_4, ↓jRefg_4, ↓jAnyg_4, ↓jst_x4, ↓jst2_x4, ↓jIntg_5, ↓jLngg_5, ↓jRefg_5, ↓jAnyg_5, ↓jst_x5, ↓jst2_x5, ↓jIntg_6, ↓jLngg_6, ↓jRefg_6, ↓jAnyg_6, ↓jst_x6, ↓jst2_x6, ↓jIntg_7, ↓jLngg_7, ↓jRefg_7, ↓jAnyg_7, ↓jst_x7, ↓jst2_x7, ↓jIntg_8, ↓jLngg_8, ↓jRefg_8, ↓jAnyg_8, ↓jst_x8, ↓jst2_x8, ↓jIntg_9, ↓jLngg_9, ↓jRefg_9, ↓jAnyg_9, ↓jst_x9, ↓jst2_x9, ↓jIntg_10, ↓jLngg_10, ↓jRefg_10, ↓jAnyg_10, ↓jst_x10, ↓jst2_x10, ↓jIntg_11, ↓jLngg_11, ↓jRefg_11, ↓jAnyg_11, ↓jst_x11, ↓jst2_x11, ↓jIntg_12, ↓jLngg_12, ↓jRefg_12, ↓jAnyg_12, ↓jst_x12, ↓jst2_x12, ↓jIntg_13, ↓jLngg_13, ↓jRefg_13, ↓jAnyg_13, ↓jst_x13, ↓jst2_x13, ↓jIntg_14, ↓jLngg_14, ↓jRefg_14, ↓jAnyg_14, ↓jst_x14, ↓jst2_x14, ↓ex_some, jpv_some, jpv_none, jPls_pv, jisL_I, jisL_L, jisL_R, jisL_S, jisL_N, jisL_U, j_op0, j_op1, j_op2, j_c2, true_and, and_true, true_or, or_true, Int.toNat_natCast, nat1, ex_row, ex_row2, jwb1, jwb, jwb2, Classical.not_not, not_true_eq_false, false_implies, true_implies, ne_eq, not_false_eq_true, rV_inj, vI_inj, vL_inj, hi_tp, Nat.reduceEqDiff, Nat.reduceLeDiff, Nat.reduceAdd, Int.reduceLE, Int.reduceLT, Int.reduceEq, Int.reduceNeg, Int.reduceToNat, Int.reduceAdd, Int.reduceSub, Int.reduceMul, w_id, hsh_si, hp_si, hi_si_ne, OWs0 hQ, OWs1 hQ, OWs2 hQ, OWs3 hQ, OWs4 hQ, OWp0 hQ, OWp1 hQ, OWp2 hQ, OWp3 hQ, jf_9_4, jf_9_5, jf_9_6, jf_9_7, jf_9_8, jf_9_9, OTs0 hG, OTs1 hG, OTs2 hG, OTs3 hG, OTs4 hG, OTs5 hG, OTs6 hG, OTs7 hG, OTs8 hG, OTs9 hG, OTs10 hG, OTs11 hG, OTp0 hG, OTp1 hG, OTp2 hG, OTp3 hG, OTp4 hG, OTp5 hG, OTp6 hG, OTp7 hG, OTp8 hG, OTp9 hG, OTp10 hG, h9]
    refine ⟨fun hlt => ⟨by omega, by omega, ?_⟩, fun hlt => hE y _ ⟨rfl, hnt.mpr (fun b hb => hno b (by omega))⟩⟩
    have hny := needs_at hX (a := y) (by omega)
    have hwy := hW.1 y (by omega)
    have hl := laid_iff hW (a := y) (by omega)
    have r1 : -1 ≤ w (8 + y) ∧ w (8 + y) ≤ 11 := by
      by_cases h : w y = 1
      · have := hwy.2.1 h; omega
      · have := hwy.2.2.1 h; omega
    rw [h1 y (by omega), hny.1, jbit (by omega) (by omega)]
    simp (disch := omega) only [w_id]
    have hgo : (a < y → w y = 1 → ¬ (D 4 y).toNat.testBit a = true) → N' [vR q, vR t, vI a, vI (y + 1 : Nat)] τ := fun hh => hN (y + 1) _ (by omega) ⟨by omega, rfl, fun b hb => by
      by_cases hby : b = y
      · rw [hby]; exact hh
      · exact hno b (by omega)⟩
    refine ⟨fun g1 => ⟨by omega, by omega, ?_⟩, fun g1 => hgo (fun _ z => (hl.mp g1 z).elim)⟩
    have hwy1 : w y = 1 := Classical.byContradiction (fun z => g1 (hl.mpr z))
    by_cases ht : (D 4 y).toNat.testBit a = true
    · have hay : a < y := by
        by_cases hc : a < y
        · exact hc
        · have := Nat.testBit_lt_two_pow (x := (D 4 y).toNat) (i := a) (Nat.lt_of_lt_of_le hny.2.2 (Nat.pow_le_pow_right (by decide) (by omega)))
          rw [this] at ht; cases ht
      have hbad : ¬ ntW D w a = true := fun z => hnt.mp z y (by omega) hay hwy1 ht
      simp only [if_pos ht]
      simp [hbad]
    · simp only [if_neg ht]
      simp
      exact hgo (fun _ _ => ht)
  · rintro y τ ⟨rfl, hn1⟩
    simp (disch := omega) only [↓x_eInt, ↓x_eLng, ↓x_eNul, ↓x_eStr, ↓x_eLoc, ↓x_eLol, ↓x_eLor, ↓x_eBin, ↓x_eDiv, ↓x_eRem, ↓x_eNeg, ↓x_eLbin, ↓x_eLdiv, ↓x_eLrem, ↓x_eLshl, ↓x_eLshr, ↓x_eI2l, ↓x_eL2i, ↓x_eFldI, ↓x_eFldL, ↓x_eFldP, ↓x_eAldI, ↓x_eAldS, ↓x_eAldL, ↓x_eAldP, ↓x_eLen, ↓x_eLenS, ↓x_eCall, ↓x_eCalv, ↓x_eMin, ↓x_eMax, ↓x_eLmin, ↓x_eAbs, ↓x_eSlen, ↓x_eSat, ↓x_eIte, ↓x_eNewa, ↓x_eNewo, ↓x_esN, ↓x_esC, ↓x_cCmp, ↓x_cCmpz, ↓x_cLcmp, ↓x_cIsn, ↓x_cNot, ↓x_cAnd, ↓x_cOr, ↓x_tSkip, ↓x_tSup, ↓x_tSeq, ↓x_tSetI, ↓x_tSetL, ↓x_tSetR, ↓x_tInc, ↓x_tPutI, ↓x_tPutL, ↓x_tPutP, ↓x_tPutc, ↓x_tAstI, ↓x_tAstL, ↓x_tAstP, ↓x_tAstcI, ↓x_tAstcL, ↓x_tAcpI, ↓x_tAcpL, ↓x_tExp, ↓x_tExv, ↓x_tExw, ↓x_tIte, ↓x_tSw, ↓x_tRet, ↓x_tRetB, ↓x_tRetL, ↓x_tRetv, ↓x_tBrk, ↓x_tCont, ↓x_tThr, ↓x_wD, ↓x_wK, ↓x_jIx, ↓x_jOb, ↓x_jInt_I, ↓x_jLng_L, ↓x_jRef_R, ↓x_jStr_S, ↓x_jPls_R, ↓x_jPls_N, ↓x_jAny_R, ↓x_jAny_S, ↓jIntg_0, ↓jLngg_0, ↓jRefg_0, ↓jAnyg_0, ↓jStrg_0, ↓jPlsg_0, ↓jst_x0, ↓jst2_x0, ↓jIntg_1, ↓jLngg_1, ↓jRefg_1, ↓jAnyg_1, ↓jst_x1, ↓jst2_x1, ↓jIntg_2, ↓jLngg_2, ↓jRefg_2, ↓jAnyg_2, ↓jst_x2, ↓jst2_x2, ↓jIntg_3, ↓jLngg_3, ↓jRefg_3, ↓jAnyg_3, ↓jst_x3, ↓jst2_x3, ↓jIntg_4, ↓jLngg_4, ↓jRefg_4, ↓jAnyg_4, ↓jst_x4, ↓jst2_x4, ↓jIntg_5, ↓jLngg_5, ↓jRefg_5, ↓jAnyg_5, ↓jst_x5, ↓jst2_x5, ↓jIntg_6, ↓jLngg_6, ↓jRefg_6, ↓jAnyg_6, ↓jst_x6, ↓jst2_x6, ↓jIntg_7, ↓jLngg_7, ↓jRefg_7, ↓jAnyg_7, ↓jst_x7, ↓jst2_x7, ↓jIntg_8, ↓jLngg_8, ↓jRefg_8, ↓jAnyg_8, ↓jst_x8, ↓jst2_x8, ↓jIntg_9, ↓jLngg_9, ↓jRefg_9, ↓jAnyg_9, ↓jst_x9, ↓jst2_x9, ↓jIntg_10, ↓jLngg_10, ↓jRefg_10, ↓jAnyg_10, ↓jst_x10, ↓jst2_x10, ↓jIntg_11, ↓jLngg_11, ↓jRefg_11, ↓jAnyg_11, ↓jst_x11, ↓jst2_x11, ↓jIntg_12, ↓jLngg_12, ↓jRefg_12, ↓jAnyg_12, ↓jst_x12, ↓jst2_x12, ↓jIntg_13, ↓jLngg_13, ↓jRefg_13, ↓jAnyg_13, ↓jst_x13, ↓jst2_x13, ↓jIntg_14, ↓jLngg_14, ↓jRefg_14, ↓jAnyg_14, ↓jst_x14, ↓jst2_x14, ↓ex_some, jpv_some, jpv_none, jPls_pv, jisL_I, jisL_L, jisL_R, jisL_S, jisL_N, jisL_U, j_op0, j_op1, j_op2, j_c2, true_and, and_true, true_or, or_true, Int.toNat_natCast, nat1, ex_row, ex_row2, jwb1, jwb, jwb2, Classical.not_not, not_true_eq_false, false_implies, true_implies, ne_eq, not_false_eq_true, rV_inj, vI_inj, vL_inj, hi_tp, Nat.reduceEqDiff, Nat.reduceLeDiff, Nat.reduceAdd, Int.reduceLE, Int.reduceLT, Int.reduceEq, Int.reduceNeg, Int.reduceToNat, Int.reduceAdd, Int.reduceSub, Int.reduceMul, w_id, hsh_si, hp_si, hi_si_ne]
    rw [if_pos hn1]
end CTOWN
