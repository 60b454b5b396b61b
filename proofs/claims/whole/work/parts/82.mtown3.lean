/-! The reference fetches; a day ends -/
section MTOWN3
variable {sc : jSc} {σ : jH} {D : jD} {cd : lC}
theorem ftW_iff {w : Nat → Int} {a : Nat} : ftW w a = true ↔ w a = 2 ∧ fnW w a ≤ w 169 := by
  unfold ftW
  simp only [Bool.and_eq_true, decide_eq_true_eq]
theorem bhW_rg {a : Nat} (hW : WW D (hi σ 87)) (ha : a < 8) : 0 ≤ bhW (hi σ 87) a ∧ bhW (hi σ 87) a ≤ 4000 := by
  have h1 := hW.1 a ha
  have h2 := hW.2.2.1
  unfold bhW
  split
  · rename_i h
    have := h1.2.2.2.1 h
    omega
  · omega
theorem m_218 {a : Nat} (hM : MT σ D cd) (hW : WW D (hi σ 87)) (ha : (a : Int) < D 0 0) : Ct sc 2 218 [vR 63, vI a] σ (fun r τ => r = rV (vI (if ftW (hi σ 87) a = true then 1 else 0)) ∧ hi τ 87 = (if ftW (hi σ 87) a = true then fbW (hi σ 87) a else hi σ 87) ∧ Fr (fun r _ => r = 87) σ τ) := by
  obtain ⟨hO, hR, hD, -⟩ := id hM
  have hd := hD.1
  have hwa := hW.1 a (by omega)
  have hday := hW.2.2.1
  have hb := bhW_rg hW (a := a) (by omega)
  have hft := ftW_iff (w := hi σ 87) (a := a)
  refine Ct.of (n := 1) (L := [vR 63, vI a, vU]) cov_218 rfl (Nat.le_of_ble_eq_true rfl) ?_
  unfold T_218
  simp only [↓x_eInt, ↓x_eLng, ↓x_eNul, ↓x_eStr, ↓x_eLoc, ↓x_eLol, ↓x_eLor, ↓x_eBin, ↓x_eDiv, ↓x_eRem, ↓x_eNeg, ↓x_eLbin, ↓x_eLdiv, ↓x_eLrem, ↓x_eLshl, ↓x_eLshr, ↓x_eI2l, ↓x_eL2i, ↓x_eFldI, ↓x_eFldL, ↓x_eFldP, ↓x_eAldI, ↓x_eAldS, ↓x_eAldL, ↓x_eAldP, ↓x_eLen, ↓x_eLenS, ↓x_eCall, ↓x_eCalv, ↓x_eMin, ↓x_eMax, ↓x_eLmin, ↓x_eAbs, ↓x_eSlen, ↓x_eSat, ↓x_eIte, ↓x_eNewa, ↓x_eNewo, ↓x_esN, ↓x_esC, ↓x_cCmp, ↓x_cCmpz, ↓x_cLcmp, ↓x_cIsn, ↓x_cNot, ↓x_cAnd, ↓x_cOr, ↓x_tSkip, ↓x_tSup, ↓x_tSeq, ↓x_tSetI, ↓x_tSetL, ↓x_tSetR, ↓x_tInc, ↓x_tPutI, ↓x_tPutL, ↓x_tPutP, ↓x_tPutc, ↓x_tAstI, ↓x_tAstL, ↓x_tAstP, ↓x_tAstcI, ↓x_tAstcL, ↓x_tAcpI, ↓x_tAcpL, ↓x_tExp, ↓x_tExv, ↓x_tExw, ↓x_tIte, ↓x_tSw, ↓x_tRet, ↓x_tRetB, ↓x_tRetL, ↓x_tRetv, ↓x_tBrk, ↓x_tCont, ↓x_tThr, ↓x_wD, ↓x_wK, ↓x_jIx, ↓x_jOb, ↓x_jInt_I, ↓x_jLng_L, ↓x_jRef_R, ↓x_jStr_S, ↓x_jPls_R, ↓x_jPls_N, ↓x_jAny_R, ↓x_jAny_S, ↓jIntg_0, ↓jLngg_0, ↓jRefg_0, ↓jAnyg_0, ↓jStrg_0, ↓jPlsg_0, ↓jst_x0, ↓jst2_x0, ↓jIntg_1, ↓jLngg_1, ↓jRefg_1, ↓jAnyg_1, ↓jst_x1, ↓jst2_x1, ↓jIntg_2, ↓jLngg_2, ↓jRefg_2, ↓jAnyg_2, ↓jst_x2, ↓jst2_x2, ↓jIntg_3, ↓jLngg_3, ↓jRefg_3, ↓jAnyg_3, ↓jst_x3, ↓jst2_x3, ↓jIntg_4, ↓jLngg_4, ↓jRefg_4, ↓jAnyg_4, ↓jst_x4, ↓jst2_x4, ↓jIntg_5, ↓jLngg_5, ↓jRefg_5, ↓jAnyg_5, ↓jst_x5, ↓jst2_x5, ↓jIntg_6, ↓jLngg_6, ↓jRefg_6, ↓jAnyg_6, ↓jst_x6, ↓jst2_x6, ↓jIntg_7, ↓jLngg_7, ↓jRefg_7, ↓jAnyg_7, ↓jst_x7, ↓jst2_x7, ↓jIntg_8, ↓jLngg_8, ↓jRefg_8, ↓jAnyg_8, ↓jst_x8, ↓jst2_x8, ↓jIntg_9, ↓jLngg_9, ↓jRefg_9, ↓jAnyg_9, ↓jst_x9, ↓jst2_x9, ↓jIntg_10, ↓jLngg_10, ↓jRefg_10, ↓jAnyg_10, ↓jst_x10, ↓jst2_x10, ↓jIntg_11, ↓jLngg_11, ↓jRefg_11, ↓jAnyg_11, ↓jst_x11, ↓jst2_x11, ↓jIntg_12, ↓jLngg_12, ↓jRefg_12, ↓jAnyg_12, ↓jst_x12, ↓jst2_x12, ↓jIntg_13, ↓jLngg_13, ↓jRefg_13, ↓jAnyg_13, ↓jst_x13, ↓jst2_x13, ↓jIntg_14, ↓jLngg_14, ↓jRefg_14, ↓jAnyg_14, ↓jst_x14, ↓jst2_x14, ↓ex_some, jpv_some, jpv_none, jPls_pv, jisL_I, jisL_L, jisL_R, jisL_S, jisL_N, jisL_U, j_op0, j_op1, j_op2, j_c2, true_and, and_true, true_or, or_true, Int.toNat_natCast, nat1, ex_row, ex_row2, jwb1, jwb, jwb2, Classical.not_not, not_true_eq_false, false_implies, true_implies, ne_eq, not_false_eq_true, rV_inj, vI_inj, vL_inj, hi_tp, Nat.reduceEqDiff, Nat.reduceLeDiff, Nat.reduceAdd, Int.reduceLE, Int.reduceLT, Int.reduceEq, Int.reduceNeg, Int.reduceToNat, Int.reduceAdd, Int.reduceSub, Int.reduceMul, oS63 hO, oS72 hO, oS74 hO, oS83 hO, oS86 hO, oS87 hO, oP63_16 hO, oP63_18 hO, oP63_43 hO, oP63_52 hO, oP63_53 hO, jf_12_55, jf_12_56]
  refine (m_217 hM hW ha).val (by omega) rfl ?_
  simp (disch := omega) only [↓x_eInt, ↓x_eLng, ↓x_eNul, ↓x_eStr, ↓x_eLoc, ↓x_eLol, ↓x_eLor, ↓x_eBin, ↓x_eDiv, ↓x_eRem, ↓x_eNeg, ↓x_eLbin, ↓x_eLdiv, ↓x_eLrem, ↓x_eLshl, ↓x_eLshr, ↓x_eI2l, ↓x_eL2i, ↓x_eFldI, ↓x_eFldL, ↓x_eFldP, ↓x_eAldI, ↓x_eAldS, ↓x_eAldL, ↓x_eAldP, ↓x_eLen, ↓x_eLenS, ↓x_eCall, ↓x_eCalv, ↓x_eMin, ↓x_eMax, ↓x_eLmin, ↓x_eAbs, ↓x_eSlen, ↓x_eSat, ↓x_eIte, ↓x_eNewa, ↓x_eNewo, ↓x_esN, ↓x_esC, ↓x_cCmp, ↓x_cCmpz, ↓x_cLcmp, ↓x_cIsn, ↓x_cNot, ↓x_cAnd, ↓x_cOr, ↓x_tSkip, ↓x_tSup, ↓x_tSeq, ↓x_tSetI, ↓x_tSetL, ↓x_tSetR, ↓x_tInc, ↓x_tPutI, ↓x_tPutL, ↓x_tPutP, ↓x_tPutc, ↓x_tAstI, ↓x_tAstL, ↓x_tAstP, ↓x_tAstcI, ↓x_tAstcL, ↓x_tAcpI, ↓x_tAcpL, ↓x_tExp, ↓x_tExv, ↓x_tExw, ↓x_tIte, ↓x_tSw, ↓x_tRet, ↓x_tRetB, ↓x_tRetL, ↓x_tRetv, ↓x_tBrk, ↓x_tCont, ↓x_tThr, ↓x_wD, ↓x_wK, ↓x_jIx, ↓x_jOb, ↓x_jInt_I, ↓x_jLng_L, ↓x_jRef_R, ↓x_jStr_S, ↓x_jPls_R, ↓x_jPls_N, ↓x_jAny_R, ↓x_jAny_S, ↓jIntg_0, ↓jLngg_0, ↓jRefg_0, ↓jAnyg_0, ↓jStrg_0, ↓jPlsg_0, ↓jst_x0, ↓jst2_x0, ↓jIntg_1, ↓jLngg_1, ↓jRefg_1, ↓jAnyg_1, ↓jst_x1, ↓jst2_x1, ↓jIntg_2, ↓jLngg_2, ↓jRefg_2, ↓jAnyg_2, ↓jst_x2, ↓jst2_x2, ↓jIntg_3, ↓jLngg_3, ↓jRefg_3, ↓jAnyg_3, ↓jst_x3, ↓jst2_x3, ↓jIntg_4, ↓jLngg_4, ↓jRefg_4, ↓jAnyg_4, ↓jst_x4, ↓jst2_x4, ↓jIntg_5, ↓jLngg_5, ↓jRefg_5, ↓jAnyg_5, ↓jst_x5, ↓jst2_x5, ↓jIntg_6, ↓jLngg_6, ↓jRefg_6, ↓jAnyg_6, ↓jst_x6, ↓jst2_x6, ↓jIntg_7, ↓jLngg_7, ↓jRefg_7, ↓jAnyg_7, ↓jst_x7, ↓jst2_x7, ↓jIntg_8, ↓jLngg_8, ↓jRefg_8, ↓jAnyg_8, ↓jst_x8, ↓jst2_x8, ↓jIntg_9, ↓jLngg_9, ↓jRefg_9, ↓jAnyg_9, ↓jst_x9, ↓jst2_x9, ↓jIntg_10, ↓jLngg_10, ↓jRefg_10, ↓jAnyg_10, ↓jst_x10, ↓jst2_x10, ↓jIntg_11, ↓jLngg_11, ↓jRefg_11, ↓jAnyg_11, ↓jst_x11, ↓jst2_x11, ↓jIntg_12, ↓jLngg_12, ↓jRefg_12, ↓jAnyg_12, ↓jst_x12, ↓jst2_x12, ↓jIntg_13, ↓jLngg_13, ↓jRefg_13, ↓jAnyg_13, ↓jst_x13, ↓jst2_x13, ↓jIntg_14, ↓jLngg_14, ↓jRefg_14, ↓jAnyg_14, ↓jst_x14, ↓jst2_x14, ↓ex_some, jpv_some, jpv_none, jPls_pv, jisL_I, jisL_L, jisL_R, jisL_S, jisL_N, jisL_U, j_op0, j_op1, j_op2, j_c2, true_and, and_true, true_or, or_true, Int.toNat_natCast, nat1, ex_row, ex_row2, jwb1, jwb, jwb2, Classical.not_not, not_true_eq_false, false_implies, true_implies, ne_eq, not_false_eq_true, rV_inj, vI_inj, vL_inj, hi_tp, Nat.reduceEqDiff, Nat.reduceLeDiff, Nat.reduceAdd, Int.reduceLE, Int.reduceLT, Int.reduceEq, Int.reduceNeg, Int.reduceToNat, Int.reduceAdd, Int.reduceSub, Int.reduceMul, w_id, hsh_si, hp_si, hi_si_ne, oS63 hO, oS72 hO, oS74 hO, oS83 hO, oS86 hO, oS87 hO, oP63_16 hO, oP63_18 hO, oP63_43 hO, oP63_52 hO, oP63_53 hO, jf_12_55, jf_12_56]
  rw [jdiv (by omega) (by omega), show (0 + (a : Int)).toNat = a by omega]
  have hfn : 1 + (bhW (hi σ 87) a + 9) / 10 = fnW (hi σ 87) a := rfl
  rw [hfn]
  have hfr : 1 ≤ fnW (hi σ 87) a ∧ fnW (hi σ 87) a ≤ 1000 := by rw [← hfn]; omega
  simp (disch := omega) only [w_id]
  refine ⟨by omega, by omega, fun h1 => ?_, fun h1 => ⟨by omega, fun h2 => ?_, fun h2 => ⟨by omega, by omega, by omega, by omega, ?_⟩⟩⟩
  · have hno : ¬ ftW (hi σ 87) a = true := fun q => h1 (hft.mp q).1
    rw [if_neg hno, if_neg hno]
    exact ⟨rfl, rfl, Fr.refl _ _⟩
  · have hno : ¬ ftW (hi σ 87) a = true := fun q => by have := (hft.mp q).2; omega
    rw [if_neg hno, if_neg hno]
    exact ⟨rfl, rfl, Fr.refl _ _⟩
  · have hyes := hft.mpr ⟨h1, by omega⟩
    rw [if_pos hyes, if_pos hyes]
    refine ⟨rfl, ?_, ?_⟩
    · funext j
      simp only [hi_si, fbW, upw_eq]
      simp
    · refine ((Fr.refl _ _).si ?_).si ?_ <;> rfl
theorem tSeq_g {a b : jS} {C : jCR} {N B K : jN} {R : jR → jH → Prop} {L : List jV} (I : jN) (h : ∀ N1 : jN, (∀ L σ, I L σ → N1 L σ) → a sc C N1 B K R L σ) (h2 : ∀ L σ, I L σ → b sc C N B K R L σ) : tSeq a b sc C N B K R L σ := h _ h2
/-- the first y cells are noted -/
def ntd (D : jD) (w : Nat → Int) (y : Nat) : Nat → Int := fun j => if 24 + 12 * (w 168).toNat ≤ j ∧ j < 24 + 12 * (w 168).toNat + y then kdW D w (j - 24 - 12 * (w 168).toNat) else w j
/-- the first y wagons are left -/
def lfd (w v : Nat → Int) (y : Nat) : Nat → Int := fun j => if j < 8 then (if j < y ∧ w j = 1 then 2 else v j) else if j < 16 then (if j - 8 < y ∧ w (j - 8) = 1 then -1 else v j) else if j < 24 then (if j - 16 < y ∧ w (j - 16) = 1 then w 170 else v j) else v j
theorem lfd_skip {w v : Nat → Int} {y : Nat} (h : ¬ w y = 1) : lfd w v (y + 1) = lfd w v y := by
  funext j
  simp only [lfd]
  have h1 : (j < y + 1 ∧ w j = 1) = (j < y ∧ w j = 1) := propext ⟨fun q => ⟨by by_cases e : j = y; (· rw [e] at q; exact (h q.2).elim); omega, q.2⟩, fun q => ⟨by omega, q.2⟩⟩
  have h2 : (j - 8 < y + 1 ∧ w (j - 8) = 1) = (j - 8 < y ∧ w (j - 8) = 1) := propext ⟨fun q => ⟨by by_cases e : j - 8 = y; (· rw [e] at q; exact (h q.2).elim); omega, q.2⟩, fun q => ⟨by omega, q.2⟩⟩
  have h3 : (j - 16 < y + 1 ∧ w (j - 16) = 1) = (j - 16 < y ∧ w (j - 16) = 1) := propext ⟨fun q => ⟨by by_cases e : j - 16 = y; (· rw [e] at q; exact (h q.2).elim); omega, q.2⟩, fun q => ⟨by omega, q.2⟩⟩
  simp only [h1, h2, h3]
theorem lfd_go {w v : Nat → Int} {y : Nat} (hy : y < 8) (h : w y = 1) : lfd w v (y + 1) = upw (upw (upw (lfd w v y) y 2) (8 + y) (-1)) (16 + y) (w 170) := by
  funext j
  simp only [upw_eq]
  by_cases e3 : j = 16 + y
  · rw [if_pos e3]
    simp only [lfd]
    rw [if_neg (by omega), if_neg (by omega), if_pos (by omega), if_pos ⟨by omega, by rw [show j - 16 = y by omega]; exact h⟩]
  · rw [if_neg e3]
    by_cases e2 : j = 8 + y
    · rw [if_pos e2]
      simp only [lfd]
      rw [if_neg (by omega), if_pos (by omega), if_pos ⟨by omega, by rw [show j - 8 = y by omega]; exact h⟩]
    · rw [if_neg e2]
      by_cases e1 : j = y
      · rw [if_pos e1]
        simp only [lfd]
        rw [if_pos (by omega), if_pos ⟨by omega, by rw [e1]; exact h⟩]
      · rw [if_neg e1]
        simp only [lfd]
        by_cases z1 : j < 8
        · simp only [if_pos z1, show (j < y + 1) = (j < y) from propext ⟨fun q => by omega, fun q => by omega⟩]
        · rw [if_neg z1, if_neg z1]
          by_cases z2 : j < 16
          · simp only [if_pos z2, show (j - 8 < y + 1) = (j - 8 < y) from propext ⟨fun q => by omega, fun q => by omega⟩]
          · rw [if_neg z2, if_neg z2]
            by_cases z3 : j < 24
            · simp only [if_pos z3, show (j - 16 < y + 1) = (j - 16 < y) from propext ⟨fun q => by omega, fun q => by omega⟩]
            · rw [if_neg z3, if_neg z3]
theorem m_219 (hM : MT σ D cd) (hW : WW D (hi σ 87)) : Ct sc 2 219 [vR 63] σ (fun r τ => r = rV (vI (if hi σ 87 168 = 200 then 0 else 1)) ∧ hi τ 87 = (if hi σ 87 168 = 200 then hi σ 87 else dyW D (hi σ 87)) ∧ Fr (fun r _ => r = 87) σ τ) := by
  obtain ⟨hO, hR, hD, -⟩ := id hM
  have h29 := hR.1.1
  have hd := hD.1
  have hday := hW.2.2.1
  obtain ⟨n, hn⟩ := Int.eq_ofNat_of_zero_le (show 0 ≤ D 0 0 by omega)
  obtain ⟨d, hdd⟩ := Int.eq_ofNat_of_zero_le (show 0 ≤ hi σ 87 168 by omega)
  rw [hn] at h29
  have hwd : (hi σ 87 168).toNat = d := by omega
  refine Ct.of (n := 1) (L := [vR 63, vU, vU]) cov_219 rfl (Nat.le_of_ble_eq_true rfl) ?_
  unfold T_219
  refine tSeq_g (fun L τ => L = [vR 63, vU, vU] ∧ τ = σ ∧ ¬ hi σ 87 168 = 200) (fun N1 hN1 => ?_) ?_
  · simp (disch := omega) only [↓x_eInt, ↓x_eLng, ↓x_eNul, ↓x_eStr, ↓x_eLoc, ↓x_eLol, ↓x_eLor, ↓x_eBin, ↓x_eDiv, ↓x_eRem, ↓x_eNeg, ↓x_eLbin, ↓x_eLdiv, ↓x_eLrem, ↓x_eLshl, ↓x_eLshr, ↓x_eI2l, ↓x_eL2i, ↓x_eFldI, ↓x_eFldL, ↓x_eFldP, ↓x_eAldI, ↓x_eAldS, ↓x_eAldL, ↓x_eAldP, ↓x_eLen, ↓x_eLenS, ↓x_eCall, ↓x_eCalv, ↓x_eMin, ↓x_eMax, ↓x_eLmin, ↓x_eAbs, ↓x_eSlen, ↓x_eSat, ↓x_eIte, ↓x_eNewa, ↓x_eNewo, ↓x_esN, ↓x_esC, ↓x_cCmp, ↓x_cCmpz, ↓x_cLcmp, ↓x_cIsn, ↓x_cNot, ↓x_cAnd, ↓x_cOr, ↓x_tSkip, ↓x_tSup, ↓x_tSeq, ↓x_tSetI, ↓x_tSetL, ↓x_tSetR, ↓x_tInc, ↓x_tPutI, ↓x_tPutL, ↓x_tPutP, ↓x_tPutc, ↓x_tAstI, ↓x_tAstL, ↓x_tAstP, ↓x_tAstcI, ↓x_tAstcL, ↓x_tAcpI, ↓x_tAcpL, ↓x_tExp, ↓x_tExv, ↓x_tExw, ↓x_tIte, ↓x_tSw, ↓x_tRet, ↓x_tRetB, ↓x_tRetL, ↓x_tRetv, ↓x_tBrk, ↓x_tCont, ↓x_tThr, ↓x_wD, ↓x_wK, ↓x_jIx, ↓x_jOb, ↓x_jInt_I, ↓x_jLng_L, ↓x_jRef_R, ↓x_jStr_S, ↓x_jPls_R, ↓x_jPls_N, ↓x_jAny_R, ↓x_jAny_S, ↓jIntg_0, ↓jLngg_0, ↓jRefg_0, ↓jAnyg_0, ↓jStrg_0, ↓jPlsg_0, ↓jst_x0, ↓jst2_x0, ↓jIntg_1, ↓jLngg_1, ↓jRefg_1, ↓jAnyg_1, ↓jst_x1, ↓jst2_x1, ↓jIntg_2, ↓jLngg_2, ↓jRefg_2, ↓jAnyg_2, ↓jst_x2, ↓jst2_x2, ↓jIntg_3, ↓jLngg_3, ↓jRefg_3, ↓jAnyg_3, ↓jst_x3, ↓jst2_x3, ↓jIntg_4, ↓jLngg_4, ↓jRefg_4, ↓jAnyg_4, ↓jst_x4, ↓jst2_x4, ↓jIntg_5, ↓jLngg_5, ↓jRefg_5, ↓jAnyg_5, ↓jst_x5, ↓jst2_x5, ↓jIntg_6, ↓jLngg_6, ↓jRefg_6, ↓jAnyg_6, ↓jst_x6, ↓jst2_x6, ↓jIntg_7, ↓jLngg_7, ↓jRefg_7, ↓jAnyg_7, ↓jst_x7, ↓jst2_x7, ↓jIntg_8, ↓jLngg_8, ↓jRefg_8, ↓jAnyg_8, ↓jst_x8, ↓jst2_x8, ↓jIntg_9, ↓jLngg_9, ↓jRefg_9, ↓jAnyg_9, ↓jst_x9, ↓jst2_x9, ↓jIntg_10, ↓jLngg_10, ↓jRefg_10, ↓jAnyg_10, ↓jst_x10, ↓jst2_x10, ↓jIntg_11, ↓jLngg_11, ↓jRefg_11, ↓jAnyg_11, ↓jst_x11, ↓jst2_x11, ↓jIntg_12, ↓jLngg_12, ↓jRefg_12, ↓jAnyg_12, ↓jst_x12, ↓jst2_x12, ↓jIntg_13, ↓jLngg_13, ↓jRefg_13, ↓jAnyg_13, ↓jst_x13, ↓jst2_x13, ↓jIntg_14, ↓jLngg_14, ↓jRefg_14, ↓jAnyg_14, ↓jst_x14, ↓jst2_x14, ↓ex_some, jpv_some, jpv_none, jPls_pv, jisL_I, jisL_L, jisL_R, jisL_S, jisL_N, jisL_U, j_op0, j_op1, j_op2, j_c2, true_and, and_true, true_or, or_true, Int.toNat_natCast, nat1, ex_row, ex_row2, jwb1, jwb, jwb2, Classical.not_not, not_true_eq_false, false_implies, true_implies, ne_eq, not_false_eq_true, rV_inj, vI_inj, vL_inj, hi_tp, Nat.reduceEqDiff, Nat.reduceLeDiff, Nat.reduceAdd, Int.reduceLE, Int.reduceLT, Int.reduceEq, Int.reduceNeg, Int.reduceToNat, Int.reduceAdd, Int.reduceSub, Int.reduceMul, w_id, hsh_si, hp_si, hi_si_ne, oS63 hO, oS72 hO, oS74 hO, oS83 hO, oS86 hO, oS87 hO, oP63_16 hO, oP63_18 hO, oP63_43 hO, oP63_52 hO, oP63_53 hO, jf_12_55, jf_12_56]
    exact ⟨by omega, fun h => ⟨by rw [if_pos h], by rw [if_pos h], Fr.refl _ _⟩, fun h => hN1 _ _ ⟨rfl, rfl, h⟩⟩
  rintro L τ ⟨rfl, rfl, h200⟩
  simp only [if_neg h200]
  refine tSeq_g (fun L υ => (∃ y1 y2, L = [vR 63, y1, y2] ∧ jisL y1 = false) ∧ hi υ 87 = (if hi τ 87 168 < 12 then ntd D (hi τ 87) 12 else hi τ 87) ∧ Fr (fun r _ => r = 87) τ υ) (fun N1 hN1 => ?_) ?_
  · simp (disch := omega) only [↓x_eInt, ↓x_eLng, ↓x_eNul, ↓x_eStr, ↓x_eLoc, ↓x_eLol, ↓x_eLor, ↓x_eBin, ↓x_eDiv, ↓x_eRem, ↓x_eNeg, ↓x_eLbin, ↓x_eLdiv, ↓x_eLrem, ↓x_eLshl, ↓x_eLshr, ↓x_eI2l, ↓x_eL2i, ↓x_eFldI, ↓x_eFldL, ↓x_eFldP, ↓x_eAldI, ↓x_eAldS, ↓x_eAldL, ↓x_eAldP, ↓x_eLen, ↓x_eLenS, ↓x_eCall, ↓x_eCalv, ↓x_eMin, ↓x_eMax, ↓x_eLmin, ↓x_eAbs, ↓x_eSlen, ↓x_eSat, ↓x_eIte, ↓x_eNewa, ↓x_eNewo, ↓x_esN, ↓x_esC, ↓x_cCmp, ↓x_cCmpz, ↓x_cLcmp, ↓x_cIsn, ↓x_cNot, ↓x_cAnd, ↓x_cOr, ↓x_tSkip, ↓x_tSup, ↓x_tSeq, ↓x_tSetI, ↓x_tSetL, ↓x_tSetR, ↓x_tInc, ↓x_tPutI, ↓x_tPutL, ↓x_tPutP, ↓x_tPutc, ↓x_tAstI, ↓x_tAstL, ↓x_tAstP, ↓x_tAstcI, ↓x_tAstcL, ↓x_tAcpI, ↓x_tAcpL, ↓x_tExp, ↓x_tExv, ↓x_tExw, ↓x_tIte, ↓x_tSw, ↓x_tRet, ↓x_tRetB, ↓x_tRetL, ↓x_tRetv, ↓x_tBrk, ↓x_tCont, ↓x_tThr, ↓x_wD, ↓x_wK, ↓x_jIx, ↓x_jOb, ↓x_jInt_I, ↓x_jLng_L, ↓x_jRef_R, ↓x_jStr_S, ↓x_jPls_R, ↓x_jPls_N, ↓x_jAny_R, ↓x_jAny_S, ↓jIntg_0, ↓jLngg_0, ↓jRefg_0, ↓jAnyg_0, ↓jStrg_0, ↓jPlsg_0, ↓jst_x0, ↓jst2_x0, ↓jIntg_1, ↓jLngg_1, ↓jRefg_1, ↓jAnyg_1, ↓jst_x1, ↓jst2_x1, ↓jIntg_2, ↓jLngg_2, ↓jRefg_2, ↓jAnyg_2, ↓jst_x2, ↓jst2_x2, ↓jIntg_3, ↓jLngg_3, ↓jRefg_3, ↓jAnyg_3, ↓jst_x3, ↓jst2_x3, ↓jIntg_4, ↓jLngg_4, ↓jRefg_4, ↓jAnyg_4, ↓jst_x4, ↓jst2_x4, ↓jIntg_5, ↓jLngg_5, ↓jRefg_5, ↓jAnyg_5, ↓jst_x5, ↓jst2_x5, ↓jIntg_6, ↓jLngg_6, ↓jRefg_6, ↓jAnyg_6, ↓jst_x6, ↓jst2_x6, ↓jIntg_7, ↓jLngg_7, ↓jRefg_7, ↓jAnyg_7, ↓jst_x7, ↓jst2_x7, ↓jIntg_8, ↓jLngg_8, ↓jRefg_8, ↓jAnyg_8, ↓jst_x8, ↓jst2_x8, ↓jIntg_9, ↓jLngg_9, ↓jRefg_9, ↓jAnyg_9, ↓jst_x9, ↓jst2_x9, ↓jIntg_10, ↓jLngg_10, ↓jRefg_10, ↓jAnyg_10, ↓jst_x10, ↓jst2_x10, ↓jIntg_11, ↓jLngg_11, ↓jRefg_11, ↓jAnyg_11, ↓jst_x11, ↓jst2_x11, ↓jIntg_12, ↓jLngg_12, ↓jRefg_12, ↓jAnyg_12, ↓jst_x12, ↓jst2_x12, ↓jIntg_13, ↓jLngg_13, ↓jRefg_13, ↓jAnyg_13, ↓jst_x13, ↓jst2_x13, ↓jIntg_14, ↓jLngg_14, ↓jRefg_14, ↓jAnyg_14, ↓jst_x14, ↓jst2_x14, ↓ex_some, jpv_some, jpv_none, jPls_pv, jisL_I, jisL_L, jisL_R, jisL_S, jisL_N, jisL_U, j_op0, j_op1, j_op2, j_c2, true_and, and_true, true_or, or_true, Int.toNat_natCast, nat1, ex_row, ex_row2, jwb1, jwb, jwb2, Classical.not_not, not_true_eq_false, false_implies, true_implies, ne_eq, not_false_eq_true, rV_inj, vI_inj, vL_inj, hi_tp, Nat.reduceEqDiff, Nat.reduceLeDiff, Nat.reduceAdd, Int.reduceLE, Int.reduceLT, Int.reduceEq, Int.reduceNeg, Int.reduceToNat, Int.reduceAdd, Int.reduceSub, Int.reduceMul, w_id, hsh_si, hp_si, hi_si_ne, oS63 hO, oS72 hO, oS74 hO, oS83 hO, oS86 hO, oS87 hO, oP63_16 hO, oP63_18 hO, oP63_43 hO, oP63_52 hO, oP63_53 hO, jf_12_55, jf_12_56]
    refine ⟨by omega, fun h12 => ?_, fun h12 => hN1 _ _ ⟨⟨_, _, rfl, rfl⟩, by rw [if_neg h12], Fr.refl _ _⟩⟩
    refine tLoop_go (fun y : Nat × jV => 12 - y.1) (fun y => [vR 63, vI y.1, y.2]) (fun y υ => y.1 ≤ 12 ∧ hi υ 87 = ntd D (hi τ 87) y.1 ∧ Fr (fun r _ => r = 87) τ υ) (fun y υ => hi υ 87 = ntd D (hi τ 87) 12 ∧ Fr (fun r _ => r = 87) τ υ) (0, vU) rfl ⟨Nat.zero_le _, ?_, Fr.refl _ _⟩ ?_ ?_
    · funext j
      simp only [ntd]
      rw [if_neg (by omega)]
    · rintro ⟨y, y2⟩ υ N' N ⟨hy, hv, hF⟩ hN hE
      simp only at hy hv
      have hM' := MT_fr hM (hF.mono (S' := Sw) (fun r k h => by unfold Sw; omega))
      have hO' := hM'.1
      have hR' := hM'.2.1
      have hlow : ∀ j, j < 24 → hi υ 87 j = hi τ 87 j := fun j hj => by
        rw [hv]
        simp only [ntd]
        rw [if_neg (by omega)]
      have hst : ∀ x m, m ≤ 8 → std (hi υ 87) x m = std (hi τ 87) x m := fun x m hm => by
        induction m with
        | zero => rfl
        | succ m ih =>
          rw [std, std, ih (by omega), hlow m (by omega), hlow (8 + m) (by omega)]
      have h168 : hi υ 87 168 = hi τ 87 168 := by
        rw [hv]
        simp only [ntd]
        rw [if_neg (by omega)]
      have hrg : ∀ a, a < 8 → 0 ≤ hi υ 87 a ∧ hi υ 87 a ≤ 2 ∧ -1 ≤ hi υ 87 (8 + a) ∧ hi υ 87 (8 + a) ≤ 11 := fun a ha => by
        rw [hlow a (by omega), hlow (8 + a) (by omega)]
        have h1 := hW.1 a ha
        by_cases h : hi τ 87 a = 1
        · have := h1.2.1 h; omega
        · have := h1.2.2.1 h; omega
      simp (disch := omega) only [↓x_eInt, ↓x_eLng, ↓x_eNul, ↓x_eStr, ↓x_eLoc, ↓x_eLol, ↓x_eLor, ↓x_eBin, ↓x_eDiv, ↓x_eRem, ↓x_eNeg, ↓x_eLbin, ↓x_eLdiv, ↓x_eLrem, ↓x_eLshl, ↓x_eLshr, ↓x_eI2l, ↓x_eL2i, ↓x_eFldI, ↓x_eFldL, ↓x_eFldP, ↓x_eAldI, ↓x_eAldS, ↓x_eAldL, ↓x_eAldP, ↓x_eLen, ↓x_eLenS, ↓x_eCall, ↓x_eCalv, ↓x_eMin, ↓x_eMax, ↓x_eLmin, ↓x_eAbs, ↓x_eSlen, ↓x_eSat, ↓x_eIte, ↓x_eNewa, ↓x_eNewo, ↓x_esN, ↓x_esC, ↓x_cCmp, ↓x_cCmpz, ↓x_cLcmp, ↓x_cIsn, ↓x_cNot, ↓x_cAnd, ↓x_cOr, ↓x_tSkip, ↓x_tSup, ↓x_tSeq, ↓x_tSetI, ↓x_tSetL, ↓x_tSetR, ↓x_tInc, ↓x_tPutI, ↓x_tPutL, ↓x_tPutP, ↓x_tPutc, ↓x_tAstI, ↓x_tAstL, ↓x_tAstP, ↓x_tAstcI, ↓x_tAstcL, ↓x_tAcpI, ↓x_tAcpL, ↓x_tExp, ↓x_tExv, ↓x_tExw, ↓x_tIte, ↓x_tSw, ↓x_tRet, ↓x_tRetB, ↓x_tRetL, ↓x_tRetv, ↓x_tBrk, ↓x_tCont, ↓x_tThr, ↓x_wD, ↓x_wK, ↓x_jIx, ↓x_jOb, ↓x_jInt_I, ↓x_jLng_L, ↓x_jRef_R, ↓x_jStr_S, ↓x_jPls_R, ↓x_jPls_N, ↓x_jAny_R, ↓x_jAny_S, ↓jIntg_0, ↓jLngg_0, ↓jRefg_0, ↓jAnyg_0, ↓jStrg_0, ↓jPlsg_0, ↓jst_x0, ↓jst2_x0, ↓jIntg_1, ↓jLngg_1, ↓jRefg_1, ↓jAnyg_1, ↓jst_x1, ↓jst2_x1, ↓jIntg_2, ↓jLngg_2, ↓jRefg_2, ↓jAnyg_2, ↓jst_x2, ↓jst2_x2, ↓jIntg_3, ↓jLngg_3, ↓jRefg_3, ↓jAnyg_3, ↓jst_x3, ↓jst2_x3, ↓jIntg_4, ↓jLngg_4, ↓jRefg_4, ↓jAnyg_4, ↓jst_x4, ↓jst2_x4, ↓jIntg_5, ↓jLngg_5, ↓jRefg_5, ↓jAnyg_5, ↓jst_x5, ↓jst2_x5, ↓jIntg_6, ↓jLngg_6, ↓jRefg_6, ↓jAnyg_6, ↓jst_x6, ↓jst2_x6, ↓jIntg_7, ↓jLngg_7, ↓jRefg_7, ↓jAnyg_7, ↓jst_x7, ↓jst2_x7, ↓jIntg_8, ↓jLngg_8, ↓jRefg_8, ↓jAnyg_8, ↓jst_x8, ↓jst2_x8, ↓jIntg_9, ↓jLngg_9, ↓jRefg_9, ↓jAnyg_9, ↓jst_x9, ↓jst2_x9, ↓jIntg_10, ↓jLngg_10, ↓jRefg_10, ↓jAnyg_10, ↓jst_x10, ↓jst2_x10, ↓jIntg_11, ↓jLngg_11, ↓jRefg_11, ↓jAnyg_11, ↓jst_x11, ↓jst2_x11, ↓jIntg_12, ↓jLngg_12, ↓jRefg_12, ↓jAnyg_12, ↓jst_x12, ↓jst2_x12, ↓jIntg_13, ↓jLngg_13, ↓jRefg_13, ↓jAnyg_13, ↓jst_x13, ↓jst2_x13, ↓jIntg_14, ↓jLngg_14, ↓jRefg_14, ↓jAnyg_14, ↓jst_x14, ↓jst2_x14, ↓ex_some, jpv_some, jpv_none, jPls_pv, jisL_I, jisL_L, jisL_R, jisL_S, jisL_N, jisL_U, j_op0, j_op1, j_op2, j_c2, true_and, and_true, true_or, or_true, Int.toNat_natCast, nat1, ex_row, ex_row2, jwb1, jwb, jwb2, Classical.not_not, not_true_eq_false, false_implies, true_implies, ne_eq, not_false_eq_true, rV_inj, vI_inj, vL_inj, hi_tp, Nat.reduceEqDiff, Nat.reduceLeDiff, Nat.reduceAdd, Int.reduceLE, Int.reduceLT, Int.reduceEq, Int.reduceNeg, Int.reduceToNat, Int.reduceAdd, Int.reduceSub, Int.reduceMul, w_id, hsh_si, hp_si, hi_si_ne, oS63 hO', oS72 hO', oS74 hO', oS83 hO', oS86 hO', oS87 hO', oP63_16 hO', oP63_18 hO', oP63_43 hO', oP63_52 hO', oP63_53 hO', jf_12_55, jf_12_56]
      refine ⟨fun hlt => ?_, fun hlt => hE (y, y2) _ ⟨by rw [show (12 : Nat) = y by omega]; exact hv, hF⟩⟩
      refine (m_212g hM' hrg (by omega)).val (by omega) rfl ?_
      rw [hst _ _ (by omega)]
      have sr := std_rg (hi τ 87) y (D 0 0).toNat
      simp (disch := omega) only [↓x_eInt, ↓x_eLng, ↓x_eNul, ↓x_eStr, ↓x_eLoc, ↓x_eLol, ↓x_eLor, ↓x_eBin, ↓x_eDiv, ↓x_eRem, ↓x_eNeg, ↓x_eLbin, ↓x_eLdiv, ↓x_eLrem, ↓x_eLshl, ↓x_eLshr, ↓x_eI2l, ↓x_eL2i, ↓x_eFldI, ↓x_eFldL, ↓x_eFldP, ↓x_eAldI, ↓x_eAldS, ↓x_eAldL, ↓x_eAldP, ↓x_eLen, ↓x_eLenS, ↓x_eCall, ↓x_eCalv, ↓x_eMin, ↓x_eMax, ↓x_eLmin, ↓x_eAbs, ↓x_eSlen, ↓x_eSat, ↓x_eIte, ↓x_eNewa, ↓x_eNewo, ↓x_esN, ↓x_esC, ↓x_cCmp, ↓x_cCmpz, ↓x_cLcmp, ↓x_cIsn, ↓x_cNot, ↓x_cAnd, ↓x_cOr, ↓x_tSkip, ↓x_tSup, ↓x_tSeq, ↓x_tSetI, ↓x_tSetL, ↓x_tSetR, ↓x_tInc, ↓x_tPutI, ↓x_tPutL, ↓x_tPutP, ↓x_tPutc, ↓x_tAstI, ↓x_tAstL, ↓x_tAstP, ↓x_tAstcI, ↓x_tAstcL, ↓x_tAcpI, ↓x_tAcpL, ↓x_tExp, ↓x_tExv, ↓x_tExw, ↓x_tIte, ↓x_tSw, ↓x_tRet, ↓x_tRetB, ↓x_tRetL, ↓x_tRetv, ↓x_tBrk, ↓x_tCont, ↓x_tThr, ↓x_wD, ↓x_wK, ↓x_jIx, ↓x_jOb, ↓x_jInt_I, ↓x_jLng_L, ↓x_jRef_R, ↓x_jStr_S, ↓x_jPls_R, ↓x_jPls_N, ↓x_jAny_R, ↓x_jAny_S, ↓jIntg_0, ↓jLngg_0, ↓jRefg_0, ↓jAnyg_0, ↓jStrg_0, ↓jPlsg_0, ↓jst_x0, ↓jst2_x0, ↓jIntg_1, ↓jLngg_1, ↓jRefg_1, ↓jAnyg_1, ↓jst_x1, ↓jst2_x1, ↓jIntg_2, ↓jLngg_2, ↓jRefg_2, ↓jAnyg_2, ↓jst_x2, ↓jst2_x2, ↓jIntg_3, ↓jLngg_3, ↓jRefg_3, ↓jAnyg_3, ↓jst_x3, ↓jst2_x3, ↓jIntg_4, ↓jLngg_4, ↓jRefg_4, ↓jAnyg_4, ↓jst_x4, ↓jst2_x4, ↓jIntg_5, ↓jLngg_5, ↓jRefg_5, ↓jAnyg_5, ↓jst_x5, ↓jst2_x5, ↓jIntg_6, ↓jLngg_6, ↓jRefg_6, ↓jAnyg_6, ↓jst_x6, ↓jst2_x6, ↓jIntg_7, ↓jLngg_7, ↓jRefg_7, ↓jAnyg_7, ↓jst_x7, ↓jst2_x7, ↓jIntg_8, ↓jLngg_8, ↓jRefg_8, ↓jAnyg_8, ↓jst_x8, ↓jst2_x8, ↓jIntg_9, ↓jLngg_9, ↓jRefg_9, ↓jAnyg_9, ↓jst_x9, ↓jst2_x9, ↓jIntg_10, ↓jLngg_10, ↓jRefg_10, ↓jAnyg_10, ↓jst_x10, ↓jst2_x10, ↓jIntg_11, ↓jLngg_11, ↓jRefg_11, ↓jAnyg_11, ↓jst_x11, ↓jst2_x11, ↓jIntg_12, ↓jLngg_12, ↓jRefg_12, ↓jAnyg_12, ↓jst_x12, ↓jst2_x12, ↓jIntg_13, ↓jLngg_13, ↓jRefg_13, ↓jAnyg_13, ↓jst_x13, ↓jst2_x13, ↓jIntg_14, ↓jLngg_14, ↓jRefg_14, ↓jAnyg_14, ↓jst_x14, ↓jst2_x14, ↓ex_some, jpv_some, jpv_none, jPls_pv, jisL_I, jisL_L, jisL_R, jisL_S, jisL_N, jisL_U, j_op0, j_op1, j_op2, j_c2, true_and, and_true, true_or, or_true, Int.toNat_natCast, nat1, ex_row, ex_row2, jwb1, jwb, jwb2, Classical.not_not, not_true_eq_false, false_implies, true_implies, ne_eq, not_false_eq_true, rV_inj, vI_inj, vL_inj, hi_tp, Nat.reduceEqDiff, Nat.reduceLeDiff, Nat.reduceAdd, Int.reduceLE, Int.reduceLT, Int.reduceEq, Int.reduceNeg, Int.reduceToNat, Int.reduceAdd, Int.reduceSub, Int.reduceMul, w_id, hsh_si, hp_si, hi_si_ne, oS63 hO', oS72 hO', oS74 hO', oS83 hO', oS86 hO', oS87 hO', oP63_16 hO', oP63_18 hO', oP63_43 hO', oP63_52 hO', oP63_53 hO', jf_12_55, jf_12_56, h168]
      have hgo : ∀ z, z = kdW D (hi τ 87) y → N' [vR 63, vI (y + 1 : Nat), vI (std (hi τ 87) y (D 0 0).toNat)] (hsi υ 87 (24 + 12 * hi τ 87 168 + y).toNat z) := by
        intro z hz
        refine hN (y + 1, _) _ (by simp only; omega) ⟨by simp only; omega, ?_, hF.si rfl⟩
        funext j
        rw [hi_si, hv]
        simp only [ntd]
        by_cases hj : j = 24 + 12 * (hi τ 87 168).toNat + y
        · rw [if_pos ⟨trivial, by omega⟩, if_pos (by omega), hz, show j - 24 - 12 * (hi τ 87 168).toNat = y by omega]
        · rw [if_neg (by omega)]
          by_cases hj2 : 24 + 12 * (hi τ 87 168).toNat ≤ j ∧ j < 24 + 12 * (hi τ 87 168).toNat + y
          · rw [if_pos hj2, if_pos (by omega)]
          · rw [if_neg hj2, if_neg (by omega)]
      refine ⟨by omega, fun h1 => ⟨by omega, by omega, hgo _ (by unfold kdW; rw [if_pos h1])⟩, fun h1 => ?_⟩
      have hK := (hR'.2.1 (std (hi τ 87) y (D 0 0).toNat).toNat (by omega)).2.2.1
      rw [show (4 * std (hi τ 87) y (D 0 0).toNat + 2).toNat = 4 * (std (hi τ 87) y (D 0 0).toNat).toNat + 2 by omega, hK]
      exact ⟨by omega, by omega, by omega, by omega, hgo _ (by unfold kdW; rw [if_neg h1])⟩
    · rintro ⟨y, y2⟩ υ ⟨hv, hF⟩
      exact hN1 _ _ ⟨⟨_, _, rfl, rfl⟩, by rw [if_pos h12]; exact hv, hF⟩
  rintro L υ ⟨⟨y1, y2, rfl, hy1⟩, hv, hF⟩
  have hO' := hF.ok hO
  simp (disch := omega) only [↓x_eInt, ↓x_eLng, ↓x_eNul, ↓x_eStr, ↓x_eLoc, ↓x_eLol, ↓x_eLor, ↓x_eBin, ↓x_eDiv, ↓x_eRem, ↓x_eNeg, ↓x_eLbin, ↓x_eLdiv, ↓x_eLrem, ↓x_eLshl, ↓x_eLshr, ↓x_eI2l, ↓x_eL2i, ↓x_eFldI, ↓x_eFldL, ↓x_eFldP, ↓x_eAldI, ↓x_eAldS, ↓x_eAldL, ↓x_eAldP, ↓x_eLen, ↓x_eLenS, ↓x_eCall, ↓x_eCalv, ↓x_eMin, ↓x_eMax, ↓x_eLmin, ↓x_eAbs, ↓x_eSlen, ↓x_eSat, ↓x_eIte, ↓x_eNewa, ↓x_eNewo, ↓x_esN, ↓x_esC, ↓x_cCmp, ↓x_cCmpz, ↓x_cLcmp, ↓x_cIsn, ↓x_cNot, ↓x_cAnd, ↓x_cOr, ↓x_tSkip, ↓x_tSup, ↓x_tSeq, ↓x_tSetI, ↓x_tSetL, ↓x_tSetR, ↓x_tInc, ↓x_tPutI, ↓x_tPutL, ↓x_tPutP, ↓x_tPutc, ↓x_tAstI, ↓x_tAstL, ↓x_tAstP, ↓x_tAstcI, ↓x_tAstcL, ↓x_tAcpI, ↓x_tAcpL, ↓x_tExp, ↓x_tExv, ↓x_tExw, ↓x_tIte, ↓x_tSw, ↓x_tRet, ↓x_tRetB, ↓x_tRetL, ↓x_tRetv, ↓x_tBrk, ↓x_tCont, ↓x_tThr, ↓x_wD, ↓x_wK, ↓x_jIx, ↓x_jOb, ↓x_jInt_I, ↓x_jLng_L, ↓x_jRef_R, ↓x_jStr_S, ↓x_jPls_R, ↓x_jPls_N, ↓x_jAny_R, ↓x_jAny_S, ↓jIntg_0, ↓jLngg_0, ↓jRefg_0, ↓jAnyg_0, ↓jStrg_0, ↓jPlsg_0, ↓jst_x0, ↓jst2_x0, ↓jIntg_1, ↓jLngg_1, ↓jRefg_1, ↓jAnyg_1, ↓jst_x1, ↓jst2_x1, ↓jIntg_2, ↓jLngg_2, ↓jRefg_2, ↓jAnyg_2, ↓jst_x2, ↓jst2_x2, ↓jIntg_3, ↓jLngg_3, ↓jRefg_3, ↓jAnyg_3, ↓jst_x3, ↓jst2_x3, ↓jIntg_4, ↓jLngg_4, ↓jRefg_4, ↓jAnyg_4, ↓jst_x4, ↓jst2_x4, ↓jIntg_5, ↓jLngg_5, ↓jRefg_5, ↓jAnyg_5, ↓jst_x5, ↓jst2_x5, ↓jIntg_6, ↓jLngg_6, ↓jRefg_6, ↓jAnyg_6, ↓jst_x6, ↓jst2_x6, ↓jIntg_7, ↓jLngg_7, ↓jRefg_7, ↓jAnyg_7, ↓jst_x7, ↓jst2_x7, ↓jIntg_8, ↓jLngg_8, ↓jRefg_8, ↓jAnyg_8, ↓jst_x8, ↓jst2_x8, ↓jIntg_9, ↓jLngg_9, ↓jRefg_9, ↓jAnyg_9, ↓jst_x9, ↓jst2_x9, ↓jIntg_10, ↓jLngg_10, ↓jRefg_10, ↓jAnyg_10, ↓jst_x10, ↓jst2_x10, ↓jIntg_11, ↓jLngg_11, ↓jRefg_11, ↓jAnyg_11, ↓jst_x11, ↓jst2_x11, ↓jIntg_12, ↓jLngg_12, ↓jRefg_12, ↓jAnyg_12, ↓jst_x12, ↓jst2_x12, ↓jIntg_13, ↓jLngg_13, ↓jRefg_13, ↓jAnyg_13, ↓jst_x13, ↓jst2_x13, ↓jIntg_14, ↓jLngg_14, ↓jRefg_14, ↓jAnyg_14, ↓jst_x14, ↓jst2_x14, ↓ex_some, jpv_some, jpv_none, jPls_pv, jisL_I, jisL_L, jisL_R, jisL_S, jisL_N, jisL_U, j_op0, j_op1, j_op2, j_c2, true_and, and_true, true_or, or_true, Int.toNat_natCast, nat1, ex_row, ex_row2, jwb1, jwb, jwb2, Classical.not_not, not_true_eq_false, false_implies, true_implies, ne_eq, not_false_eq_true, rV_inj, vI_inj, vL_inj, hi_tp, Nat.reduceEqDiff, Nat.reduceLeDiff, Nat.reduceAdd, Int.reduceLE, Int.reduceLT, Int.reduceEq, Int.reduceNeg, Int.reduceToNat, Int.reduceAdd, Int.reduceSub, Int.reduceMul, w_id, hsh_si, hp_si, hi_si_ne, oS63 hO', oS72 hO', oS74 hO', oS83 hO', oS86 hO', oS87 hO', oP63_16 hO', oP63_18 hO', oP63_43 hO', oP63_52 hO', oP63_53 hO', jf_12_55, jf_12_56]
  have hvl : ∀ j, j < 24 ∨ 168 ≤ j → hi υ 87 j = hi τ 87 j := fun j hj => by
    rw [hv]
    split
    · simp only [ntd]
      rw [if_neg (by omega)]
    · rfl
  have h33 : hi τ 63 33 = D 0 4 := hR.1.2.2.2.2.1
  have h34 : hi τ 63 34 = D 0 5 := hR.1.2.2.2.2.2.1
  refine tLoop_go (fun y : Nat => n - y) (fun y => [vR 63, vI y, y2]) (fun y χ => y ≤ n ∧ hi χ 87 = lfd (hi τ 87) (hi υ 87) y ∧ Fr (fun r _ => r = 87) τ χ) (fun y χ => hi χ 87 = lfd (hi τ 87) (hi υ 87) n ∧ Fr (fun r _ => r = 87) τ χ) 0 rfl ⟨Nat.zero_le _, ?_, hF⟩ ?_ ?_
  · funext j
    simp only [lfd]
    rw [if_neg (c := j < 0 ∧ _) (by omega), if_neg (c := j - 8 < 0 ∧ _) (by omega), if_neg (c := j - 16 < 0 ∧ _) (by omega)]
    split
    · rfl
    · split
      · rfl
      · split <;> rfl
  · rintro y χ N' N ⟨hy, hw, hF2⟩ hN hE
    have hO2 := hF2.ok hO
    have e63 : hi χ 63 = hi τ 63 := hF2.ir (fun _ => by simp)
    simp (disch := omega) only [↓x_eInt, ↓x_eLng, ↓x_eNul, ↓x_eStr, ↓x_eLoc, ↓x_eLol, ↓x_eLor, ↓x_eBin, ↓x_eDiv, ↓x_eRem, ↓x_eNeg, ↓x_eLbin, ↓x_eLdiv, ↓x_eLrem, ↓x_eLshl, ↓x_eLshr, ↓x_eI2l, ↓x_eL2i, ↓x_eFldI, ↓x_eFldL, ↓x_eFldP, ↓x_eAldI, ↓x_eAldS, ↓x_eAldL, ↓x_eAldP, ↓x_eLen, ↓x_eLenS, ↓x_eCall, ↓x_eCalv, ↓x_eMin, ↓x_eMax, ↓x_eLmin, ↓x_eAbs, ↓x_eSlen, ↓x_eSat, ↓x_eIte, ↓x_eNewa, ↓x_eNewo, ↓x_esN, ↓x_esC, ↓x_cCmp, ↓x_cCmpz, ↓x_cLcmp, ↓x_cIsn, ↓x_cNot, ↓x_cAnd, ↓x_cOr, ↓x_tSkip, ↓x_tSup, ↓x_tSeq, ↓x_tSetI, ↓x_tSetL, ↓x_tSetR, ↓x_tInc, ↓x_tPutI, ↓x_tPutL, ↓x_tPutP, ↓x_tPutc, ↓x_tAstI, ↓x_tAstL, ↓x_tAstP, ↓x_tAstcI, ↓x_tAstcL, ↓x_tAcpI, ↓x_tAcpL, ↓x_tExp, ↓x_tExv, ↓x_tExw, ↓x_tIte, ↓x_tSw, ↓x_tRet, ↓x_tRetB, ↓x_tRetL, ↓x_tRetv, ↓x_tBrk, ↓x_tCont, ↓x_tThr, ↓x_wD, ↓x_wK, ↓x_jIx, ↓x_jOb, ↓x_jInt_I, ↓x_jLng_L, ↓x_jRef_R, ↓x_jStr_S, ↓x_jPls_R, ↓x_jPls_N, ↓x_jAny_R, ↓x_jAny_S, ↓jIntg_0, ↓jLngg_0, ↓jRefg_0, ↓jAnyg_0, ↓jStrg_0, ↓jPlsg_0, ↓jst_x0, ↓jst2_x0, ↓jIntg_1, ↓jLngg_1, ↓jRefg_1, ↓jAnyg_1, ↓jst_x1, ↓jst2_x1, ↓jIntg_2, ↓jLngg_2, ↓jRefg_2, ↓jAnyg_2, ↓jst_x2, ↓jst2_x2, ↓jIntg_3, ↓jLngg_3, ↓jRefg_3, ↓jAnyg_3, ↓jst_x3, ↓jst2_x3, ↓jIntg_4, ↓jLngg_4, ↓jRefg_4, ↓jAnyg_4, ↓jst_x4, ↓jst2_x4, ↓jIntg_5, ↓jLngg_5, ↓jRefg_5, ↓jAnyg_5, ↓jst_x5, ↓jst2_x5, ↓jIntg_6, ↓jLngg_6, ↓jRefg_6, ↓jAnyg_6, ↓jst_x6, ↓jst2_x6, ↓jIntg_7, ↓jLngg_7, ↓jRefg_7, ↓jAnyg_7, ↓jst_x7, ↓jst2_x7, ↓jIntg_8, ↓jLngg_8, ↓jRefg_8, ↓jAnyg_8, ↓jst_x8, ↓jst2_x8, ↓jIntg_9, ↓jLngg_9, ↓jRefg_9, ↓jAnyg_9, ↓jst_x9, ↓jst2_x9, ↓jIntg_10, ↓jLngg_10, ↓jRefg_10, ↓jAnyg_10, ↓jst_x10, ↓jst2_x10, ↓jIntg_11, ↓jLngg_11, ↓jRefg_11, ↓jAnyg_11, ↓jst_x11, ↓jst2_x11, ↓jIntg_12, ↓jLngg_12, ↓jRefg_12, ↓jAnyg_12, ↓jst_x12, ↓jst2_x12, ↓jIntg_13, ↓jLngg_13, ↓jRefg_13, ↓jAnyg_13, ↓jst_x13, ↓jst2_x13, ↓jIntg_14, ↓jLngg_14, ↓jRefg_14, ↓jAnyg_14, ↓jst_x14, ↓jst2_x14, ↓ex_some, jpv_some, jpv_none, jPls_pv, jisL_I, jisL_L, jisL_R, jisL_S, jisL_N, jisL_U, j_op0, j_op1, j_op2, j_c2, true_and, and_true, true_or, or_true, Int.toNat_natCast, nat1, ex_row, ex_row2, jwb1, jwb, jwb2, Classical.not_not, not_true_eq_false, false_implies, true_implies, ne_eq, not_false_eq_true, rV_inj, vI_inj, vL_inj, hi_tp, Nat.reduceEqDiff, Nat.reduceLeDiff, Nat.reduceAdd, Int.reduceLE, Int.reduceLT, Int.reduceEq, Int.reduceNeg, Int.reduceToNat, Int.reduceAdd, Int.reduceSub, Int.reduceMul, w_id, hsh_si, hp_si, hi_si_ne, oS63 hO2, oS72 hO2, oS74 hO2, oS83 hO2, oS86 hO2, oS87 hO2, oP63_16 hO2, oP63_18 hO2, oP63_43 hO2, oP63_52 hO2, oP63_53 hO2, jf_12_55, jf_12_56, e63, h29]
    refine ⟨fun hlt => ⟨by omega, by omega, ?_⟩, fun hlt => hE y _ ⟨by rw [hw, show y = n by omega], hF2⟩⟩
    have hwy := hW.1 y (by omega)
    have hyy : hi χ 87 y = hi τ 87 y := by
      rw [hw]
      simp only [lfd]
      rw [if_pos (by omega), if_neg (by omega)]
      exact hvl y (by omega)
    have h170 : hi χ 87 170 = hi τ 87 170 := by
      rw [hw]
      simp only [lfd]
      rw [if_neg (by omega), if_neg (by omega), if_neg (by omega)]
      exact hvl 170 (by omega)
    rw [show (0 + (y : Int)).toNat = y by omega, show (8 + (y : Int)).toNat = 8 + y by omega, show (16 + (y : Int)).toNat = 16 + y by omega, hyy]
    simp (disch := omega) only [w_id]
    refine ⟨fun h1 => hN (y + 1) _ (by omega) ⟨by omega, ?_, hF2⟩, fun h1 => ⟨by omega, by omega, by omega, by omega, by omega, by omega, by omega, ?_⟩⟩
    · rw [hw, lfd_skip h1]
    · refine hN (y + 1) _ (by omega) ⟨by omega, ?_, ?_⟩
      · rw [lfd_go (by omega) h1, ← hw]
        have hz : hi (hsi (hsi χ 87 y 2) 87 (8 + y) (-1)) 87 170 = hi τ 87 170 := by rw [hi_si_nk (by omega), hi_si_nk (by omega), h170]
        rw [hz]
        funext j
        simp only [hi_si, upw_eq, true_and]
      · refine ((hF2.si ?_).si ?_).si ?_ <;> rfl
  · rintro y χ ⟨hw, hF2⟩
    have hO2 := hF2.ok hO
    have e63 : hi χ 63 = hi τ 63 := hF2.ir (fun _ => by simp)
    have q168 : hi χ 87 168 = hi τ 87 168 := by
      rw [hw]
      simp only [lfd]
      rw [if_neg (by omega), if_neg (by omega), if_neg (by omega)]
      exact hvl 168 (by omega)
    have q170 : hi χ 87 170 = hi τ 87 170 := by
      rw [hw]
      simp only [lfd]
      rw [if_neg (by omega), if_neg (by omega), if_neg (by omega)]
      exact hvl 170 (by omega)
    simp (disch := omega) only [↓x_eInt, ↓x_eLng, ↓x_eNul, ↓x_eStr, ↓x_eLoc, ↓x_eLol, ↓x_eLor, ↓x_eBin, ↓x_eDiv, ↓x_eRem, ↓x_eNeg, ↓x_eLbin, ↓x_eLdiv, ↓x_eLrem, ↓x_eLshl, ↓x_eLshr, ↓x_eI2l, ↓x_eL2i, ↓x_eFldI, ↓x_eFldL, ↓x_eFldP, ↓x_eAldI, ↓x_eAldS, ↓x_eAldL, ↓x_eAldP, ↓x_eLen, ↓x_eLenS, ↓x_eCall, ↓x_eCalv, ↓x_eMin, ↓x_eMax, ↓x_eLmin, ↓x_eAbs, ↓x_eSlen, ↓x_eSat, ↓x_eIte, ↓x_eNewa, ↓x_eNewo, ↓x_esN, ↓x_esC, ↓x_cCmp, ↓x_cCmpz, ↓x_cLcmp, ↓x_cIsn, ↓x_cNot, ↓x_cAnd, ↓x_cOr, ↓x_tSkip, ↓x_tSup, ↓x_tSeq, ↓x_tSetI, ↓x_tSetL, ↓x_tSetR, ↓x_tInc, ↓x_tPutI, ↓x_tPutL, ↓x_tPutP, ↓x_tPutc, ↓x_tAstI, ↓x_tAstL, ↓x_tAstP, ↓x_tAstcI, ↓x_tAstcL, ↓x_tAcpI, ↓x_tAcpL, ↓x_tExp, ↓x_tExv, ↓x_tExw, ↓x_tIte, ↓x_tSw, ↓x_tRet, ↓x_tRetB, ↓x_tRetL, ↓x_tRetv, ↓x_tBrk, ↓x_tCont, ↓x_tThr, ↓x_wD, ↓x_wK, ↓x_jIx, ↓x_jOb, ↓x_jInt_I, ↓x_jLng_L, ↓x_jRef_R, ↓x_jStr_S, ↓x_jPls_R, ↓x_jPls_N, ↓x_jAny_R, ↓x_jAny_S, ↓jIntg_0, ↓jLngg_0, ↓jRefg_0, ↓jAnyg_0, ↓jStrg_0, ↓jPlsg_0, ↓jst_x0, ↓jst2_x0, ↓jIntg_1, ↓jLngg_1, ↓jRefg_1, ↓jAnyg_1, ↓jst_x1, ↓jst2_x1, ↓jIntg_2, ↓jLngg_2, ↓jRefg_2, ↓jAnyg_2, ↓jst_x2, ↓jst2_x2, ↓jIntg_3, ↓jLngg_3, ↓jRefg_3, ↓jAnyg_3, ↓jst_x3, ↓jst2_x3, ↓jIntg_4, ↓jLngg_4, ↓jRefg_4, ↓jAnyg_4, ↓jst_x4, ↓jst2_x4, ↓jIntg_5, ↓jLngg_5, ↓jRefg_5, ↓jAnyg_5, ↓jst_x5, ↓jst2_x5, ↓jIntg_6, ↓jLngg_6, ↓jRefg_6, ↓jAnyg_6, ↓jst_x6, ↓jst2_x6, ↓jIntg_7, ↓jLngg_7, ↓jRefg_7, ↓jAnyg_7, ↓jst_x7, ↓jst2_x7, ↓jIntg_8, ↓jLngg_8, ↓jRefg_8, ↓jAnyg_8, ↓jst_x8, ↓jst2_x8, ↓jIntg_9, ↓jLngg_9, ↓jRefg_9, ↓jAnyg_9, ↓jst_x9, ↓jst2_x9, ↓jIntg_10, ↓jLngg_10, ↓jRefg_10, ↓jAnyg_10, ↓jst_x10, ↓jst2_x10, ↓jIntg_11, ↓jLngg_11, ↓jRefg_11, ↓jAnyg_11, ↓jst_x11, ↓jst2_x11, ↓jIntg_12, ↓jLngg_12, ↓jRefg_12, ↓jAnyg_12, ↓jst_x12, ↓jst2_x12, ↓jIntg_13, ↓jLngg_13, ↓jRefg_13, ↓jAnyg_13, ↓jst_x13, ↓jst2_x13, ↓jIntg_14, ↓jLngg_14, ↓jRefg_14, ↓jAnyg_14, ↓jst_x14, ↓jst2_x14, ↓ex_some, jpv_some, jpv_none, jPls_pv, jisL_I, jisL_L, jisL_R, jisL_S, jisL_N, jisL_U, j_op0, j_op1, j_op2, j_c2, true_and, and_true, true_or, or_true, Int.toNat_natCast, nat1, ex_row, ex_row2, jwb1, jwb, jwb2, Classical.not_not, not_true_eq_false, false_implies, true_implies, ne_eq, not_false_eq_true, rV_inj, vI_inj, vL_inj, hi_tp, Nat.reduceEqDiff, Nat.reduceLeDiff, Nat.reduceAdd, Int.reduceLE, Int.reduceLT, Int.reduceEq, Int.reduceNeg, Int.reduceToNat, Int.reduceAdd, Int.reduceSub, Int.reduceMul, w_id, hsh_si, hp_si, hi_si_ne, oS63 hO2, oS72 hO2, oS74 hO2, oS83 hO2, oS86 hO2, oS87 hO2, oP63_16 hO2, oP63_18 hO2, oP63_43 hO2, oP63_52 hO2, oP63_53 hO2, jf_12_55, jf_12_56, e63, h33, h34, hi_si_nk]
    refine ⟨by omega, by omega, by omega, by omega, by omega, ?_, ?_⟩
    · funext j
      simp only [hi_si, q168, q170, dyW]
      by_cases j1 : j = 168
      · simp [j1]
      by_cases j2 : j = 169
      · simp [j2]
      by_cases j3 : j = 170
      · simp [j3]
      simp only [j1, j2, j3, if_false, and_false]
      rw [hw]
      simp only [lfd, hn]
      by_cases z1 : j < 8
      · simp only [if_pos z1, hvl j (by omega), show (j < n) = ((j : Int) < n) from propext ⟨fun q => by omega, fun q => by omega⟩]
      rw [if_neg z1, if_neg z1]
      by_cases z2 : j < 16
      · simp only [if_pos z2, hvl j (by omega), show (j - 8 < n) = ((j : Int) - 8 < n) from propext ⟨fun q => by omega, fun q => by omega⟩]
      rw [if_neg z2, if_neg z2]
      by_cases z3 : j < 24
      · simp only [if_pos z3, hvl j (by omega), show (j - 16 < n) = ((j : Int) - 16 < n) from propext ⟨fun q => by omega, fun q => by omega⟩]
      rw [if_neg z3, if_neg z3, hv]
      by_cases z4 : hi τ 87 168 < 12
      · rw [if_pos z4]
        simp only [ntd]
        by_cases z5 : 24 + 12 * (hi τ 87 168).toNat ≤ j ∧ j < 24 + 12 * (hi τ 87 168).toNat + 12
        · rw [if_pos z5, if_pos ⟨z4, by omega, by omega⟩]
        · rw [if_neg z5, if_neg (by omega)]
      · rw [if_neg z4, if_neg (fun q => z4 q.1)]
    · refine ((hF2.si ?_).si ?_).si ?_ <;> rfl
end MTOWN3
