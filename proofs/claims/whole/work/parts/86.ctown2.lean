/-! The class lays, takes up, fetches -/
section CTOWN2
variable {sc : jSc} {σ : jH} {D : jD} {w : Nat → Int} {q t : Nat} {f : Int}
/-- the cells of the town at q -/
def Sq (q : Nat) : Nat → Nat → Prop := fun r k => (q ≤ r ∧ r ≤ q + 4) ∧ (r ≠ q ∨ k ≤ 8)
def Sp (q : Nat) : Nat → Nat → Prop := fun r k => (q ≤ r ∧ r ≤ q + 3) ∧ (r ≠ q ∨ k ≤ 8)
theorem std_ext {w v : Nat → Int} {x : Int} : ∀ {n}, (∀ a, a < n → ((w a = 1 ∧ w (8 + a) = x) ↔ (v a = 1 ∧ v (8 + a) = x))) → std w x n = std v x n
  | 0, _ => rfl
  | n + 1, h => by
    rw [std, std, std_ext (fun a ha => h a (by omega))]
    have := h n (by omega)
    by_cases h1 : w n = 1 ∧ w (8 + n) = x
    · rw [if_pos h1, if_pos (this.mp h1)]
    · rw [if_neg h1, if_neg (fun z => h1 (this.mpr z))]
theorem ly_low {a x : Nat} {m : Int} (ha : a < 8) : ∀ b, b < 8 → lyW w a x m b = if b = a then 1 else w b := fun b hb => by
  simp only [lyW, upw_eq]
  rw [if_neg (by omega)]
  split
  · rfl
  · rw [if_neg (by omega)]
theorem ly_cel {a x : Nat} {m : Int} (ha : a < 8) : ∀ b, b < 8 → lyW w a x m (8 + b) = if b = a then (x : Int) else w (8 + b) := fun b hb => by
  simp only [lyW, upw_eq]
  by_cases e : b = a
  · rw [if_pos (by omega), if_pos e]
  · rw [if_neg (by omega), if_neg (by omega), if_neg (by omega), if_neg e]
theorem ly_oth {a x : Nat} {m : Int} (ha : a < 8) : ∀ j, 16 ≤ j → j ≠ 169 → lyW w a x m j = w j := fun j hj hj2 => by
  simp only [lyW, upw_eq]
  rw [if_neg (by omega), if_neg (by omega), if_neg hj2]
theorem std_ly {a x n : Nat} {m : Int} (hn : n ≤ 8) (ha : a < n) (h0 : w a = 0) (hx : std w x n = -1) (y : Nat) : std (lyW w a x m) y n = if y = x then (a : Int) else std w y n := by
  have hno := std_no.mp hx
  by_cases hy : y = x
  · subst hy
    rw [if_pos rfl]
    refine std_first ha ?_ ?_ (fun b hb => ?_)
    · rw [ly_low (by omega) a (by omega), if_pos rfl]
    · rw [ly_cel (by omega) a (by omega), if_pos rfl]
    · rw [ly_low (by omega) b (by omega), ly_cel (by omega) b (by omega), if_neg (by omega), if_neg (by omega)]
      exact hno b (by omega)
  · rw [if_neg hy]
    refine std_ext (fun b hb => ?_)
    rw [ly_low (by omega) b (by omega), ly_cel (by omega) b (by omega)]
    by_cases e : b = a
    · rw [if_pos e, if_pos e, e]
      constructor
      · intro z; omega
      · intro z; omega
    · rw [if_neg e, if_neg e]
theorem lbt_ly {a x : Nat} {m : Int} (ha : a < 8) : lbt (lyW w a x m) 8 = lbt w 8 ||| 2 ^ a := by
  refine Nat.eq_of_testBit_eq (fun i => ?_)
  rw [Nat.testBit_or, lbt_bit, lbt_bit, Nat.testBit_two_pow]
  by_cases hi : i < 8
  · rw [ly_low ha i hi]
    by_cases e : i = a
    · subst e; simp [hi]
    · have e2 : ¬ a = i := fun z => e z.symm
      simp [hi, e, e2]
  · have e2 : ¬ a = i := by omega
    simp [hi, e2]
theorem c_85 {a x : Nat} {m : Int} (hT : TW σ q D w f) (hW : WW D w) (hd : WD D 61) (ha : (a : Int) < D 0 0) (hx : x < 12) (h0 : w a = 0) (hs : std w x (D 0 0).toNat = -1) : Ct sc 1 85 [vR q, vI a, vI x, vI m] σ (fun r τ => r = rN ∧ TW τ q D (lyW w a x m) f ∧ Fr (Sp q) σ τ) := by
  obtain ⟨hQ, h1, h2, h3, h4, h5, h6, h7, h8⟩ := id hT
  have hl := OWl hQ
  have hd := hd.1
  have hl8 := lbt_lt w 8
  have h2a : (2 : Nat) ^ a ≤ 2 ^ 7 := Nat.pow_le_pow_right (by decide) (by omega)
  refine Ct.of (n := 0) (L := [vR q, vI a, vI x, vI m]) cov_85 rfl (Nat.le_of_ble_eq_true rfl) ?_
  unfold T_85
  simp only [↓x_eInt, ↓x_eLng, ↓x_eNul, ↓x_eStr, ↓x_eLoc, ↓x_eLol, ↓x_eLor, ↓x_eBin, ↓x_eDiv, ↓x_eRem, ↓x_eNeg, ↓x_eLbin, ↓x_eLdiv, ↓x_eLrem, ↓x_eLshl, ↓x_eLshr, ↓x_eI2l, ↓x_eL2i, ↓x_eFldI, ↓x_eFldL, ↓x_eFldP, ↓x_eAldI, ↓x_eAldS, ↓x_eAldL, ↓x_eAldP, ↓x_eLen, ↓x_eLenS, ↓x_eCall, ↓x_eCalv, ↓x_eMin, ↓x_eMax, ↓x_eLmin, ↓x_eAbs, ↓x_eSlen, ↓x_eSat, ↓x_eIte, ↓x_eNewa, ↓x_eNewo, ↓x_esN, ↓x_esC, ↓x_cCmp, ↓x_cCmpz, ↓x_cLcmp, ↓x_cIsn, ↓x_cNot, ↓x_cAnd, ↓x_cOr, ↓x_tSkip, ↓x_tSup, ↓x_tSeq, ↓x_tSetI, ↓x_tSetL, ↓x_tSetR, ↓x_tInc, ↓x_tPutI, ↓x_tPutL, ↓x_tPutP, ↓x_tPutc, ↓x_tAstI, ↓x_tAstL, ↓x_tAstP, ↓x_tAstcI, ↓x_tAstcL, ↓x_tAcpI, ↓x_tAcpL, ↓x_tExp, ↓x_tExv, ↓x_tExw, ↓x_tIte, ↓x_tSw, ↓x_tRet, ↓x_tRetB, ↓x_tRetL, ↓x_tRetv, ↓x_tBrk, ↓x_tCont, ↓x_tThr, ↓x_wD, ↓x_wK, ↓x_jIx, ↓x_jOb, ↓x_jInt_I, ↓x_jLng_L, ↓x_jRef_R, ↓x_jStr_S, ↓x_jPls_R, ↓x_jPls_N, ↓x_jAny_R, ↓x_jAny_S, ↓jIntg_0, ↓jLngg_0, ↓jRefg_0, ↓jAnyg_0, ↓jStrg_0, ↓jPlsg_0, ↓jst_x0, ↓jst2_x0, ↓jIntg_1, ↓jLngg_1, ↓jRefg_1, ↓jAnyg_1, ↓jst_x1, ↓jst2_x1, ↓jIntg_2, ↓jLngg_2, ↓jRefg_2, ↓jAnyg_2, ↓jst_x2, ↓jst2_x2, ↓jIntg_3, ↓jLngg_3, ↓jRefg_3, ↓jAnyg_3, ↓jst_x3, ↓jst2_x3, ↓jIntg_4, ↓jLngg_4, ↓jRefg_4, ↓jAnyg_4, ↓jst_x4, ↓jst2_x4, ↓jIntg_5, ↓jLngg_5, ↓jRefg_5, ↓jAnyg_5, ↓jst_x5, ↓jst2_x5, ↓jIntg_6, ↓jLngg_6, ↓jRefg_6, ↓jAnyg_6, ↓jst_x6, ↓jst2_x6, ↓jIntg_7, ↓jLngg_7, ↓jRefg_7, ↓jAnyg_7, ↓jst_x7, ↓jst2_x7, ↓jIntg_8, ↓jLngg_8, ↓jRefg_8, ↓jAnyg_8, ↓jst_x8, ↓jst2_x8, ↓jIntg_9, ↓jLngg_9, ↓jRefg_9, ↓jAnyg_9, ↓jst_x9, ↓jst2_x9, ↓jIntg_10, ↓jLngg_10, ↓jRefg_10, ↓jAnyg_10, ↓jst_x10, ↓jst2_x10, ↓jIntg_11, ↓jLngg_11, ↓jRefg_11, ↓jAnyg_11, ↓jst_x11, ↓jst2_x11, ↓jIntg_12, ↓jLngg_12, ↓jRefg_12, ↓jAnyg_12, ↓jst_x12, ↓jst2_x12, ↓jIntg_13, ↓jLngg_13, ↓jRefg_13, ↓jAnyg_13, ↓jst_x13, ↓jst2_x13, ↓jIntg_14, ↓jLngg_14, ↓jRefg_14, ↓jAnyg_14, ↓jst_x14, ↓jst2_x14, ↓ex_some, jpv_some, jpv_none, jPls_pv, jisL_I, jisL_L, jisL_R, jisL_S, jisL_N, jisL_U, j_op0, j_op1, j_op2, j_c2, true_and, and_true, true_or, or_true, Int.toNat_natCast, nat1, ex_row, ex_row2, jwb1, jwb, jwb2, Classical.not_not, not_true_eq_false, false_implies, true_implies, ne_eq, not_false_eq_true, rV_inj, vI_inj, vL_inj, hi_tp, Nat.reduceEqDiff, Nat.reduceLeDiff, Nat.reduceAdd, Int.reduceLE, Int.reduceLT, Int.reduceEq, Int.reduceNeg, Int.reduceToNat, Int.reduceAdd, Int.reduceSub, Int.reduceMul, OWs0 hQ, OWs1 hQ, OWs2 hQ, OWs3 hQ, OWs4 hQ, OWp0 hQ, OWp1 hQ, OWp2 hQ, OWp3 hQ, jf_9_4, jf_9_5, jf_9_6, jf_9_7, jf_9_8, jf_9_9]
  simp (disch := omega) only [↓x_eInt, ↓x_eLng, ↓x_eNul, ↓x_eStr, ↓x_eLoc, ↓x_eLol, ↓x_eLor, ↓x_eBin, ↓x_eDiv, ↓x_eRem, ↓x_eNeg, ↓x_eLbin, ↓x_eLdiv, ↓x_eLrem, ↓x_eLshl, ↓x_eLshr, ↓x_eI2l, ↓x_eL2i, ↓x_eFldI, ↓x_eFldL, ↓x_eFldP, ↓x_eAldI, ↓x_eAldS, ↓x_eAldL, ↓x_eAldP, ↓x_eLen, ↓x_eLenS, ↓x_eCall, ↓x_eCalv, ↓x_eMin, ↓x_eMax, ↓x_eLmin, ↓x_eAbs, ↓x_eSlen, ↓x_eSat, ↓x_eIte, ↓x_eNewa, ↓x_eNewo, ↓x_esN, ↓x_esC, ↓x_cCmp, ↓x_cCmpz, ↓x_cLcmp, ↓x_cIsn, ↓x_cNot, ↓x_cAnd, ↓x_cOr, ↓x_tSkip, ↓x_tSup, ↓x_tSeq, ↓x_tSetI, ↓x_tSetL, ↓x_tSetR, ↓x_tInc, ↓x_tPutI, ↓x_tPutL, ↓x_tPutP, ↓x_tPutc, ↓x_tAstI, ↓x_tAstL, ↓x_tAstP, ↓x_tAstcI, ↓x_tAstcL, ↓x_tAcpI, ↓x_tAcpL, ↓x_tExp, ↓x_tExv, ↓x_tExw, ↓x_tIte, ↓x_tSw, ↓x_tRet, ↓x_tRetB, ↓x_tRetL, ↓x_tRetv, ↓x_tBrk, ↓x_tCont, ↓x_tThr, ↓x_wD, ↓x_wK, ↓x_jIx, ↓x_jOb, ↓x_jInt_I, ↓x_jLng_L, ↓x_jRef_R, ↓x_jStr_S, ↓x_jPls_R, ↓x_jPls_N, ↓x_jAny_R, ↓x_jAny_S, ↓jIntg_0, ↓jLngg_0, ↓jRefg_0, ↓jAnyg_0, ↓jStrg_0, ↓jPlsg_0, ↓jst_x0, ↓jst2_x0, ↓jIntg_1, ↓jLngg_1, ↓jRefg_1, ↓jAnyg_1, ↓jst_x1, ↓jst2_x1, ↓jIntg_2, ↓jLngg_2, ↓jRefg_2, ↓jAnyg_2, ↓jst_x2, ↓jst2_x2, ↓jIntg_3, ↓jLngg_3, ↓jRefg_3, ↓jAnyg_3, ↓jst_x3, ↓jst2_x3, ↓jIntg_4, ↓jLngg_4, ↓jRefg_4, ↓jAnyg_4, ↓jst_x4, ↓jst2_x4, ↓jIntg_5, ↓jLngg_5, ↓jRefg_5, ↓jAnyg_5, ↓jst_x5, ↓jst2_x5, ↓jIntg_6, ↓jLngg_6, ↓jRefg_6, ↓jAnyg_6, ↓jst_x6, ↓jst2_x6, ↓jIntg_7, ↓jLngg_7, ↓jRefg_7, ↓jAnyg_7, ↓jst_x7, ↓jst2_x7, ↓jIntg_8, ↓jLngg_8, ↓jRefg_8, ↓jAnyg_8, ↓jst_x8, ↓jst2_x8, ↓jIntg_9, ↓jLngg_9, ↓jRefg_9, ↓jAnyg_9, ↓jst_x9, ↓jst2_x9, ↓jIntg_10, ↓jLngg_10, ↓jRefg_10, ↓jAnyg_10, ↓jst_x10, ↓jst2_x10, ↓jIntg_11, ↓jLngg_11, ↓jRefg_11, ↓jAnyg_11, ↓jst_x11, ↓jst2_x11, ↓jIntg_12, ↓jLngg_12, ↓jRefg_12, ↓jAnyg_12, ↓jst_x12, ↓jst2_x12, ↓jIntg_13, ↓jLngg_13, ↓jRefg_13, ↓jAnyg_13, ↓jst_x13, ↓jst2_x13, ↓jIntg_14, ↓jLngg_14, ↓jRefg_14, ↓jAnyg_14, ↓jst_x14, ↓jst2_x14, ↓ex_some, jpv_some, jpv_none, jPls_pv, jisL_I, jisL_L, jisL_R, jisL_S, jisL_N, jisL_U, j_op0, j_op1, j_op2, j_c2, true_and, and_true, true_or, or_true, Int.toNat_natCast, nat1, ex_row, ex_row2, jwb1, jwb, jwb2, Classical.not_not, not_true_eq_false, false_implies, true_implies, ne_eq, not_false_eq_true, rV_inj, vI_inj, vL_inj, hi_tp, Nat.reduceEqDiff, Nat.reduceLeDiff, Nat.reduceAdd, Int.reduceLE, Int.reduceLT, Int.reduceEq, Int.reduceNeg, Int.reduceToNat, Int.reduceAdd, Int.reduceSub, Int.reduceMul, w_id, hsh_si, hp_si, hi_si_ne, OWs0 hQ, OWs1 hQ, OWs2 hQ, OWs3 hQ, OWs4 hQ, OWp0 hQ, OWp1 hQ, OWp2 hQ, OWp3 hQ, jf_9_4, jf_9_5, jf_9_6, jf_9_7, jf_9_8, jf_9_9, h8, h6, hi_si_nk]
  rw [jsh1 (by omega), jop4 (by omega) (by omega)]
  refine ⟨by omega, by omega, by omega, by omega, ⟨?_, ?_, ?_, ?_, ?_, ?_, ?_, ?_, ?_⟩, ?_⟩
  · exact hQ
  · intro b hb
    rw [ly_cel (by omega) b hb]
    simp [hi_si]
    split
    · rfl
    · exact h1 b hb
  · intro b hb
    rw [ly_low (by omega) b hb, ly_oth (by omega) (16 + b) (by omega) (by omega)]
    simp [hi_si]
    rw [h2 b hb]
    by_cases e : b = a
    · rw [if_pos e, e, h0]; rfl
    · rw [if_neg e]
  · intro y hy
    rw [std_ly (by omega) (by omega) h0 hs y]
    simp [hi_si]
    split
    · rfl
    · exact h3 y hy
  · rw [ly_oth (by omega) 168 (by omega) (by omega)]
    simp [hi_si]; exact h4
  · rw [ly_oth (by omega) 170 (by omega) (by omega)]
    simp [hi_si]; exact h5
  · simp [hi_si, lyW, upw_eq]
    rw [if_neg (by omega), if_neg (by omega)]
  · simp [hi_si]; exact h7
  · rw [lbt_ly (by omega)]
    simp [hi_si]
  · refine ((((Fr.refl _ _).si ?_).si ?_).si ?_).si ?_ <;> unfold Sp <;> omega
end CTOWN2
