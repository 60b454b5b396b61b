/-! Numbers and words on the class's tape -/
section NUM
/-- the class's value of n digits; the reference's -/
def cvv (b : Nat → Int) (a : Nat) : Nat → Int
  | 0 => 0
  | n + 1 => if cvv b a n < 100000 then cvv b a n * 10 + b (a + n) - 48 else cvv b a n
def mvv (b : Nat → Int) (a : Nat) : Nat → Int
  | 0 => 0
  | n + 1 => if 9999 < mvv b a n then 10000 else 10 * mvv b a n + b (a + n) - 48
section
variable {b : Nat → Int} {a : Nat}
theorem dv_pos : ∀ {n : Nat}, (∀ i, i < n → isD (b (a + i)) = true) → 0 ≤ dv b a n
  | 0, _ => by rw [dv]; omega
  | n + 1, h => by
    have h1 := dv_pos (n := n) (fun i hi => h i (by omega))
    have h2 := h n (by omega)
    simp only [isD, decide_eq_true_eq] at h2
    rw [dv]; omega
theorem cvv_dv : ∀ {n : Nat}, (∀ i, i < n → isD (b (a + i)) = true) → (cvv b a n = dv b a n ∧ cvv b a n < 1000000) ∨ (100000 ≤ cvv b a n ∧ cvv b a n < 1000000 ∧ 100000 ≤ dv b a n)
  | 0, _ => Or.inl ⟨rfl, by rw [cvv]; omega⟩
  | n + 1, h => by
    have h1 := cvv_dv (n := n) (fun i hi => h i (by omega))
    have h2 := h n (by omega)
    have h3 := dv_pos (n := n) (b := b) (a := a) (fun i hi => h i (by omega))
    simp only [isD, decide_eq_true_eq] at h2
    rw [dv, cvv]
    split <;> omega
theorem mvv_dv : ∀ {n : Nat}, (∀ i, i < n → isD (b (a + i)) = true) → (mvv b a n = dv b a n ∧ mvv b a n < 1000000) ∨ (10000 ≤ mvv b a n ∧ mvv b a n < 1000000 ∧ 10000 ≤ dv b a n)
  | 0, _ => Or.inl ⟨rfl, by rw [mvv]; omega⟩
  | n + 1, h => by
    have h1 := mvv_dv (n := n) (fun i hi => h i (by omega))
    have h2 := h n (by omega)
    have h3 := dv_pos (n := n) (b := b) (a := a) (fun i hi => h i (by omega))
    simp only [isD, decide_eq_true_eq] at h2
    rw [dv, mvv]
    split <;> omega
theorem cvv_pos {n : Nat} (h : ∀ i, i < n → isD (b (a + i)) = true) : 0 ≤ cvv b a n ∧ cvv b a n < 1000000 := by
  have h1 := cvv_dv h
  have h2 := dv_pos h
  omega
theorem mvv_pos {n : Nat} (h : ∀ i, i < n → isD (b (a + i)) = true) : 0 ≤ mvv b a n ∧ mvv b a n < 1000000 := by
  have h1 := mvv_dv h
  have h2 := dv_pos h
  omega
end
variable {sc : jSc} {σ : jH} {e a : Nat} {s v k p : Int}
/-- a number: the tape behind it -/
def Nq (σ : jH) (e a : Nat) (lo up : Int) (v k p : Int) (r : jR) (τ : jH) : Prop :=
  (∃ x a' : Nat, pNum (hi σ 2) e a lo up = .ok ((x : Int), a') ∧ a' ≤ e ∧ a < a' ∧ lo ≤ x ∧ (x : Int) ≤ up ∧ r = rV (vI 1) ∧ τ = tp σ a' (sk (hi σ 2) e a) x k p) ∨
  (∃ (kd : Int) (pl a' : Nat) (v' : Int), pNum (hi σ 2) e a lo up = .error (kd, pl) ∧ a' ≤ e ∧ r = rV (vI 0) ∧ τ = tp σ a' pl v' kd pl)
theorem c_71 {lo up : Int} (hT : TB σ e) (ha : a ≤ e) (hl : -1000 ≤ lo ∧ lo ≤ 1000) (hu : -1000 ≤ up ∧ up ≤ 1000) : Ct sc 3 71 [vR 1, vI lo, vI up] (tp σ a s v k p) (Nq σ e a lo up v k p) := by
  obtain ⟨hO, h1, h2, h3⟩ := id hT
  have hs := sk_le (b := hi σ 2) ha
  have hg := sk_ge (b := hi σ 2) (e := e) (a := a)
  refine Ct.of (n := 2) (L := [vR 1, vI lo, vI up]) cov_71 rfl (Nat.le_of_ble_eq_true rfl) ?_
  unfold T_71
  simp only [↓x_eInt, ↓x_eLng, ↓x_eNul, ↓x_eStr, ↓x_eLoc, ↓x_eLol, ↓x_eLor, ↓x_eBin, ↓x_eDiv, ↓x_eRem, ↓x_eNeg, ↓x_eLbin, ↓x_eLdiv, ↓x_eLrem, ↓x_eLshl, ↓x_eLshr, ↓x_eI2l, ↓x_eL2i, ↓x_eFldI, ↓x_eFldL, ↓x_eFldP, ↓x_eAldI, ↓x_eAldS, ↓x_eAldL, ↓x_eAldP, ↓x_eLen, ↓x_eLenS, ↓x_eCall, ↓x_eCalv, ↓x_eMin, ↓x_eMax, ↓x_eLmin, ↓x_eAbs, ↓x_eSlen, ↓x_eSat, ↓x_eIte, ↓x_eNewa, ↓x_eNewo, ↓x_esN, ↓x_esC, ↓x_cCmp, ↓x_cCmpz, ↓x_cLcmp, ↓x_cIsn, ↓x_cNot, ↓x_cAnd, ↓x_cOr, ↓x_tSkip, ↓x_tSup, ↓x_tSeq, ↓x_tSetI, ↓x_tSetL, ↓x_tSetR, ↓x_tInc, ↓x_tPutI, ↓x_tPutL, ↓x_tPutP, ↓x_tPutc, ↓x_tAstI, ↓x_tAstL, ↓x_tAstP, ↓x_tAstcI, ↓x_tAstcL, ↓x_tAcpI, ↓x_tAcpL, ↓x_tExp, ↓x_tExv, ↓x_tExw, ↓x_tIte, ↓x_tSw, ↓x_tRet, ↓x_tRetB, ↓x_tRetL, ↓x_tRetv, ↓x_tBrk, ↓x_tCont, ↓x_tThr, ↓x_wD, ↓x_wK, ↓x_jIx, ↓x_jOb, ↓x_jInt_I, ↓x_jLng_L, ↓x_jRef_R, ↓x_jStr_S, ↓x_jPls_R, ↓x_jPls_N, ↓x_jAny_R, ↓x_jAny_S, ↓jIntg_0, ↓jLngg_0, ↓jRefg_0, ↓jAnyg_0, ↓jStrg_0, ↓jPlsg_0, ↓jst_x0, ↓jst2_x0, ↓jIntg_1, ↓jLngg_1, ↓jRefg_1, ↓jAnyg_1, ↓jst_x1, ↓jst2_x1, ↓jIntg_2, ↓jLngg_2, ↓jRefg_2, ↓jAnyg_2, ↓jst_x2, ↓jst2_x2, ↓jIntg_3, ↓jLngg_3, ↓jRefg_3, ↓jAnyg_3, ↓jst_x3, ↓jst2_x3, ↓jIntg_4, ↓jLngg_4, ↓jRefg_4, ↓jAnyg_4, ↓jst_x4, ↓jst2_x4, ↓jIntg_5, ↓jLngg_5, ↓jRefg_5, ↓jAnyg_5, ↓jst_x5, ↓jst2_x5, ↓jIntg_6, ↓jLngg_6, ↓jRefg_6, ↓jAnyg_6, ↓jst_x6, ↓jst2_x6, ↓jIntg_7, ↓jLngg_7, ↓jRefg_7, ↓jAnyg_7, ↓jst_x7, ↓jst2_x7, ↓jIntg_8, ↓jLngg_8, ↓jRefg_8, ↓jAnyg_8, ↓jst_x8, ↓jst2_x8, ↓jIntg_9, ↓jLngg_9, ↓jRefg_9, ↓jAnyg_9, ↓jst_x9, ↓jst2_x9, ↓jIntg_10, ↓jLngg_10, ↓jRefg_10, ↓jAnyg_10, ↓jst_x10, ↓jst2_x10, ↓jIntg_11, ↓jLngg_11, ↓jRefg_11, ↓jAnyg_11, ↓jst_x11, ↓jst2_x11, ↓jIntg_12, ↓jLngg_12, ↓jRefg_12, ↓jAnyg_12, ↓jst_x12, ↓jst2_x12, ↓jIntg_13, ↓jLngg_13, ↓jRefg_13, ↓jAnyg_13, ↓jst_x13, ↓jst2_x13, ↓jIntg_14, ↓jLngg_14, ↓jRefg_14, ↓jAnyg_14, ↓jst_x14, ↓jst2_x14, ↓ex_some, jpv_some, jpv_none, jPls_pv, jisL_I, jisL_L, jisL_R, jisL_S, jisL_N, jisL_U, j_op0, j_op1, j_op2, j_c2, true_and, and_true, true_or, or_true, Int.toNat_natCast, nat1, ex_row, ex_row2, jwb1, jwb, jwb2, Classical.not_not, not_true_eq_false, false_implies, true_implies, ne_eq, not_false_eq_true, rV_inj, vI_inj, vL_inj, hi_tp, Nat.reduceEqDiff, Nat.reduceLeDiff, Nat.reduceAdd, Int.reduceLE, Int.reduceLT, Int.reduceEq, Int.reduceNeg, Int.reduceToNat, Int.reduceAdd, Int.reduceSub, Int.reduceMul, hsh_tp, hp_tp, hl_tp, hi_tp1, hi_tp2, hi_tp3, hi_tp4, hi_tp5, hi_tp6, hi_tp7, tp_3, tp_4, tp_5, tp_6, tp_7, oS1 hO, oS2 hO, oP1_0 hO, jf_8_1, jf_8_2, jf_8_3, jf_8_4, jf_8_5, jf_8_6, jf_8_7]
  refine (c_68 hT ha).val (Nat.le_refl _) rfl ?_
  generalize hA : sk (hi σ 2) e a = A at *
  have hb := h3 A
  refine (c_74 (by split <;> omega)).val (by omega) rfl ?_
  simp only [↓x_eInt, ↓x_eLng, ↓x_eNul, ↓x_eStr, ↓x_eLoc, ↓x_eLol, ↓x_eLor, ↓x_eBin, ↓x_eDiv, ↓x_eRem, ↓x_eNeg, ↓x_eLbin, ↓x_eLdiv, ↓x_eLrem, ↓x_eLshl, ↓x_eLshr, ↓x_eI2l, ↓x_eL2i, ↓x_eFldI, ↓x_eFldL, ↓x_eFldP, ↓x_eAldI, ↓x_eAldS, ↓x_eAldL, ↓x_eAldP, ↓x_eLen, ↓x_eLenS, ↓x_eCall, ↓x_eCalv, ↓x_eMin, ↓x_eMax, ↓x_eLmin, ↓x_eAbs, ↓x_eSlen, ↓x_eSat, ↓x_eIte, ↓x_eNewa, ↓x_eNewo, ↓x_esN, ↓x_esC, ↓x_cCmp, ↓x_cCmpz, ↓x_cLcmp, ↓x_cIsn, ↓x_cNot, ↓x_cAnd, ↓x_cOr, ↓x_tSkip, ↓x_tSup, ↓x_tSeq, ↓x_tSetI, ↓x_tSetL, ↓x_tSetR, ↓x_tInc, ↓x_tPutI, ↓x_tPutL, ↓x_tPutP, ↓x_tPutc, ↓x_tAstI, ↓x_tAstL, ↓x_tAstP, ↓x_tAstcI, ↓x_tAstcL, ↓x_tAcpI, ↓x_tAcpL, ↓x_tExp, ↓x_tExv, ↓x_tExw, ↓x_tIte, ↓x_tSw, ↓x_tRet, ↓x_tRetB, ↓x_tRetL, ↓x_tRetv, ↓x_tBrk, ↓x_tCont, ↓x_tThr, ↓x_wD, ↓x_wK, ↓x_jIx, ↓x_jOb, ↓x_jInt_I, ↓x_jLng_L, ↓x_jRef_R, ↓x_jStr_S, ↓x_jPls_R, ↓x_jPls_N, ↓x_jAny_R, ↓x_jAny_S, ↓jIntg_0, ↓jLngg_0, ↓jRefg_0, ↓jAnyg_0, ↓jStrg_0, ↓jPlsg_0, ↓jst_x0, ↓jst2_x0, ↓jIntg_1, ↓jLngg_1, ↓jRefg_1, ↓jAnyg_1, ↓jst_x1, ↓jst2_x1, ↓jIntg_2, ↓jLngg_2, ↓jRefg_2, ↓jAnyg_2, ↓jst_x2, ↓jst2_x2, ↓jIntg_3, ↓jLngg_3, ↓jRefg_3, ↓jAnyg_3, ↓jst_x3, ↓jst2_x3, ↓jIntg_4, ↓jLngg_4, ↓jRefg_4, ↓jAnyg_4, ↓jst_x4, ↓jst2_x4, ↓jIntg_5, ↓jLngg_5, ↓jRefg_5, ↓jAnyg_5, ↓jst_x5, ↓jst2_x5, ↓jIntg_6, ↓jLngg_6, ↓jRefg_6, ↓jAnyg_6, ↓jst_x6, ↓jst2_x6, ↓jIntg_7, ↓jLngg_7, ↓jRefg_7, ↓jAnyg_7, ↓jst_x7, ↓jst2_x7, ↓jIntg_8, ↓jLngg_8, ↓jRefg_8, ↓jAnyg_8, ↓jst_x8, ↓jst2_x8, ↓jIntg_9, ↓jLngg_9, ↓jRefg_9, ↓jAnyg_9, ↓jst_x9, ↓jst2_x9, ↓jIntg_10, ↓jLngg_10, ↓jRefg_10, ↓jAnyg_10, ↓jst_x10, ↓jst2_x10, ↓jIntg_11, ↓jLngg_11, ↓jRefg_11, ↓jAnyg_11, ↓jst_x11, ↓jst2_x11, ↓jIntg_12, ↓jLngg_12, ↓jRefg_12, ↓jAnyg_12, ↓jst_x12, ↓jst2_x12, ↓jIntg_13, ↓jLngg_13, ↓jRefg_13, ↓jAnyg_13, ↓jst_x13, ↓jst2_x13, ↓jIntg_14, ↓jLngg_14, ↓jRefg_14, ↓jAnyg_14, ↓jst_x14, ↓jst2_x14, ↓ex_some, jpv_some, jpv_none, jPls_pv, jisL_I, jisL_L, jisL_R, jisL_S, jisL_N, jisL_U, j_op0, j_op1, j_op2, j_c2, true_and, and_true, true_or, or_true, Int.toNat_natCast, nat1, ex_row, ex_row2, jwb1, jwb, jwb2, Classical.not_not, not_true_eq_false, false_implies, true_implies, ne_eq, not_false_eq_true, rV_inj, vI_inj, vL_inj, hi_tp, Nat.reduceEqDiff, Nat.reduceLeDiff, Nat.reduceAdd, Int.reduceLE, Int.reduceLT, Int.reduceEq, Int.reduceNeg, Int.reduceToNat, Int.reduceAdd, Int.reduceSub, Int.reduceMul, hsh_tp, hp_tp, hl_tp, hi_tp1, hi_tp2, hi_tp3, hi_tp4, hi_tp5, hi_tp6, hi_tp7, tp_3, tp_4, tp_5, tp_6, tp_7, oS1 hO, oS2 hO, oP1_0 hO, jf_8_1, jf_8_2, jf_8_3, jf_8_4, jf_8_5, jf_8_6, jf_8_7, h1, h3.w]
  have h9 : (isD (if A < e then hi σ 2 A else -1) = true) = (A < e ∧ isD (hi σ 2 A) = true) := by
    split
    · rename_i h
      simp [h]
    · rename_i h
      simp [h, isD]
  simp only [h9]
  refine ⟨fun hD => ?_, fun hD => ?_⟩
  · skip
    refine tLoop_go (fun x : Nat => e - x) (fun _ => [vR 1, vI lo, vI up]) (fun x τ => τ = tp σ x A (cvv (hi σ 2) A (x - A)) k p ∧ rn isD (hi σ 2) e x = rn isD (hi σ 2) e A ∧ A ≤ x ∧ x ≤ e ∧ (∀ i, i < x - A → isD (hi σ 2 (A + i)) = true)) (fun x τ => τ = tp σ x A (cvv (hi σ 2) A (x - A)) k p ∧ x = rn isD (hi σ 2) e A) A rfl ⟨by rw [Nat.sub_self]; rfl, rfl, by omega, hs, fun i hi => by omega⟩ ?_ ?_
    · rintro x τ N' N ⟨rfl, hx, hx1, hx2, hx3⟩ hN hE
      have hp := cvv_pos hx3
      have hc := h3 x
      simp only [↓x_eInt, ↓x_eLng, ↓x_eNul, ↓x_eStr, ↓x_eLoc, ↓x_eLol, ↓x_eLor, ↓x_eBin, ↓x_eDiv, ↓x_eRem, ↓x_eNeg, ↓x_eLbin, ↓x_eLdiv, ↓x_eLrem, ↓x_eLshl, ↓x_eLshr, ↓x_eI2l, ↓x_eL2i, ↓x_eFldI, ↓x_eFldL, ↓x_eFldP, ↓x_eAldI, ↓x_eAldS, ↓x_eAldL, ↓x_eAldP, ↓x_eLen, ↓x_eLenS, ↓x_eCall, ↓x_eCalv, ↓x_eMin, ↓x_eMax, ↓x_eLmin, ↓x_eAbs, ↓x_eSlen, ↓x_eSat, ↓x_eIte, ↓x_eNewa, ↓x_eNewo, ↓x_esN, ↓x_esC, ↓x_cCmp, ↓x_cCmpz, ↓x_cLcmp, ↓x_cIsn, ↓x_cNot, ↓x_cAnd, ↓x_cOr, ↓x_tSkip, ↓x_tSup, ↓x_tSeq, ↓x_tSetI, ↓x_tSetL, ↓x_tSetR, ↓x_tInc, ↓x_tPutI, ↓x_tPutL, ↓x_tPutP, ↓x_tPutc, ↓x_tAstI, ↓x_tAstL, ↓x_tAstP, ↓x_tAstcI, ↓x_tAstcL, ↓x_tAcpI, ↓x_tAcpL, ↓x_tExp, ↓x_tExv, ↓x_tExw, ↓x_tIte, ↓x_tSw, ↓x_tRet, ↓x_tRetB, ↓x_tRetL, ↓x_tRetv, ↓x_tBrk, ↓x_tCont, ↓x_tThr, ↓x_wD, ↓x_wK, ↓x_jIx, ↓x_jOb, ↓x_jInt_I, ↓x_jLng_L, ↓x_jRef_R, ↓x_jStr_S, ↓x_jPls_R, ↓x_jPls_N, ↓x_jAny_R, ↓x_jAny_S, ↓jIntg_0, ↓jLngg_0, ↓jRefg_0, ↓jAnyg_0, ↓jStrg_0, ↓jPlsg_0, ↓jst_x0, ↓jst2_x0, ↓jIntg_1, ↓jLngg_1, ↓jRefg_1, ↓jAnyg_1, ↓jst_x1, ↓jst2_x1, ↓jIntg_2, ↓jLngg_2, ↓jRefg_2, ↓jAnyg_2, ↓jst_x2, ↓jst2_x2, ↓jIntg_3, ↓jLngg_3, ↓jRefg_3, ↓jAnyg_3, ↓jst_x3, ↓jst2_x3, ↓jIntg_4, ↓jLngg_4, ↓jRefg_4, ↓jAnyg_4, ↓jst_x4, ↓jst2_x4, ↓jIntg_5, ↓jLngg_5, ↓jRefg_5, ↓jAnyg_5, ↓jst_x5, ↓jst2_x5, ↓jIntg_6, ↓jLngg_6, ↓jRefg_6, ↓jAnyg_6, ↓jst_x6, ↓jst2_x6, ↓jIntg_7, ↓jLngg_7, ↓jRefg_7, ↓jAnyg_7, ↓jst_x7, ↓jst2_x7, ↓jIntg_8, ↓jLngg_8, ↓jRefg_8, ↓jAnyg_8, ↓jst_x8, ↓jst2_x8, ↓jIntg_9, ↓jLngg_9, ↓jRefg_9, ↓jAnyg_9, ↓jst_x9, ↓jst2_x9, ↓jIntg_10, ↓jLngg_10, ↓jRefg_10, ↓jAnyg_10, ↓jst_x10, ↓jst2_x10, ↓jIntg_11, ↓jLngg_11, ↓jRefg_11, ↓jAnyg_11, ↓jst_x11, ↓jst2_x11, ↓jIntg_12, ↓jLngg_12, ↓jRefg_12, ↓jAnyg_12, ↓jst_x12, ↓jst2_x12, ↓jIntg_13, ↓jLngg_13, ↓jRefg_13, ↓jAnyg_13, ↓jst_x13, ↓jst2_x13, ↓jIntg_14, ↓jLngg_14, ↓jRefg_14, ↓jAnyg_14, ↓jst_x14, ↓jst2_x14, ↓ex_some, jpv_some, jpv_none, jPls_pv, jisL_I, jisL_L, jisL_R, jisL_S, jisL_N, jisL_U, j_op0, j_op1, j_op2, j_c2, true_and, and_true, true_or, or_true, Int.toNat_natCast, nat1, ex_row, ex_row2, jwb1, jwb, jwb2, Classical.not_not, not_true_eq_false, false_implies, true_implies, ne_eq, not_false_eq_true, rV_inj, vI_inj, vL_inj, hi_tp, Nat.reduceEqDiff, Nat.reduceLeDiff, Nat.reduceAdd, Int.reduceLE, Int.reduceLT, Int.reduceEq, Int.reduceNeg, Int.reduceToNat, Int.reduceAdd, Int.reduceSub, Int.reduceMul, hsh_tp, hp_tp, hl_tp, hi_tp1, hi_tp2, hi_tp3, hi_tp4, hi_tp5, hi_tp6, hi_tp7, tp_3, tp_4, tp_5, tp_6, tp_7, oS1 hO, oS2 hO, oP1_0 hO, jf_8_1, jf_8_2, jf_8_3, jf_8_4, jf_8_5, jf_8_6, jf_8_7, h1, h3.w]
      simp (disch := omega) only [w_id]
      refine ⟨fun hxe => ⟨by omega, by omega, ?_⟩, fun hxe => hE x _ ⟨rfl, ?_⟩⟩
      · refine (c_74 (by omega)).val (by omega) rfl ?_
        simp only [↓x_eInt, ↓x_eLng, ↓x_eNul, ↓x_eStr, ↓x_eLoc, ↓x_eLol, ↓x_eLor, ↓x_eBin, ↓x_eDiv, ↓x_eRem, ↓x_eNeg, ↓x_eLbin, ↓x_eLdiv, ↓x_eLrem, ↓x_eLshl, ↓x_eLshr, ↓x_eI2l, ↓x_eL2i, ↓x_eFldI, ↓x_eFldL, ↓x_eFldP, ↓x_eAldI, ↓x_eAldS, ↓x_eAldL, ↓x_eAldP, ↓x_eLen, ↓x_eLenS, ↓x_eCall, ↓x_eCalv, ↓x_eMin, ↓x_eMax, ↓x_eLmin, ↓x_eAbs, ↓x_eSlen, ↓x_eSat, ↓x_eIte, ↓x_eNewa, ↓x_eNewo, ↓x_esN, ↓x_esC, ↓x_cCmp, ↓x_cCmpz, ↓x_cLcmp, ↓x_cIsn, ↓x_cNot, ↓x_cAnd, ↓x_cOr, ↓x_tSkip, ↓x_tSup, ↓x_tSeq, ↓x_tSetI, ↓x_tSetL, ↓x_tSetR, ↓x_tInc, ↓x_tPutI, ↓x_tPutL, ↓x_tPutP, ↓x_tPutc, ↓x_tAstI, ↓x_tAstL, ↓x_tAstP, ↓x_tAstcI, ↓x_tAstcL, ↓x_tAcpI, ↓x_tAcpL, ↓x_tExp, ↓x_tExv, ↓x_tExw, ↓x_tIte, ↓x_tSw, ↓x_tRet, ↓x_tRetB, ↓x_tRetL, ↓x_tRetv, ↓x_tBrk, ↓x_tCont, ↓x_tThr, ↓x_wD, ↓x_wK, ↓x_jIx, ↓x_jOb, ↓x_jInt_I, ↓x_jLng_L, ↓x_jRef_R, ↓x_jStr_S, ↓x_jPls_R, ↓x_jPls_N, ↓x_jAny_R, ↓x_jAny_S, ↓jIntg_0, ↓jLngg_0, ↓jRefg_0, ↓jAnyg_0, ↓jStrg_0, ↓jPlsg_0, ↓jst_x0, ↓jst2_x0, ↓jIntg_1, ↓jLngg_1, ↓jRefg_1, ↓jAnyg_1, ↓jst_x1, ↓jst2_x1, ↓jIntg_2, ↓jLngg_2, ↓jRefg_2, ↓jAnyg_2, ↓jst_x2, ↓jst2_x2, ↓jIntg_3, ↓jLngg_3, ↓jRefg_3, ↓jAnyg_3, ↓jst_x3, ↓jst2_x3, ↓jIntg_4, ↓jLngg_4, ↓jRefg_4, ↓jAnyg_4, ↓jst_x4, ↓jst2_x4, ↓jIntg_5, ↓jLngg_5, ↓jRefg_5, ↓jAnyg_5, ↓jst_x5, ↓jst2_x5, ↓jIntg_6, ↓jLngg_6, ↓jRefg_6, ↓jAnyg_6, ↓jst_x6, ↓jst2_x6, ↓jIntg_7, ↓jLngg_7, ↓jRefg_7, ↓jAnyg_7, ↓jst_x7, ↓jst2_x7, ↓jIntg_8, ↓jLngg_8, ↓jRefg_8, ↓jAnyg_8, ↓jst_x8, ↓jst2_x8, ↓jIntg_9, ↓jLngg_9, ↓jRefg_9, ↓jAnyg_9, ↓jst_x9, ↓jst2_x9, ↓jIntg_10, ↓jLngg_10, ↓jRefg_10, ↓jAnyg_10, ↓jst_x10, ↓jst2_x10, ↓jIntg_11, ↓jLngg_11, ↓jRefg_11, ↓jAnyg_11, ↓jst_x11, ↓jst2_x11, ↓jIntg_12, ↓jLngg_12, ↓jRefg_12, ↓jAnyg_12, ↓jst_x12, ↓jst2_x12, ↓jIntg_13, ↓jLngg_13, ↓jRefg_13, ↓jAnyg_13, ↓jst_x13, ↓jst2_x13, ↓jIntg_14, ↓jLngg_14, ↓jRefg_14, ↓jAnyg_14, ↓jst_x14, ↓jst2_x14, ↓ex_some, jpv_some, jpv_none, jPls_pv, jisL_I, jisL_L, jisL_R, jisL_S, jisL_N, jisL_U, j_op0, j_op1, j_op2, j_c2, true_and, and_true, true_or, or_true, Int.toNat_natCast, nat1, ex_row, ex_row2, jwb1, jwb, jwb2, Classical.not_not, not_true_eq_false, false_implies, true_implies, ne_eq, not_false_eq_true, rV_inj, vI_inj, vL_inj, hi_tp, Nat.reduceEqDiff, Nat.reduceLeDiff, Nat.reduceAdd, Int.reduceLE, Int.reduceLT, Int.reduceEq, Int.reduceNeg, Int.reduceToNat, Int.reduceAdd, Int.reduceSub, Int.reduceMul, hsh_tp, hp_tp, hl_tp, hi_tp1, hi_tp2, hi_tp3, hi_tp4, hi_tp5, hi_tp6, hi_tp7, tp_3, tp_4, tp_5, tp_6, tp_7, oS1 hO, oS2 hO, oP1_0 hO, jf_8_1, jf_8_2, jf_8_3, jf_8_4, jf_8_5, jf_8_6, jf_8_7, h1, h3.w]
        simp (disch := omega) only [w_id]
        refine ⟨fun hd => ?_, fun hd => hE x _ ⟨rfl, ?_⟩⟩
        · skip
          have hx4 : cvv (hi σ 2) A (x + 1 - A) = if cvv (hi σ 2) A (x - A) < 100000 then cvv (hi σ 2) A (x - A) * 10 + hi σ 2 x - 48 else cvv (hi σ 2) A (x - A) := by
            rw [show x + 1 - A = x - A + 1 by omega, cvv, show A + (x - A) = x by omega]
          have hx5 : ∀ i, i < x + 1 - A → isD (hi σ 2 (A + i)) = true := fun i hi => by
            by_cases h9 : i = x - A
            · rw [h9, show A + (x - A) = x by omega]; exact hd
            · exact hx3 i (by omega)
          have hx6 : rn isD (hi σ 2) e (x + 1) = rn isD (hi σ 2) e A := by rw [← hx]; exact (rn_go (by omega) hd).symm
          refine ⟨fun h9 => ⟨by omega, by omega, hN (x + 1) _ (by omega) ⟨?_, hx6, by omega, by omega, hx5⟩⟩, fun h9 => hN (x + 1) _ (by omega) ⟨?_, hx6, by omega, by omega, hx5⟩⟩
          · rw [hx4, if_pos h9]
          · rw [hx4, if_neg h9]
        · rw [← hx]; exact (rn_stop (fun h => hd h.2)).symm
      · rw [← hx]; exact (rn_stop (fun h => hxe (by omega))).symm
    · rintro x τ ⟨rfl, rfl⟩
      have hr1 := rn_ge (q := isD) (b := hi σ 2) (e := e) (a := A)
      have hr2 := rn_le (q := isD) (b := hi σ 2) hs
      have hr3 : A < rn isD (hi σ 2) e A := by
        have := rn_go (q := isD) (b := hi σ 2) hD.1 hD.2
        have := rn_ge (q := isD) (b := hi σ 2) (e := e) (a := A + 1)
        omega
      have hr4 : ∀ i, i < rn isD (hi σ 2) e A - A → isD (hi σ 2 (A + i)) = true := fun i h => (rn_in (q := isD) (b := hi σ 2) (e := e) (a := A) (i := A + i) (by omega) (by omega)).2
      have hc := cvv_dv hr4
      have hc2 := cvv_pos hr4
      have hn : pNum (hi σ 2) e a lo up = if lo ≤ dv (hi σ 2) A (rn isD (hi σ 2) e A - A) ∧ dv (hi σ 2) A (rn isD (hi σ 2) e A - A) ≤ up then .ok (dv (hi σ 2) A (rn isD (hi σ 2) e A - A), rn isD (hi σ 2) e A) else .error (2, A) := by
        unfold pNum
        rw [hA, if_pos hD]
      generalize hdv : dv (hi σ 2) A (rn isD (hi σ 2) e A - A) = D at *
      generalize hcv : cvv (hi σ 2) A (rn isD (hi σ 2) e A - A) = V at *
      generalize rn isD (hi σ 2) e A = X at *
      simp only [↓x_eInt, ↓x_eLng, ↓x_eNul, ↓x_eStr, ↓x_eLoc, ↓x_eLol, ↓x_eLor, ↓x_eBin, ↓x_eDiv, ↓x_eRem, ↓x_eNeg, ↓x_eLbin, ↓x_eLdiv, ↓x_eLrem, ↓x_eLshl, ↓x_eLshr, ↓x_eI2l, ↓x_eL2i, ↓x_eFldI, ↓x_eFldL, ↓x_eFldP, ↓x_eAldI, ↓x_eAldS, ↓x_eAldL, ↓x_eAldP, ↓x_eLen, ↓x_eLenS, ↓x_eCall, ↓x_eCalv, ↓x_eMin, ↓x_eMax, ↓x_eLmin, ↓x_eAbs, ↓x_eSlen, ↓x_eSat, ↓x_eIte, ↓x_eNewa, ↓x_eNewo, ↓x_esN, ↓x_esC, ↓x_cCmp, ↓x_cCmpz, ↓x_cLcmp, ↓x_cIsn, ↓x_cNot, ↓x_cAnd, ↓x_cOr, ↓x_tSkip, ↓x_tSup, ↓x_tSeq, ↓x_tSetI, ↓x_tSetL, ↓x_tSetR, ↓x_tInc, ↓x_tPutI, ↓x_tPutL, ↓x_tPutP, ↓x_tPutc, ↓x_tAstI, ↓x_tAstL, ↓x_tAstP, ↓x_tAstcI, ↓x_tAstcL, ↓x_tAcpI, ↓x_tAcpL, ↓x_tExp, ↓x_tExv, ↓x_tExw, ↓x_tIte, ↓x_tSw, ↓x_tRet, ↓x_tRetB, ↓x_tRetL, ↓x_tRetv, ↓x_tBrk, ↓x_tCont, ↓x_tThr, ↓x_wD, ↓x_wK, ↓x_jIx, ↓x_jOb, ↓x_jInt_I, ↓x_jLng_L, ↓x_jRef_R, ↓x_jStr_S, ↓x_jPls_R, ↓x_jPls_N, ↓x_jAny_R, ↓x_jAny_S, ↓jIntg_0, ↓jLngg_0, ↓jRefg_0, ↓jAnyg_0, ↓jStrg_0, ↓jPlsg_0, ↓jst_x0, ↓jst2_x0, ↓jIntg_1, ↓jLngg_1, ↓jRefg_1, ↓jAnyg_1, ↓jst_x1, ↓jst2_x1, ↓jIntg_2, ↓jLngg_2, ↓jRefg_2, ↓jAnyg_2, ↓jst_x2, ↓jst2_x2, ↓jIntg_3, ↓jLngg_3, ↓jRefg_3, ↓jAnyg_3, ↓jst_x3, ↓jst2_x3, ↓jIntg_4, ↓jLngg_4, ↓jRefg_4, ↓jAnyg_4, ↓jst_x4, ↓jst2_x4, ↓jIntg_5, ↓jLngg_5, ↓jRefg_5, ↓jAnyg_5, ↓jst_x5, ↓jst2_x5, ↓jIntg_6, ↓jLngg_6, ↓jRefg_6, ↓jAnyg_6, ↓jst_x6, ↓jst2_x6, ↓jIntg_7, ↓jLngg_7, ↓jRefg_7, ↓jAnyg_7, ↓jst_x7, ↓jst2_x7, ↓jIntg_8, ↓jLngg_8, ↓jRefg_8, ↓jAnyg_8, ↓jst_x8, ↓jst2_x8, ↓jIntg_9, ↓jLngg_9, ↓jRefg_9, ↓jAnyg_9, ↓jst_x9, ↓jst2_x9, ↓jIntg_10, ↓jLngg_10, ↓jRefg_10, ↓jAnyg_10, ↓jst_x10, ↓jst2_x10, ↓jIntg_11, ↓jLngg_11, ↓jRefg_11, ↓jAnyg_11, ↓jst_x11, ↓jst2_x11, ↓jIntg_12, ↓jLngg_12, ↓jRefg_12, ↓jAnyg_12, ↓jst_x12, ↓jst2_x12, ↓jIntg_13, ↓jLngg_13, ↓jRefg_13, ↓jAnyg_13, ↓jst_x13, ↓jst2_x13, ↓jIntg_14, ↓jLngg_14, ↓jRefg_14, ↓jAnyg_14, ↓jst_x14, ↓jst2_x14, ↓ex_some, jpv_some, jpv_none, jPls_pv, jisL_I, jisL_L, jisL_R, jisL_S, jisL_N, jisL_U, j_op0, j_op1, j_op2, j_c2, true_and, and_true, true_or, or_true, Int.toNat_natCast, nat1, ex_row, ex_row2, jwb1, jwb, jwb2, Classical.not_not, not_true_eq_false, false_implies, true_implies, ne_eq, not_false_eq_true, rV_inj, vI_inj, vL_inj, hi_tp, Nat.reduceEqDiff, Nat.reduceLeDiff, Nat.reduceAdd, Int.reduceLE, Int.reduceLT, Int.reduceEq, Int.reduceNeg, Int.reduceToNat, Int.reduceAdd, Int.reduceSub, Int.reduceMul, hsh_tp, hp_tp, hl_tp, hi_tp1, hi_tp2, hi_tp3, hi_tp4, hi_tp5, hi_tp6, hi_tp7, tp_3, tp_4, tp_5, tp_6, tp_7, oS1 hO, oS2 hO, oP1_0 hO, jf_8_1, jf_8_2, jf_8_3, jf_8_4, jf_8_5, jf_8_6, jf_8_7, h1, h3.w]
      simp (disch := omega) only [w_id]
      have hbad : ¬ (lo ≤ D ∧ D ≤ up) → jcal (Cd sc 2) 66 1 [vR 1, vI 2] (fun x σ_2 => jInt x fun x => (¬j_w x = 0 → Nq σ e a lo up v k p (rV (vI 1)) σ_2) ∧ (j_w x = 0 → Nq σ e a lo up v k p (rV (vI 0)) σ_2)) (tp σ (↑X) (↑A) V k p) := by
        intro h9
        refine (c_66 hO).val (by omega) rfl ?_
        simp only [↓x_eInt, ↓x_eLng, ↓x_eNul, ↓x_eStr, ↓x_eLoc, ↓x_eLol, ↓x_eLor, ↓x_eBin, ↓x_eDiv, ↓x_eRem, ↓x_eNeg, ↓x_eLbin, ↓x_eLdiv, ↓x_eLrem, ↓x_eLshl, ↓x_eLshr, ↓x_eI2l, ↓x_eL2i, ↓x_eFldI, ↓x_eFldL, ↓x_eFldP, ↓x_eAldI, ↓x_eAldS, ↓x_eAldL, ↓x_eAldP, ↓x_eLen, ↓x_eLenS, ↓x_eCall, ↓x_eCalv, ↓x_eMin, ↓x_eMax, ↓x_eLmin, ↓x_eAbs, ↓x_eSlen, ↓x_eSat, ↓x_eIte, ↓x_eNewa, ↓x_eNewo, ↓x_esN, ↓x_esC, ↓x_cCmp, ↓x_cCmpz, ↓x_cLcmp, ↓x_cIsn, ↓x_cNot, ↓x_cAnd, ↓x_cOr, ↓x_tSkip, ↓x_tSup, ↓x_tSeq, ↓x_tSetI, ↓x_tSetL, ↓x_tSetR, ↓x_tInc, ↓x_tPutI, ↓x_tPutL, ↓x_tPutP, ↓x_tPutc, ↓x_tAstI, ↓x_tAstL, ↓x_tAstP, ↓x_tAstcI, ↓x_tAstcL, ↓x_tAcpI, ↓x_tAcpL, ↓x_tExp, ↓x_tExv, ↓x_tExw, ↓x_tIte, ↓x_tSw, ↓x_tRet, ↓x_tRetB, ↓x_tRetL, ↓x_tRetv, ↓x_tBrk, ↓x_tCont, ↓x_tThr, ↓x_wD, ↓x_wK, ↓x_jIx, ↓x_jOb, ↓x_jInt_I, ↓x_jLng_L, ↓x_jRef_R, ↓x_jStr_S, ↓x_jPls_R, ↓x_jPls_N, ↓x_jAny_R, ↓x_jAny_S, ↓jIntg_0, ↓jLngg_0, ↓jRefg_0, ↓jAnyg_0, ↓jStrg_0, ↓jPlsg_0, ↓jst_x0, ↓jst2_x0, ↓jIntg_1, ↓jLngg_1, ↓jRefg_1, ↓jAnyg_1, ↓jst_x1, ↓jst2_x1, ↓jIntg_2, ↓jLngg_2, ↓jRefg_2, ↓jAnyg_2, ↓jst_x2, ↓jst2_x2, ↓jIntg_3, ↓jLngg_3, ↓jRefg_3, ↓jAnyg_3, ↓jst_x3, ↓jst2_x3, ↓jIntg_4, ↓jLngg_4, ↓jRefg_4, ↓jAnyg_4, ↓jst_x4, ↓jst2_x4, ↓jIntg_5, ↓jLngg_5, ↓jRefg_5, ↓jAnyg_5, ↓jst_x5, ↓jst2_x5, ↓jIntg_6, ↓jLngg_6, ↓jRefg_6, ↓jAnyg_6, ↓jst_x6, ↓jst2_x6, ↓jIntg_7, ↓jLngg_7, ↓jRefg_7, ↓jAnyg_7, ↓jst_x7, ↓jst2_x7, ↓jIntg_8, ↓jLngg_8, ↓jRefg_8, ↓jAnyg_8, ↓jst_x8, ↓jst2_x8, ↓jIntg_9, ↓jLngg_9, ↓jRefg_9, ↓jAnyg_9, ↓jst_x9, ↓jst2_x9, ↓jIntg_10, ↓jLngg_10, ↓jRefg_10, ↓jAnyg_10, ↓jst_x10, ↓jst2_x10, ↓jIntg_11, ↓jLngg_11, ↓jRefg_11, ↓jAnyg_11, ↓jst_x11, ↓jst2_x11, ↓jIntg_12, ↓jLngg_12, ↓jRefg_12, ↓jAnyg_12, ↓jst_x12, ↓jst2_x12, ↓jIntg_13, ↓jLngg_13, ↓jRefg_13, ↓jAnyg_13, ↓jst_x13, ↓jst2_x13, ↓jIntg_14, ↓jLngg_14, ↓jRefg_14, ↓jAnyg_14, ↓jst_x14, ↓jst2_x14, ↓ex_some, jpv_some, jpv_none, jPls_pv, jisL_I, jisL_L, jisL_R, jisL_S, jisL_N, jisL_U, j_op0, j_op1, j_op2, j_c2, true_and, and_true, true_or, or_true, Int.toNat_natCast, nat1, ex_row, ex_row2, jwb1, jwb, jwb2, Classical.not_not, not_true_eq_false, false_implies, true_implies, ne_eq, not_false_eq_true, rV_inj, vI_inj, vL_inj, hi_tp, Nat.reduceEqDiff, Nat.reduceLeDiff, Nat.reduceAdd, Int.reduceLE, Int.reduceLT, Int.reduceEq, Int.reduceNeg, Int.reduceToNat, Int.reduceAdd, Int.reduceSub, Int.reduceMul]
        simp (disch := omega) only [w_id]
        refine ⟨fun h => (h (by decide)).elim, fun _ => Or.inr ⟨2, A, X, V, ?_, hr2, rfl, rfl⟩⟩
        rw [hn, if_neg h9]
      refine ⟨fun h8 => ⟨fun h9 => Or.inl ⟨V.toNat, X, ?_, hr2, by omega, by omega, by omega, rfl, ?_⟩, fun h9 => hbad (by omega)⟩, fun h8 => hbad (by omega)⟩
      · rw [hn, if_pos (by omega), show ((V.toNat : Nat) : Int) = D by omega]
      · rw [hA, show ((V.toNat : Nat) : Int) = V by omega]
  · skip
    refine (c_66 hO).val (by omega) rfl ?_
    simp only [↓x_eInt, ↓x_eLng, ↓x_eNul, ↓x_eStr, ↓x_eLoc, ↓x_eLol, ↓x_eLor, ↓x_eBin, ↓x_eDiv, ↓x_eRem, ↓x_eNeg, ↓x_eLbin, ↓x_eLdiv, ↓x_eLrem, ↓x_eLshl, ↓x_eLshr, ↓x_eI2l, ↓x_eL2i, ↓x_eFldI, ↓x_eFldL, ↓x_eFldP, ↓x_eAldI, ↓x_eAldS, ↓x_eAldL, ↓x_eAldP, ↓x_eLen, ↓x_eLenS, ↓x_eCall, ↓x_eCalv, ↓x_eMin, ↓x_eMax, ↓x_eLmin, ↓x_eAbs, ↓x_eSlen, ↓x_eSat, ↓x_eIte, ↓x_eNewa, ↓x_eNewo, ↓x_esN, ↓x_esC, ↓x_cCmp, ↓x_cCmpz, ↓x_cLcmp, ↓x_cIsn, ↓x_cNot, ↓x_cAnd, ↓x_cOr, ↓x_tSkip, ↓x_tSup, ↓x_tSeq, ↓x_tSetI, ↓x_tSetL, ↓x_tSetR, ↓x_tInc, ↓x_tPutI, ↓x_tPutL, ↓x_tPutP, ↓x_tPutc, ↓x_tAstI, ↓x_tAstL, ↓x_tAstP, ↓x_tAstcI, ↓x_tAstcL, ↓x_tAcpI, ↓x_tAcpL, ↓x_tExp, ↓x_tExv, ↓x_tExw, ↓x_tIte, ↓x_tSw, ↓x_tRet, ↓x_tRetB, ↓x_tRetL, ↓x_tRetv, ↓x_tBrk, ↓x_tCont, ↓x_tThr, ↓x_wD, ↓x_wK, ↓x_jIx, ↓x_jOb, ↓x_jInt_I, ↓x_jLng_L, ↓x_jRef_R, ↓x_jStr_S, ↓x_jPls_R, ↓x_jPls_N, ↓x_jAny_R, ↓x_jAny_S, ↓jIntg_0, ↓jLngg_0, ↓jRefg_0, ↓jAnyg_0, ↓jStrg_0, ↓jPlsg_0, ↓jst_x0, ↓jst2_x0, ↓jIntg_1, ↓jLngg_1, ↓jRefg_1, ↓jAnyg_1, ↓jst_x1, ↓jst2_x1, ↓jIntg_2, ↓jLngg_2, ↓jRefg_2, ↓jAnyg_2, ↓jst_x2, ↓jst2_x2, ↓jIntg_3, ↓jLngg_3, ↓jRefg_3, ↓jAnyg_3, ↓jst_x3, ↓jst2_x3, ↓jIntg_4, ↓jLngg_4, ↓jRefg_4, ↓jAnyg_4, ↓jst_x4, ↓jst2_x4, ↓jIntg_5, ↓jLngg_5, ↓jRefg_5, ↓jAnyg_5, ↓jst_x5, ↓jst2_x5, ↓jIntg_6, ↓jLngg_6, ↓jRefg_6, ↓jAnyg_6, ↓jst_x6, ↓jst2_x6, ↓jIntg_7, ↓jLngg_7, ↓jRefg_7, ↓jAnyg_7, ↓jst_x7, ↓jst2_x7, ↓jIntg_8, ↓jLngg_8, ↓jRefg_8, ↓jAnyg_8, ↓jst_x8, ↓jst2_x8, ↓jIntg_9, ↓jLngg_9, ↓jRefg_9, ↓jAnyg_9, ↓jst_x9, ↓jst2_x9, ↓jIntg_10, ↓jLngg_10, ↓jRefg_10, ↓jAnyg_10, ↓jst_x10, ↓jst2_x10, ↓jIntg_11, ↓jLngg_11, ↓jRefg_11, ↓jAnyg_11, ↓jst_x11, ↓jst2_x11, ↓jIntg_12, ↓jLngg_12, ↓jRefg_12, ↓jAnyg_12, ↓jst_x12, ↓jst2_x12, ↓jIntg_13, ↓jLngg_13, ↓jRefg_13, ↓jAnyg_13, ↓jst_x13, ↓jst2_x13, ↓jIntg_14, ↓jLngg_14, ↓jRefg_14, ↓jAnyg_14, ↓jst_x14, ↓jst2_x14, ↓ex_some, jpv_some, jpv_none, jPls_pv, jisL_I, jisL_L, jisL_R, jisL_S, jisL_N, jisL_U, j_op0, j_op1, j_op2, j_c2, true_and, and_true, true_or, or_true, Int.toNat_natCast, nat1, ex_row, ex_row2, jwb1, jwb, jwb2, Classical.not_not, not_true_eq_false, false_implies, true_implies, ne_eq, not_false_eq_true, rV_inj, vI_inj, vL_inj, hi_tp, Nat.reduceEqDiff, Nat.reduceLeDiff, Nat.reduceAdd, Int.reduceLE, Int.reduceLT, Int.reduceEq, Int.reduceNeg, Int.reduceToNat, Int.reduceAdd, Int.reduceSub, Int.reduceMul]
    refine Or.inr ⟨1, A, A, v, ?_, hs, rfl, rfl⟩
    unfold pNum
    rw [hA, if_neg hD]
end NUM
