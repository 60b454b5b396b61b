/-! The makers (written by wip/gen8z4.py; its head is wip/8z4.head) -/
section MAKE
variable {sc : jSc} {σ τ : jH} {g : Nat → Nat → Int} {s s' : List (Nat × Nat)} {P P' : List (Nat × Nat × Nat)} {I I' : List (Nat × Nat × Nat × Int)} {C : jCR} {N B K : jN} {R : jR → jH → Prop} {L : List jV} {r c k d n t : Nat}
theorem sq_as (a b c : jS) : tSeq (tSeq a b) c sc C N B K R L σ = tSeq a (tSeq b c) sc C N B K R L σ := by
  simp only [x_tSeq]
/-- the law's own cells hold the LAW without a LAW, of version 1 -/
def Lz (g : Nat → Nat → Int) : Prop := ∀ υ : jH, hi υ 3 = g 3 → hi υ 4 = g 4 → LC υ lU 1
theorem b_no2 {b : jS} {m ci e : Nat} {s' : List (Nat × Nat)} {P' : List (Nat × Nat × Nat)} {I' : List (Nat × Nat × Nat × Int)} (hL : jget L 0 = vR r) (h : Rp g s P I σ) (hf : Rf g s.length P I) (hc : ∀ τ, Rp g (s ++ [(ci + 3, 0)]) P I τ → Ct sc e m [vR s.length] τ (fun x υ => x = rN ∧ ∃ g', Lz g' ∧ Rp g' s' P' I' υ)) (he : e ≤ d) (hs : s'[r]? = some (c + 3, 0)) (hN : ∀ g' τ, Lz g' → Rp g' s' ((r, k, s.length) :: P') I' τ → b sc (Cd sc d) N B K R L τ) : tSeq (tPutP c k (eLor 0) (eNewo ci m esN)) b sc (Cd sc d) N B K R L σ := by
  simp only [↓x_eInt, ↓x_eLng, ↓x_eNul, ↓x_eStr, ↓x_eLoc, ↓x_eLol, ↓x_eLor, ↓x_eBin, ↓x_eDiv, ↓x_eRem, ↓x_eNeg, ↓x_eLbin, ↓x_eLdiv, ↓x_eLrem, ↓x_eLshl, ↓x_eLshr, ↓x_eI2l, ↓x_eL2i, ↓x_eFldI, ↓x_eFldL, ↓x_eFldP, ↓x_eAldI, ↓x_eAldS, ↓x_eAldL, ↓x_eAldP, ↓x_eLen, ↓x_eLenS, ↓x_eCall, ↓x_eCalv, ↓x_eMin, ↓x_eMax, ↓x_eLmin, ↓x_eAbs, ↓x_eSlen, ↓x_eSat, ↓x_eIte, ↓x_eNewa, ↓x_eNewo, ↓x_esN, ↓x_esC, ↓x_cCmp, ↓x_cCmpz, ↓x_cLcmp, ↓x_cIsn, ↓x_cNot, ↓x_cAnd, ↓x_cOr, ↓x_tSkip, ↓x_tSup, ↓x_tSeq, ↓x_tSetI, ↓x_tSetL, ↓x_tSetR, ↓x_tInc, ↓x_tPutI, ↓x_tPutL, ↓x_tPutP, ↓x_tPutc, ↓x_tAstI, ↓x_tAstL, ↓x_tAstP, ↓x_tAstcI, ↓x_tAstcL, ↓x_tAcpI, ↓x_tAcpL, ↓x_tExp, ↓x_tExv, ↓x_tExw, ↓x_tIte, ↓x_tSw, ↓x_tRet, ↓x_tRetB, ↓x_tRetL, ↓x_tRetv, ↓x_tBrk, ↓x_tCont, ↓x_tThr, ↓x_wD, ↓x_wK, ↓x_jIx, ↓x_jOb, ↓x_jInt_I, ↓x_jLng_L, ↓x_jRef_R, ↓x_jStr_S, ↓x_jPls_R, ↓x_jPls_N, ↓x_jAny_R, ↓x_jAny_S, ↓jIntg_0, ↓jLngg_0, ↓jRefg_0, ↓jAnyg_0, ↓jStrg_0, ↓jPlsg_0, ↓jst_x0, ↓jst2_x0, ↓jIntg_1, ↓jLngg_1, ↓jRefg_1, ↓jAnyg_1, ↓jst_x1, ↓jst2_x1, ↓jIntg_2, ↓jLngg_2, ↓jRefg_2, ↓jAnyg_2, ↓jst_x2, ↓jst2_x2, ↓jIntg_3, ↓jLngg_3, ↓jRefg_3, ↓jAnyg_3, ↓jst_x3, ↓jst2_x3, ↓jIntg_4, ↓jLngg_4, ↓jRefg_4, ↓jAnyg_4, ↓jst_x4, ↓jst2_x4, ↓jIntg_5, ↓jLngg_5, ↓jRefg_5, ↓jAnyg_5, ↓jst_x5, ↓jst2_x5, ↓jIntg_6, ↓jLngg_6, ↓jRefg_6, ↓jAnyg_6, ↓jst_x6, ↓jst2_x6, ↓jIntg_7, ↓jLngg_7, ↓jRefg_7, ↓jAnyg_7, ↓jst_x7, ↓jst2_x7, ↓jIntg_8, ↓jLngg_8, ↓jRefg_8, ↓jAnyg_8, ↓jst_x8, ↓jst2_x8, ↓jIntg_9, ↓jLngg_9, ↓jRefg_9, ↓jAnyg_9, ↓jst_x9, ↓jst2_x9, ↓jIntg_10, ↓jLngg_10, ↓jRefg_10, ↓jAnyg_10, ↓jst_x10, ↓jst2_x10, ↓jIntg_11, ↓jLngg_11, ↓jRefg_11, ↓jAnyg_11, ↓jst_x11, ↓jst2_x11, ↓jIntg_12, ↓jLngg_12, ↓jRefg_12, ↓jAnyg_12, ↓jst_x12, ↓jst2_x12, ↓jIntg_13, ↓jLngg_13, ↓jRefg_13, ↓jAnyg_13, ↓jst_x13, ↓jst2_x13, ↓jIntg_14, ↓jLngg_14, ↓jRefg_14, ↓jAnyg_14, ↓jst_x14, ↓jst2_x14, ↓ex_some, jpv_some, jpv_none, jPls_pv, jisL_I, jisL_L, jisL_R, jisL_S, jisL_N, jisL_U, j_op0, j_op1, j_op2, j_c2, true_and, and_true, true_or, or_true, Int.toNat_natCast, nat1, ex_row, ex_row2, jwb1, jwb, jwb2, Classical.not_not, not_true_eq_false, false_implies, true_implies, ne_eq, not_false_eq_true, rV_inj, vI_inj, vL_inj, hi_tp, Nat.reduceEqDiff, Nat.reduceLeDiff, Nat.reduceAdd, Int.reduceLE, Int.reduceLT, Int.reduceEq, Int.reduceNeg, Int.reduceToNat, Int.reduceAdd, Int.reduceSub, Int.reduceMul, hL, h.1]
  refine (hc _ (h.al hf)).newo he (fun x τ hh => ⟨hh.1, ?_⟩)
  obtain ⟨-, g', h1, h2⟩ := hh
  have e1 : (hsh τ)[r]? = some (c + 3, 0) := by rw [h2.1]; exact hs
  simp only [↓x_eInt, ↓x_eLng, ↓x_eNul, ↓x_eStr, ↓x_eLoc, ↓x_eLol, ↓x_eLor, ↓x_eBin, ↓x_eDiv, ↓x_eRem, ↓x_eNeg, ↓x_eLbin, ↓x_eLdiv, ↓x_eLrem, ↓x_eLshl, ↓x_eLshr, ↓x_eI2l, ↓x_eL2i, ↓x_eFldI, ↓x_eFldL, ↓x_eFldP, ↓x_eAldI, ↓x_eAldS, ↓x_eAldL, ↓x_eAldP, ↓x_eLen, ↓x_eLenS, ↓x_eCall, ↓x_eCalv, ↓x_eMin, ↓x_eMax, ↓x_eLmin, ↓x_eAbs, ↓x_eSlen, ↓x_eSat, ↓x_eIte, ↓x_eNewa, ↓x_eNewo, ↓x_esN, ↓x_esC, ↓x_cCmp, ↓x_cCmpz, ↓x_cLcmp, ↓x_cIsn, ↓x_cNot, ↓x_cAnd, ↓x_cOr, ↓x_tSkip, ↓x_tSup, ↓x_tSeq, ↓x_tSetI, ↓x_tSetL, ↓x_tSetR, ↓x_tInc, ↓x_tPutI, ↓x_tPutL, ↓x_tPutP, ↓x_tPutc, ↓x_tAstI, ↓x_tAstL, ↓x_tAstP, ↓x_tAstcI, ↓x_tAstcL, ↓x_tAcpI, ↓x_tAcpL, ↓x_tExp, ↓x_tExv, ↓x_tExw, ↓x_tIte, ↓x_tSw, ↓x_tRet, ↓x_tRetB, ↓x_tRetL, ↓x_tRetv, ↓x_tBrk, ↓x_tCont, ↓x_tThr, ↓x_wD, ↓x_wK, ↓x_jIx, ↓x_jOb, ↓x_jInt_I, ↓x_jLng_L, ↓x_jRef_R, ↓x_jStr_S, ↓x_jPls_R, ↓x_jPls_N, ↓x_jAny_R, ↓x_jAny_S, ↓jIntg_0, ↓jLngg_0, ↓jRefg_0, ↓jAnyg_0, ↓jStrg_0, ↓jPlsg_0, ↓jst_x0, ↓jst2_x0, ↓jIntg_1, ↓jLngg_1, ↓jRefg_1, ↓jAnyg_1, ↓jst_x1, ↓jst2_x1, ↓jIntg_2, ↓jLngg_2, ↓jRefg_2, ↓jAnyg_2, ↓jst_x2, ↓jst2_x2, ↓jIntg_3, ↓jLngg_3, ↓jRefg_3, ↓jAnyg_3, ↓jst_x3, ↓jst2_x3, ↓jIntg_4, ↓jLngg_4, ↓jRefg_4, ↓jAnyg_4, ↓jst_x4, ↓jst2_x4, ↓jIntg_5, ↓jLngg_5, ↓jRefg_5, ↓jAnyg_5, ↓jst_x5, ↓jst2_x5, ↓jIntg_6, ↓jLngg_6, ↓jRefg_6, ↓jAnyg_6, ↓jst_x6, ↓jst2_x6, ↓jIntg_7, ↓jLngg_7, ↓jRefg_7, ↓jAnyg_7, ↓jst_x7, ↓jst2_x7, ↓jIntg_8, ↓jLngg_8, ↓jRefg_8, ↓jAnyg_8, ↓jst_x8, ↓jst2_x8, ↓jIntg_9, ↓jLngg_9, ↓jRefg_9, ↓jAnyg_9, ↓jst_x9, ↓jst2_x9, ↓jIntg_10, ↓jLngg_10, ↓jRefg_10, ↓jAnyg_10, ↓jst_x10, ↓jst2_x10, ↓jIntg_11, ↓jLngg_11, ↓jRefg_11, ↓jAnyg_11, ↓jst_x11, ↓jst2_x11, ↓jIntg_12, ↓jLngg_12, ↓jRefg_12, ↓jAnyg_12, ↓jst_x12, ↓jst2_x12, ↓jIntg_13, ↓jLngg_13, ↓jRefg_13, ↓jAnyg_13, ↓jst_x13, ↓jst2_x13, ↓jIntg_14, ↓jLngg_14, ↓jRefg_14, ↓jAnyg_14, ↓jst_x14, ↓jst2_x14, ↓ex_some, jpv_some, jpv_none, jPls_pv, jisL_I, jisL_L, jisL_R, jisL_S, jisL_N, jisL_U, j_op0, j_op1, j_op2, j_c2, true_and, and_true, true_or, or_true, Int.toNat_natCast, nat1, ex_row, ex_row2, jwb1, jwb, jwb2, Classical.not_not, not_true_eq_false, false_implies, true_implies, ne_eq, not_false_eq_true, rV_inj, vI_inj, vL_inj, hi_tp, Nat.reduceEqDiff, Nat.reduceLeDiff, Nat.reduceAdd, Int.reduceLE, Int.reduceLT, Int.reduceEq, Int.reduceNeg, Int.reduceToNat, Int.reduceAdd, Int.reduceSub, Int.reduceMul, e1]
  exact hN _ _ h1 h2.sp
theorem Rp.okp {lo hi : Nat} (h : Rp g s P I σ) (h1 : ∀ i q, (lo ≤ i ∧ i ≤ hi) → okSh[i]? = some q → s[i]? = some q) (h2 : ∀ x ∈ okPt, (lo ≤ x.1 ∧ x.1 ≤ hi) → lkP P x.1 x.2.1 = some x.2.2) : OkP lo hi σ :=
  ⟨by rw [h.1]; exact h1, fun x hx hl => by rw [h.2.1]; exact h2 x hx hl⟩
theorem take_ok {n : Nat} (i : Nat) (q : Nat × Nat) (h : i < n) (h1 : okSh[i]? = some q) : (okSh.take n)[i]? = some q := by
  rw [List.getElem?_take, if_pos h]; exact h1
def P_law : List (Nat × Nat × Nat) := [(3, 4, 8), (3, 3, 7), (3, 2, 6), (3, 1, 5), (3, 0, 4), (0, 0, 1), (1, 0, 2)]
theorem P_law_ok : ∀ x ∈ okPt, (1 ≤ x.1 ∧ x.1 ≤ 8) → lkP P_law x.1 x.2.1 = some x.2.2 := by decide
theorem b_law {b : jS} (h : Rp (fun _ _ => 0) s P I σ) (hd : 2 ≤ d) (hN : ∀ g τ, Lz g → Rp g s P I τ → b sc (Cd sc d) N B K R [vR 3] τ) (e1 : s = okSh.take 9 := by rfl) (e2 : P = P_law := by rfl) : tSeq (tExw 3 23 (esC (eLor 0) esN)) b sc (Cd sc d) N B K R [vR 3] σ := by
  have hO : Ok_kl σ := h.okp (fun i q hi h1 => by rw [e1]; exact take_ok i q (by omega) h1) (by rw [e2]; exact P_law_ok)
  have h3 : (hsh σ)[3]? = some (6, 0) := klS3 hO
  simp only [↓x_eInt, ↓x_eLng, ↓x_eNul, ↓x_eStr, ↓x_eLoc, ↓x_eLol, ↓x_eLor, ↓x_eBin, ↓x_eDiv, ↓x_eRem, ↓x_eNeg, ↓x_eLbin, ↓x_eLdiv, ↓x_eLrem, ↓x_eLshl, ↓x_eLshr, ↓x_eI2l, ↓x_eL2i, ↓x_eFldI, ↓x_eFldL, ↓x_eFldP, ↓x_eAldI, ↓x_eAldS, ↓x_eAldL, ↓x_eAldP, ↓x_eLen, ↓x_eLenS, ↓x_eCall, ↓x_eCalv, ↓x_eMin, ↓x_eMax, ↓x_eLmin, ↓x_eAbs, ↓x_eSlen, ↓x_eSat, ↓x_eIte, ↓x_eNewa, ↓x_eNewo, ↓x_esN, ↓x_esC, ↓x_cCmp, ↓x_cCmpz, ↓x_cLcmp, ↓x_cIsn, ↓x_cNot, ↓x_cAnd, ↓x_cOr, ↓x_tSkip, ↓x_tSup, ↓x_tSeq, ↓x_tSetI, ↓x_tSetL, ↓x_tSetR, ↓x_tInc, ↓x_tPutI, ↓x_tPutL, ↓x_tPutP, ↓x_tPutc, ↓x_tAstI, ↓x_tAstL, ↓x_tAstP, ↓x_tAstcI, ↓x_tAstcL, ↓x_tAcpI, ↓x_tAcpL, ↓x_tExp, ↓x_tExv, ↓x_tExw, ↓x_tIte, ↓x_tSw, ↓x_tRet, ↓x_tRetB, ↓x_tRetL, ↓x_tRetv, ↓x_tBrk, ↓x_tCont, ↓x_tThr, ↓x_wD, ↓x_wK, ↓x_jIx, ↓x_jOb, ↓x_jInt_I, ↓x_jLng_L, ↓x_jRef_R, ↓x_jStr_S, ↓x_jPls_R, ↓x_jPls_N, ↓x_jAny_R, ↓x_jAny_S, ↓jIntg_0, ↓jLngg_0, ↓jRefg_0, ↓jAnyg_0, ↓jStrg_0, ↓jPlsg_0, ↓jst_x0, ↓jst2_x0, ↓jIntg_1, ↓jLngg_1, ↓jRefg_1, ↓jAnyg_1, ↓jst_x1, ↓jst2_x1, ↓jIntg_2, ↓jLngg_2, ↓jRefg_2, ↓jAnyg_2, ↓jst_x2, ↓jst2_x2, ↓jIntg_3, ↓jLngg_3, ↓jRefg_3, ↓jAnyg_3, ↓jst_x3, ↓jst2_x3, ↓jIntg_4, ↓jLngg_4, ↓jRefg_4, ↓jAnyg_4, ↓jst_x4, ↓jst2_x4, ↓jIntg_5, ↓jLngg_5, ↓jRefg_5, ↓jAnyg_5, ↓jst_x5, ↓jst2_x5, ↓jIntg_6, ↓jLngg_6, ↓jRefg_6, ↓jAnyg_6, ↓jst_x6, ↓jst2_x6, ↓jIntg_7, ↓jLngg_7, ↓jRefg_7, ↓jAnyg_7, ↓jst_x7, ↓jst2_x7, ↓jIntg_8, ↓jLngg_8, ↓jRefg_8, ↓jAnyg_8, ↓jst_x8, ↓jst2_x8, ↓jIntg_9, ↓jLngg_9, ↓jRefg_9, ↓jAnyg_9, ↓jst_x9, ↓jst2_x9, ↓jIntg_10, ↓jLngg_10, ↓jRefg_10, ↓jAnyg_10, ↓jst_x10, ↓jst2_x10, ↓jIntg_11, ↓jLngg_11, ↓jRefg_11, ↓jAnyg_11, ↓jst_x11, ↓jst2_x11, ↓jIntg_12, ↓jLngg_12, ↓jRefg_12, ↓jAnyg_12, ↓jst_x12, ↓jst2_x12, ↓jIntg_13, ↓jLngg_13, ↓jRefg_13, ↓jAnyg_13, ↓jst_x13, ↓jst2_x13, ↓jIntg_14, ↓jLngg_14, ↓jRefg_14, ↓jAnyg_14, ↓jst_x14, ↓jst2_x14, ↓ex_some, jpv_some, jpv_none, jPls_pv, jisL_I, jisL_L, jisL_R, jisL_S, jisL_N, jisL_U, j_op0, j_op1, j_op2, j_c2, true_and, and_true, true_or, or_true, Int.toNat_natCast, nat1, ex_row, ex_row2, jwb1, jwb, jwb2, Classical.not_not, not_true_eq_false, false_implies, true_implies, ne_eq, not_false_eq_true, rV_inj, vI_inj, vL_inj, hi_tp, Nat.reduceEqDiff, Nat.reduceLeDiff, Nat.reduceAdd, Int.reduceLE, Int.reduceLT, Int.reduceEq, Int.reduceNeg, Int.reduceToNat, Int.reduceAdd, Int.reduceSub, Int.reduceMul, h3]
  refine (kl_c_23g (V := 0) hO (by rw [h.2.2.1]; rfl)).cat2 hd (fun x τ hh => Or.inl ⟨hh.1, ?_⟩)
  obtain ⟨-, hC, hF⟩ := hh
  refine hN (hi τ) τ (fun υ a b => ?_) ⟨hF.1.trans h.1, fun r k => by rw [hF.hp]; exact h.2.1 r k, fun r k => ?_, fun r k hr => ?_⟩
  · unfold LC at hC ⊢
    rw [a, b]; exact hC
  · by_cases hr : 3 ≤ r ∧ r ≤ 5
    · rw [if_pos hr]
    · rw [if_neg hr, hF.i (by unfold Su; omega), h.2.2.1, if_neg hr]
  · rw [hF.lr (fun k => by unfold Su; omega)]; exact h.2.2.2 r k hr
/-- the first town has the train's hours -/
theorem b_last {b : jS} (h : Rp g s P I σ) (hN : ∀ τ, Rp g s P ((58, 6, 7, 8) :: I) τ → b sc C N B K R [vR 0] τ) (e0 : s[0]? = some (14, 0) := by rfl) (e1 : s[34]? = some (13, 0) := by rfl) (e2 : s[58]? = some (12, 0) := by rfl) (p1 : lkP P 0 11 = some 58 := by rfl) (p2 : lkP P 0 9 = some 34 := by rfl) (i1 : lkI I 34 12 = 8 := by rfl) : tSeq (tPutI 9 6 (eFldP 11 11 (eLor 0)) (eFldI 10 12 (eFldP 11 9 (eLor 0)))) b sc C N B K R [vR 0] σ := by
  have a0 : (hsh σ)[0]? = some (14, 0) := by rw [h.1]; exact e0
  have a1 : (hsh σ)[34]? = some (13, 0) := by rw [h.1]; exact e1
  have a2 : (hsh σ)[58]? = some (12, 0) := by rw [h.1]; exact e2
  have b1 : hp σ 0 11 = some 58 := by rw [h.2.1]; exact p1
  have b2 : hp σ 0 9 = some 34 := by rw [h.2.1]; exact p2
  have c1 : hi σ 34 12 = 8 := by rw [h.2.2.1, if_neg (by omega)]; exact i1
  simp only [↓x_eInt, ↓x_eLng, ↓x_eNul, ↓x_eStr, ↓x_eLoc, ↓x_eLol, ↓x_eLor, ↓x_eBin, ↓x_eDiv, ↓x_eRem, ↓x_eNeg, ↓x_eLbin, ↓x_eLdiv, ↓x_eLrem, ↓x_eLshl, ↓x_eLshr, ↓x_eI2l, ↓x_eL2i, ↓x_eFldI, ↓x_eFldL, ↓x_eFldP, ↓x_eAldI, ↓x_eAldS, ↓x_eAldL, ↓x_eAldP, ↓x_eLen, ↓x_eLenS, ↓x_eCall, ↓x_eCalv, ↓x_eMin, ↓x_eMax, ↓x_eLmin, ↓x_eAbs, ↓x_eSlen, ↓x_eSat, ↓x_eIte, ↓x_eNewa, ↓x_eNewo, ↓x_esN, ↓x_esC, ↓x_cCmp, ↓x_cCmpz, ↓x_cLcmp, ↓x_cIsn, ↓x_cNot, ↓x_cAnd, ↓x_cOr, ↓x_tSkip, ↓x_tSup, ↓x_tSeq, ↓x_tSetI, ↓x_tSetL, ↓x_tSetR, ↓x_tInc, ↓x_tPutI, ↓x_tPutL, ↓x_tPutP, ↓x_tPutc, ↓x_tAstI, ↓x_tAstL, ↓x_tAstP, ↓x_tAstcI, ↓x_tAstcL, ↓x_tAcpI, ↓x_tAcpL, ↓x_tExp, ↓x_tExv, ↓x_tExw, ↓x_tIte, ↓x_tSw, ↓x_tRet, ↓x_tRetB, ↓x_tRetL, ↓x_tRetv, ↓x_tBrk, ↓x_tCont, ↓x_tThr, ↓x_wD, ↓x_wK, ↓x_jIx, ↓x_jOb, ↓x_jInt_I, ↓x_jLng_L, ↓x_jRef_R, ↓x_jStr_S, ↓x_jPls_R, ↓x_jPls_N, ↓x_jAny_R, ↓x_jAny_S, ↓jIntg_0, ↓jLngg_0, ↓jRefg_0, ↓jAnyg_0, ↓jStrg_0, ↓jPlsg_0, ↓jst_x0, ↓jst2_x0, ↓jIntg_1, ↓jLngg_1, ↓jRefg_1, ↓jAnyg_1, ↓jst_x1, ↓jst2_x1, ↓jIntg_2, ↓jLngg_2, ↓jRefg_2, ↓jAnyg_2, ↓jst_x2, ↓jst2_x2, ↓jIntg_3, ↓jLngg_3, ↓jRefg_3, ↓jAnyg_3, ↓jst_x3, ↓jst2_x3, ↓jIntg_4, ↓jLngg_4, ↓jRefg_4, ↓jAnyg_4, ↓jst_x4, ↓jst2_x4, ↓jIntg_5, ↓jLngg_5, ↓jRefg_5, ↓jAnyg_5, ↓jst_x5, ↓jst2_x5, ↓jIntg_6, ↓jLngg_6, ↓jRefg_6, ↓jAnyg_6, ↓jst_x6, ↓jst2_x6, ↓jIntg_7, ↓jLngg_7, ↓jRefg_7, ↓jAnyg_7, ↓jst_x7, ↓jst2_x7, ↓jIntg_8, ↓jLngg_8, ↓jRefg_8, ↓jAnyg_8, ↓jst_x8, ↓jst2_x8, ↓jIntg_9, ↓jLngg_9, ↓jRefg_9, ↓jAnyg_9, ↓jst_x9, ↓jst2_x9, ↓jIntg_10, ↓jLngg_10, ↓jRefg_10, ↓jAnyg_10, ↓jst_x10, ↓jst2_x10, ↓jIntg_11, ↓jLngg_11, ↓jRefg_11, ↓jAnyg_11, ↓jst_x11, ↓jst2_x11, ↓jIntg_12, ↓jLngg_12, ↓jRefg_12, ↓jAnyg_12, ↓jst_x12, ↓jst2_x12, ↓jIntg_13, ↓jLngg_13, ↓jRefg_13, ↓jAnyg_13, ↓jst_x13, ↓jst2_x13, ↓jIntg_14, ↓jLngg_14, ↓jRefg_14, ↓jAnyg_14, ↓jst_x14, ↓jst2_x14, ↓ex_some, jpv_some, jpv_none, jPls_pv, jisL_I, jisL_L, jisL_R, jisL_S, jisL_N, jisL_U, j_op0, j_op1, j_op2, j_c2, true_and, and_true, true_or, or_true, Int.toNat_natCast, nat1, ex_row, ex_row2, jwb1, jwb, jwb2, Classical.not_not, not_true_eq_false, false_implies, true_implies, ne_eq, not_false_eq_true, rV_inj, vI_inj, vL_inj, hi_tp, Nat.reduceEqDiff, Nat.reduceLeDiff, Nat.reduceAdd, Int.reduceLE, Int.reduceLT, Int.reduceEq, Int.reduceNeg, Int.reduceToNat, Int.reduceAdd, Int.reduceSub, Int.reduceMul, a0, a1, a2, b1, b2, c1]
  exact ⟨(jf_9_6 _).mpr trivial, hN _ (h.si (by omega))⟩
end MAKE
set_option maxRecDepth 20000 in
theorem k_62_1 {sc : jSc} {σ : jH} (h : Rp (fun _ _ => 0) (okSh.take 2) [] [] σ) : Ct sc 1 62 [vR 1] σ (fun r τ => r = rN ∧ Rp (fun _ _ => 0) (okSh.take 3) [(1, 0, 2)] [(1, 7, 8, (-1))] τ) := by
  refine Ct.of (n := 0) (L := [vR 1]) cov_62 rfl (Nat.le_of_ble_eq_true rfl) ?_
  unfold T_62
  refine b_su (r := 1) rfl ?_
  refine b_na (r := 1) rfl h rfl ⟨rfl, Or.inl rfl⟩ (by decide) (fun σ h => ?_)
  refine b_fi (r := 1) rfl h rfl ((jf_8_7 _).mpr trivial) (by decide) (fun σ h => ?_)
  rw [x_tRetv]
  exact ⟨rfl, h.cast rfl rfl rfl⟩
set_option maxRecDepth 20000 in
theorem k_21_3 {sc : jSc} {σ : jH} (h : Rp (fun _ _ => 0) (okSh.take 4) [(0, 0, 1), (1, 0, 2)] [(1, 7, 8, (-1))] σ) : Ct sc 3 21 [vR 3] σ (fun r τ => r = rN ∧ ∃ g, Lz g ∧ Rp g (okSh.take 9) [(3, 4, 8), (3, 3, 7), (3, 2, 6), (3, 1, 5), (3, 0, 4), (0, 0, 1), (1, 0, 2)] [(1, 7, 8, (-1))] τ) := by
  refine Ct.of (n := 2) (L := [vR 3]) cov_21 rfl (Nat.le_of_ble_eq_true rfl) ?_
  unfold T_21
  refine b_su (r := 3) rfl ?_
  refine b_na (r := 3) rfl h rfl ⟨rfl, Or.inl rfl⟩ (by decide) (fun σ h => ?_)
  refine b_na (r := 3) rfl h rfl ⟨rfl, Or.inl rfl⟩ (by decide) (fun σ h => ?_)
  refine b_na (r := 3) rfl h rfl ⟨rfl, Or.inl rfl⟩ (by decide) (fun σ h => ?_)
  refine b_na (r := 3) rfl h rfl ⟨rfl, Or.inl rfl⟩ (by decide) (fun σ h => ?_)
  refine b_na (r := 3) rfl h rfl ⟨rfl, Or.inl rfl⟩ (by decide) (fun σ h => ?_)
  refine b_law h (by decide) (fun g σ hg h => ?_)
  rw [x_tRetv]
  exact ⟨rfl, g, hg, h.cast rfl rfl rfl⟩
set_option maxRecDepth 20000 in
theorem k_9_9 {sc : jSc} {g : Nat → Nat → Int} {σ : jH} (h : Rp g (okSh.take 10) [(0, 1, 3), (3, 4, 8), (3, 3, 7), (3, 2, 6), (3, 1, 5), (3, 0, 4), (0, 0, 1), (1, 0, 2)] [(1, 7, 8, (-1))] σ) : Ct sc 2 9 [vR 9] σ (fun r τ => r = rN ∧ Rp g (okSh.take 12) [(9, 1, 11), (9, 0, 10), (0, 1, 3), (3, 4, 8), (3, 3, 7), (3, 2, 6), (3, 1, 5), (3, 0, 4), (0, 0, 1), (1, 0, 2)] [(10, 0, 12, (-1)), (1, 7, 8, (-1))] τ) := by
  refine Ct.of (n := 1) (L := [vR 9]) cov_9 rfl (Nat.le_of_ble_eq_true rfl) ?_
  unfold T_9
  refine b_su (r := 9) rfl ?_
  refine b_na (r := 9) rfl h rfl ⟨rfl, Or.inr (by decide)⟩ (by decide) (fun σ h => ?_)
  refine b_na (r := 9) rfl h rfl ⟨rfl, Or.inr (by decide)⟩ (by decide) (fun σ h => ?_)
  refine b_fl (r := 9) (q := 10) (n := 12) rfl h rfl rfl rfl (by decide) (by decide) (by decide) (fun σ h => ?_)
  rw [x_tRetv]
  exact ⟨rfl, h.cast rfl rfl rfl⟩
set_option maxRecDepth 20000 in
theorem k_51_12 {sc : jSc} {g : Nat → Nat → Int} {σ : jH} (h : Rp g (okSh.take 13) [(0, 2, 9), (9, 1, 11), (9, 0, 10), (0, 1, 3), (3, 4, 8), (3, 3, 7), (3, 2, 6), (3, 1, 5), (3, 0, 4), (0, 0, 1), (1, 0, 2)] [(10, 0, 12, (-1)), (1, 7, 8, (-1))] σ) : Ct sc 1 51 [vR 12] σ (fun r τ => r = rN ∧ Rp g (okSh.take 18) [(12, 4, 17), (12, 3, 16), (12, 2, 15), (12, 1, 14), (12, 0, 13), (0, 2, 9), (9, 1, 11), (9, 0, 10), (0, 1, 3), (3, 4, 8), (3, 3, 7), (3, 2, 6), (3, 1, 5), (3, 0, 4), (0, 0, 1), (1, 0, 2)] [(10, 0, 12, (-1)), (1, 7, 8, (-1))] τ) := by
  refine Ct.of (n := 0) (L := [vR 12]) cov_51 rfl (Nat.le_of_ble_eq_true rfl) ?_
  unfold T_51
  refine b_su (r := 12) rfl ?_
  refine b_na (r := 12) rfl h rfl ⟨rfl, Or.inr (by decide)⟩ (by decide) (fun σ h => ?_)
  refine b_na (r := 12) rfl h rfl ⟨rfl, Or.inr (by decide)⟩ (by decide) (fun σ h => ?_)
  refine b_na (r := 12) rfl h rfl ⟨rfl, Or.inr (by decide)⟩ (by decide) (fun σ h => ?_)
  refine b_na (r := 12) rfl h rfl ⟨rfl, Or.inr (by decide)⟩ (by decide) (fun σ h => ?_)
  refine b_na (r := 12) rfl h rfl ⟨rfl, Or.inr (by decide)⟩ (by decide) (fun σ h => ?_)
  rw [x_tRetv]
  exact ⟨rfl, h.cast rfl rfl rfl⟩
set_option maxRecDepth 20000 in
theorem k_0_18 {sc : jSc} {g : Nat → Nat → Int} {σ : jH} (h : Rp g (okSh.take 19) [(0, 3, 12), (12, 4, 17), (12, 3, 16), (12, 2, 15), (12, 1, 14), (12, 0, 13), (0, 2, 9), (9, 1, 11), (9, 0, 10), (0, 1, 3), (3, 4, 8), (3, 3, 7), (3, 2, 6), (3, 1, 5), (3, 0, 4), (0, 0, 1), (1, 0, 2)] [(10, 0, 12, (-1)), (1, 7, 8, (-1))] σ) : Ct sc 1 0 [vR 18] σ (fun r τ => r = rN ∧ Rp g (okSh.take 22) [(18, 2, 21), (18, 1, 20), (18, 0, 19), (0, 3, 12), (12, 4, 17), (12, 3, 16), (12, 2, 15), (12, 1, 14), (12, 0, 13), (0, 2, 9), (9, 1, 11), (9, 0, 10), (0, 1, 3), (3, 4, 8), (3, 3, 7), (3, 2, 6), (3, 1, 5), (3, 0, 4), (0, 0, 1), (1, 0, 2)] [(18, 4, 5, (-1)), (10, 0, 12, (-1)), (1, 7, 8, (-1))] τ) := by
  refine Ct.of (n := 0) (L := [vR 18]) cov_0 rfl (Nat.le_of_ble_eq_true rfl) ?_
  unfold T_0
  refine b_su (r := 18) rfl ?_
  refine b_na (r := 18) rfl h rfl ⟨rfl, Or.inr (by decide)⟩ (by decide) (fun σ h => ?_)
  refine b_na (r := 18) rfl h rfl ⟨rfl, Or.inr (by decide)⟩ (by decide) (fun σ h => ?_)
  refine b_na (r := 18) rfl h rfl ⟨rfl, Or.inr (by decide)⟩ (by decide) (fun σ h => ?_)
  refine b_fi (r := 18) rfl h rfl ((jf_0_4 _).mpr trivial) (by decide) (fun σ h => ?_)
  rw [x_tRetv]
  exact ⟨rfl, h.cast rfl rfl rfl⟩
set_option maxRecDepth 20000 in
theorem k_41_22 {sc : jSc} {g : Nat → Nat → Int} {σ : jH} (h : Rp g (okSh.take 23) [(0, 4, 18), (18, 2, 21), (18, 1, 20), (18, 0, 19), (0, 3, 12), (12, 4, 17), (12, 3, 16), (12, 2, 15), (12, 1, 14), (12, 0, 13), (0, 2, 9), (9, 1, 11), (9, 0, 10), (0, 1, 3), (3, 4, 8), (3, 3, 7), (3, 2, 6), (3, 1, 5), (3, 0, 4), (0, 0, 1), (1, 0, 2)] [(18, 4, 5, (-1)), (10, 0, 12, (-1)), (1, 7, 8, (-1))] σ) : Ct sc 1 41 [vR 22] σ (fun r τ => r = rN ∧ Rp g (okSh.take 24) [(22, 0, 23), (0, 4, 18), (18, 2, 21), (18, 1, 20), (18, 0, 19), (0, 3, 12), (12, 4, 17), (12, 3, 16), (12, 2, 15), (12, 1, 14), (12, 0, 13), (0, 2, 9), (9, 1, 11), (9, 0, 10), (0, 1, 3), (3, 4, 8), (3, 3, 7), (3, 2, 6), (3, 1, 5), (3, 0, 4), (0, 0, 1), (1, 0, 2)] [(18, 4, 5, (-1)), (10, 0, 12, (-1)), (1, 7, 8, (-1))] τ) := by
  refine Ct.of (n := 0) (L := [vR 22]) cov_41 rfl (Nat.le_of_ble_eq_true rfl) ?_
  unfold T_41
  refine b_su (r := 22) rfl ?_
  refine b_na (r := 22) rfl h rfl ⟨rfl, Or.inr (by decide)⟩ (by decide) (fun σ h => ?_)
  rw [x_tRetv]
  exact ⟨rfl, h.cast rfl rfl rfl⟩
set_option maxRecDepth 20000 in
theorem k_15_24 {sc : jSc} {g : Nat → Nat → Int} {σ : jH} (h : Rp g (okSh.take 25) [(0, 5, 22), (22, 0, 23), (0, 4, 18), (18, 2, 21), (18, 1, 20), (18, 0, 19), (0, 3, 12), (12, 4, 17), (12, 3, 16), (12, 2, 15), (12, 1, 14), (12, 0, 13), (0, 2, 9), (9, 1, 11), (9, 0, 10), (0, 1, 3), (3, 4, 8), (3, 3, 7), (3, 2, 6), (3, 1, 5), (3, 0, 4), (0, 0, 1), (1, 0, 2)] [(18, 4, 5, (-1)), (10, 0, 12, (-1)), (1, 7, 8, (-1))] σ) : Ct sc 1 15 [vR 24] σ (fun r τ => r = rN ∧ Rp g (okSh.take 27) [(24, 1, 26), (24, 0, 25), (0, 5, 22), (22, 0, 23), (0, 4, 18), (18, 2, 21), (18, 1, 20), (18, 0, 19), (0, 3, 12), (12, 4, 17), (12, 3, 16), (12, 2, 15), (12, 1, 14), (12, 0, 13), (0, 2, 9), (9, 1, 11), (9, 0, 10), (0, 1, 3), (3, 4, 8), (3, 3, 7), (3, 2, 6), (3, 1, 5), (3, 0, 4), (0, 0, 1), (1, 0, 2)] [(24, 2, 3, (-1)), (18, 4, 5, (-1)), (10, 0, 12, (-1)), (1, 7, 8, (-1))] τ) := by
  refine Ct.of (n := 0) (L := [vR 24]) cov_15 rfl (Nat.le_of_ble_eq_true rfl) ?_
  unfold T_15
  refine b_su (r := 24) rfl ?_
  refine b_na (r := 24) rfl h rfl ⟨rfl, Or.inr (by decide)⟩ (by decide) (fun σ h => ?_)
  refine b_na (r := 24) rfl h rfl ⟨rfl, Or.inr (by decide)⟩ (by decide) (fun σ h => ?_)
  refine b_fi (r := 24) rfl h rfl ((jf_2_2 _).mpr trivial) (by decide) (fun σ h => ?_)
  rw [x_tRetv]
  exact ⟨rfl, h.cast rfl rfl rfl⟩
set_option maxRecDepth 20000 in
theorem k_75_28 {sc : jSc} {g : Nat → Nat → Int} {σ : jH} (h : Rp g (okSh.take 29) [(0, 6, 24), (24, 1, 26), (24, 0, 25), (0, 5, 22), (22, 0, 23), (0, 4, 18), (18, 2, 21), (18, 1, 20), (18, 0, 19), (0, 3, 12), (12, 4, 17), (12, 3, 16), (12, 2, 15), (12, 1, 14), (12, 0, 13), (0, 2, 9), (9, 1, 11), (9, 0, 10), (0, 1, 3), (3, 4, 8), (3, 3, 7), (3, 2, 6), (3, 1, 5), (3, 0, 4), (0, 0, 1), (1, 0, 2)] [(24, 2, 3, (-1)), (18, 4, 5, (-1)), (10, 0, 12, (-1)), (1, 7, 8, (-1))] σ) : Ct sc 2 75 [vR 28] σ (fun r τ => r = rN ∧ Rp g (okSh.take 33) [(28, 3, 32), (28, 2, 31), (28, 1, 30), (28, 0, 29), (0, 6, 24), (24, 1, 26), (24, 0, 25), (0, 5, 22), (22, 0, 23), (0, 4, 18), (18, 2, 21), (18, 1, 20), (18, 0, 19), (0, 3, 12), (12, 4, 17), (12, 3, 16), (12, 2, 15), (12, 1, 14), (12, 0, 13), (0, 2, 9), (9, 1, 11), (9, 0, 10), (0, 1, 3), (3, 4, 8), (3, 3, 7), (3, 2, 6), (3, 1, 5), (3, 0, 4), (0, 0, 1), (1, 0, 2)] [(31, 0, 12, (-1)), (30, 0, 8, (-1)), (29, 0, 8, (-1)), (24, 2, 3, (-1)), (18, 4, 5, (-1)), (10, 0, 12, (-1)), (1, 7, 8, (-1))] τ) := by
  refine Ct.of (n := 1) (L := [vR 28]) cov_75 rfl (Nat.le_of_ble_eq_true rfl) ?_
  unfold T_75
  refine b_su (r := 28) rfl ?_
  refine b_na (r := 28) rfl h rfl ⟨rfl, Or.inr (by decide)⟩ (by decide) (fun σ h => ?_)
  refine b_na (r := 28) rfl h rfl ⟨rfl, Or.inr (by decide)⟩ (by decide) (fun σ h => ?_)
  refine b_na (r := 28) rfl h rfl ⟨rfl, Or.inr (by decide)⟩ (by decide) (fun σ h => ?_)
  refine b_na (r := 28) rfl h rfl ⟨rfl, Or.inr (by decide)⟩ (by decide) (fun σ h => ?_)
  rw [sq_as]
  refine b_fl (r := 28) (q := 29) (n := 8) rfl h rfl rfl rfl (by decide) (by decide) (by decide) (fun σ h => ?_)
  rw [sq_as]
  refine b_fl (r := 28) (q := 30) (n := 8) rfl h rfl rfl rfl (by decide) (by decide) (by decide) (fun σ h => ?_)
  refine b_fl (r := 28) (q := 31) (n := 12) rfl h rfl rfl rfl (by decide) (by decide) (by decide) (fun σ h => ?_)
  rw [x_tRetv]
  exact ⟨rfl, h.cast rfl rfl rfl⟩
set_option maxRecDepth 20000 in
theorem k_48_27 {sc : jSc} {g : Nat → Nat → Int} {σ : jH} (h : Rp g (okSh.take 28) [(0, 6, 24), (24, 1, 26), (24, 0, 25), (0, 5, 22), (22, 0, 23), (0, 4, 18), (18, 2, 21), (18, 1, 20), (18, 0, 19), (0, 3, 12), (12, 4, 17), (12, 3, 16), (12, 2, 15), (12, 1, 14), (12, 0, 13), (0, 2, 9), (9, 1, 11), (9, 0, 10), (0, 1, 3), (3, 4, 8), (3, 3, 7), (3, 2, 6), (3, 1, 5), (3, 0, 4), (0, 0, 1), (1, 0, 2)] [(24, 2, 3, (-1)), (18, 4, 5, (-1)), (10, 0, 12, (-1)), (1, 7, 8, (-1))] σ) : Ct sc 3 48 [vR 27] σ (fun r τ => r = rN ∧ Rp g (okSh.take 33) [(27, 0, 28), (28, 3, 32), (28, 2, 31), (28, 1, 30), (28, 0, 29), (0, 6, 24), (24, 1, 26), (24, 0, 25), (0, 5, 22), (22, 0, 23), (0, 4, 18), (18, 2, 21), (18, 1, 20), (18, 0, 19), (0, 3, 12), (12, 4, 17), (12, 3, 16), (12, 2, 15), (12, 1, 14), (12, 0, 13), (0, 2, 9), (9, 1, 11), (9, 0, 10), (0, 1, 3), (3, 4, 8), (3, 3, 7), (3, 2, 6), (3, 1, 5), (3, 0, 4), (0, 0, 1), (1, 0, 2)] [(31, 0, 12, (-1)), (30, 0, 8, (-1)), (29, 0, 8, (-1)), (24, 2, 3, (-1)), (18, 4, 5, (-1)), (10, 0, 12, (-1)), (1, 7, 8, (-1))] τ) := by
  refine Ct.of (n := 2) (L := [vR 27]) cov_48 rfl (Nat.le_of_ble_eq_true rfl) ?_
  unfold T_48
  refine b_su (r := 27) rfl ?_
  refine b_no (r := 27) rfl h ⟨rfl, Or.inr (by decide)⟩ (fun _ hk => k_75_28 (hk.cast rfl rfl rfl)) (by decide) rfl (fun σ h => ?_)
  rw [x_tRetv]
  exact ⟨rfl, h.cast rfl rfl rfl⟩
set_option maxRecDepth 20000 in
theorem k_35_43 {sc : jSc} {g : Nat → Nat → Int} {σ : jH} (h : Rp g (okSh.take 44) [(34, 7, 42), (34, 6, 41), (34, 5, 40), (34, 4, 39), (34, 3, 38), (34, 2, 37), (34, 1, 36), (34, 0, 35), (0, 8, 33), (0, 7, 27), (27, 0, 28), (28, 3, 32), (28, 2, 31), (28, 1, 30), (28, 0, 29), (0, 6, 24), (24, 1, 26), (24, 0, 25), (0, 5, 22), (22, 0, 23), (0, 4, 18), (18, 2, 21), (18, 1, 20), (18, 0, 19), (0, 3, 12), (12, 4, 17), (12, 3, 16), (12, 2, 15), (12, 1, 14), (12, 0, 13), (0, 2, 9), (9, 1, 11), (9, 0, 10), (0, 1, 3), (3, 4, 8), (3, 3, 7), (3, 2, 6), (3, 1, 5), (3, 0, 4), (0, 0, 1), (1, 0, 2)] [(31, 0, 12, (-1)), (30, 0, 8, (-1)), (29, 0, 8, (-1)), (24, 2, 3, (-1)), (18, 4, 5, (-1)), (10, 0, 12, (-1)), (1, 7, 8, (-1))] σ) : Ct sc 1 35 [vR 43] σ (fun r τ => r = rN ∧ Rp g (okSh.take 46) [(43, 1, 45), (43, 0, 44), (34, 7, 42), (34, 6, 41), (34, 5, 40), (34, 4, 39), (34, 3, 38), (34, 2, 37), (34, 1, 36), (34, 0, 35), (0, 8, 33), (0, 7, 27), (27, 0, 28), (28, 3, 32), (28, 2, 31), (28, 1, 30), (28, 0, 29), (0, 6, 24), (24, 1, 26), (24, 0, 25), (0, 5, 22), (22, 0, 23), (0, 4, 18), (18, 2, 21), (18, 1, 20), (18, 0, 19), (0, 3, 12), (12, 4, 17), (12, 3, 16), (12, 2, 15), (12, 1, 14), (12, 0, 13), (0, 2, 9), (9, 1, 11), (9, 0, 10), (0, 1, 3), (3, 4, 8), (3, 3, 7), (3, 2, 6), (3, 1, 5), (3, 0, 4), (0, 0, 1), (1, 0, 2)] [(31, 0, 12, (-1)), (30, 0, 8, (-1)), (29, 0, 8, (-1)), (24, 2, 3, (-1)), (18, 4, 5, (-1)), (10, 0, 12, (-1)), (1, 7, 8, (-1))] τ) := by
  refine Ct.of (n := 0) (L := [vR 43]) cov_35 rfl (Nat.le_of_ble_eq_true rfl) ?_
  unfold T_35
  refine b_su (r := 43) rfl ?_
  refine b_na (r := 43) rfl h rfl ⟨rfl, Or.inr (by decide)⟩ (by decide) (fun σ h => ?_)
  refine b_na (r := 43) rfl h rfl ⟨rfl, Or.inr (by decide)⟩ (by decide) (fun σ h => ?_)
  rw [x_tRetv]
  exact ⟨rfl, h.cast rfl rfl rfl⟩
set_option maxRecDepth 20000 in
theorem k_94_34 {sc : jSc} {g : Nat → Nat → Int} {σ : jH} (h : Rp g (okSh.take 35) [(0, 8, 33), (0, 7, 27), (27, 0, 28), (28, 3, 32), (28, 2, 31), (28, 1, 30), (28, 0, 29), (0, 6, 24), (24, 1, 26), (24, 0, 25), (0, 5, 22), (22, 0, 23), (0, 4, 18), (18, 2, 21), (18, 1, 20), (18, 0, 19), (0, 3, 12), (12, 4, 17), (12, 3, 16), (12, 2, 15), (12, 1, 14), (12, 0, 13), (0, 2, 9), (9, 1, 11), (9, 0, 10), (0, 1, 3), (3, 4, 8), (3, 3, 7), (3, 2, 6), (3, 1, 5), (3, 0, 4), (0, 0, 1), (1, 0, 2)] [(31, 0, 12, (-1)), (30, 0, 8, (-1)), (29, 0, 8, (-1)), (24, 2, 3, (-1)), (18, 4, 5, (-1)), (10, 0, 12, (-1)), (1, 7, 8, (-1))] σ) : Ct sc 2 94 [vR 34] σ (fun r τ => r = rN ∧ Rp g (okSh.take 46) [(34, 8, 43), (43, 1, 45), (43, 0, 44), (34, 7, 42), (34, 6, 41), (34, 5, 40), (34, 4, 39), (34, 3, 38), (34, 2, 37), (34, 1, 36), (34, 0, 35), (0, 8, 33), (0, 7, 27), (27, 0, 28), (28, 3, 32), (28, 2, 31), (28, 1, 30), (28, 0, 29), (0, 6, 24), (24, 1, 26), (24, 0, 25), (0, 5, 22), (22, 0, 23), (0, 4, 18), (18, 2, 21), (18, 1, 20), (18, 0, 19), (0, 3, 12), (12, 4, 17), (12, 3, 16), (12, 2, 15), (12, 1, 14), (12, 0, 13), (0, 2, 9), (9, 1, 11), (9, 0, 10), (0, 1, 3), (3, 4, 8), (3, 3, 7), (3, 2, 6), (3, 1, 5), (3, 0, 4), (0, 0, 1), (1, 0, 2)] [(34, 13, 14, 5), (34, 12, 13, 8), (31, 0, 12, (-1)), (30, 0, 8, (-1)), (29, 0, 8, (-1)), (24, 2, 3, (-1)), (18, 4, 5, (-1)), (10, 0, 12, (-1)), (1, 7, 8, (-1))] τ) := by
  refine Ct.of (n := 1) (L := [vR 34]) cov_94 rfl (Nat.le_of_ble_eq_true rfl) ?_
  unfold T_94
  refine b_su (r := 34) rfl ?_
  refine b_na (r := 34) rfl h rfl ⟨rfl, Or.inr (by decide)⟩ (by decide) (fun σ h => ?_)
  refine b_na (r := 34) rfl h rfl ⟨rfl, Or.inr (by decide)⟩ (by decide) (fun σ h => ?_)
  refine b_na (r := 34) rfl h rfl ⟨rfl, Or.inr (by decide)⟩ (by decide) (fun σ h => ?_)
  refine b_na (r := 34) rfl h rfl ⟨rfl, Or.inr (by decide)⟩ (by decide) (fun σ h => ?_)
  refine b_na (r := 34) rfl h rfl ⟨rfl, Or.inr (by decide)⟩ (by decide) (fun σ h => ?_)
  refine b_na (r := 34) rfl h rfl ⟨rfl, Or.inr (by decide)⟩ (by decide) (fun σ h => ?_)
  refine b_na (r := 34) rfl h rfl ⟨rfl, Or.inr (by decide)⟩ (by decide) (fun σ h => ?_)
  refine b_na (r := 34) rfl h rfl ⟨rfl, Or.inr (by decide)⟩ (by decide) (fun σ h => ?_)
  refine b_no (r := 34) rfl h ⟨rfl, Or.inr (by decide)⟩ (fun _ hk => k_35_43 (hk.cast rfl rfl rfl)) (by decide) rfl (fun σ h => ?_)
  refine b_fi (r := 34) rfl h rfl ((jf_10_12 _).mpr trivial) (by decide) (fun σ h => ?_)
  refine b_fi (r := 34) rfl h rfl ((jf_10_13 _).mpr trivial) (by decide) (fun σ h => ?_)
  rw [x_tRetv]
  exact ⟨rfl, h.cast rfl rfl rfl⟩
set_option maxRecDepth 20000 in
theorem k_35_55 {sc : jSc} {g : Nat → Nat → Int} {σ : jH} (h : Rp g (okSh.take 56) [(46, 7, 54), (46, 6, 53), (46, 5, 52), (46, 4, 51), (46, 3, 50), (46, 2, 49), (46, 1, 48), (46, 0, 47), (0, 9, 34), (34, 8, 43), (43, 1, 45), (43, 0, 44), (34, 7, 42), (34, 6, 41), (34, 5, 40), (34, 4, 39), (34, 3, 38), (34, 2, 37), (34, 1, 36), (34, 0, 35), (0, 8, 33), (0, 7, 27), (27, 0, 28), (28, 3, 32), (28, 2, 31), (28, 1, 30), (28, 0, 29), (0, 6, 24), (24, 1, 26), (24, 0, 25), (0, 5, 22), (22, 0, 23), (0, 4, 18), (18, 2, 21), (18, 1, 20), (18, 0, 19), (0, 3, 12), (12, 4, 17), (12, 3, 16), (12, 2, 15), (12, 1, 14), (12, 0, 13), (0, 2, 9), (9, 1, 11), (9, 0, 10), (0, 1, 3), (3, 4, 8), (3, 3, 7), (3, 2, 6), (3, 1, 5), (3, 0, 4), (0, 0, 1), (1, 0, 2)] [(34, 13, 14, 5), (34, 12, 13, 8), (31, 0, 12, (-1)), (30, 0, 8, (-1)), (29, 0, 8, (-1)), (24, 2, 3, (-1)), (18, 4, 5, (-1)), (10, 0, 12, (-1)), (1, 7, 8, (-1))] σ) : Ct sc 1 35 [vR 55] σ (fun r τ => r = rN ∧ Rp g (okSh.take 58) [(55, 1, 57), (55, 0, 56), (46, 7, 54), (46, 6, 53), (46, 5, 52), (46, 4, 51), (46, 3, 50), (46, 2, 49), (46, 1, 48), (46, 0, 47), (0, 9, 34), (34, 8, 43), (43, 1, 45), (43, 0, 44), (34, 7, 42), (34, 6, 41), (34, 5, 40), (34, 4, 39), (34, 3, 38), (34, 2, 37), (34, 1, 36), (34, 0, 35), (0, 8, 33), (0, 7, 27), (27, 0, 28), (28, 3, 32), (28, 2, 31), (28, 1, 30), (28, 0, 29), (0, 6, 24), (24, 1, 26), (24, 0, 25), (0, 5, 22), (22, 0, 23), (0, 4, 18), (18, 2, 21), (18, 1, 20), (18, 0, 19), (0, 3, 12), (12, 4, 17), (12, 3, 16), (12, 2, 15), (12, 1, 14), (12, 0, 13), (0, 2, 9), (9, 1, 11), (9, 0, 10), (0, 1, 3), (3, 4, 8), (3, 3, 7), (3, 2, 6), (3, 1, 5), (3, 0, 4), (0, 0, 1), (1, 0, 2)] [(34, 13, 14, 5), (34, 12, 13, 8), (31, 0, 12, (-1)), (30, 0, 8, (-1)), (29, 0, 8, (-1)), (24, 2, 3, (-1)), (18, 4, 5, (-1)), (10, 0, 12, (-1)), (1, 7, 8, (-1))] τ) := by
  refine Ct.of (n := 0) (L := [vR 55]) cov_35 rfl (Nat.le_of_ble_eq_true rfl) ?_
  unfold T_35
  refine b_su (r := 55) rfl ?_
  refine b_na (r := 55) rfl h rfl ⟨rfl, Or.inr (by decide)⟩ (by decide) (fun σ h => ?_)
  refine b_na (r := 55) rfl h rfl ⟨rfl, Or.inr (by decide)⟩ (by decide) (fun σ h => ?_)
  rw [x_tRetv]
  exact ⟨rfl, h.cast rfl rfl rfl⟩
set_option maxRecDepth 20000 in
theorem k_94_46 {sc : jSc} {g : Nat → Nat → Int} {σ : jH} (h : Rp g (okSh.take 47) [(0, 9, 34), (34, 8, 43), (43, 1, 45), (43, 0, 44), (34, 7, 42), (34, 6, 41), (34, 5, 40), (34, 4, 39), (34, 3, 38), (34, 2, 37), (34, 1, 36), (34, 0, 35), (0, 8, 33), (0, 7, 27), (27, 0, 28), (28, 3, 32), (28, 2, 31), (28, 1, 30), (28, 0, 29), (0, 6, 24), (24, 1, 26), (24, 0, 25), (0, 5, 22), (22, 0, 23), (0, 4, 18), (18, 2, 21), (18, 1, 20), (18, 0, 19), (0, 3, 12), (12, 4, 17), (12, 3, 16), (12, 2, 15), (12, 1, 14), (12, 0, 13), (0, 2, 9), (9, 1, 11), (9, 0, 10), (0, 1, 3), (3, 4, 8), (3, 3, 7), (3, 2, 6), (3, 1, 5), (3, 0, 4), (0, 0, 1), (1, 0, 2)] [(34, 13, 14, 5), (34, 12, 13, 8), (31, 0, 12, (-1)), (30, 0, 8, (-1)), (29, 0, 8, (-1)), (24, 2, 3, (-1)), (18, 4, 5, (-1)), (10, 0, 12, (-1)), (1, 7, 8, (-1))] σ) : Ct sc 2 94 [vR 46] σ (fun r τ => r = rN ∧ Rp g (okSh.take 58) [(46, 8, 55), (55, 1, 57), (55, 0, 56), (46, 7, 54), (46, 6, 53), (46, 5, 52), (46, 4, 51), (46, 3, 50), (46, 2, 49), (46, 1, 48), (46, 0, 47), (0, 9, 34), (34, 8, 43), (43, 1, 45), (43, 0, 44), (34, 7, 42), (34, 6, 41), (34, 5, 40), (34, 4, 39), (34, 3, 38), (34, 2, 37), (34, 1, 36), (34, 0, 35), (0, 8, 33), (0, 7, 27), (27, 0, 28), (28, 3, 32), (28, 2, 31), (28, 1, 30), (28, 0, 29), (0, 6, 24), (24, 1, 26), (24, 0, 25), (0, 5, 22), (22, 0, 23), (0, 4, 18), (18, 2, 21), (18, 1, 20), (18, 0, 19), (0, 3, 12), (12, 4, 17), (12, 3, 16), (12, 2, 15), (12, 1, 14), (12, 0, 13), (0, 2, 9), (9, 1, 11), (9, 0, 10), (0, 1, 3), (3, 4, 8), (3, 3, 7), (3, 2, 6), (3, 1, 5), (3, 0, 4), (0, 0, 1), (1, 0, 2)] [(46, 13, 14, 5), (46, 12, 13, 8), (34, 13, 14, 5), (34, 12, 13, 8), (31, 0, 12, (-1)), (30, 0, 8, (-1)), (29, 0, 8, (-1)), (24, 2, 3, (-1)), (18, 4, 5, (-1)), (10, 0, 12, (-1)), (1, 7, 8, (-1))] τ) := by
  refine Ct.of (n := 1) (L := [vR 46]) cov_94 rfl (Nat.le_of_ble_eq_true rfl) ?_
  unfold T_94
  refine b_su (r := 46) rfl ?_
  refine b_na (r := 46) rfl h rfl ⟨rfl, Or.inr (by decide)⟩ (by decide) (fun σ h => ?_)
  refine b_na (r := 46) rfl h rfl ⟨rfl, Or.inr (by decide)⟩ (by decide) (fun σ h => ?_)
  refine b_na (r := 46) rfl h rfl ⟨rfl, Or.inr (by decide)⟩ (by decide) (fun σ h => ?_)
  refine b_na (r := 46) rfl h rfl ⟨rfl, Or.inr (by decide)⟩ (by decide) (fun σ h => ?_)
  refine b_na (r := 46) rfl h rfl ⟨rfl, Or.inr (by decide)⟩ (by decide) (fun σ h => ?_)
  refine b_na (r := 46) rfl h rfl ⟨rfl, Or.inr (by decide)⟩ (by decide) (fun σ h => ?_)
  refine b_na (r := 46) rfl h rfl ⟨rfl, Or.inr (by decide)⟩ (by decide) (fun σ h => ?_)
  refine b_na (r := 46) rfl h rfl ⟨rfl, Or.inr (by decide)⟩ (by decide) (fun σ h => ?_)
  refine b_no (r := 46) rfl h ⟨rfl, Or.inr (by decide)⟩ (fun _ hk => k_35_55 (hk.cast rfl rfl rfl)) (by decide) rfl (fun σ h => ?_)
  refine b_fi (r := 46) rfl h rfl ((jf_10_12 _).mpr trivial) (by decide) (fun σ h => ?_)
  refine b_fi (r := 46) rfl h rfl ((jf_10_13 _).mpr trivial) (by decide) (fun σ h => ?_)
  rw [x_tRetv]
  exact ⟨rfl, h.cast rfl rfl rfl⟩
set_option maxRecDepth 20000 in
theorem k_75_58 {sc : jSc} {g : Nat → Nat → Int} {σ : jH} (h : Rp g (okSh.take 59) [(0, 10, 46), (46, 8, 55), (55, 1, 57), (55, 0, 56), (46, 7, 54), (46, 6, 53), (46, 5, 52), (46, 4, 51), (46, 3, 50), (46, 2, 49), (46, 1, 48), (46, 0, 47), (0, 9, 34), (34, 8, 43), (43, 1, 45), (43, 0, 44), (34, 7, 42), (34, 6, 41), (34, 5, 40), (34, 4, 39), (34, 3, 38), (34, 2, 37), (34, 1, 36), (34, 0, 35), (0, 8, 33), (0, 7, 27), (27, 0, 28), (28, 3, 32), (28, 2, 31), (28, 1, 30), (28, 0, 29), (0, 6, 24), (24, 1, 26), (24, 0, 25), (0, 5, 22), (22, 0, 23), (0, 4, 18), (18, 2, 21), (18, 1, 20), (18, 0, 19), (0, 3, 12), (12, 4, 17), (12, 3, 16), (12, 2, 15), (12, 1, 14), (12, 0, 13), (0, 2, 9), (9, 1, 11), (9, 0, 10), (0, 1, 3), (3, 4, 8), (3, 3, 7), (3, 2, 6), (3, 1, 5), (3, 0, 4), (0, 0, 1), (1, 0, 2)] [(46, 13, 14, 5), (46, 12, 13, 8), (34, 13, 14, 5), (34, 12, 13, 8), (31, 0, 12, (-1)), (30, 0, 8, (-1)), (29, 0, 8, (-1)), (24, 2, 3, (-1)), (18, 4, 5, (-1)), (10, 0, 12, (-1)), (1, 7, 8, (-1))] σ) : Ct sc 2 75 [vR 58] σ (fun r τ => r = rN ∧ Rp g (okSh.take 63) [(58, 3, 62), (58, 2, 61), (58, 1, 60), (58, 0, 59), (0, 10, 46), (46, 8, 55), (55, 1, 57), (55, 0, 56), (46, 7, 54), (46, 6, 53), (46, 5, 52), (46, 4, 51), (46, 3, 50), (46, 2, 49), (46, 1, 48), (46, 0, 47), (0, 9, 34), (34, 8, 43), (43, 1, 45), (43, 0, 44), (34, 7, 42), (34, 6, 41), (34, 5, 40), (34, 4, 39), (34, 3, 38), (34, 2, 37), (34, 1, 36), (34, 0, 35), (0, 8, 33), (0, 7, 27), (27, 0, 28), (28, 3, 32), (28, 2, 31), (28, 1, 30), (28, 0, 29), (0, 6, 24), (24, 1, 26), (24, 0, 25), (0, 5, 22), (22, 0, 23), (0, 4, 18), (18, 2, 21), (18, 1, 20), (18, 0, 19), (0, 3, 12), (12, 4, 17), (12, 3, 16), (12, 2, 15), (12, 1, 14), (12, 0, 13), (0, 2, 9), (9, 1, 11), (9, 0, 10), (0, 1, 3), (3, 4, 8), (3, 3, 7), (3, 2, 6), (3, 1, 5), (3, 0, 4), (0, 0, 1), (1, 0, 2)] [(61, 0, 12, (-1)), (60, 0, 8, (-1)), (59, 0, 8, (-1)), (46, 13, 14, 5), (46, 12, 13, 8), (34, 13, 14, 5), (34, 12, 13, 8), (31, 0, 12, (-1)), (30, 0, 8, (-1)), (29, 0, 8, (-1)), (24, 2, 3, (-1)), (18, 4, 5, (-1)), (10, 0, 12, (-1)), (1, 7, 8, (-1))] τ) := by
  refine Ct.of (n := 1) (L := [vR 58]) cov_75 rfl (Nat.le_of_ble_eq_true rfl) ?_
  unfold T_75
  refine b_su (r := 58) rfl ?_
  refine b_na (r := 58) rfl h rfl ⟨rfl, Or.inr (by decide)⟩ (by decide) (fun σ h => ?_)
  refine b_na (r := 58) rfl h rfl ⟨rfl, Or.inr (by decide)⟩ (by decide) (fun σ h => ?_)
  refine b_na (r := 58) rfl h rfl ⟨rfl, Or.inr (by decide)⟩ (by decide) (fun σ h => ?_)
  refine b_na (r := 58) rfl h rfl ⟨rfl, Or.inr (by decide)⟩ (by decide) (fun σ h => ?_)
  rw [sq_as]
  refine b_fl (r := 58) (q := 59) (n := 8) rfl h rfl rfl rfl (by decide) (by decide) (by decide) (fun σ h => ?_)
  rw [sq_as]
  refine b_fl (r := 58) (q := 60) (n := 8) rfl h rfl rfl rfl (by decide) (by decide) (by decide) (fun σ h => ?_)
  refine b_fl (r := 58) (q := 61) (n := 12) rfl h rfl rfl rfl (by decide) (by decide) (by decide) (fun σ h => ?_)
  rw [x_tRetv]
  exact ⟨rfl, h.cast rfl rfl rfl⟩
set_option maxRecDepth 20000 in
theorem k_111_0 {sc : jSc} {σ : jH} (h : Rp (fun _ _ => 0) (okSh.take 1) [] [] σ) : Ct sc 4 111 [vR 0] σ (fun r τ => r = rN ∧ ∃ g, Lz g ∧ Rp g (okSh.take 63) [(0, 11, 58), (58, 3, 62), (58, 2, 61), (58, 1, 60), (58, 0, 59), (0, 10, 46), (46, 8, 55), (55, 1, 57), (55, 0, 56), (46, 7, 54), (46, 6, 53), (46, 5, 52), (46, 4, 51), (46, 3, 50), (46, 2, 49), (46, 1, 48), (46, 0, 47), (0, 9, 34), (34, 8, 43), (43, 1, 45), (43, 0, 44), (34, 7, 42), (34, 6, 41), (34, 5, 40), (34, 4, 39), (34, 3, 38), (34, 2, 37), (34, 1, 36), (34, 0, 35), (0, 8, 33), (0, 7, 27), (27, 0, 28), (28, 3, 32), (28, 2, 31), (28, 1, 30), (28, 0, 29), (0, 6, 24), (24, 1, 26), (24, 0, 25), (0, 5, 22), (22, 0, 23), (0, 4, 18), (18, 2, 21), (18, 1, 20), (18, 0, 19), (0, 3, 12), (12, 4, 17), (12, 3, 16), (12, 2, 15), (12, 1, 14), (12, 0, 13), (0, 2, 9), (9, 1, 11), (9, 0, 10), (0, 1, 3), (3, 4, 8), (3, 3, 7), (3, 2, 6), (3, 1, 5), (3, 0, 4), (0, 0, 1), (1, 0, 2)] [(58, 6, 7, 8), (61, 0, 12, (-1)), (60, 0, 8, (-1)), (59, 0, 8, (-1)), (46, 13, 14, 5), (46, 12, 13, 8), (34, 13, 14, 5), (34, 12, 13, 8), (31, 0, 12, (-1)), (30, 0, 8, (-1)), (29, 0, 8, (-1)), (24, 2, 3, (-1)), (18, 4, 5, (-1)), (10, 0, 12, (-1)), (1, 7, 8, (-1))] τ) := by
  refine Ct.of (n := 3) (L := [vR 0]) cov_111 rfl (Nat.le_of_ble_eq_true rfl) ?_
  unfold T_111
  refine b_su (r := 0) rfl ?_
  refine b_no (r := 0) rfl h ⟨rfl, Or.inl rfl⟩ (fun _ hk => k_62_1 (hk.cast rfl rfl rfl)) (by decide) rfl (fun σ h => ?_)
  refine b_no2 (r := 0) rfl h ⟨rfl, Or.inl rfl⟩ (fun _ hk => k_21_3 (hk.cast rfl rfl rfl)) (by decide) rfl (fun g σ hg h => ?_)
  refine b_no (r := 0) rfl h ⟨rfl, Or.inr (by decide)⟩ (fun _ hk => k_9_9 (hk.cast rfl rfl rfl)) (by decide) rfl (fun σ h => ?_)
  refine b_no (r := 0) rfl h ⟨rfl, Or.inr (by decide)⟩ (fun _ hk => k_51_12 (hk.cast rfl rfl rfl)) (by decide) rfl (fun σ h => ?_)
  refine b_no (r := 0) rfl h ⟨rfl, Or.inr (by decide)⟩ (fun _ hk => k_0_18 (hk.cast rfl rfl rfl)) (by decide) rfl (fun σ h => ?_)
  refine b_no (r := 0) rfl h ⟨rfl, Or.inr (by decide)⟩ (fun _ hk => k_41_22 (hk.cast rfl rfl rfl)) (by decide) rfl (fun σ h => ?_)
  refine b_no (r := 0) rfl h ⟨rfl, Or.inr (by decide)⟩ (fun _ hk => k_15_24 (hk.cast rfl rfl rfl)) (by decide) rfl (fun σ h => ?_)
  refine b_no (r := 0) rfl h ⟨rfl, Or.inr (by decide)⟩ (fun _ hk => k_48_27 (hk.cast rfl rfl rfl)) (by decide) rfl (fun σ h => ?_)
  refine b_na (r := 0) rfl h rfl ⟨rfl, Or.inr (by decide)⟩ (by decide) (fun σ h => ?_)
  refine b_no (r := 0) rfl h ⟨rfl, Or.inr (by decide)⟩ (fun _ hk => k_94_34 (hk.cast rfl rfl rfl)) (by decide) rfl (fun σ h => ?_)
  refine b_no (r := 0) rfl h ⟨rfl, Or.inr (by decide)⟩ (fun _ hk => k_94_46 (hk.cast rfl rfl rfl)) (by decide) rfl (fun σ h => ?_)
  refine b_no (r := 0) rfl h ⟨rfl, Or.inr (by decide)⟩ (fun _ hk => k_75_58 (hk.cast rfl rfl rfl)) (by decide) rfl (fun σ h => ?_)
  refine b_last h (fun σ h => ?_)
  rw [x_tRetv]
  exact ⟨rfl, g, hg, h.cast rfl rfl rfl⟩
