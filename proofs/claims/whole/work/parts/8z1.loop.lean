/-! The law's loop (written by wip/gen8z1.py) -/
section LOOP
variable {sc : jSc} {σ τ : jH} {n : Nat}
theorem wk_c {ks : List Int} {s : jS} {t : jW} {C : jCR} {z : Int} {N K : jN} {R : jR → jH → Prop} {L : List jV} (h1 : z ∈ ks → s sc C (fun _ _ => False) N K R L σ) (h2 : ¬ z ∈ ks → t sc C z N K R L σ) : wK ks s t sc C z N K R L σ := by
  rw [x_wK]
  exact ⟨h1, h2⟩
theorem wd_c {C : jCR} {z : Int} {N K : jN} {R : jR → jH → Prop} {L : List jV} (h : N L σ) : wD tSkip sc C z N K R L σ := by
  rw [x_wD, x_tSkip]
  exact h
theorem sw_c {w : jW} {C : jCR} {N B K : jN} {R : jR → jH → Prop} {i : Nat} {L : List jV} (h0 : jget L 0 = vS 1000) (h4 : jget L 4 = vI i) (hi : i + 7 ≤ sc.1) (hN : sc.1 ≤ 3584) (h : ∀ z, w sc C z N K R L σ) : tSw (eBin 3 (eAldS (eLor 0) (eLoc 4)) (eInt 63)) w sc C N B K R L σ := by
  rw [x_tSw]
  simp only [↓x_eInt, ↓x_eLng, ↓x_eNul, ↓x_eStr, ↓x_eLoc, ↓x_eLol, ↓x_eLor, ↓x_eBin, ↓x_eDiv, ↓x_eRem, ↓x_eNeg, ↓x_eLbin, ↓x_eLdiv, ↓x_eLrem, ↓x_eLshl, ↓x_eLshr, ↓x_eI2l, ↓x_eL2i, ↓x_eFldI, ↓x_eFldL, ↓x_eFldP, ↓x_eAldI, ↓x_eAldS, ↓x_eAldL, ↓x_eAldP, ↓x_eLen, ↓x_eLenS, ↓x_eCall, ↓x_eCalv, ↓x_eMin, ↓x_eMax, ↓x_eLmin, ↓x_eAbs, ↓x_eSlen, ↓x_eSat, ↓x_eIte, ↓x_eNewa, ↓x_eNewo, ↓x_esN, ↓x_esC, ↓x_cCmp, ↓x_cCmpz, ↓x_cLcmp, ↓x_cIsn, ↓x_cNot, ↓x_cAnd, ↓x_cOr, ↓x_tSkip, ↓x_tSup, ↓x_tSeq, ↓x_tSetI, ↓x_tSetL, ↓x_tSetR, ↓x_tInc, ↓x_tPutI, ↓x_tPutL, ↓x_tPutP, ↓x_tPutc, ↓x_tAstI, ↓x_tAstL, ↓x_tAstP, ↓x_tAstcI, ↓x_tAstcL, ↓x_tAcpI, ↓x_tAcpL, ↓x_tExp, ↓x_tExv, ↓x_tExw, ↓x_tIte, ↓x_tSw, ↓x_tRet, ↓x_tRetB, ↓x_tRetL, ↓x_tRetv, ↓x_tBrk, ↓x_tCont, ↓x_tThr, ↓x_wD, ↓x_wK, ↓x_jIx, ↓x_jOb, ↓x_jInt_I, ↓x_jLng_L, ↓x_jRef_R, ↓x_jStr_S, ↓x_jPls_R, ↓x_jPls_N, ↓x_jAny_R, ↓x_jAny_S, ↓jIntg_0, ↓jLngg_0, ↓jRefg_0, ↓jAnyg_0, ↓jStrg_0, ↓jPlsg_0, ↓jst_x0, ↓jst2_x0, ↓jIntg_1, ↓jLngg_1, ↓jRefg_1, ↓jAnyg_1, ↓jst_x1, ↓jst2_x1, ↓jIntg_2, ↓jLngg_2, ↓jRefg_2, ↓jAnyg_2, ↓jst_x2, ↓jst2_x2, ↓jIntg_3, ↓jLngg_3, ↓jRefg_3, ↓jAnyg_3, ↓jst_x3, ↓jst2_x3, ↓jIntg_4, ↓jLngg_4, ↓jRefg_4, ↓jAnyg_4, ↓jst_x4, ↓jst2_x4, ↓jIntg_5, ↓jLngg_5, ↓jRefg_5, ↓jAnyg_5, ↓jst_x5, ↓jst2_x5, ↓jIntg_6, ↓jLngg_6, ↓jRefg_6, ↓jAnyg_6, ↓jst_x6, ↓jst2_x6, ↓jIntg_7, ↓jLngg_7, ↓jRefg_7, ↓jAnyg_7, ↓jst_x7, ↓jst2_x7, ↓jIntg_8, ↓jLngg_8, ↓jRefg_8, ↓jAnyg_8, ↓jst_x8, ↓jst2_x8, ↓jIntg_9, ↓jLngg_9, ↓jRefg_9, ↓jAnyg_9, ↓jst_x9, ↓jst2_x9, ↓jIntg_10, ↓jLngg_10, ↓jRefg_10, ↓jAnyg_10, ↓jst_x10, ↓jst2_x10, ↓jIntg_11, ↓jLngg_11, ↓jRefg_11, ↓jAnyg_11, ↓jst_x11, ↓jst2_x11, ↓jIntg_12, ↓jLngg_12, ↓jRefg_12, ↓jAnyg_12, ↓jst_x12, ↓jst2_x12, ↓jIntg_13, ↓jLngg_13, ↓jRefg_13, ↓jAnyg_13, ↓jst_x13, ↓jst2_x13, ↓jIntg_14, ↓jLngg_14, ↓jRefg_14, ↓jAnyg_14, ↓jst_x14, ↓jst2_x14, ↓ex_some, jpv_some, jpv_none, jPls_pv, jisL_I, jisL_L, jisL_R, jisL_S, jisL_N, jisL_U, j_op0, j_op1, j_op2, j_c2, true_and, and_true, true_or, or_true, Int.toNat_natCast, nat1, ex_row, ex_row2, jwb1, jwb, jwb2, Classical.not_not, not_true_eq_false, false_implies, true_implies, ne_eq, not_false_eq_true, rV_inj, vI_inj, vL_inj, hi_tp, Nat.reduceEqDiff, Nat.reduceLeDiff, Nat.reduceAdd, Int.reduceLE, Int.reduceLT, Int.reduceEq, Int.reduceNeg, Int.reduceToNat, Int.reduceAdd, Int.reduceSub, Int.reduceMul, h0, h4]
  exact ⟨by omega, by omega, by omega, h _⟩
theorem lc_c {C : jCR} {T F : jH → Prop} {i : Nat} {L : List jV} (h0 : jget L 0 = vS 1000) (h4 : jget L 4 = vI i) (hi : i ≤ 10000) (hN : sc.1 ≤ 3584) (h1 : i + 7 ≤ sc.1 → T σ) (h2 : ¬ i + 7 ≤ sc.1 → F σ) : cCmp .le (eLoc 4) (eBin 1 (eLenS (eLor 0)) (eInt 7)) sc C L T F σ := by
  simp (disch := omega) only [↓x_eInt, ↓x_eLng, ↓x_eNul, ↓x_eStr, ↓x_eLoc, ↓x_eLol, ↓x_eLor, ↓x_eBin, ↓x_eDiv, ↓x_eRem, ↓x_eNeg, ↓x_eLbin, ↓x_eLdiv, ↓x_eLrem, ↓x_eLshl, ↓x_eLshr, ↓x_eI2l, ↓x_eL2i, ↓x_eFldI, ↓x_eFldL, ↓x_eFldP, ↓x_eAldI, ↓x_eAldS, ↓x_eAldL, ↓x_eAldP, ↓x_eLen, ↓x_eLenS, ↓x_eCall, ↓x_eCalv, ↓x_eMin, ↓x_eMax, ↓x_eLmin, ↓x_eAbs, ↓x_eSlen, ↓x_eSat, ↓x_eIte, ↓x_eNewa, ↓x_eNewo, ↓x_esN, ↓x_esC, ↓x_cCmp, ↓x_cCmpz, ↓x_cLcmp, ↓x_cIsn, ↓x_cNot, ↓x_cAnd, ↓x_cOr, ↓x_tSkip, ↓x_tSup, ↓x_tSeq, ↓x_tSetI, ↓x_tSetL, ↓x_tSetR, ↓x_tInc, ↓x_tPutI, ↓x_tPutL, ↓x_tPutP, ↓x_tPutc, ↓x_tAstI, ↓x_tAstL, ↓x_tAstP, ↓x_tAstcI, ↓x_tAstcL, ↓x_tAcpI, ↓x_tAcpL, ↓x_tExp, ↓x_tExv, ↓x_tExw, ↓x_tIte, ↓x_tSw, ↓x_tRet, ↓x_tRetB, ↓x_tRetL, ↓x_tRetv, ↓x_tBrk, ↓x_tCont, ↓x_tThr, ↓x_wD, ↓x_wK, ↓x_jIx, ↓x_jOb, ↓x_jInt_I, ↓x_jLng_L, ↓x_jRef_R, ↓x_jStr_S, ↓x_jPls_R, ↓x_jPls_N, ↓x_jAny_R, ↓x_jAny_S, ↓jIntg_0, ↓jLngg_0, ↓jRefg_0, ↓jAnyg_0, ↓jStrg_0, ↓jPlsg_0, ↓jst_x0, ↓jst2_x0, ↓jIntg_1, ↓jLngg_1, ↓jRefg_1, ↓jAnyg_1, ↓jst_x1, ↓jst2_x1, ↓jIntg_2, ↓jLngg_2, ↓jRefg_2, ↓jAnyg_2, ↓jst_x2, ↓jst2_x2, ↓jIntg_3, ↓jLngg_3, ↓jRefg_3, ↓jAnyg_3, ↓jst_x3, ↓jst2_x3, ↓jIntg_4, ↓jLngg_4, ↓jRefg_4, ↓jAnyg_4, ↓jst_x4, ↓jst2_x4, ↓jIntg_5, ↓jLngg_5, ↓jRefg_5, ↓jAnyg_5, ↓jst_x5, ↓jst2_x5, ↓jIntg_6, ↓jLngg_6, ↓jRefg_6, ↓jAnyg_6, ↓jst_x6, ↓jst2_x6, ↓jIntg_7, ↓jLngg_7, ↓jRefg_7, ↓jAnyg_7, ↓jst_x7, ↓jst2_x7, ↓jIntg_8, ↓jLngg_8, ↓jRefg_8, ↓jAnyg_8, ↓jst_x8, ↓jst2_x8, ↓jIntg_9, ↓jLngg_9, ↓jRefg_9, ↓jAnyg_9, ↓jst_x9, ↓jst2_x9, ↓jIntg_10, ↓jLngg_10, ↓jRefg_10, ↓jAnyg_10, ↓jst_x10, ↓jst2_x10, ↓jIntg_11, ↓jLngg_11, ↓jRefg_11, ↓jAnyg_11, ↓jst_x11, ↓jst2_x11, ↓jIntg_12, ↓jLngg_12, ↓jRefg_12, ↓jAnyg_12, ↓jst_x12, ↓jst2_x12, ↓jIntg_13, ↓jLngg_13, ↓jRefg_13, ↓jAnyg_13, ↓jst_x13, ↓jst2_x13, ↓jIntg_14, ↓jLngg_14, ↓jRefg_14, ↓jAnyg_14, ↓jst_x14, ↓jst2_x14, ↓ex_some, jpv_some, jpv_none, jPls_pv, jisL_I, jisL_L, jisL_R, jisL_S, jisL_N, jisL_U, j_op0, j_op1, j_op2, j_c2, true_and, and_true, true_or, or_true, Int.toNat_natCast, nat1, ex_row, ex_row2, jwb1, jwb, jwb2, Classical.not_not, not_true_eq_false, false_implies, true_implies, ne_eq, not_false_eq_true, rV_inj, vI_inj, vL_inj, hi_tp, Nat.reduceEqDiff, Nat.reduceLeDiff, Nat.reduceAdd, Int.reduceLE, Int.reduceLT, Int.reduceEq, Int.reduceNeg, Int.reduceToNat, Int.reduceAdd, Int.reduceSub, Int.reduceMul, w_id, hsh_si, hp_si, hi_si_ne, h0, h4]
  exact ⟨fun g => h1 (by omega), fun g => h2 (by omega)⟩
theorem Jn.up (h : Jn n σ) : Jn (n + 1) σ := by
  obtain ⟨b, N, F, e0, e1, R, D, cd, V, u, L, w, T, im, h1, h2, h3, h4⟩ := h
  exact ⟨b, N, F, e0, e1, R, D, cd, V, u, L, w, T, im, h1, h2, by omega, h4.up⟩
set_option maxRecDepth 100000 in
set_option maxHeartbeats 4000000 in
theorem lw_all (hJn : Jn n σ) (hn : n < 9000) {i : Nat} (hi : i + 7 ≤ sc.1) (hN : sc.1 ≤ 3584) {x5 x6 x7 : jV} {z : Int} {B K : jN} {R : jR → jH → Prop} (hB : ∀ y5 y6 y7 υ, Jn (n + 1) υ → B [vS 1000, vR 0, vR 63, vR 102, vI i, y5, y6, y7] υ) : W_324 sc (Cd sc 99) z B K R [vS 1000, vR 0, vR 63, vR 102, vI i, x5, x6, x7] σ := by
  obtain ⟨b, N, F, e0, e1, Rr, D, cd, V, u, L, w, T, im, hJ⟩ := Jd.of hJn
  unfold W_324
  refine wk_c (fun _ => ?_) (fun _ => ?_)
  · unfold X_0
    exact case_P hJ.1.1 (j_112 hJ ) (by omega) (by omega) (Ev.r rfl (Ev.s rfl rfl (by omega) hi hN (Ev.s rfl rfl (by omega) hi hN (Ev.s rfl rfl (by omega) hi hN (Ev.s rfl rfl (by omega) hi hN (Ev.s rfl rfl (by omega) hi hN Ev.nil)))))) (Ev.r rfl (Ev.s rfl rfl (by omega) hi hN (Ev.s rfl rfl (by omega) hi hN (Ev.s rfl rfl (by omega) hi hN (Ev.s rfl rfl (by omega) hi hN (Ev.s rfl rfl (by omega) hi hN Ev.nil)))))) hB
  refine wk_c (fun _ => ?_) (fun _ => ?_)
  · unfold X_1
    exact case_I (j_292 hJ (by omega) (sv_rg _ _ _)) (by omega) (by omega) (by omega) (fun _ _ => ⟨by omega, by omega⟩) (Ev.r rfl (Ev.s rfl rfl (by omega) hi hN (Ev.r rfl Ev.nil))) (fun _ => Ev.r rfl (Ev.s rfl rfl (by omega) hi hN Ev.nil)) hB
  refine wk_c (fun _ => ?_) (fun _ => ?_)
  · unfold X_2
    exact case_I (j_293 hJ (by omega) (sv_rg _ _ _)) (by omega) (by omega) (by omega) (fun _ _ => ⟨by omega, by omega⟩) (Ev.r rfl (Ev.s rfl rfl (by omega) hi hN (Ev.r rfl Ev.nil))) (fun _ => Ev.r rfl (Ev.s rfl rfl (by omega) hi hN Ev.nil)) hB
  refine wk_c (fun _ => ?_) (fun _ => ?_)
  · unfold X_3
    exact case_I (j_294 hJ (sv_rg _ _ _)) (by omega) (by omega) (by omega) (fun _ _ => ⟨by omega, by omega⟩) (Ev.r rfl (Ev.s rfl rfl (by omega) hi hN (Ev.r rfl Ev.nil))) (fun _ => Ev.r rfl (Ev.s rfl rfl (by omega) hi hN Ev.nil)) hB
  refine wk_c (fun _ => ?_) (fun _ => ?_)
  · unfold X_4
    exact case_I (j_295 hJ (sv_rg _ _ _)) (by omega) (by omega) (by omega) (fun _ _ => ⟨by omega, by omega⟩) (Ev.r rfl (Ev.s rfl rfl (by omega) hi hN (Ev.r rfl Ev.nil))) (fun _ => Ev.r rfl (Ev.s rfl rfl (by omega) hi hN Ev.nil)) hB
  refine wk_c (fun _ => ?_) (fun _ => ?_)
  · unfold X_5
    exact case_P hJ.1.1 (j_117 hJ ) (by omega) (by omega) (Ev.r rfl Ev.nil) (Ev.r rfl Ev.nil) hB
  refine wk_c (fun _ => ?_) (fun _ => ?_)
  · unfold X_6
    exact case_P hJ.1.1 (j_118 hJ ) (by omega) (by omega) (Ev.r rfl Ev.nil) (Ev.r rfl Ev.nil) hB
  refine wk_c (fun _ => ?_) (fun _ => ?_)
  · unfold X_7
    exact case_I (j_296 hJ (sv_rg _ _ _)) (by omega) (by omega) (by omega) (fun _ _ => ⟨by omega, by omega⟩) (Ev.r rfl (Ev.s rfl rfl (by omega) hi hN (Ev.r rfl Ev.nil))) (fun _ => Ev.r rfl (Ev.s rfl rfl (by omega) hi hN Ev.nil)) hB
  refine wk_c (fun _ => ?_) (fun _ => ?_)
  · unfold X_8
    exact case_I (j_297 hJ (sv_rg _ _ _) (sv_rg _ _ _)) (by omega) (by omega) (by omega) (fun x _ => by split <;> omega) (Ev.r rfl (Ev.s rfl rfl (by omega) hi hN (Ev.s rfl rfl (by omega) hi hN (Ev.r rfl Ev.nil)))) (fun _ => Ev.r rfl (Ev.s rfl rfl (by omega) hi hN (Ev.s rfl rfl (by omega) hi hN Ev.nil))) hB
  refine wk_c (fun _ => ?_) (fun _ => ?_)
  · unfold X_9
    exact case_I (j_298 hJ (sv_rg _ _ _)) (by omega) (by omega) (by omega) (fun _ _ => ⟨by omega, by omega⟩) (Ev.r rfl (Ev.s rfl rfl (by omega) hi hN (Ev.r rfl Ev.nil))) (fun _ => Ev.r rfl (Ev.s rfl rfl (by omega) hi hN Ev.nil)) hB
  refine wk_c (fun _ => ?_) (fun _ => ?_)
  · unfold X_10
    exact case_I (j_299 hJ (sv_rg _ _ _)) (by omega) (by omega) (by omega) (fun _ _ => ⟨by omega, by omega⟩) (Ev.r rfl (Ev.s rfl rfl (by omega) hi hN (Ev.r rfl Ev.nil))) (fun _ => Ev.r rfl (Ev.s rfl rfl (by omega) hi hN Ev.nil)) hB
  refine wk_c (fun _ => ?_) (fun _ => ?_)
  · unfold X_11
    exact case_I (j_300 hJ (sv_rg _ _ _) (sv_rg _ _ _)) (by omega) (by omega) (by omega) (fun _ _ => ⟨by omega, by omega⟩) (Ev.r rfl (Ev.s rfl rfl (by omega) hi hN (Ev.s rfl rfl (by omega) hi hN (Ev.r rfl Ev.nil)))) (fun _ => Ev.r rfl (Ev.s rfl rfl (by omega) hi hN (Ev.s rfl rfl (by omega) hi hN Ev.nil))) hB
  refine wk_c (fun _ => ?_) (fun _ => ?_)
  · unfold X_12
    exact case_I (j_301 hJ (sv_rg _ _ _) (sv_rg _ _ _)) (by omega) (by omega) (by omega) (fun x _ => by split <;> omega) (Ev.r rfl (Ev.s rfl rfl (by omega) hi hN (Ev.s rfl rfl (by omega) hi hN (Ev.r rfl Ev.nil)))) (fun _ => Ev.r rfl (Ev.s rfl rfl (by omega) hi hN (Ev.s rfl rfl (by omega) hi hN Ev.nil))) hB
  refine wk_c (fun _ => ?_) (fun _ => ?_)
  · unfold X_13
    exact case_I (j_302 hJ (sv_rg _ _ _) (sv_rg _ _ _) (sv_rg _ _ _) (sv_rg _ _ _) (sv_rg _ _ _) (sv_rg _ _ _)) (by omega) (by omega) (by omega) (fun _ _ => ⟨by omega, by omega⟩) (Ev.r rfl (Ev.s rfl rfl (by omega) hi hN (Ev.s rfl rfl (by omega) hi hN (Ev.s rfl rfl (by omega) hi hN (Ev.s rfl rfl (by omega) hi hN (Ev.s rfl rfl (by omega) hi hN (Ev.s rfl rfl (by omega) hi hN (Ev.r rfl Ev.nil)))))))) (fun _ => Ev.r rfl (Ev.s rfl rfl (by omega) hi hN (Ev.s rfl rfl (by omega) hi hN (Ev.s rfl rfl (by omega) hi hN (Ev.s rfl rfl (by omega) hi hN (Ev.s rfl rfl (by omega) hi hN (Ev.s rfl rfl (by omega) hi hN Ev.nil))))))) hB
  refine wk_c (fun _ => ?_) (fun _ => ?_)
  · unfold X_14
    exact case_B (j_303 hJ (sv_rg _ _ _) (sv_rg _ _ _)) (by omega) (by omega) (by omega) (fun x _ => by split <;> omega) (Ev.r rfl (Ev.s rfl rfl (by omega) hi hN (Ev.s rfl rfl (by omega) hi hN (Ev.r rfl Ev.nil)))) (fun _ => Ev.r rfl (Ev.s rfl rfl (by omega) hi hN (Ev.s rfl rfl (by omega) hi hN Ev.nil))) hB
  refine wk_c (fun _ => ?_) (fun _ => ?_)
  · unfold X_15
    exact case_P hJ.1.1 (j_127 hJ ) (by omega) (by omega) (Ev.r rfl Ev.nil) (Ev.r rfl Ev.nil) hB
  refine wk_c (fun _ => ?_) (fun _ => ?_)
  · unfold X_16
    exact case_I (j_304 hJ (sv_rg _ _ _)) (by omega) (by omega) (by omega) (fun _ _ => ⟨by omega, by omega⟩) (Ev.r rfl (Ev.s rfl rfl (by omega) hi hN (Ev.r rfl Ev.nil))) (fun _ => Ev.r rfl (Ev.s rfl rfl (by omega) hi hN Ev.nil)) hB
  refine wk_c (fun _ => ?_) (fun _ => ?_)
  · unfold X_17
    exact case_I (j_305 hJ (sv_rg _ _ _)) (by omega) (by omega) (by omega) (fun _ _ => ⟨by omega, by omega⟩) (Ev.r rfl (Ev.s rfl rfl (by omega) hi hN (Ev.r rfl Ev.nil))) (fun _ => Ev.r rfl (Ev.s rfl rfl (by omega) hi hN Ev.nil)) hB
  refine wk_c (fun _ => ?_) (fun _ => ?_)
  · unfold X_18
    exact case_I (j_306 hJ (sv_rg _ _ _) (sv_rg _ _ _)) (by omega) (by omega) (by omega) (fun x _ => by split <;> omega) (Ev.r rfl (Ev.s rfl rfl (by omega) hi hN (Ev.s rfl rfl (by omega) hi hN (Ev.r rfl Ev.nil)))) (fun _ => Ev.r rfl (Ev.s rfl rfl (by omega) hi hN (Ev.s rfl rfl (by omega) hi hN Ev.nil))) hB
  refine wk_c (fun _ => ?_) (fun _ => ?_)
  · unfold X_19
    exact case_I (j_307 hJ (sv_rg _ _ _)) (by omega) (by omega) (by omega) (fun _ _ => ⟨by omega, by omega⟩) (Ev.r rfl (Ev.s rfl rfl (by omega) hi hN (Ev.r rfl Ev.nil))) (fun _ => Ev.r rfl (Ev.s rfl rfl (by omega) hi hN Ev.nil)) hB
  refine wk_c (fun _ => ?_) (fun _ => ?_)
  · unfold X_20
    exact case_P hJ.1.1 (j_132 hJ ) (by omega) (by omega) (Ev.r rfl Ev.nil) (Ev.r rfl Ev.nil) hB
  refine wk_c (fun _ => ?_) (fun _ => ?_)
  · unfold X_21
    exact case_I (j_308 hJ (sv_rg _ _ _)) (by omega) (by omega) (by omega) (fun _ _ => ⟨by omega, by omega⟩) (Ev.r rfl (Ev.s rfl rfl (by omega) hi hN (Ev.r rfl Ev.nil))) (fun _ => Ev.r rfl (Ev.s rfl rfl (by omega) hi hN Ev.nil)) hB
  refine wk_c (fun _ => ?_) (fun _ => ?_)
  · unfold X_22
    exact case_P hJ.1.1 (j_134 hJ ) (by omega) (by omega) (Ev.r rfl Ev.nil) (Ev.r rfl Ev.nil) hB
  refine wk_c (fun _ => ?_) (fun _ => ?_)
  · unfold X_23
    exact case_I (j_309 hJ (sv_rg _ _ _)) (by omega) (by omega) (by omega) (fun _ _ => ⟨by omega, by omega⟩) (Ev.r rfl (Ev.s rfl rfl (by omega) hi hN (Ev.r rfl Ev.nil))) (fun _ => Ev.r rfl (Ev.s rfl rfl (by omega) hi hN Ev.nil)) hB
  refine wk_c (fun _ => ?_) (fun _ => ?_)
  · unfold X_24
    exact case_I (j_310 hJ (sv_rg _ _ _) (sv_rg _ _ _)) (by omega) (by omega) (by omega) (fun x _ => by split <;> omega) (Ev.r rfl (Ev.s rfl rfl (by omega) hi hN (Ev.s rfl rfl (by omega) hi hN (Ev.r rfl Ev.nil)))) (fun _ => Ev.r rfl (Ev.s rfl rfl (by omega) hi hN (Ev.s rfl rfl (by omega) hi hN Ev.nil))) hB
  refine wk_c (fun _ => ?_) (fun _ => ?_)
  · unfold X_25
    exact case_I (j_311 hJ (sv_rg _ _ _)) (by omega) (by omega) (by omega) (fun _ _ => ⟨by omega, by omega⟩) (Ev.r rfl (Ev.s rfl rfl (by omega) hi hN (Ev.r rfl Ev.nil))) (fun _ => Ev.r rfl (Ev.s rfl rfl (by omega) hi hN Ev.nil)) hB
  refine wk_c (fun _ => ?_) (fun _ => ?_)
  · unfold X_26
    exact case_I (j_312 hJ (sv_rg _ _ _) (sv_rg _ _ _) (sv_rg _ _ _)) (by omega) (by omega) (by omega) (fun _ _ => ⟨by omega, by omega⟩) (Ev.r rfl (Ev.s rfl rfl (by omega) hi hN (Ev.s rfl rfl (by omega) hi hN (Ev.s rfl rfl (by omega) hi hN (Ev.r rfl Ev.nil))))) (fun _ => Ev.r rfl (Ev.s rfl rfl (by omega) hi hN (Ev.s rfl rfl (by omega) hi hN (Ev.s rfl rfl (by omega) hi hN Ev.nil)))) hB
  refine wk_c (fun _ => ?_) (fun _ => ?_)
  · unfold X_27
    exact case_I (j_313 hJ (sv_rg _ _ _) (sv_rg _ _ _)) (by omega) (by omega) (by omega) (fun _ _ => ⟨by omega, by omega⟩) (Ev.r rfl (Ev.s rfl rfl (by omega) hi hN (Ev.s rfl rfl (by omega) hi hN (Ev.r rfl Ev.nil)))) (fun _ => Ev.r rfl (Ev.s rfl rfl (by omega) hi hN (Ev.s rfl rfl (by omega) hi hN Ev.nil))) hB
  refine wk_c (fun _ => ?_) (fun _ => ?_)
  · unfold X_28
    exact case_I (j_314 hJ (sv_rg _ _ _)) (by omega) (by omega) (by omega) (fun _ _ => ⟨by omega, by omega⟩) (Ev.r rfl (Ev.s rfl rfl (by omega) hi hN (Ev.r rfl Ev.nil))) (fun _ => Ev.r rfl (Ev.s rfl rfl (by omega) hi hN Ev.nil)) hB
  refine wk_c (fun _ => ?_) (fun _ => ?_)
  · unfold X_29
    exact case_I (j_315 hJ (sv_rg _ _ _) (sv_rg _ _ _)) (by omega) (by omega) (by omega) (fun _ _ => ⟨by omega, by omega⟩) (Ev.r rfl (Ev.s rfl rfl (by omega) hi hN (Ev.s rfl rfl (by omega) hi hN (Ev.r rfl Ev.nil)))) (fun _ => Ev.r rfl (Ev.s rfl rfl (by omega) hi hN (Ev.s rfl rfl (by omega) hi hN Ev.nil))) hB
  refine wk_c (fun _ => ?_) (fun _ => ?_)
  · unfold X_30
    exact case_I (j_316 hJ (sv_rg _ _ _) (sv_rg _ _ _) (sv_rg _ _ _)) (by omega) (by omega) (by omega) (fun _ _ => ⟨by omega, by omega⟩) (Ev.r rfl (Ev.s rfl rfl (by omega) hi hN (Ev.s rfl rfl (by omega) hi hN (Ev.s rfl rfl (by omega) hi hN (Ev.r rfl Ev.nil))))) (fun _ => Ev.r rfl (Ev.s rfl rfl (by omega) hi hN (Ev.s rfl rfl (by omega) hi hN (Ev.s rfl rfl (by omega) hi hN Ev.nil)))) hB
  refine wk_c (fun _ => ?_) (fun _ => ?_)
  · unfold X_31
    exact case_I (j_317 hJ (sv_rg _ _ _) (sv_rg _ _ _)) (by omega) (by omega) (by omega) (fun _ _ => ⟨by omega, by omega⟩) (Ev.r rfl (Ev.s rfl rfl (by omega) hi hN (Ev.s rfl rfl (by omega) hi hN (Ev.r rfl Ev.nil)))) (fun _ => Ev.r rfl (Ev.s rfl rfl (by omega) hi hN (Ev.s rfl rfl (by omega) hi hN Ev.nil))) hB
  refine wk_c (fun _ => ?_) (fun _ => ?_)
  · unfold X_32
    exact case_P hJ.1.1 (j_144 hJ ) (by omega) (by omega) (Ev.r rfl Ev.nil) (Ev.r rfl Ev.nil) hB
  refine wk_c (fun _ => ?_) (fun _ => ?_)
  · unfold X_33
    exact case_P hJ.1.1 (j_145 hJ ) (by omega) (by omega) (Ev.r rfl Ev.nil) (Ev.r rfl Ev.nil) hB
  refine wk_c (fun _ => ?_) (fun _ => ?_)
  · unfold X_34
    exact case_I (j_318 hJ (sv_rg _ _ _)) (by omega) (by omega) (by omega) (fun _ _ => ⟨by omega, by omega⟩) (Ev.r rfl (Ev.s rfl rfl (by omega) hi hN (Ev.r rfl Ev.nil))) (fun _ => Ev.r rfl (Ev.s rfl rfl (by omega) hi hN Ev.nil)) hB
  refine wk_c (fun _ => ?_) (fun _ => ?_)
  · unfold X_35
    exact case_I (j_319 hJ (sv_rg _ _ _) (sv_rg _ _ _)) (by omega) (by omega) (by omega) (fun _ _ => ⟨by omega, by omega⟩) (Ev.r rfl (Ev.s rfl rfl (by omega) hi hN (Ev.s rfl rfl (by omega) hi hN (Ev.r rfl Ev.nil)))) (fun _ => Ev.r rfl (Ev.s rfl rfl (by omega) hi hN (Ev.s rfl rfl (by omega) hi hN Ev.nil))) hB
  refine wk_c (fun _ => ?_) (fun _ => ?_)
  · unfold X_36
    exact case_L (j_320 hJ (sv_rg _ _ _) (sv_rg _ _ _)) (by omega) (by omega) (by omega) (fun _ _ => ⟨by omega, by omega⟩) (Ev.r rfl (Ev.s rfl rfl (by omega) hi hN (Ev.s rfl rfl (by omega) hi hN (Ev.r rfl Ev.nil)))) (fun _ => Ev.r rfl (Ev.s rfl rfl (by omega) hi hN (Ev.s rfl rfl (by omega) hi hN Ev.nil))) hB
  refine wk_c (fun _ => ?_) (fun _ => ?_)
  · unfold X_37
    exact case_L (j_321 hJ (sv_rg _ _ _) (sv_rg _ _ _)) (by omega) (by omega) (by omega) (fun _ _ => ⟨by omega, by omega⟩) (Ev.r rfl (Ev.s rfl rfl (by omega) hi hN (Ev.s rfl rfl (by omega) hi hN (Ev.r rfl Ev.nil)))) (fun _ => Ev.r rfl (Ev.s rfl rfl (by omega) hi hN (Ev.s rfl rfl (by omega) hi hN Ev.nil))) hB
  refine wk_c (fun _ => ?_) (fun _ => ?_)
  · unfold X_38
    exact case_I (j_322 hJ (sv_rg _ _ _) (sv_rg _ _ _) (sv_rg _ _ _)) (by omega) (by omega) (by omega) (fun _ _ => ⟨by omega, by omega⟩) (Ev.r rfl (Ev.s rfl rfl (by omega) hi hN (Ev.s rfl rfl (by omega) hi hN (Ev.s rfl rfl (by omega) hi hN (Ev.r rfl Ev.nil))))) (fun _ => Ev.r rfl (Ev.s rfl rfl (by omega) hi hN (Ev.s rfl rfl (by omega) hi hN (Ev.s rfl rfl (by omega) hi hN Ev.nil)))) hB
  refine wk_c (fun _ => ?_) (fun _ => ?_)
  · unfold X_39
    exact case_I (j_323 hJ (sv_rg _ _ _) (sv_rg _ _ _) (sv_rg _ _ _) (sv_rg _ _ _) (sv_rg _ _ _)) (by omega) (by omega) (by omega) (fun _ _ => ⟨by omega, by omega⟩) (Ev.r rfl (Ev.s rfl rfl (by omega) hi hN (Ev.s rfl rfl (by omega) hi hN (Ev.s rfl rfl (by omega) hi hN (Ev.s rfl rfl (by omega) hi hN (Ev.s rfl rfl (by omega) hi hN (Ev.r rfl Ev.nil))))))) (fun _ => Ev.r rfl (Ev.s rfl rfl (by omega) hi hN (Ev.s rfl rfl (by omega) hi hN (Ev.s rfl rfl (by omega) hi hN (Ev.s rfl rfl (by omega) hi hN (Ev.s rfl rfl (by omega) hi hN Ev.nil)))))) hB
  refine wk_c (fun _ => ?_) (fun _ => ?_)
  · unfold X_40
    exact case_P hJ.1.1 (j_152 hJ ) (by omega) (by omega) (Ev.r rfl Ev.nil) (Ev.r rfl Ev.nil) hB
  refine wk_c (fun _ => ?_) (fun _ => ?_)
  · unfold X_41
    exact case_P hJ.1.1 (j_153 hJ ) (by omega) (by omega) (Ev.r rfl Ev.nil) (Ev.r rfl Ev.nil) hB
  refine wk_c (fun _ => ?_) (fun _ => ?_)
  · unfold X_42
    exact case_P hJ.1.1 (j_154 hJ (sv_rg _ _ _)) (by omega) (by omega) (Ev.r rfl (Ev.s rfl rfl (by omega) hi hN Ev.nil)) (Ev.r rfl (Ev.s rfl rfl (by omega) hi hN Ev.nil)) hB
  refine wk_c (fun _ => ?_) (fun _ => ?_)
  · unfold X_43
    exact case_P hJ.1.1 (j_155 hJ (sv_rg _ _ _)) (by omega) (by omega) (Ev.r rfl (Ev.s rfl rfl (by omega) hi hN Ev.nil)) (Ev.r rfl (Ev.s rfl rfl (by omega) hi hN Ev.nil)) hB
  exact wd_c (hB _ _ _ _ hJn.up)
end LOOP
