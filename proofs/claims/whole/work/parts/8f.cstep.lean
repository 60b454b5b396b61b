/-! The class goes a step -/
section CSTEP
variable {sc : jSc} {σ : jH} {D : jD} {cd : lC} {w : Nat → Int} {q t : Nat} {f : Int}
theorem pkd_congr {v : Nat → Int} (h : ∀ j, 24 ≤ j → j < 168 → v j = w j) {d : Nat} (hd : d < 12) : ∀ n, n ≤ 12 → pkd v d n = pkd w d n
  | 0, _ => rfl
  | n + 1, hn => by rw [pkd, pkd, h _ (by omega) (by omega), pkd_congr h hd n (by omega)]
theorem NT_keep {v : Nat → Int} {τ : jH} {S : Nat → Nat → Prop} (hN : NT σ q w) (hF : Fr S σ τ) (hS : ∀ k, ¬ S (q + 4) k) (h : ∀ j, 24 ≤ j → j < 169 → v j = w j) : NT τ q v := fun d hd hd2 => by
  rw [h 168 (by omega) (by omega)] at hd2
  rw [hF.l (hS d), pkd_congr (fun j a b => h j a (by omega)) hd 12 (by omega)]
  exact hN d hd hd2
/-- what the class's steps may write -/
def Sgo (q : Nat) : Nat → Nat → Prop := fun r k => Sh r k ∨ Sq q r k
theorem KC_q {τ : jH} {l : lC} {V : Int} {S : Nat → Nat → Prop} (h : KC σ D l V) (hF : Fr S σ τ) (hS : ∀ k, ¬ S 8 k) : KC τ D l V := by
  unfold KC
  rw [hF.ir hS]
  exact h
def lX (cd : lC) : lC := if cd = [] then lU else cd
theorem c_61 {V : Int} {k a x g i : Nat} (hO : Ok σ) (hT : TW σ q D w g) (hX : CX σ t D) (hW : WW D w) (hNT : NT σ q w) (hC : LC σ (lX cd) V) (hK : KC σ D (lX cd) V) (hV : 0 ≤ V ∧ V < 10000) (hD : okd 32 (lX cd) 0) (hF1 : fd (lX cd) 0 = 1) (hg : g ≤ 1) (hq : q + 4 < t ∨ t + 11 < q) (hi1 : i < 150) (hk : k ≤ 3) (e1 : hi σ 13 i = k) (e2 : k = 3 ∨ (hi σ 14 i = a ∧ (a : Int) < D 0 0)) (e3 : k = 0 → hi σ 15 i = x ∧ x < 12) : Ct sc 6 61 [vR 12, vI i, vR q, vR t, vR 3] σ (fun r τ => r = rV (vI (if okG D cd w g k a x = true then 1 else 0)) ∧ TW τ q D (goW D cd w g k a x) g ∧ NT τ q (goW D cd w g k a x) ∧ KC τ D (lX cd) V ∧ Fr (Sgo q) σ τ) := by
  have hl := OWl hT.1
  have hQ := hT.1
  have hd0 := hX.2.2.1
  refine Ct.of (n := 5) (L := [vR 12, vI i, vR q, vR t, vR 3, vU, vU]) cov_61 rfl (Nat.le_of_ble_eq_true rfl) ?_
  unfold T_61
  simp only [↓x_eInt, ↓x_eLng, ↓x_eNul, ↓x_eStr, ↓x_eLoc, ↓x_eLol, ↓x_eLor, ↓x_eBin, ↓x_eDiv, ↓x_eRem, ↓x_eNeg, ↓x_eLbin, ↓x_eLdiv, ↓x_eLrem, ↓x_eLshl, ↓x_eLshr, ↓x_eI2l, ↓x_eL2i, ↓x_eFldI, ↓x_eFldL, ↓x_eFldP, ↓x_eAldI, ↓x_eAldS, ↓x_eAldL, ↓x_eAldP, ↓x_eLen, ↓x_eLenS, ↓x_eCall, ↓x_eCalv, ↓x_eMin, ↓x_eMax, ↓x_eLmin, ↓x_eAbs, ↓x_eSlen, ↓x_eSat, ↓x_eIte, ↓x_eNewa, ↓x_eNewo, ↓x_esN, ↓x_esC, ↓x_cCmp, ↓x_cCmpz, ↓x_cLcmp, ↓x_cIsn, ↓x_cNot, ↓x_cAnd, ↓x_cOr, ↓x_tSkip, ↓x_tSup, ↓x_tSeq, ↓x_tSetI, ↓x_tSetL, ↓x_tSetR, ↓x_tInc, ↓x_tPutI, ↓x_tPutL, ↓x_tPutP, ↓x_tPutc, ↓x_tAstI, ↓x_tAstL, ↓x_tAstP, ↓x_tAstcI, ↓x_tAstcL, ↓x_tAcpI, ↓x_tAcpL, ↓x_tExp, ↓x_tExv, ↓x_tExw, ↓x_tIte, ↓x_tSw, ↓x_tRet, ↓x_tRetB, ↓x_tRetL, ↓x_tRetv, ↓x_tBrk, ↓x_tCont, ↓x_tThr, ↓x_wD, ↓x_wK, ↓x_jIx, ↓x_jOb, ↓x_jInt_I, ↓x_jLng_L, ↓x_jRef_R, ↓x_jStr_S, ↓x_jPls_R, ↓x_jPls_N, ↓x_jAny_R, ↓x_jAny_S, ↓jIntg_0, ↓jLngg_0, ↓jRefg_0, ↓jAnyg_0, ↓jStrg_0, ↓jPlsg_0, ↓jst_x0, ↓jst2_x0, ↓jIntg_1, ↓jLngg_1, ↓jRefg_1, ↓jAnyg_1, ↓jst_x1, ↓jst2_x1, ↓jIntg_2, ↓jLngg_2, ↓jRefg_2, ↓jAnyg_2, ↓jst_x2, ↓jst2_x2, ↓jIntg_3, ↓jLngg_3, ↓jRefg_3, ↓jAnyg_3, ↓jst_x3, ↓jst2_x3, ↓jIntg_4, ↓jLngg_4, ↓jRefg_4, ↓jAnyg_4, ↓jst_x4, ↓jst2_x4, ↓jIntg_5, ↓jLngg_5, ↓jRefg_5, ↓jAnyg_5, ↓jst_x5, ↓jst2_x5, ↓jIntg_6, ↓jLngg_6, ↓jRefg_6, ↓jAnyg_6, ↓jst_x6, ↓jst2_x6, ↓jIntg_7, ↓jLngg_7, ↓jRefg_7, ↓jAnyg_7, ↓jst_x7, ↓jst2_x7, ↓jIntg_8, ↓jLngg_8, ↓jRefg_8, ↓jAnyg_8, ↓jst_x8, ↓jst2_x8, ↓jIntg_9, ↓jLngg_9, ↓jRefg_9, ↓jAnyg_9, ↓jst_x9, ↓jst2_x9, ↓jIntg_10, ↓jLngg_10, ↓jRefg_10, ↓jAnyg_10, ↓jst_x10, ↓jst2_x10, ↓jIntg_11, ↓jLngg_11, ↓jRefg_11, ↓jAnyg_11, ↓jst_x11, ↓jst2_x11, ↓jIntg_12, ↓jLngg_12, ↓jRefg_12, ↓jAnyg_12, ↓jst_x12, ↓jst2_x12, ↓jIntg_13, ↓jLngg_13, ↓jRefg_13, ↓jAnyg_13, ↓jst_x13, ↓jst2_x13, ↓jIntg_14, ↓jLngg_14, ↓jRefg_14, ↓jAnyg_14, ↓jst_x14, ↓jst2_x14, ↓ex_some, jpv_some, jpv_none, jPls_pv, jisL_I, jisL_L, jisL_R, jisL_S, jisL_N, jisL_U, j_op0, j_op1, j_op2, j_c2, true_and, and_true, true_or, or_true, Int.toNat_natCast, nat1, ex_row, ex_row2, jwb1, jwb, jwb2, Classical.not_not, not_true_eq_false, false_implies, true_implies, ne_eq, not_false_eq_true, rV_inj, vI_inj, vL_inj, hi_tp, Nat.reduceEqDiff, Nat.reduceLeDiff, Nat.reduceAdd, Int.reduceLE, Int.reduceLT, Int.reduceEq, Int.reduceNeg, Int.reduceToNat, Int.reduceAdd, Int.reduceSub, Int.reduceMul, oS12 hO, oS13 hO, oS14 hO, oS15 hO, oS16 hO, oS17 hO, oP12_0 hO, oP12_1 hO, oP12_2 hO, oP12_3 hO, oP12_4 hO]
  simp (disch := omega) only [↓x_eInt, ↓x_eLng, ↓x_eNul, ↓x_eStr, ↓x_eLoc, ↓x_eLol, ↓x_eLor, ↓x_eBin, ↓x_eDiv, ↓x_eRem, ↓x_eNeg, ↓x_eLbin, ↓x_eLdiv, ↓x_eLrem, ↓x_eLshl, ↓x_eLshr, ↓x_eI2l, ↓x_eL2i, ↓x_eFldI, ↓x_eFldL, ↓x_eFldP, ↓x_eAldI, ↓x_eAldS, ↓x_eAldL, ↓x_eAldP, ↓x_eLen, ↓x_eLenS, ↓x_eCall, ↓x_eCalv, ↓x_eMin, ↓x_eMax, ↓x_eLmin, ↓x_eAbs, ↓x_eSlen, ↓x_eSat, ↓x_eIte, ↓x_eNewa, ↓x_eNewo, ↓x_esN, ↓x_esC, ↓x_cCmp, ↓x_cCmpz, ↓x_cLcmp, ↓x_cIsn, ↓x_cNot, ↓x_cAnd, ↓x_cOr, ↓x_tSkip, ↓x_tSup, ↓x_tSeq, ↓x_tSetI, ↓x_tSetL, ↓x_tSetR, ↓x_tInc, ↓x_tPutI, ↓x_tPutL, ↓x_tPutP, ↓x_tPutc, ↓x_tAstI, ↓x_tAstL, ↓x_tAstP, ↓x_tAstcI, ↓x_tAstcL, ↓x_tAcpI, ↓x_tAcpL, ↓x_tExp, ↓x_tExv, ↓x_tExw, ↓x_tIte, ↓x_tSw, ↓x_tRet, ↓x_tRetB, ↓x_tRetL, ↓x_tRetv, ↓x_tBrk, ↓x_tCont, ↓x_tThr, ↓x_wD, ↓x_wK, ↓x_jIx, ↓x_jOb, ↓x_jInt_I, ↓x_jLng_L, ↓x_jRef_R, ↓x_jStr_S, ↓x_jPls_R, ↓x_jPls_N, ↓x_jAny_R, ↓x_jAny_S, ↓jIntg_0, ↓jLngg_0, ↓jRefg_0, ↓jAnyg_0, ↓jStrg_0, ↓jPlsg_0, ↓jst_x0, ↓jst2_x0, ↓jIntg_1, ↓jLngg_1, ↓jRefg_1, ↓jAnyg_1, ↓jst_x1, ↓jst2_x1, ↓jIntg_2, ↓jLngg_2, ↓jRefg_2, ↓jAnyg_2, ↓jst_x2, ↓jst2_x2, ↓jIntg_3, ↓jLngg_3, ↓jRefg_3, ↓jAnyg_3, ↓jst_x3, ↓jst2_x3, ↓jIntg_4, ↓jLngg_4, ↓jRefg_4, ↓jAnyg_4, ↓jst_x4, ↓jst2_x4, ↓jIntg_5, ↓jLngg_5, ↓jRefg_5, ↓jAnyg_5, ↓jst_x5, ↓jst2_x5, ↓jIntg_6, ↓jLngg_6, ↓jRefg_6, ↓jAnyg_6, ↓jst_x6, ↓jst2_x6, ↓jIntg_7, ↓jLngg_7, ↓jRefg_7, ↓jAnyg_7, ↓jst_x7, ↓jst2_x7, ↓jIntg_8, ↓jLngg_8, ↓jRefg_8, ↓jAnyg_8, ↓jst_x8, ↓jst2_x8, ↓jIntg_9, ↓jLngg_9, ↓jRefg_9, ↓jAnyg_9, ↓jst_x9, ↓jst2_x9, ↓jIntg_10, ↓jLngg_10, ↓jRefg_10, ↓jAnyg_10, ↓jst_x10, ↓jst2_x10, ↓jIntg_11, ↓jLngg_11, ↓jRefg_11, ↓jAnyg_11, ↓jst_x11, ↓jst2_x11, ↓jIntg_12, ↓jLngg_12, ↓jRefg_12, ↓jAnyg_12, ↓jst_x12, ↓jst2_x12, ↓jIntg_13, ↓jLngg_13, ↓jRefg_13, ↓jAnyg_13, ↓jst_x13, ↓jst2_x13, ↓jIntg_14, ↓jLngg_14, ↓jRefg_14, ↓jAnyg_14, ↓jst_x14, ↓jst2_x14, ↓ex_some, jpv_some, jpv_none, jPls_pv, jisL_I, jisL_L, jisL_R, jisL_S, jisL_N, jisL_U, j_op0, j_op1, j_op2, j_c2, true_and, and_true, true_or, or_true, Int.toNat_natCast, nat1, ex_row, ex_row2, jwb1, jwb, jwb2, Classical.not_not, not_true_eq_false, false_implies, true_implies, ne_eq, not_false_eq_true, rV_inj, vI_inj, vL_inj, hi_tp, Nat.reduceEqDiff, Nat.reduceLeDiff, Nat.reduceAdd, Int.reduceLE, Int.reduceLT, Int.reduceEq, Int.reduceNeg, Int.reduceToNat, Int.reduceAdd, Int.reduceSub, Int.reduceMul, w_id, hsh_si, hp_si, hi_si_ne, oS12 hO, oS13 hO, oS14 hO, oS15 hO, oS16 hO, oS17 hO, oP12_0 hO, oP12_1 hO, oP12_2 hO, oP12_3 hO, oP12_4 hO, e1]
  have no : ∀ τ, ¬ okG D cd w g k a x = true → TW τ q D w g → NT τ q w → KC τ D (lX cd) V → Fr (Sgo q) σ τ → (0 = if okG D cd w g k a x = true then (1 : Int) else 0) ∧ TW τ q D (goW D cd w g k a x) g ∧ NT τ q (goW D cd w g k a x) ∧ KC τ D (lX cd) V ∧ Fr (Sgo q) σ τ := by
    intro τ h h1 h2 h3 h4
    have e : goW D cd w g k a x = w := by unfold goW; rw [if_neg h]
    rw [if_neg h, e]
    exact ⟨rfl, h1, h2, h3, h4⟩
  have ye : ∀ τ, okG D cd w g k a x = true → TW τ q D (goW D cd w g k a x) g → NT τ q (goW D cd w g k a x) → KC τ D (lX cd) V → Fr (Sgo q) σ τ → (1 = if okG D cd w g k a x = true then (1 : Int) else 0) ∧ TW τ q D (goW D cd w g k a x) g ∧ NT τ q (goW D cd w g k a x) ∧ KC τ D (lX cd) V ∧ Fr (Sgo q) σ τ := by
    intro τ h h1 h2 h3 h4
    rw [if_pos h]
    exact ⟨rfl, h1, h2, h3, h4⟩
  have sq : ∀ {τ : jH}, Fr (Sp q) σ τ → Fr (Sgo q) σ τ := fun h => h.mono (fun r k h => Or.inr (by unfold Sp at h; unfold Sq; omega))
  refine ⟨by omega, by omega, by omega, by omega, fun g0 => ?_, fun g0 => ⟨fun g1 => ⟨OWs0 hQ, ?_⟩, fun g1 => ⟨fun g2 => ⟨OWs0 hQ, ?_⟩, fun g2 => ⟨OWs0 hQ, ?_⟩⟩⟩⟩
  · simp only [List.mem_singleton] at g0
    have e : k = 0 := by omega
    subst e
    obtain ⟨ea, ha⟩ := e2.resolve_left (by omega)
    obtain ⟨ex, hx⟩ := e3 rfl
    rw [ea, ex]
    have hok : okG D cd w g 0 a x = cnW D cd w g a x := rfl
    have hls : lsW D cd w g a x = lsl (fcW D w g a x) (lX cd) := rfl
    have hlr := lsl_rg (fcW D w g a x) (lX cd)
    have hcn := cnW_iff (D := D) (cd := cd) (w := w) (f := g) (a := a) (x := x)
    refine ⟨by omega, by omega, OWs0 hQ, (c_83 hO hT hX hW hC hK hV hD hF1 ha hx hg).cal (by omega) ?_⟩
    rintro r τ ⟨rfl, hF, hK2⟩
    refine ⟨_, rfl, rfl, ?_⟩
    simp only [x_jInt_I]
    have hT2 := TW_sh hT hF
    have hN2 : NT τ q w := NT_keep hNT hF (fun k => by unfold Sh; omega) (fun _ _ _ => rfl)
    have hF2 : Fr (Sgo q) σ τ := hF.mono (fun r k h => Or.inl h)
    by_cases h : cnW D cd w g a x = true
    · have hc := hcn.mp h
      rw [hls] at hc
      rw [if_pos ⟨hc.1, hc.2.1, hc.2.2.1, hc.2.2.2⟩, w_id (by omega)]
      have hO2 := hF.ok hO
      have e15 : hi τ 15 i = x := by rw [hF.i (by unfold Sh; omega)]; exact ex
      have hgo : goW D cd w g 0 a x = lyW w a x (lsl (fcW D w g a x) (lX cd)) := by
        unfold goW
        rw [hok, if_pos h]
        rfl
      refine ⟨fun z => by omega, fun _ => ?_⟩
      simp (disch := omega) only [↓x_eInt, ↓x_eLng, ↓x_eNul, ↓x_eStr, ↓x_eLoc, ↓x_eLol, ↓x_eLor, ↓x_eBin, ↓x_eDiv, ↓x_eRem, ↓x_eNeg, ↓x_eLbin, ↓x_eLdiv, ↓x_eLrem, ↓x_eLshl, ↓x_eLshr, ↓x_eI2l, ↓x_eL2i, ↓x_eFldI, ↓x_eFldL, ↓x_eFldP, ↓x_eAldI, ↓x_eAldS, ↓x_eAldL, ↓x_eAldP, ↓x_eLen, ↓x_eLenS, ↓x_eCall, ↓x_eCalv, ↓x_eMin, ↓x_eMax, ↓x_eLmin, ↓x_eAbs, ↓x_eSlen, ↓x_eSat, ↓x_eIte, ↓x_eNewa, ↓x_eNewo, ↓x_esN, ↓x_esC, ↓x_cCmp, ↓x_cCmpz, ↓x_cLcmp, ↓x_cIsn, ↓x_cNot, ↓x_cAnd, ↓x_cOr, ↓x_tSkip, ↓x_tSup, ↓x_tSeq, ↓x_tSetI, ↓x_tSetL, ↓x_tSetR, ↓x_tInc, ↓x_tPutI, ↓x_tPutL, ↓x_tPutP, ↓x_tPutc, ↓x_tAstI, ↓x_tAstL, ↓x_tAstP, ↓x_tAstcI, ↓x_tAstcL, ↓x_tAcpI, ↓x_tAcpL, ↓x_tExp, ↓x_tExv, ↓x_tExw, ↓x_tIte, ↓x_tSw, ↓x_tRet, ↓x_tRetB, ↓x_tRetL, ↓x_tRetv, ↓x_tBrk, ↓x_tCont, ↓x_tThr, ↓x_wD, ↓x_wK, ↓x_jIx, ↓x_jOb, ↓x_jInt_I, ↓x_jLng_L, ↓x_jRef_R, ↓x_jStr_S, ↓x_jPls_R, ↓x_jPls_N, ↓x_jAny_R, ↓x_jAny_S, ↓jIntg_0, ↓jLngg_0, ↓jRefg_0, ↓jAnyg_0, ↓jStrg_0, ↓jPlsg_0, ↓jst_x0, ↓jst2_x0, ↓jIntg_1, ↓jLngg_1, ↓jRefg_1, ↓jAnyg_1, ↓jst_x1, ↓jst2_x1, ↓jIntg_2, ↓jLngg_2, ↓jRefg_2, ↓jAnyg_2, ↓jst_x2, ↓jst2_x2, ↓jIntg_3, ↓jLngg_3, ↓jRefg_3, ↓jAnyg_3, ↓jst_x3, ↓jst2_x3, ↓jIntg_4, ↓jLngg_4, ↓jRefg_4, ↓jAnyg_4, ↓jst_x4, ↓jst2_x4, ↓jIntg_5, ↓jLngg_5, ↓jRefg_5, ↓jAnyg_5, ↓jst_x5, ↓jst2_x5, ↓jIntg_6, ↓jLngg_6, ↓jRefg_6, ↓jAnyg_6, ↓jst_x6, ↓jst2_x6, ↓jIntg_7, ↓jLngg_7, ↓jRefg_7, ↓jAnyg_7, ↓jst_x7, ↓jst2_x7, ↓jIntg_8, ↓jLngg_8, ↓jRefg_8, ↓jAnyg_8, ↓jst_x8, ↓jst2_x8, ↓jIntg_9, ↓jLngg_9, ↓jRefg_9, ↓jAnyg_9, ↓jst_x9, ↓jst2_x9, ↓jIntg_10, ↓jLngg_10, ↓jRefg_10, ↓jAnyg_10, ↓jst_x10, ↓jst2_x10, ↓jIntg_11, ↓jLngg_11, ↓jRefg_11, ↓jAnyg_11, ↓jst_x11, ↓jst2_x11, ↓jIntg_12, ↓jLngg_12, ↓jRefg_12, ↓jAnyg_12, ↓jst_x12, ↓jst2_x12, ↓jIntg_13, ↓jLngg_13, ↓jRefg_13, ↓jAnyg_13, ↓jst_x13, ↓jst2_x13, ↓jIntg_14, ↓jLngg_14, ↓jRefg_14, ↓jAnyg_14, ↓jst_x14, ↓jst2_x14, ↓ex_some, jpv_some, jpv_none, jPls_pv, jisL_I, jisL_L, jisL_R, jisL_S, jisL_N, jisL_U, j_op0, j_op1, j_op2, j_c2, true_and, and_true, true_or, or_true, Int.toNat_natCast, nat1, ex_row, ex_row2, jwb1, jwb, jwb2, Classical.not_not, not_true_eq_false, false_implies, true_implies, ne_eq, not_false_eq_true, rV_inj, vI_inj, vL_inj, hi_tp, Nat.reduceEqDiff, Nat.reduceLeDiff, Nat.reduceAdd, Int.reduceLE, Int.reduceLT, Int.reduceEq, Int.reduceNeg, Int.reduceToNat, Int.reduceAdd, Int.reduceSub, Int.reduceMul, w_id, hsh_si, hp_si, hi_si_ne, oS12 hO2, oS13 hO2, oS14 hO2, oS15 hO2, oS16 hO2, oS17 hO2, oP12_0 hO2, oP12_1 hO2, oP12_2 hO2, oP12_3 hO2, oP12_4 hO2, e15]
      refine ⟨by omega, by omega, OWs0 hT2.1, ?_⟩
      refine (c_85 hT2 hW hX.2.2 ha hx hc.1 hc.2.1).cat2 (by omega) ?_
      rintro r υ ⟨rfl, hT3, hF3⟩
      refine Or.inl ⟨rfl, ye υ (by rw [hok]; exact h) (by rw [hgo]; exact hT3) ?_ (KC_q hK2 hF3 (fun k => by unfold Sp; omega)) (hF2.trans (hF3.mono (fun r k h => Or.inr (by unfold Sp at h; unfold Sq; omega))))⟩
      rw [hgo]
      exact NT_keep hN2 hF3 (fun k => by unfold Sp; omega) (fun j h1 h2 => ly_oth (by omega) j (by omega) (by omega))
    · have hc := fun z => h (hcn.mpr z)
      rw [hls] at hc
      rw [if_neg hc, w_id (by omega)]
      exact ⟨fun _ => no τ (by rw [hok]; exact h) hT2 hN2 hK2 hF2, fun z => (z rfl).elim⟩
  · simp only [List.mem_singleton] at g1
    have e : k = 1 := by omega
    subst e
    obtain ⟨ea, ha⟩ := e2.resolve_left (by omega)
    rw [ea]
    have hok : okG D cd w g 1 a x = tkW D w a := rfl
    refine (c_86 hT hX hW ha).cal (by omega) ?_
    rintro r τ (⟨h, rfl, hT2, hF⟩ | ⟨h, rfl, rfl⟩)
    · refine ⟨_, rfl, rfl, ?_⟩
      simp only [x_jInt_I]
      have hgo : goW D cd w g 1 a x = tuW D w a := by
        unfold goW
        rw [hok, if_pos h]
        rfl
      refine ⟨Or.inr trivial, ye τ (by rw [hok]; exact h) (by rw [hgo]; exact hT2) ?_ (KC_q hK hF (fun k => by unfold Sp; omega)) (sq hF)⟩
      rw [hgo]
      exact NT_keep hNT hF (fun k => by unfold Sp; omega) (fun j h1 h2 => tu_oth (by omega) j (by omega) (by omega))
    · refine ⟨_, rfl, rfl, ?_⟩
      simp only [x_jInt_I]
      exact ⟨Or.inl trivial, no _ (by rw [hok]; exact h) hT hNT hK (Fr.refl _ _)⟩
  · simp only [List.mem_singleton] at g0 g1 g2
    have e : k = 2 := by omega
    subst e
    obtain ⟨ea, ha⟩ := e2.resolve_left (by omega)
    rw [ea]
    have hok : okG D cd w g 2 a x = ftW w a := rfl
    refine (c_88 hT hW (by omega) (by omega)).cal (by omega) ?_
    rintro r τ (⟨h, rfl, hT2, hF⟩ | ⟨h, rfl, rfl⟩)
    · refine ⟨_, rfl, rfl, ?_⟩
      simp only [x_jInt_I]
      have hgo : goW D cd w g 2 a x = fbW w a := by
        unfold goW
        rw [hok, if_pos h]
        rfl
      refine ⟨Or.inr trivial, ye τ (by rw [hok]; exact h) (by rw [hgo]; exact hT2) ?_ (KC_q hK hF (fun k => by unfold Sp; omega)) (sq hF)⟩
      rw [hgo]
      exact NT_keep hNT hF (fun k => by unfold Sp; omega) (fun j h1 h2 => by simp only [fbW, upw_eq]; rw [if_neg (by omega), if_neg (by omega)])
    · refine ⟨_, rfl, rfl, ?_⟩
      simp only [x_jInt_I]
      exact ⟨Or.inl trivial, no _ (by rw [hok]; exact h) hT hNT hK (Fr.refl _ _)⟩
  · simp only [List.mem_singleton] at g0 g1 g2
    have e : k = 3 := by omega
    subst e
    have hok : okG D cd w g 3 a x = decide (¬ w 168 = 200) := rfl
    refine (c_89 hT hX hW hNT hq).cal (by omega) ?_
    rintro r τ (⟨h, rfl, rfl⟩ | ⟨h, rfl, hT2, hN2, hF⟩)
    · refine ⟨_, rfl, rfl, ?_⟩
      simp only [x_jInt_I]
      exact ⟨Or.inl trivial, no _ (by rw [hok]; simp [h]) hT hNT hK (Fr.refl _ _)⟩
    · refine ⟨_, rfl, rfl, ?_⟩
      simp only [x_jInt_I]
      have hok2 : okG D cd w g 3 a x = true := by rw [hok]; simp [h]
      have hgo : goW D cd w g 3 a x = dyW D w := by
        unfold goW
        rw [if_pos hok2]
        rfl
      exact ⟨Or.inr trivial, ye τ hok2 (by rw [hgo]; exact hT2) (by rw [hgo]; exact hN2) (KC_q hK hF (fun k => by unfold Sq; omega)) (hF.mono (fun r k h => Or.inr h))⟩
end CSTEP
