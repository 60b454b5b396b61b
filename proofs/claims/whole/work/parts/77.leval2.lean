/-! A LAW's pieces run over a stack -/
section LEVAL2
variable {sc : jSc} {σ : jH} {e a : Nat} {q k o : Int}
/-- a row holds a stack, as 32 bits -/
def SR (f : Nat → Int) (st : List Int) : Prop := ∀ j, j < st.length → j_w (f j) = st.getD (st.length - 1 - j) 0
theorem SR_nil (f : Nat → Int) : SR f [] := fun j h => by simp at h
theorem SR_push {f : Nat → Int} {st : List Int} {z : Int} (h : SR f st) : SR (fun b => if b = st.length then z else f b) (j_w z :: st) := by
  intro j hj
  rw [List.length_cons] at hj ⊢
  by_cases h1 : j = st.length
  · subst h1
    simp
  · simp only [if_neg h1]
    rw [h j (by omega), show st.length + 1 - 1 - j = st.length - 1 - j + 1 by omega]
    rfl
theorem SR_join {f : Nat → Int} {x y z : Int} {r : List Int} (h : SR f (y :: x :: r)) : SR (fun b => if b = r.length then z else f b) (j_w z :: r) := by
  intro j hj
  rw [List.length_cons] at hj ⊢
  by_cases h1 : j = r.length
  · subst h1
    simp
  · simp only [if_neg h1]
    rw [h j (by simp only [List.length_cons]; omega)]
    simp only [List.length_cons]
    rw [show r.length + 1 + 1 - 1 - j = r.length - 1 - j + 1 + 1 by omega, show r.length + 1 - 1 - j = r.length - 1 - j + 1 by omega]
    rfl
theorem SR_top {f : Nat → Int} {x y : Int} {r : List Int} (h : SR f (y :: x :: r)) : j_w (f (r.length + 1)) = y ∧ j_w (f r.length) = x := by
  have h1 := h (r.length + 1) (by simp)
  have h2 := h r.length (by simp only [List.length_cons]; omega)
  simp only [List.length_cons] at h1 h2
  rw [show r.length + 1 + 1 - 1 - (r.length + 1) = 0 by omega] at h1
  rw [show r.length + 1 + 1 - 1 - r.length = 1 by omega] at h2
  exact ⟨h1, h2⟩
theorem ev_len (fa : Nat → Int) : ∀ (l : lC) (st : List Int) (m : Nat), okd m l st.length → (ev fa l st).length = fd l st.length
  | [], st, m, _ => rfl
  | x :: l, st, m, h => by
    simp only [okd] at h
    simp only [ev, fd]
    by_cases h0 : x.1 = 0
    · rw [if_pos (by omega)] at h
      rw [if_pos h0, if_pos (by omega)]
      exact ev_len fa l (_ :: st) m h.2
    · by_cases h1 : x.1 = 1
      · rw [if_pos (by omega)] at h
        rw [if_neg h0, if_pos h1, if_pos (by omega)]
        exact ev_len fa l (_ :: st) m h.2
      · rw [if_neg (by omega)] at h
        rw [if_neg h0, if_neg h1, if_neg (by omega)]
        match st, h with
        | [], h => simp at h
        | [y], h => simp at h
        | y :: z :: r, h => exact ev_len fa l (_ :: r) m h.2
theorem drop_at {l : lC} {i : Nat} (h : i < l.length) : l.drop i = l.getD i (0, 0) :: l.drop (i + 1) := by
  rw [List.drop_eq_getElem_cons h, List.getD_eq_getElem?_getD, List.getElem?_eq_getElem h]
  rfl
def fct (σ : jH) (r : Nat) : Nat → Int := fun w => j_w (hi σ r w)
theorem c_33 {l : lC} {V : Int} (hO : Ok σ) (hC : LC σ l V) (hD : okd 32 l 0) (hF1 : fd l 0 = 1) : Ct sc 2 33 [vR 3] σ (fun r τ => r = rV (vI (clp ((ev (fct σ 6) l []).getD 0 0))) ∧ Fr (fun r _ => r = 7) σ τ) := by
  obtain ⟨h5, hl, hw, hcode, -⟩ := hC
  refine Ct.norm ?_
  have hlen := ev_len (fct σ 6) l [] 32 hD
  rw [show ([] : List Int).length = 0 from rfl, hF1] at hlen
  generalize hRES : ev (fct σ 6) l [] = RES at *
  refine Ct.of (n := 1) (L := [vR 3, vU, vU, vU]) cov_33 rfl (Nat.le_of_ble_eq_true rfl) ?_
  unfold T_33
  simp only [↓x_eInt, ↓x_eLng, ↓x_eNul, ↓x_eStr, ↓x_eLoc, ↓x_eLol, ↓x_eLor, ↓x_eBin, ↓x_eDiv, ↓x_eRem, ↓x_eNeg, ↓x_eLbin, ↓x_eLdiv, ↓x_eLrem, ↓x_eLshl, ↓x_eLshr, ↓x_eI2l, ↓x_eL2i, ↓x_eFldI, ↓x_eFldL, ↓x_eFldP, ↓x_eAldI, ↓x_eAldS, ↓x_eAldL, ↓x_eAldP, ↓x_eLen, ↓x_eLenS, ↓x_eCall, ↓x_eCalv, ↓x_eMin, ↓x_eMax, ↓x_eLmin, ↓x_eAbs, ↓x_eSlen, ↓x_eSat, ↓x_eIte, ↓x_eNewa, ↓x_eNewo, ↓x_esN, ↓x_esC, ↓x_cCmp, ↓x_cCmpz, ↓x_cLcmp, ↓x_cIsn, ↓x_cNot, ↓x_cAnd, ↓x_cOr, ↓x_tSkip, ↓x_tSup, ↓x_tSeq, ↓x_tSetI, ↓x_tSetL, ↓x_tSetR, ↓x_tInc, ↓x_tPutI, ↓x_tPutL, ↓x_tPutP, ↓x_tPutc, ↓x_tAstI, ↓x_tAstL, ↓x_tAstP, ↓x_tAstcI, ↓x_tAstcL, ↓x_tAcpI, ↓x_tAcpL, ↓x_tExp, ↓x_tExv, ↓x_tExw, ↓x_tIte, ↓x_tSw, ↓x_tRet, ↓x_tRetB, ↓x_tRetL, ↓x_tRetv, ↓x_tBrk, ↓x_tCont, ↓x_tThr, ↓x_wD, ↓x_wK, ↓x_jIx, ↓x_jOb, ↓x_jInt_I, ↓x_jLng_L, ↓x_jRef_R, ↓x_jStr_S, ↓x_jPls_R, ↓x_jPls_N, ↓x_jAny_R, ↓x_jAny_S, ↓jIntg_0, ↓jLngg_0, ↓jRefg_0, ↓jAnyg_0, ↓jStrg_0, ↓jPlsg_0, ↓jst_x0, ↓jst2_x0, ↓jIntg_1, ↓jLngg_1, ↓jRefg_1, ↓jAnyg_1, ↓jst_x1, ↓jst2_x1, ↓jIntg_2, ↓jLngg_2, ↓jRefg_2, ↓jAnyg_2, ↓jst_x2, ↓jst2_x2, ↓jIntg_3, ↓jLngg_3, ↓jRefg_3, ↓jAnyg_3, ↓jst_x3, ↓jst2_x3, ↓jIntg_4, ↓jLngg_4, ↓jRefg_4, ↓jAnyg_4, ↓jst_x4, ↓jst2_x4, ↓jIntg_5, ↓jLngg_5, ↓jRefg_5, ↓jAnyg_5, ↓jst_x5, ↓jst2_x5, ↓jIntg_6, ↓jLngg_6, ↓jRefg_6, ↓jAnyg_6, ↓jst_x6, ↓jst2_x6, ↓jIntg_7, ↓jLngg_7, ↓jRefg_7, ↓jAnyg_7, ↓jst_x7, ↓jst2_x7, ↓jIntg_8, ↓jLngg_8, ↓jRefg_8, ↓jAnyg_8, ↓jst_x8, ↓jst2_x8, ↓jIntg_9, ↓jLngg_9, ↓jRefg_9, ↓jAnyg_9, ↓jst_x9, ↓jst2_x9, ↓jIntg_10, ↓jLngg_10, ↓jRefg_10, ↓jAnyg_10, ↓jst_x10, ↓jst2_x10, ↓jIntg_11, ↓jLngg_11, ↓jRefg_11, ↓jAnyg_11, ↓jst_x11, ↓jst2_x11, ↓jIntg_12, ↓jLngg_12, ↓jRefg_12, ↓jAnyg_12, ↓jst_x12, ↓jst2_x12, ↓jIntg_13, ↓jLngg_13, ↓jRefg_13, ↓jAnyg_13, ↓jst_x13, ↓jst2_x13, ↓jIntg_14, ↓jLngg_14, ↓jRefg_14, ↓jAnyg_14, ↓jst_x14, ↓jst2_x14, ↓ex_some, jpv_some, jpv_none, jPls_pv, jisL_I, jisL_L, jisL_R, jisL_S, jisL_N, jisL_U, j_op0, j_op1, j_op2, j_c2, true_and, and_true, true_or, or_true, Int.toNat_natCast, nat1, ex_row, ex_row2, jwb1, jwb, jwb2, Classical.not_not, not_true_eq_false, false_implies, true_implies, ne_eq, not_false_eq_true, rV_inj, vI_inj, vL_inj, hi_tp, Nat.reduceEqDiff, Nat.reduceLeDiff, Nat.reduceAdd, Int.reduceLE, Int.reduceLT, Int.reduceEq, Int.reduceNeg, Int.reduceToNat, Int.reduceAdd, Int.reduceSub, Int.reduceMul, oS3 hO, oS4 hO, oS5 hO, oS6 hO, oS7 hO, oS8 hO, oP3_0 hO, oP3_1 hO, oP3_2 hO, oP3_3 hO, oP3_4 hO]
  refine tLoop_go (fun x : Nat × List Int × jV => l.length - x.1) (fun x => [vR 3, vI x.2.1.length, vI x.1, x.2.2])
    (fun x τ => x.1 ≤ l.length ∧ okd 32 (l.drop x.1) x.2.1.length ∧ x.2.1.length ≤ 32 ∧ ev (fct σ 6) (l.drop x.1) x.2.1 = RES ∧ SR (hi τ 7) x.2.1 ∧ Fr (fun r _ => r = 7) σ τ)
    (fun x τ => SR (hi τ 7) RES ∧ Fr (fun r _ => r = 7) σ τ) (0, [], vU) rfl ⟨Nat.zero_le _, hD, Nat.zero_le _, hRES, SR_nil _, Fr.refl _ _⟩ ?_ ?_
  · rintro ⟨i, st, y3⟩ τ N' N ⟨hi1, hok, hst, hev, hS, hF⟩ hN hE
    simp only at hi1 hok hst hev hS
    have hO' := hF.ok hO
    have hne : ∀ r, r ≠ 7 → hi τ r = hi σ r := fun r hr => hF.ir (fun k => hr)
    have e3 := hne 3 (by decide)
    have e4 := hne 4 (by decide)
    have e6 := hne 6 (by decide)
    simp (disch := omega) only [↓x_eInt, ↓x_eLng, ↓x_eNul, ↓x_eStr, ↓x_eLoc, ↓x_eLol, ↓x_eLor, ↓x_eBin, ↓x_eDiv, ↓x_eRem, ↓x_eNeg, ↓x_eLbin, ↓x_eLdiv, ↓x_eLrem, ↓x_eLshl, ↓x_eLshr, ↓x_eI2l, ↓x_eL2i, ↓x_eFldI, ↓x_eFldL, ↓x_eFldP, ↓x_eAldI, ↓x_eAldS, ↓x_eAldL, ↓x_eAldP, ↓x_eLen, ↓x_eLenS, ↓x_eCall, ↓x_eCalv, ↓x_eMin, ↓x_eMax, ↓x_eLmin, ↓x_eAbs, ↓x_eSlen, ↓x_eSat, ↓x_eIte, ↓x_eNewa, ↓x_eNewo, ↓x_esN, ↓x_esC, ↓x_cCmp, ↓x_cCmpz, ↓x_cLcmp, ↓x_cIsn, ↓x_cNot, ↓x_cAnd, ↓x_cOr, ↓x_tSkip, ↓x_tSup, ↓x_tSeq, ↓x_tSetI, ↓x_tSetL, ↓x_tSetR, ↓x_tInc, ↓x_tPutI, ↓x_tPutL, ↓x_tPutP, ↓x_tPutc, ↓x_tAstI, ↓x_tAstL, ↓x_tAstP, ↓x_tAstcI, ↓x_tAstcL, ↓x_tAcpI, ↓x_tAcpL, ↓x_tExp, ↓x_tExv, ↓x_tExw, ↓x_tIte, ↓x_tSw, ↓x_tRet, ↓x_tRetB, ↓x_tRetL, ↓x_tRetv, ↓x_tBrk, ↓x_tCont, ↓x_tThr, ↓x_wD, ↓x_wK, ↓x_jIx, ↓x_jOb, ↓x_jInt_I, ↓x_jLng_L, ↓x_jRef_R, ↓x_jStr_S, ↓x_jPls_R, ↓x_jPls_N, ↓x_jAny_R, ↓x_jAny_S, ↓jIntg_0, ↓jLngg_0, ↓jRefg_0, ↓jAnyg_0, ↓jStrg_0, ↓jPlsg_0, ↓jst_x0, ↓jst2_x0, ↓jIntg_1, ↓jLngg_1, ↓jRefg_1, ↓jAnyg_1, ↓jst_x1, ↓jst2_x1, ↓jIntg_2, ↓jLngg_2, ↓jRefg_2, ↓jAnyg_2, ↓jst_x2, ↓jst2_x2, ↓jIntg_3, ↓jLngg_3, ↓jRefg_3, ↓jAnyg_3, ↓jst_x3, ↓jst2_x3, ↓jIntg_4, ↓jLngg_4, ↓jRefg_4, ↓jAnyg_4, ↓jst_x4, ↓jst2_x4, ↓jIntg_5, ↓jLngg_5, ↓jRefg_5, ↓jAnyg_5, ↓jst_x5, ↓jst2_x5, ↓jIntg_6, ↓jLngg_6, ↓jRefg_6, ↓jAnyg_6, ↓jst_x6, ↓jst2_x6, ↓jIntg_7, ↓jLngg_7, ↓jRefg_7, ↓jAnyg_7, ↓jst_x7, ↓jst2_x7, ↓jIntg_8, ↓jLngg_8, ↓jRefg_8, ↓jAnyg_8, ↓jst_x8, ↓jst2_x8, ↓jIntg_9, ↓jLngg_9, ↓jRefg_9, ↓jAnyg_9, ↓jst_x9, ↓jst2_x9, ↓jIntg_10, ↓jLngg_10, ↓jRefg_10, ↓jAnyg_10, ↓jst_x10, ↓jst2_x10, ↓jIntg_11, ↓jLngg_11, ↓jRefg_11, ↓jAnyg_11, ↓jst_x11, ↓jst2_x11, ↓jIntg_12, ↓jLngg_12, ↓jRefg_12, ↓jAnyg_12, ↓jst_x12, ↓jst2_x12, ↓jIntg_13, ↓jLngg_13, ↓jRefg_13, ↓jAnyg_13, ↓jst_x13, ↓jst2_x13, ↓jIntg_14, ↓jLngg_14, ↓jRefg_14, ↓jAnyg_14, ↓jst_x14, ↓jst2_x14, ↓ex_some, jpv_some, jpv_none, jPls_pv, jisL_I, jisL_L, jisL_R, jisL_S, jisL_N, jisL_U, j_op0, j_op1, j_op2, j_c2, true_and, and_true, true_or, or_true, Int.toNat_natCast, nat1, ex_row, ex_row2, jwb1, jwb, jwb2, Classical.not_not, not_true_eq_false, false_implies, true_implies, ne_eq, not_false_eq_true, rV_inj, vI_inj, vL_inj, hi_tp, Nat.reduceEqDiff, Nat.reduceLeDiff, Nat.reduceAdd, Int.reduceLE, Int.reduceLT, Int.reduceEq, Int.reduceNeg, Int.reduceToNat, Int.reduceAdd, Int.reduceSub, Int.reduceMul, w_id, hsh_si, hp_si, hi_si_ne, oS3 hO', oS4 hO', oS5 hO', oS6 hO', oS7 hO', oS8 hO', oP3_0 hO', oP3_1 hO', oP3_2 hO', oP3_3 hO', oP3_4 hO', e3, e4, e6, h5]
    refine ⟨fun hlt => ?_, fun hlt => hE (i, st, y3) _ ⟨?_, hF⟩⟩
    · have hlt' : i < l.length := by omega
      have hgx : l.getD i (0, 0) ∈ l := by
        rw [List.getD_eq_getElem?_getD, List.getElem?_eq_getElem hlt']
        exact List.getElem_mem _
      have hwx := hw _ hgx
      have hrg := enc_rg hwx
      rw [drop_at hlt'] at hok hev
      rw [hcode i hlt']
      generalize l.getD i (0, 0) = x at *
      obtain ⟨x1, x2⟩ := x
      simp only [okd] at hok
      simp only [ev] at hev
      unfold wlp at hwx
      simp only at hwx
      simp (disch := omega) only [w_id]
      refine ⟨by omega, by omega, ?_⟩
      rcases hwx with ⟨rfl, h2⟩ | ⟨rfl, h2⟩ | ⟨h1, h2, rfl⟩
      · rw [if_pos (by omega)] at hok
        rw [if_pos rfl] at hev
        have he : enc (0, x2) = x2 := rfl
        rw [he]
        refine ⟨fun _ => ⟨fun _ => ⟨fun _ => ⟨by omega, by omega, hN (i + 1, (x2 : Int) :: st, _) _ (by simp only; omega) ⟨by simp only; omega, hok.2, by simp only [List.length_cons]; omega, hev, ?_, hF.si rfl⟩⟩, fun h => by omega⟩, fun h => by omega⟩, fun h => by omega⟩
        have := SR_push (z := (x2 : Int)) hS
        rw [w_id (by omega)] at this
        rw [hsi_sr, hi_sr_eq]
        exact this
      · rw [if_pos (by omega)] at hok
        rw [if_neg (by decide), if_pos rfl] at hev
        have he : enc (1, x2) = 1000 + x2 := rfl
        rw [he]
        refine ⟨fun _ => ⟨fun _ => ⟨fun h => by omega, fun _ => ⟨by omega, by omega, by omega, by omega, hN (i + 1, fct σ 6 x2 :: st, _) _ (by simp only; omega) ⟨by simp only; omega, hok.2, by simp only [List.length_cons]; omega, hev, ?_, hF.si rfl⟩⟩⟩, fun h => by omega⟩, fun h => by omega⟩
        have := SR_push (z := hi σ 6 x2) hS
        rw [hsi_sr, hi_sr_eq, show (1000 + (x2 : Int) - 1000).toNat = x2 by omega]
        exact this
      · rw [if_neg (by omega)] at hok
        rw [if_neg (by omega), if_neg (by omega)] at hev
        have he : enc (x1, 0) = 1998 + x1 := by unfold enc; rw [if_neg (by simp only; omega), if_neg (by simp only; omega)]
        rw [he]
        match st, hok, hev, hS, hst, hN with
        | [], hok, _, _, _, _ => simp at hok
        | [y], hok, _, _, _, _ => simp at hok
        | y :: z :: r, hok, hev, hS, hst, hN =>
          simp only [List.length_cons] at hok hst hN ⊢
          have htop := SR_top hS
          rw [show ((r.length + 1 + 1 : Nat) : Int) + -1 = ((r.length + 1 : Nat) : Int) by omega]
          rw [show (((r.length + 1 : Nat) : Int) - 1).toNat = r.length by omega]
          refine ⟨fun h => by omega, fun _ => ⟨fun _ => ⟨by omega, by omega, by omega, by omega, ?_⟩, fun h => by omega⟩⟩
          rw [Int.toNat_natCast]
          refine (c_34 ⟨h1, h2⟩).val (by omega) rfl ?_
          rw [htop.1, htop.2]
          simp (disch := omega) only [↓x_eInt, ↓x_eLng, ↓x_eNul, ↓x_eStr, ↓x_eLoc, ↓x_eLol, ↓x_eLor, ↓x_eBin, ↓x_eDiv, ↓x_eRem, ↓x_eNeg, ↓x_eLbin, ↓x_eLdiv, ↓x_eLrem, ↓x_eLshl, ↓x_eLshr, ↓x_eI2l, ↓x_eL2i, ↓x_eFldI, ↓x_eFldL, ↓x_eFldP, ↓x_eAldI, ↓x_eAldS, ↓x_eAldL, ↓x_eAldP, ↓x_eLen, ↓x_eLenS, ↓x_eCall, ↓x_eCalv, ↓x_eMin, ↓x_eMax, ↓x_eLmin, ↓x_eAbs, ↓x_eSlen, ↓x_eSat, ↓x_eIte, ↓x_eNewa, ↓x_eNewo, ↓x_esN, ↓x_esC, ↓x_cCmp, ↓x_cCmpz, ↓x_cLcmp, ↓x_cIsn, ↓x_cNot, ↓x_cAnd, ↓x_cOr, ↓x_tSkip, ↓x_tSup, ↓x_tSeq, ↓x_tSetI, ↓x_tSetL, ↓x_tSetR, ↓x_tInc, ↓x_tPutI, ↓x_tPutL, ↓x_tPutP, ↓x_tPutc, ↓x_tAstI, ↓x_tAstL, ↓x_tAstP, ↓x_tAstcI, ↓x_tAstcL, ↓x_tAcpI, ↓x_tAcpL, ↓x_tExp, ↓x_tExv, ↓x_tExw, ↓x_tIte, ↓x_tSw, ↓x_tRet, ↓x_tRetB, ↓x_tRetL, ↓x_tRetv, ↓x_tBrk, ↓x_tCont, ↓x_tThr, ↓x_wD, ↓x_wK, ↓x_jIx, ↓x_jOb, ↓x_jInt_I, ↓x_jLng_L, ↓x_jRef_R, ↓x_jStr_S, ↓x_jPls_R, ↓x_jPls_N, ↓x_jAny_R, ↓x_jAny_S, ↓jIntg_0, ↓jLngg_0, ↓jRefg_0, ↓jAnyg_0, ↓jStrg_0, ↓jPlsg_0, ↓jst_x0, ↓jst2_x0, ↓jIntg_1, ↓jLngg_1, ↓jRefg_1, ↓jAnyg_1, ↓jst_x1, ↓jst2_x1, ↓jIntg_2, ↓jLngg_2, ↓jRefg_2, ↓jAnyg_2, ↓jst_x2, ↓jst2_x2, ↓jIntg_3, ↓jLngg_3, ↓jRefg_3, ↓jAnyg_3, ↓jst_x3, ↓jst2_x3, ↓jIntg_4, ↓jLngg_4, ↓jRefg_4, ↓jAnyg_4, ↓jst_x4, ↓jst2_x4, ↓jIntg_5, ↓jLngg_5, ↓jRefg_5, ↓jAnyg_5, ↓jst_x5, ↓jst2_x5, ↓jIntg_6, ↓jLngg_6, ↓jRefg_6, ↓jAnyg_6, ↓jst_x6, ↓jst2_x6, ↓jIntg_7, ↓jLngg_7, ↓jRefg_7, ↓jAnyg_7, ↓jst_x7, ↓jst2_x7, ↓jIntg_8, ↓jLngg_8, ↓jRefg_8, ↓jAnyg_8, ↓jst_x8, ↓jst2_x8, ↓jIntg_9, ↓jLngg_9, ↓jRefg_9, ↓jAnyg_9, ↓jst_x9, ↓jst2_x9, ↓jIntg_10, ↓jLngg_10, ↓jRefg_10, ↓jAnyg_10, ↓jst_x10, ↓jst2_x10, ↓jIntg_11, ↓jLngg_11, ↓jRefg_11, ↓jAnyg_11, ↓jst_x11, ↓jst2_x11, ↓jIntg_12, ↓jLngg_12, ↓jRefg_12, ↓jAnyg_12, ↓jst_x12, ↓jst2_x12, ↓jIntg_13, ↓jLngg_13, ↓jRefg_13, ↓jAnyg_13, ↓jst_x13, ↓jst2_x13, ↓jIntg_14, ↓jLngg_14, ↓jRefg_14, ↓jAnyg_14, ↓jst_x14, ↓jst2_x14, ↓ex_some, jpv_some, jpv_none, jPls_pv, jisL_I, jisL_L, jisL_R, jisL_S, jisL_N, jisL_U, j_op0, j_op1, j_op2, j_c2, true_and, and_true, true_or, or_true, Int.toNat_natCast, nat1, ex_row, ex_row2, jwb1, jwb, jwb2, Classical.not_not, not_true_eq_false, false_implies, true_implies, ne_eq, not_false_eq_true, rV_inj, vI_inj, vL_inj, hi_tp, Nat.reduceEqDiff, Nat.reduceLeDiff, Nat.reduceAdd, Int.reduceLE, Int.reduceLT, Int.reduceEq, Int.reduceNeg, Int.reduceToNat, Int.reduceAdd, Int.reduceSub, Int.reduceMul, w_id, hsh_si, hp_si, hi_si_ne, oS3 hO', oS4 hO', oS5 hO', oS6 hO', oS7 hO', oS8 hO', oP3_0 hO', oP3_1 hO', oP3_2 hO', oP3_3 hO', oP3_4 hO']
          refine ⟨by omega, by omega, ?_⟩
          have := SR_join (z := bo x1 z y) hS
          have hbj : j_w (bo x1 z y) = bo x1 z y := by
            have hy : j_w y = y := by rw [← htop.1, jw_jw]
            have hz : j_w z = z := by rw [← htop.2, jw_jw]
            unfold bo
            split
            · exact jw_jw _
            · exact jw_jw _
            · exact jw_jw _
            · split
              · rfl
              · exact jw_div _ _
            · split <;> assumption
            · split <;> assumption
          rw [hbj] at this
          refine hN (i + 1, bo x1 z y :: r, _) _ (by simp only; omega) ⟨by simp only; omega, hok.2, by simp only [List.length_cons]; omega, hev, ?_, hF.si rfl⟩
          rw [hsi_sr, hi_sr_eq]
          exact this
    · rw [show i = l.length by omega, List.drop_length] at hev
      rw [← hev]
      exact hS
  · rintro ⟨i, st, y3⟩ τ ⟨hS, hF⟩
    have hO' := hF.ok hO
    simp (disch := omega) only [↓x_eInt, ↓x_eLng, ↓x_eNul, ↓x_eStr, ↓x_eLoc, ↓x_eLol, ↓x_eLor, ↓x_eBin, ↓x_eDiv, ↓x_eRem, ↓x_eNeg, ↓x_eLbin, ↓x_eLdiv, ↓x_eLrem, ↓x_eLshl, ↓x_eLshr, ↓x_eI2l, ↓x_eL2i, ↓x_eFldI, ↓x_eFldL, ↓x_eFldP, ↓x_eAldI, ↓x_eAldS, ↓x_eAldL, ↓x_eAldP, ↓x_eLen, ↓x_eLenS, ↓x_eCall, ↓x_eCalv, ↓x_eMin, ↓x_eMax, ↓x_eLmin, ↓x_eAbs, ↓x_eSlen, ↓x_eSat, ↓x_eIte, ↓x_eNewa, ↓x_eNewo, ↓x_esN, ↓x_esC, ↓x_cCmp, ↓x_cCmpz, ↓x_cLcmp, ↓x_cIsn, ↓x_cNot, ↓x_cAnd, ↓x_cOr, ↓x_tSkip, ↓x_tSup, ↓x_tSeq, ↓x_tSetI, ↓x_tSetL, ↓x_tSetR, ↓x_tInc, ↓x_tPutI, ↓x_tPutL, ↓x_tPutP, ↓x_tPutc, ↓x_tAstI, ↓x_tAstL, ↓x_tAstP, ↓x_tAstcI, ↓x_tAstcL, ↓x_tAcpI, ↓x_tAcpL, ↓x_tExp, ↓x_tExv, ↓x_tExw, ↓x_tIte, ↓x_tSw, ↓x_tRet, ↓x_tRetB, ↓x_tRetL, ↓x_tRetv, ↓x_tBrk, ↓x_tCont, ↓x_tThr, ↓x_wD, ↓x_wK, ↓x_jIx, ↓x_jOb, ↓x_jInt_I, ↓x_jLng_L, ↓x_jRef_R, ↓x_jStr_S, ↓x_jPls_R, ↓x_jPls_N, ↓x_jAny_R, ↓x_jAny_S, ↓jIntg_0, ↓jLngg_0, ↓jRefg_0, ↓jAnyg_0, ↓jStrg_0, ↓jPlsg_0, ↓jst_x0, ↓jst2_x0, ↓jIntg_1, ↓jLngg_1, ↓jRefg_1, ↓jAnyg_1, ↓jst_x1, ↓jst2_x1, ↓jIntg_2, ↓jLngg_2, ↓jRefg_2, ↓jAnyg_2, ↓jst_x2, ↓jst2_x2, ↓jIntg_3, ↓jLngg_3, ↓jRefg_3, ↓jAnyg_3, ↓jst_x3, ↓jst2_x3, ↓jIntg_4, ↓jLngg_4, ↓jRefg_4, ↓jAnyg_4, ↓jst_x4, ↓jst2_x4, ↓jIntg_5, ↓jLngg_5, ↓jRefg_5, ↓jAnyg_5, ↓jst_x5, ↓jst2_x5, ↓jIntg_6, ↓jLngg_6, ↓jRefg_6, ↓jAnyg_6, ↓jst_x6, ↓jst2_x6, ↓jIntg_7, ↓jLngg_7, ↓jRefg_7, ↓jAnyg_7, ↓jst_x7, ↓jst2_x7, ↓jIntg_8, ↓jLngg_8, ↓jRefg_8, ↓jAnyg_8, ↓jst_x8, ↓jst2_x8, ↓jIntg_9, ↓jLngg_9, ↓jRefg_9, ↓jAnyg_9, ↓jst_x9, ↓jst2_x9, ↓jIntg_10, ↓jLngg_10, ↓jRefg_10, ↓jAnyg_10, ↓jst_x10, ↓jst2_x10, ↓jIntg_11, ↓jLngg_11, ↓jRefg_11, ↓jAnyg_11, ↓jst_x11, ↓jst2_x11, ↓jIntg_12, ↓jLngg_12, ↓jRefg_12, ↓jAnyg_12, ↓jst_x12, ↓jst2_x12, ↓jIntg_13, ↓jLngg_13, ↓jRefg_13, ↓jAnyg_13, ↓jst_x13, ↓jst2_x13, ↓jIntg_14, ↓jLngg_14, ↓jRefg_14, ↓jAnyg_14, ↓jst_x14, ↓jst2_x14, ↓ex_some, jpv_some, jpv_none, jPls_pv, jisL_I, jisL_L, jisL_R, jisL_S, jisL_N, jisL_U, j_op0, j_op1, j_op2, j_c2, true_and, and_true, true_or, or_true, Int.toNat_natCast, nat1, ex_row, ex_row2, jwb1, jwb, jwb2, Classical.not_not, not_true_eq_false, false_implies, true_implies, ne_eq, not_false_eq_true, rV_inj, vI_inj, vL_inj, hi_tp, Nat.reduceEqDiff, Nat.reduceLeDiff, Nat.reduceAdd, Int.reduceLE, Int.reduceLT, Int.reduceEq, Int.reduceNeg, Int.reduceToNat, Int.reduceAdd, Int.reduceSub, Int.reduceMul, w_id, hsh_si, hp_si, hi_si_ne, oS3 hO', oS4 hO', oS5 hO', oS6 hO', oS7 hO', oS8 hO', oP3_0 hO', oP3_1 hO', oP3_2 hO', oP3_3 hO', oP3_4 hO']
    have h0 := hS 0 (by omega)
    rw [hlen] at h0
    refine ⟨by omega, _, rfl, ?_, hF⟩
    rw [← show j_w (hi τ 7 0) = RES.getD 0 0 from h0]
    unfold clp
    by_cases a1 : j_w (hi τ 7 0) < 24
    · simp only [if_pos a1]
      by_cases a2 : 1 < j_w (hi τ 7 0)
      · rw [if_pos a2, if_neg (by omega), if_neg (by omega)]
      · rw [if_neg a2, w_id (by omega)]
        split
        · rfl
        · rw [if_neg (by omega)]; omega
    · simp only [if_neg a1]
      rw [w_id (z := 24) (by omega), if_pos (by omega), w_id (by omega), if_neg (by omega)]
      split <;> omega
end LEVAL2
