/-! The reference's best town -/
section MBEST
variable {sc : jSc} {σ : jH} {D : jD} {S : Nat}
def S39 : Nat → Nat → Prop := fun r k => r = 91 ∨ r = 92 ∨ (r = 63 ∧ k = 62)
theorem smI_cut {f : Nat → Int} {a : Nat} : ∀ {n}, a ≤ n → (∀ b, a ≤ b → b < n → f b = 0) → smI f n = smI f a := by
  intro n h
  induction h with
  | refl => intro _; rfl
  | step h ih =>
    rename_i n
    intro hz
    rw [Nat.succ_eq_add_one, smI, ih (fun b h1 h2 => hz b h1 (by omega)), hz n h (by omega), Int.add_zero]
def Q239 (sc : jSc) (D : jD) (N S n : Nat) : Prop := ∀ (σ : jH) (c : Nat → Int) (gone : Nat) (L : Int), MD σ D → (∀ b, b < 8 → hi σ 91 b = if b < N - n then c b else -1) → (∀ b, b < N - n → (S.testBit b = true → 0 ≤ c b ∧ c b < 12) ∧ (S.testBit b = false → c b = -1)) → (∀ a b, a < N - n → b < N - n → S.testBit a = true → S.testBit b = true → c a = c b → a = b) → gone < 4096 → (∀ x : Nat, x < 12 → (gone.testBit x = true ↔ ∃ b, b < N - n ∧ S.testBit b = true ∧ c b = x)) → hi σ 63 62 = L → 0 ≤ L ∧ L ≤ 1000000 → Ct sc (n + 2) 239 [vR 63, vI S, vI (N - n : Nat), vI gone, vI (FCb D S c (N - n))] σ (fun r τ => r = rN ∧ BstB D N S n L (CmB N S c n) (hi σ 92) (hi τ 63 62) (hi τ 92) ∧ (∀ b, b < 8 → hi τ 91 b = hi σ 91 b) ∧ Fr S39 σ τ)
set_option maxRecDepth 20000 in
theorem m_239s {N n : Nat} (hN : D 0 0 = N) (hS : S < 256) (h5 : ixB S N ≤ 5) (hn : n ≤ N) (ih : ∀ m, n = m + 1 → Q239 sc D N S m) : Q239 sc D N S n := by
  intro σ c gone L hM hr hv hinj hgo hgb hL hL2
  obtain ⟨hO, hR, hD⟩ := id hM
  have hd := hD.1
  have h29 : hi σ 63 29 = N := by rw [hR.1.1]; exact hN
  have hcr : ∀ b, -1 ≤ nrm (N - n) c b ∧ nrm (N - n) c b ≤ 11 := fun b => by
    unfold nrm
    split
    · rename_i hb
      have := hv b hb
      cases hc : S.testBit b with
      | true => have := this.1 hc; omega
      | false => have := this.2 hc; omega
    · omega
  have hFr : 0 ≤ FCb D S c (N - n) ∧ FCb D S c (N - n) ≤ 400000 := by
    have h1 := FCb_le (S := S) hD hcr (Nat.le_refl (N - n)) (show N - n ≤ 8 by omega)
    rw [FCb_nrm (Nat.le_refl _)] at h1
    omega
  have hT : ∀ d, CmB N S c n d → FCb D S c (N - n) ≤ FCb D S d N := fun d hd2 => by
    have h1 := FCb_le (S := S) hD (VB_rg hd2.1) (show N - n ≤ N by omega) (show N ≤ 8 by omega)
    rw [FCb_nrm (by omega), FCb_nrm (Nat.le_refl _)] at h1
    rw [FCb_con (n := N - n) (d := c) (e := d) (fun x hx => (hd2.2 x hx).symm)]
    exact h1.2.1
  refine Ct.of (n := (n + 1)) (L := [vR 63, vI S, vI (N - n : Nat), vI gone, vI (FCb D S c (N - n)), vU]) cov_239 rfl (Nat.le_of_ble_eq_true rfl) ?_
  unfold T_239
  simp only [↓x_eInt, ↓x_eLng, ↓x_eNul, ↓x_eStr, ↓x_eLoc, ↓x_eLol, ↓x_eLor, ↓x_eBin, ↓x_eDiv, ↓x_eRem, ↓x_eNeg, ↓x_eLbin, ↓x_eLdiv, ↓x_eLrem, ↓x_eLshl, ↓x_eLshr, ↓x_eI2l, ↓x_eL2i, ↓x_eFldI, ↓x_eFldL, ↓x_eFldP, ↓x_eAldI, ↓x_eAldS, ↓x_eAldL, ↓x_eAldP, ↓x_eLen, ↓x_eLenS, ↓x_eCall, ↓x_eCalv, ↓x_eMin, ↓x_eMax, ↓x_eLmin, ↓x_eAbs, ↓x_eSlen, ↓x_eSat, ↓x_eIte, ↓x_eNewa, ↓x_eNewo, ↓x_esN, ↓x_esC, ↓x_cCmp, ↓x_cCmpz, ↓x_cLcmp, ↓x_cIsn, ↓x_cNot, ↓x_cAnd, ↓x_cOr, ↓x_tSkip, ↓x_tSup, ↓x_tSeq, ↓x_tSetI, ↓x_tSetL, ↓x_tSetR, ↓x_tInc, ↓x_tPutI, ↓x_tPutL, ↓x_tPutP, ↓x_tPutc, ↓x_tAstI, ↓x_tAstL, ↓x_tAstP, ↓x_tAstcI, ↓x_tAstcL, ↓x_tAcpI, ↓x_tAcpL, ↓x_tExp, ↓x_tExv, ↓x_tExw, ↓x_tIte, ↓x_tSw, ↓x_tRet, ↓x_tRetB, ↓x_tRetL, ↓x_tRetv, ↓x_tBrk, ↓x_tCont, ↓x_tThr, ↓x_wD, ↓x_wK, ↓x_jIx, ↓x_jOb, ↓x_jInt_I, ↓x_jLng_L, ↓x_jRef_R, ↓x_jStr_S, ↓x_jPls_R, ↓x_jPls_N, ↓x_jAny_R, ↓x_jAny_S, ↓jIntg_0, ↓jLngg_0, ↓jRefg_0, ↓jAnyg_0, ↓jStrg_0, ↓jPlsg_0, ↓jst_x0, ↓jst2_x0, ↓jIntg_1, ↓jLngg_1, ↓jRefg_1, ↓jAnyg_1, ↓jst_x1, ↓jst2_x1, ↓jIntg_2, ↓jLngg_2, ↓jRefg_2, ↓jAnyg_2, ↓jst_x2, ↓jst2_x2, ↓jIntg_3, ↓jLngg_3, ↓jRefg_3, ↓jAnyg_3, ↓jst_x3, ↓jst2_x3, ↓jIntg_4, ↓jLngg_4, ↓jRefg_4, ↓jAnyg_4, ↓jst_x4, ↓jst2_x4, ↓jIntg_5, ↓jLngg_5, ↓jRefg_5, ↓jAnyg_5, ↓jst_x5, ↓jst2_x5, ↓jIntg_6, ↓jLngg_6, ↓jRefg_6, ↓jAnyg_6, ↓jst_x6, ↓jst2_x6, ↓jIntg_7, ↓jLngg_7, ↓jRefg_7, ↓jAnyg_7, ↓jst_x7, ↓jst2_x7, ↓jIntg_8, ↓jLngg_8, ↓jRefg_8, ↓jAnyg_8, ↓jst_x8, ↓jst2_x8, ↓jIntg_9, ↓jLngg_9, ↓jRefg_9, ↓jAnyg_9, ↓jst_x9, ↓jst2_x9, ↓jIntg_10, ↓jLngg_10, ↓jRefg_10, ↓jAnyg_10, ↓jst_x10, ↓jst2_x10, ↓jIntg_11, ↓jLngg_11, ↓jRefg_11, ↓jAnyg_11, ↓jst_x11, ↓jst2_x11, ↓jIntg_12, ↓jLngg_12, ↓jRefg_12, ↓jAnyg_12, ↓jst_x12, ↓jst2_x12, ↓jIntg_13, ↓jLngg_13, ↓jRefg_13, ↓jAnyg_13, ↓jst_x13, ↓jst2_x13, ↓jIntg_14, ↓jLngg_14, ↓jRefg_14, ↓jAnyg_14, ↓jst_x14, ↓jst2_x14, ↓ex_some, jpv_some, jpv_none, jPls_pv, jisL_I, jisL_L, jisL_R, jisL_S, jisL_N, jisL_U, j_op0, j_op1, j_op2, j_c2, true_and, and_true, true_or, or_true, Int.toNat_natCast, nat1, ex_row, ex_row2, jwb1, jwb, jwb2, Classical.not_not, not_true_eq_false, false_implies, true_implies, ne_eq, not_false_eq_true, rV_inj, vI_inj, vL_inj, hi_tp, Nat.reduceEqDiff, Nat.reduceLeDiff, Nat.reduceAdd, Int.reduceLE, Int.reduceLT, Int.reduceEq, Int.reduceNeg, Int.reduceToNat, Int.reduceAdd, Int.reduceSub, Int.reduceMul, oS63 hO]
  simp (disch := omega) only [↓x_eInt, ↓x_eLng, ↓x_eNul, ↓x_eStr, ↓x_eLoc, ↓x_eLol, ↓x_eLor, ↓x_eBin, ↓x_eDiv, ↓x_eRem, ↓x_eNeg, ↓x_eLbin, ↓x_eLdiv, ↓x_eLrem, ↓x_eLshl, ↓x_eLshr, ↓x_eI2l, ↓x_eL2i, ↓x_eFldI, ↓x_eFldL, ↓x_eFldP, ↓x_eAldI, ↓x_eAldS, ↓x_eAldL, ↓x_eAldP, ↓x_eLen, ↓x_eLenS, ↓x_eCall, ↓x_eCalv, ↓x_eMin, ↓x_eMax, ↓x_eLmin, ↓x_eAbs, ↓x_eSlen, ↓x_eSat, ↓x_eIte, ↓x_eNewa, ↓x_eNewo, ↓x_esN, ↓x_esC, ↓x_cCmp, ↓x_cCmpz, ↓x_cLcmp, ↓x_cIsn, ↓x_cNot, ↓x_cAnd, ↓x_cOr, ↓x_tSkip, ↓x_tSup, ↓x_tSeq, ↓x_tSetI, ↓x_tSetL, ↓x_tSetR, ↓x_tInc, ↓x_tPutI, ↓x_tPutL, ↓x_tPutP, ↓x_tPutc, ↓x_tAstI, ↓x_tAstL, ↓x_tAstP, ↓x_tAstcI, ↓x_tAstcL, ↓x_tAcpI, ↓x_tAcpL, ↓x_tExp, ↓x_tExv, ↓x_tExw, ↓x_tIte, ↓x_tSw, ↓x_tRet, ↓x_tRetB, ↓x_tRetL, ↓x_tRetv, ↓x_tBrk, ↓x_tCont, ↓x_tThr, ↓x_wD, ↓x_wK, ↓x_jIx, ↓x_jOb, ↓x_jInt_I, ↓x_jLng_L, ↓x_jRef_R, ↓x_jStr_S, ↓x_jPls_R, ↓x_jPls_N, ↓x_jAny_R, ↓x_jAny_S, ↓jIntg_0, ↓jLngg_0, ↓jRefg_0, ↓jAnyg_0, ↓jStrg_0, ↓jPlsg_0, ↓jst_x0, ↓jst2_x0, ↓jIntg_1, ↓jLngg_1, ↓jRefg_1, ↓jAnyg_1, ↓jst_x1, ↓jst2_x1, ↓jIntg_2, ↓jLngg_2, ↓jRefg_2, ↓jAnyg_2, ↓jst_x2, ↓jst2_x2, ↓jIntg_3, ↓jLngg_3, ↓jRefg_3, ↓jAnyg_3, ↓jst_x3, ↓jst2_x3, ↓jIntg_4, ↓jLngg_4, ↓jRefg_4, ↓jAnyg_4, ↓jst_x4, ↓jst2_x4, ↓jIntg_5, ↓jLngg_5, ↓jRefg_5, ↓jAnyg_5, ↓jst_x5, ↓jst2_x5, ↓jIntg_6, ↓jLngg_6, ↓jRefg_6, ↓jAnyg_6, ↓jst_x6, ↓jst2_x6, ↓jIntg_7, ↓jLngg_7, ↓jRefg_7, ↓jAnyg_7, ↓jst_x7, ↓jst2_x7, ↓jIntg_8, ↓jLngg_8, ↓jRefg_8, ↓jAnyg_8, ↓jst_x8, ↓jst2_x8, ↓jIntg_9, ↓jLngg_9, ↓jRefg_9, ↓jAnyg_9, ↓jst_x9, ↓jst2_x9, ↓jIntg_10, ↓jLngg_10, ↓jRefg_10, ↓jAnyg_10, ↓jst_x10, ↓jst2_x10, ↓jIntg_11, ↓jLngg_11, ↓jRefg_11, ↓jAnyg_11, ↓jst_x11, ↓jst2_x11, ↓jIntg_12, ↓jLngg_12, ↓jRefg_12, ↓jAnyg_12, ↓jst_x12, ↓jst2_x12, ↓jIntg_13, ↓jLngg_13, ↓jRefg_13, ↓jAnyg_13, ↓jst_x13, ↓jst2_x13, ↓jIntg_14, ↓jLngg_14, ↓jRefg_14, ↓jAnyg_14, ↓jst_x14, ↓jst2_x14, ↓ex_some, jpv_some, jpv_none, jPls_pv, jisL_I, jisL_L, jisL_R, jisL_S, jisL_N, jisL_U, j_op0, j_op1, j_op2, j_c2, true_and, and_true, true_or, or_true, Int.toNat_natCast, nat1, ex_row, ex_row2, jwb1, jwb, jwb2, Classical.not_not, not_true_eq_false, false_implies, true_implies, ne_eq, not_false_eq_true, rV_inj, vI_inj, vL_inj, hi_tp, Nat.reduceEqDiff, Nat.reduceLeDiff, Nat.reduceAdd, Int.reduceLE, Int.reduceLT, Int.reduceEq, Int.reduceNeg, Int.reduceToNat, Int.reduceAdd, Int.reduceSub, Int.reduceMul, w_id, hsh_si, hp_si, hi_si_ne, oS63 hO, hL, h29]
  refine ⟨fun hge => ⟨Or.inl ⟨rfl, fun b _ => rfl, fun d hd2 => by have := hT d hd2; omega⟩, fun b _ => trivial, Fr.refl _ _⟩, fun hge => ⟨fun hlast => ?_, fun hlast => ?_⟩⟩
  · obtain rfl : n = 0 := by omega
    rw [Nat.sub_zero] at *
    have hpc : CmB N S c 0 c := ⟨⟨hv, hinj⟩, fun b _ => rfl⟩
    have htm : ∀ d, (∀ b, b < N → d b = c b) → FCb D S d N = FCb D S c N := fun d hd2 => FCb_con hd2
    simp (disch := omega) only [↓x_eInt, ↓x_eLng, ↓x_eNul, ↓x_eStr, ↓x_eLoc, ↓x_eLol, ↓x_eLor, ↓x_eBin, ↓x_eDiv, ↓x_eRem, ↓x_eNeg, ↓x_eLbin, ↓x_eLdiv, ↓x_eLrem, ↓x_eLshl, ↓x_eLshr, ↓x_eI2l, ↓x_eL2i, ↓x_eFldI, ↓x_eFldL, ↓x_eFldP, ↓x_eAldI, ↓x_eAldS, ↓x_eAldL, ↓x_eAldP, ↓x_eLen, ↓x_eLenS, ↓x_eCall, ↓x_eCalv, ↓x_eMin, ↓x_eMax, ↓x_eLmin, ↓x_eAbs, ↓x_eSlen, ↓x_eSat, ↓x_eIte, ↓x_eNewa, ↓x_eNewo, ↓x_esN, ↓x_esC, ↓x_cCmp, ↓x_cCmpz, ↓x_cLcmp, ↓x_cIsn, ↓x_cNot, ↓x_cAnd, ↓x_cOr, ↓x_tSkip, ↓x_tSup, ↓x_tSeq, ↓x_tSetI, ↓x_tSetL, ↓x_tSetR, ↓x_tInc, ↓x_tPutI, ↓x_tPutL, ↓x_tPutP, ↓x_tPutc, ↓x_tAstI, ↓x_tAstL, ↓x_tAstP, ↓x_tAstcI, ↓x_tAstcL, ↓x_tAcpI, ↓x_tAcpL, ↓x_tExp, ↓x_tExv, ↓x_tExw, ↓x_tIte, ↓x_tSw, ↓x_tRet, ↓x_tRetB, ↓x_tRetL, ↓x_tRetv, ↓x_tBrk, ↓x_tCont, ↓x_tThr, ↓x_wD, ↓x_wK, ↓x_jIx, ↓x_jOb, ↓x_jInt_I, ↓x_jLng_L, ↓x_jRef_R, ↓x_jStr_S, ↓x_jPls_R, ↓x_jPls_N, ↓x_jAny_R, ↓x_jAny_S, ↓jIntg_0, ↓jLngg_0, ↓jRefg_0, ↓jAnyg_0, ↓jStrg_0, ↓jPlsg_0, ↓jst_x0, ↓jst2_x0, ↓jIntg_1, ↓jLngg_1, ↓jRefg_1, ↓jAnyg_1, ↓jst_x1, ↓jst2_x1, ↓jIntg_2, ↓jLngg_2, ↓jRefg_2, ↓jAnyg_2, ↓jst_x2, ↓jst2_x2, ↓jIntg_3, ↓jLngg_3, ↓jRefg_3, ↓jAnyg_3, ↓jst_x3, ↓jst2_x3, ↓jIntg_4, ↓jLngg_4, ↓jRefg_4, ↓jAnyg_4, ↓jst_x4, ↓jst2_x4, ↓jIntg_5, ↓jLngg_5, ↓jRefg_5, ↓jAnyg_5, ↓jst_x5, ↓jst2_x5, ↓jIntg_6, ↓jLngg_6, ↓jRefg_6, ↓jAnyg_6, ↓jst_x6, ↓jst2_x6, ↓jIntg_7, ↓jLngg_7, ↓jRefg_7, ↓jAnyg_7, ↓jst_x7, ↓jst2_x7, ↓jIntg_8, ↓jLngg_8, ↓jRefg_8, ↓jAnyg_8, ↓jst_x8, ↓jst2_x8, ↓jIntg_9, ↓jLngg_9, ↓jRefg_9, ↓jAnyg_9, ↓jst_x9, ↓jst2_x9, ↓jIntg_10, ↓jLngg_10, ↓jRefg_10, ↓jAnyg_10, ↓jst_x10, ↓jst2_x10, ↓jIntg_11, ↓jLngg_11, ↓jRefg_11, ↓jAnyg_11, ↓jst_x11, ↓jst2_x11, ↓jIntg_12, ↓jLngg_12, ↓jRefg_12, ↓jAnyg_12, ↓jst_x12, ↓jst2_x12, ↓jIntg_13, ↓jLngg_13, ↓jRefg_13, ↓jAnyg_13, ↓jst_x13, ↓jst2_x13, ↓jIntg_14, ↓jLngg_14, ↓jRefg_14, ↓jAnyg_14, ↓jst_x14, ↓jst2_x14, ↓ex_some, jpv_some, jpv_none, jPls_pv, jisL_I, jisL_L, jisL_R, jisL_S, jisL_N, jisL_U, j_op0, j_op1, j_op2, j_c2, true_and, and_true, true_or, or_true, Int.toNat_natCast, nat1, ex_row, ex_row2, jwb1, jwb, jwb2, Classical.not_not, not_true_eq_false, false_implies, true_implies, ne_eq, not_false_eq_true, rV_inj, vI_inj, vL_inj, hi_tp, Nat.reduceEqDiff, Nat.reduceLeDiff, Nat.reduceAdd, Int.reduceLE, Int.reduceLT, Int.reduceEq, Int.reduceNeg, Int.reduceToNat, Int.reduceAdd, Int.reduceSub, Int.reduceMul, w_id, hsh_si, hp_si, hi_si_ne, oS63 hO, oP63_60 hO, oP63_61 hO, jf_12_62]
    refine (m_186 (n := 8) (by simp only [hsh_si]; exact oS91 hO) (by simp only [hsh_si]; exact oS92 hO) (by decide) (by decide) (by decide) (by decide) (by decide)).void (by omega) ?_
    refine ⟨Or.inr ⟨c, ⟨hpc.1, fun b hb => rfl⟩, by omega, ?_, fun b hb => ?_, fun e he => Or.inr ?_⟩, fun b hb => ?_, ?_⟩
    · rw [hi_sr_ne (by decide), hi_si_eq]
    · rw [hi_sr_eq, cpf, if_pos (by omega), hi_si_ne (by decide), hr b (by omega), if_pos hb]
    · rw [htm e he.2]
      exact ⟨rfl, Nat.le_refl _⟩
    · rw [hi_sr_ne (by decide), hi_si_ne (by decide)]
    · exact ((Fr.refl _ _).si (by unfold S39; omega)).sr (fun _ => Or.inr (Or.inl rfl))
  · obtain ⟨m, rfl⟩ : ∃ m, n = m + 1 := ⟨n - 1, by omega⟩
    have ih := ih m rfl
    generalize hA : N - (m + 1) = a at *
    have hnx : N - m = a + 1 := by omega
    have hcb : ∀ d : Nat → Int, cbN N S d (m + 1) = (if S.testBit a = true then (d a).toNat * 16 ^ (4 - ixB S a) else 0) + cbN N S d m := fun d => by rw [cbN, hA]
    have hFs : ∀ d : Nat → Int, FCb D S d (a + 1) = FCb D S d a + adC D S d a := fun d => rfl
    rw [jbit (by omega) (by omega)]
    cases hbit : S.testBit a with
    | false =>
      simp only [Bool.false_eq_true, ↓reduceIte]
      refine ⟨fun _ => ?_, fun z => absurd (show j_w 0 = 0 from rfl) z⟩
      have hF1 : FCb D S (upw c a (-1)) (N - m) = FCb D S c a := by
        rw [hnx, hFs, FCb_con (n := a) (e := c) (fun x hx => by rw [upw_eq, if_neg (by omega)])]
        unfold adC
        rw [hbit]
        simp
      have hcall := ih σ (upw c a (-1)) gone L hM (fun b hb => by
          rw [hr b hb, upw_eq]
          by_cases h1 : b < a
          · rw [if_pos h1, if_pos (by omega), if_neg (by omega)]
          · rw [if_neg h1]
            by_cases h2 : b = a
            · rw [if_pos (by omega), if_pos h2]
            · rw [if_neg (by omega)]) (fun b hb => by
          rw [upw_eq]
          by_cases h2 : b = a
          · rw [if_pos h2, h2]; exact ⟨fun z => (by rw [hbit] at z; cases z), fun _ => rfl⟩
          · rw [if_neg h2]; exact hv b (by omega)) (fun x y hx hy s1 s2 he => by
          have hxa : x ≠ a := fun z => by rw [z, hbit] at s1; cases s1
          have hya : y ≠ a := fun z => by rw [z, hbit] at s2; cases s2
          rw [upw_eq, upw_eq, if_neg hxa, if_neg hya] at he
          exact hinj x y (by omega) (by omega) s1 s2 he) hgo (fun x hx => by
          rw [hgb x hx]
          constructor
          · rintro ⟨b, b1, b2, b3⟩
            exact ⟨b, by omega, b2, by rw [upw_eq, if_neg (by omega)]; exact b3⟩
          · rintro ⟨b, b1, b2, b3⟩
            have hba : b ≠ a := fun z => by rw [z, hbit] at b2; cases b2
            rw [upw_eq, if_neg hba] at b3
            exact ⟨b, by omega, b2, b3⟩) hL hL2
      rw [hF1] at hcall
      rw [show ((a + 1 : Nat) : Int) = ((N - m : Nat) : Int) by omega]
      refine hcall.cat2 (by omega) ?_
      rintro r υ ⟨rfl, f1, f2, f3⟩
      have hiff : ∀ d, CmB N S (upw c a (-1)) m d ↔ CmB N S c (m + 1) d := fun d => by
        unfold CmB
        refine and_congr_right (fun hv => ⟨fun h b hb => ?_, fun h b hb => ?_⟩)
        · rw [h b (by omega), upw_eq, if_neg (by omega)]
        · rw [upw_eq]
          by_cases hba : b = a
          · rw [if_pos hba, hba]; exact (hv.1 a (by omega)).2 hbit
          · rw [if_neg hba]; exact h b (by omega)
      refine Or.inl ⟨rfl, ?_, f2, f3⟩
      rcases f1 with ⟨g1, g2, g3⟩ | ⟨d, g1, g2, g3, g4, g5⟩
      · exact Or.inl ⟨g1, g2, fun d hd2 => g3 d ((hiff d).mpr hd2)⟩
      · refine Or.inr ⟨d, (hiff d).mp g1, g2, g3, g4, fun e he => ?_⟩
        have := g5 e ((hiff e).mpr he)
        rw [hcb, hcb, hbit]
        simp only [Bool.false_eq_true, ↓reduceIte, Nat.zero_add]
        exact this
    | true =>
      simp only [↓reduceIte]
      refine ⟨fun z => absurd z (by decide), fun _ => ?_⟩
      refine tLoop_go (fun x : Nat => 12 - x) (fun x => [vR 63, vI S, vI a, vI gone, vI (FCb D S c a), vI x]) (fun x υ => x ≤ 12 ∧ BstB D N S (m + 1) L (fun d => CmB N S c (m + 1) d ∧ d a < x) (hi σ 92) (hi υ 63 62) (hi υ 92) ∧ (∀ b, b < 8 → b ≠ a → hi υ 91 b = hi σ 91 b) ∧ Fr S39 σ υ) (fun x υ => BstB D N S (m + 1) L (CmB N S c (m + 1)) (hi σ 92) (hi υ 63 62) (hi υ 92) ∧ (∀ b, b < 8 → b ≠ a → hi υ 91 b = hi σ 91 b) ∧ Fr S39 σ υ) 0 rfl ⟨Nat.zero_le _, Or.inl ⟨hL, fun b _ => rfl, fun d hd2 => ?_⟩, fun b _ _ => rfl, Fr.refl _ _⟩ ?_ ?_
      · have h1 := (hd2.1.1.1 a (by omega)).1 hbit
        have h2 := hd2.2
        omega
      · rintro x υ N' NN ⟨hx, hB, h9, hF⟩ hN2 hE
        have hO2 := hF.ok hO
        simp (disch := omega) only [↓x_eInt, ↓x_eLng, ↓x_eNul, ↓x_eStr, ↓x_eLoc, ↓x_eLol, ↓x_eLor, ↓x_eBin, ↓x_eDiv, ↓x_eRem, ↓x_eNeg, ↓x_eLbin, ↓x_eLdiv, ↓x_eLrem, ↓x_eLshl, ↓x_eLshr, ↓x_eI2l, ↓x_eL2i, ↓x_eFldI, ↓x_eFldL, ↓x_eFldP, ↓x_eAldI, ↓x_eAldS, ↓x_eAldL, ↓x_eAldP, ↓x_eLen, ↓x_eLenS, ↓x_eCall, ↓x_eCalv, ↓x_eMin, ↓x_eMax, ↓x_eLmin, ↓x_eAbs, ↓x_eSlen, ↓x_eSat, ↓x_eIte, ↓x_eNewa, ↓x_eNewo, ↓x_esN, ↓x_esC, ↓x_cCmp, ↓x_cCmpz, ↓x_cLcmp, ↓x_cIsn, ↓x_cNot, ↓x_cAnd, ↓x_cOr, ↓x_tSkip, ↓x_tSup, ↓x_tSeq, ↓x_tSetI, ↓x_tSetL, ↓x_tSetR, ↓x_tInc, ↓x_tPutI, ↓x_tPutL, ↓x_tPutP, ↓x_tPutc, ↓x_tAstI, ↓x_tAstL, ↓x_tAstP, ↓x_tAstcI, ↓x_tAstcL, ↓x_tAcpI, ↓x_tAcpL, ↓x_tExp, ↓x_tExv, ↓x_tExw, ↓x_tIte, ↓x_tSw, ↓x_tRet, ↓x_tRetB, ↓x_tRetL, ↓x_tRetv, ↓x_tBrk, ↓x_tCont, ↓x_tThr, ↓x_wD, ↓x_wK, ↓x_jIx, ↓x_jOb, ↓x_jInt_I, ↓x_jLng_L, ↓x_jRef_R, ↓x_jStr_S, ↓x_jPls_R, ↓x_jPls_N, ↓x_jAny_R, ↓x_jAny_S, ↓jIntg_0, ↓jLngg_0, ↓jRefg_0, ↓jAnyg_0, ↓jStrg_0, ↓jPlsg_0, ↓jst_x0, ↓jst2_x0, ↓jIntg_1, ↓jLngg_1, ↓jRefg_1, ↓jAnyg_1, ↓jst_x1, ↓jst2_x1, ↓jIntg_2, ↓jLngg_2, ↓jRefg_2, ↓jAnyg_2, ↓jst_x2, ↓jst2_x2, ↓jIntg_3, ↓jLngg_3, ↓jRefg_3, ↓jAnyg_3, ↓jst_x3, ↓jst2_x3, ↓jIntg_4, ↓jLngg_4, ↓jRefg_4, ↓jAnyg_4, ↓jst_x4, ↓jst2_x4, ↓jIntg_5, ↓jLngg_5, ↓jRefg_5, ↓jAnyg_5, ↓jst_x5, ↓jst2_x5, ↓jIntg_6, ↓jLngg_6, ↓jRefg_6, ↓jAnyg_6, ↓jst_x6, ↓jst2_x6, ↓jIntg_7, ↓jLngg_7, ↓jRefg_7, ↓jAnyg_7, ↓jst_x7, ↓jst2_x7, ↓jIntg_8, ↓jLngg_8, ↓jRefg_8, ↓jAnyg_8, ↓jst_x8, ↓jst2_x8, ↓jIntg_9, ↓jLngg_9, ↓jRefg_9, ↓jAnyg_9, ↓jst_x9, ↓jst2_x9, ↓jIntg_10, ↓jLngg_10, ↓jRefg_10, ↓jAnyg_10, ↓jst_x10, ↓jst2_x10, ↓jIntg_11, ↓jLngg_11, ↓jRefg_11, ↓jAnyg_11, ↓jst_x11, ↓jst2_x11, ↓jIntg_12, ↓jLngg_12, ↓jRefg_12, ↓jAnyg_12, ↓jst_x12, ↓jst2_x12, ↓jIntg_13, ↓jLngg_13, ↓jRefg_13, ↓jAnyg_13, ↓jst_x13, ↓jst2_x13, ↓jIntg_14, ↓jLngg_14, ↓jRefg_14, ↓jAnyg_14, ↓jst_x14, ↓jst2_x14, ↓ex_some, jpv_some, jpv_none, jPls_pv, jisL_I, jisL_L, jisL_R, jisL_S, jisL_N, jisL_U, j_op0, j_op1, j_op2, j_c2, true_and, and_true, true_or, or_true, Int.toNat_natCast, nat1, ex_row, ex_row2, jwb1, jwb, jwb2, Classical.not_not, not_true_eq_false, false_implies, true_implies, ne_eq, not_false_eq_true, rV_inj, vI_inj, vL_inj, hi_tp, Nat.reduceEqDiff, Nat.reduceLeDiff, Nat.reduceAdd, Int.reduceLE, Int.reduceLT, Int.reduceEq, Int.reduceNeg, Int.reduceToNat, Int.reduceAdd, Int.reduceSub, Int.reduceMul, w_id, hsh_si, hp_si, hi_si_ne]
        refine ⟨fun hlt => ?_, fun hlt => hE x _ ⟨?_, h9, hF⟩⟩
        · rw [jbit (by omega) (by omega)]
          have hstay : (∀ d, CmB N S c (m + 1) d → d a ≠ x) → BstB D N S (m + 1) L (fun d => CmB N S c (m + 1) d ∧ d a < ((x + 1 : Nat) : Int)) (hi σ 92) (hi υ 63 62) (hi υ 92) := fun hne => by
            rcases hB with ⟨g1, g2, g3⟩ | ⟨d, g1, g2, g3, g4, g5⟩
            · exact Or.inl ⟨g1, g2, fun d hd2 => g3 d ⟨hd2.1, by have := hne d hd2.1; have := hd2.2; omega⟩⟩
            · exact Or.inr ⟨d, ⟨g1.1, by have := g1.2; omega⟩, g2, g3, g4, fun e he => g5 e ⟨he.1, by have := hne e he.1; have := he.2; omega⟩⟩
          cases hgx2 : gone.testBit x with
          | true =>
            simp only [↓reduceIte]
            refine ⟨fun _ => hN2 (x + 1) _ (by omega) ⟨by omega, hstay (fun d hd2 hda => ?_), h9, hF⟩, fun z => absurd (show j_w 1 = 1 from rfl) z⟩
            obtain ⟨b, b1, b2, b3⟩ := (hgb x (by omega)).mp hgx2
            have h1 := hd2.2 b (by omega)
            have := hd2.1.2 a b (by omega) (by omega) hbit b2 (by rw [h1, hda, b3])
            omega
          | false =>
            simp only [Bool.false_eq_true, ↓reduceIte]
            refine ⟨fun z => absurd z (by decide), fun _ => ?_⟩
            have h74 : hi υ 74 x = D 6 x := by rw [hF.i (by unfold S39; omega)]; exact hR.2.2.2.1 x (by omega)
            have hgr := hD.2.2.2.2.2.1 x
            simp (disch := omega) only [↓x_eInt, ↓x_eLng, ↓x_eNul, ↓x_eStr, ↓x_eLoc, ↓x_eLol, ↓x_eLor, ↓x_eBin, ↓x_eDiv, ↓x_eRem, ↓x_eNeg, ↓x_eLbin, ↓x_eLdiv, ↓x_eLrem, ↓x_eLshl, ↓x_eLshr, ↓x_eI2l, ↓x_eL2i, ↓x_eFldI, ↓x_eFldL, ↓x_eFldP, ↓x_eAldI, ↓x_eAldS, ↓x_eAldL, ↓x_eAldP, ↓x_eLen, ↓x_eLenS, ↓x_eCall, ↓x_eCalv, ↓x_eMin, ↓x_eMax, ↓x_eLmin, ↓x_eAbs, ↓x_eSlen, ↓x_eSat, ↓x_eIte, ↓x_eNewa, ↓x_eNewo, ↓x_esN, ↓x_esC, ↓x_cCmp, ↓x_cCmpz, ↓x_cLcmp, ↓x_cIsn, ↓x_cNot, ↓x_cAnd, ↓x_cOr, ↓x_tSkip, ↓x_tSup, ↓x_tSeq, ↓x_tSetI, ↓x_tSetL, ↓x_tSetR, ↓x_tInc, ↓x_tPutI, ↓x_tPutL, ↓x_tPutP, ↓x_tPutc, ↓x_tAstI, ↓x_tAstL, ↓x_tAstP, ↓x_tAstcI, ↓x_tAstcL, ↓x_tAcpI, ↓x_tAcpL, ↓x_tExp, ↓x_tExv, ↓x_tExw, ↓x_tIte, ↓x_tSw, ↓x_tRet, ↓x_tRetB, ↓x_tRetL, ↓x_tRetv, ↓x_tBrk, ↓x_tCont, ↓x_tThr, ↓x_wD, ↓x_wK, ↓x_jIx, ↓x_jOb, ↓x_jInt_I, ↓x_jLng_L, ↓x_jRef_R, ↓x_jStr_S, ↓x_jPls_R, ↓x_jPls_N, ↓x_jAny_R, ↓x_jAny_S, ↓jIntg_0, ↓jLngg_0, ↓jRefg_0, ↓jAnyg_0, ↓jStrg_0, ↓jPlsg_0, ↓jst_x0, ↓jst2_x0, ↓jIntg_1, ↓jLngg_1, ↓jRefg_1, ↓jAnyg_1, ↓jst_x1, ↓jst2_x1, ↓jIntg_2, ↓jLngg_2, ↓jRefg_2, ↓jAnyg_2, ↓jst_x2, ↓jst2_x2, ↓jIntg_3, ↓jLngg_3, ↓jRefg_3, ↓jAnyg_3, ↓jst_x3, ↓jst2_x3, ↓jIntg_4, ↓jLngg_4, ↓jRefg_4, ↓jAnyg_4, ↓jst_x4, ↓jst2_x4, ↓jIntg_5, ↓jLngg_5, ↓jRefg_5, ↓jAnyg_5, ↓jst_x5, ↓jst2_x5, ↓jIntg_6, ↓jLngg_6, ↓jRefg_6, ↓jAnyg_6, ↓jst_x6, ↓jst2_x6, ↓jIntg_7, ↓jLngg_7, ↓jRefg_7, ↓jAnyg_7, ↓jst_x7, ↓jst2_x7, ↓jIntg_8, ↓jLngg_8, ↓jRefg_8, ↓jAnyg_8, ↓jst_x8, ↓jst2_x8, ↓jIntg_9, ↓jLngg_9, ↓jRefg_9, ↓jAnyg_9, ↓jst_x9, ↓jst2_x9, ↓jIntg_10, ↓jLngg_10, ↓jRefg_10, ↓jAnyg_10, ↓jst_x10, ↓jst2_x10, ↓jIntg_11, ↓jLngg_11, ↓jRefg_11, ↓jAnyg_11, ↓jst_x11, ↓jst2_x11, ↓jIntg_12, ↓jLngg_12, ↓jRefg_12, ↓jAnyg_12, ↓jst_x12, ↓jst2_x12, ↓jIntg_13, ↓jLngg_13, ↓jRefg_13, ↓jAnyg_13, ↓jst_x13, ↓jst2_x13, ↓jIntg_14, ↓jLngg_14, ↓jRefg_14, ↓jAnyg_14, ↓jst_x14, ↓jst2_x14, ↓ex_some, jpv_some, jpv_none, jPls_pv, jisL_I, jisL_L, jisL_R, jisL_S, jisL_N, jisL_U, j_op0, j_op1, j_op2, j_c2, true_and, and_true, true_or, or_true, Int.toNat_natCast, nat1, ex_row, ex_row2, jwb1, jwb, jwb2, Classical.not_not, not_true_eq_false, false_implies, true_implies, ne_eq, not_false_eq_true, rV_inj, vI_inj, vL_inj, hi_tp, Nat.reduceEqDiff, Nat.reduceLeDiff, Nat.reduceAdd, Int.reduceLE, Int.reduceLT, Int.reduceEq, Int.reduceNeg, Int.reduceToNat, Int.reduceAdd, Int.reduceSub, Int.reduceMul, w_id, hsh_si, hp_si, hi_si_ne, oS63 hO2, oS91 hO2, oP63_60 hO2, oS74 hO2, oP63_18 hO2]
            refine ⟨by omega, by omega, by omega, by omega, ?_⟩
            have hF2 : Fr S39 σ (hsi υ 91 a x) := hF.si (Or.inl rfl)
            have hO3 := hF2.ok hO
            have hM3 : MD (hsi υ 91 a x) D := ⟨hO3, RM_fr hR hF2 (fun r k a b => by unfold S39; omega) (fun k a b => by unfold S39; omega), hD⟩
            have hrow : ∀ b, b < 8 → hi (hsi υ 91 a x) 91 b = nrm (a + 1) (upw c a x) b := fun b hb => by
              rw [hi_si]
              unfold nrm
              rw [upw_eq]
              by_cases hba : b = a
              · rw [if_pos ⟨rfl, hba⟩, if_pos (by omega), if_pos hba]
              · rw [if_neg (fun z => hba z.2), h9 b hb hba, hr b hb]
                by_cases h1 : b < a
                · rw [if_pos h1, if_pos (by omega), if_neg hba]
                · rw [if_neg h1, if_neg (by omega)]
            have hc1 : ∀ b, -1 ≤ nrm (a + 1) (upw c a x) b ∧ nrm (a + 1) (upw c a x) b ≤ 11 := fun b => by
              unfold nrm
              rw [upw_eq]
              by_cases h1 : b < a + 1
              · rw [if_pos h1]
                by_cases h2 : b = a
                · rw [if_pos h2]; omega
                · rw [if_neg h2]
                  have := hcr b
                  unfold nrm at this
                  rw [if_pos (by omega)] at this
                  exact this
              · rw [if_neg h1]; omega
            refine (m_235 hM3 (by omega) hrow hc1).val (by omega) rfl ?_
            have hties : smI (ttC D (nrm (a + 1) (upw c a x)) a) (D 0 0).toNat = smI (ttC D (upw c a x) a) a := by
              rw [smI_cut (a := a) (by omega) (fun b h1 h2 => ?_), smI_con (fun b hb => ttC_con (by unfold nrm; rw [if_pos (by omega)]) (by unfold nrm; rw [if_pos (by omega)]))]
              unfold ttC
              by_cases hba : b = a
              · rw [hba, hD.2.2.2.2.1 a]
                split
                · rfl
                · rw [Int.zero_mul]
              · rw [if_pos (Or.inr (by unfold nrm; rw [if_neg (by omega)]))]
            rw [hties, h74]
            simp only [x_jInt_I]
            refine ⟨oS63 hO3, ?_⟩
            have hF1 : FCb D S (upw c a x) (N - m) = FCb D S c a + D 6 x + smI (ttC D (upw c a x) a) a := by
              rw [hnx, hFs, FCb_con (n := a) (e := c) (fun y hy => by rw [upw_eq, if_neg (by omega)])]
              unfold adC
              rw [if_pos hbit, upw_eq, if_pos rfl, Int.toNat_natCast]
              omega
            rw [← hF1]
            have h2x : (2 : Nat) ^ x ≤ 2 ^ 11 := Nat.pow_le_pow_right (by decide) (by omega)
            rw [jsh1 (by omega), jop4 (by omega) (by omega)]
            have hL' : ∃ L', hi υ 63 62 = L' ∧ L' ≤ L ∧ 0 ≤ L' := by
              rcases hB with ⟨g1, _⟩ | ⟨d, g1, g2, g3, _⟩
              · exact ⟨L, g1, Int.le_refl _, hL2.1⟩
              · refine ⟨_, g3, by omega, ?_⟩
                have := hT d g1.1
                omega
            obtain ⟨L', hL1, hL3, hL4⟩ := hL'
            have hcall := ih (hsi υ 91 a x) (upw c a x) (gone ||| 2 ^ x) L' hM3 (fun b hb => by
                rw [hrow b hb]
                unfold nrm
                rw [hnx]) (fun b hb => by
                rw [upw_eq]
                by_cases h2 : b = a
                · rw [if_pos h2, h2]; exact ⟨fun _ => by omega, fun z => (by rw [hbit] at z; cases z)⟩
                · rw [if_neg h2]; exact hv b (by omega)) (fun p q hp1 hq1 s1 s2 he => by
                rw [upw_eq, upw_eq] at he
                by_cases hpa : p = a
                · by_cases hqa : q = a
                  · omega
                  · rw [if_pos hpa, if_neg hqa] at he
                    have : gone.testBit x = true := (hgb x (by omega)).mpr ⟨q, by omega, s2, he.symm⟩
                    rw [hgx2] at this; cases this
                · by_cases hqa : q = a
                  · rw [if_neg hpa, if_pos hqa] at he
                    have : gone.testBit x = true := (hgb x (by omega)).mpr ⟨p, by omega, s1, he⟩
                    rw [hgx2] at this; cases this
                  · rw [if_neg hpa, if_neg hqa] at he
                    exact hinj p q (by omega) (by omega) s1 s2 he) (Nat.or_lt_two_pow (n := 12) hgo (by omega)) (fun y hy => by
                rw [Nat.testBit_or, Nat.testBit_two_pow]
                constructor
                · intro h
                  by_cases hyx : x = y
                  · exact ⟨a, by omega, hbit, by rw [upw_eq, if_pos rfl, hyx]⟩
                  · simp only [hyx, decide_false, Bool.or_false] at h
                    obtain ⟨b, b1, b2, b3⟩ := (hgb y hy).mp h
                    exact ⟨b, by omega, b2, by rw [upw_eq, if_neg (by omega)]; exact b3⟩
                · rintro ⟨b, b1, b2, b3⟩
                  rw [upw_eq] at b3
                  by_cases hba : b = a
                  · rw [if_pos hba] at b3
                    have : x = y := by omega
                    simp [this]
                  · rw [if_neg hba] at b3
                    rw [(hgb y hy).mpr ⟨b, by omega, b2, b3⟩]
                    rfl) (by rw [hi_si_ne (by decide)]; exact hL1) (by omega)
            rw [show ((a + 1 : Nat) : Int) = ((N - m : Nat) : Int) by omega]
            refine hcall.cat2 (by omega) ?_
            rintro r υ2 ⟨rfl, f1, f2, f3⟩
            refine Or.inl ⟨rfl, ?_⟩
            have hF3 := hF2.trans f3
            have hiff : ∀ d, CmB N S (upw c a x) m d ↔ CmB N S c (m + 1) d ∧ d a = x := fun d => by
              unfold CmB
              constructor
              · rintro ⟨hv, h⟩
                refine ⟨⟨hv, fun b hb => ?_⟩, ?_⟩
                · rw [h b (by omega), upw_eq, if_neg (by omega)]
                · rw [h a (by omega), upw_eq, if_pos rfl]
              · rintro ⟨⟨hv, h⟩, h2⟩
                refine ⟨hv, fun b hb => ?_⟩
                rw [upw_eq]
                by_cases hba : b = a
                · rw [if_pos hba, hba]; exact h2
                · rw [if_neg hba]; exact h b (by omega)
            refine hN2 (x + 1) _ (by omega) ⟨by omega, ?_, fun b hb hba => by rw [f2 b hb, hi_si, if_neg (fun z => hba z.2)]; exact h9 b hb hba, hF3⟩
            have e92 : hi (hsi υ 91 a x) 92 = hi υ 92 := by rw [hi_si_ne (by decide)]
            rw [e92] at f1
            rcases f1 with ⟨g1, g2, g3⟩ | ⟨d, g1, g2, g3, g4, g5⟩
            · rcases hB with ⟨b1, b2, b3⟩ | ⟨d, b1, b2, b3, b4, b5⟩
              · have hLL : L' = L := by omega
                refine Or.inl ⟨by omega, fun b hb => by rw [g2 b hb, b2 b hb], fun d hd2 => ?_⟩
                by_cases hda : d a = x
                · have := g3 d ((hiff d).mpr ⟨hd2.1, hda⟩); omega
                · exact b3 d ⟨hd2.1, by have := hd2.2; omega⟩
              · refine Or.inr ⟨d, ⟨b1.1, by have := b1.2; omega⟩, b2, by omega, fun b hb => by rw [g2 b hb, b4 b hb], fun e he => ?_⟩
                by_cases hea : e a = x
                · have h1 := g3 e ((hiff e).mpr ⟨he.1, hea⟩)
                  by_cases hlt2 : FCb D S d N < FCb D S e N
                  · exact Or.inl hlt2
                  · refine Or.inr ⟨by omega, ?_⟩
                    rw [hcb, hcb, hea, if_pos hbit, if_pos hbit]
                    have h2 := cb_lt h5 (d := d) (fun b q1 q2 => (b1.1.1.1 b q1).1 q2) m (by omega)
                    have h3 := (b1.1.1.1 a (by omega)).1 hbit
                    have h4 := b1.2
                    have hix : ixB S (N - m) = ixB S a + 1 := by rw [hnx, ixB, if_pos hbit]
                    rw [hix, show 5 - (ixB S a + 1) = 4 - ixB S a by omega] at h2
                    have h6 : ((d a).toNat + 1) * 16 ^ (4 - ixB S a) ≤ (x : Int).toNat * 16 ^ (4 - ixB S a) := Nat.mul_le_mul_right _ (by omega)
                    rw [Nat.add_mul, Nat.one_mul] at h6
                    omega
                · exact b5 e ⟨he.1, by have := he.2; omega⟩
            · have gd := (hiff d).mp g1
              refine Or.inr ⟨d, ⟨gd.1, by omega⟩, by omega, g3, g4, fun e he => ?_⟩
              by_cases hea : e a = x
              · have := g5 e ((hiff e).mpr ⟨he.1, hea⟩)
                rw [hcb, hcb, hea, gd.2]
                omega
              · have hel : e a < x := by have := he.2; omega
                refine Or.inl ?_
                rcases hB with ⟨b1, b2, b3⟩ | ⟨d2, b1, b2, b3, b4, b5⟩
                · have := b3 e ⟨he.1, hel⟩; omega
                · have := b5 e ⟨he.1, hel⟩; omega
        · rcases hB with ⟨g1, g2, g3⟩ | ⟨d, g1, g2, g3, g4, g5⟩
          · exact Or.inl ⟨g1, g2, fun d hd2 => g3 d ⟨hd2, by have := (hd2.1.1 a (by omega)).1 hbit; omega⟩⟩
          · exact Or.inr ⟨d, g1.1, g2, g3, g4, fun e he => g5 e ⟨he, by have := (he.1.1 a (by omega)).1 hbit; omega⟩⟩
      · rintro x υ ⟨hB, h9, hF⟩
        have hO2 := hF.ok hO
        simp (disch := omega) only [↓x_eInt, ↓x_eLng, ↓x_eNul, ↓x_eStr, ↓x_eLoc, ↓x_eLol, ↓x_eLor, ↓x_eBin, ↓x_eDiv, ↓x_eRem, ↓x_eNeg, ↓x_eLbin, ↓x_eLdiv, ↓x_eLrem, ↓x_eLshl, ↓x_eLshr, ↓x_eI2l, ↓x_eL2i, ↓x_eFldI, ↓x_eFldL, ↓x_eFldP, ↓x_eAldI, ↓x_eAldS, ↓x_eAldL, ↓x_eAldP, ↓x_eLen, ↓x_eLenS, ↓x_eCall, ↓x_eCalv, ↓x_eMin, ↓x_eMax, ↓x_eLmin, ↓x_eAbs, ↓x_eSlen, ↓x_eSat, ↓x_eIte, ↓x_eNewa, ↓x_eNewo, ↓x_esN, ↓x_esC, ↓x_cCmp, ↓x_cCmpz, ↓x_cLcmp, ↓x_cIsn, ↓x_cNot, ↓x_cAnd, ↓x_cOr, ↓x_tSkip, ↓x_tSup, ↓x_tSeq, ↓x_tSetI, ↓x_tSetL, ↓x_tSetR, ↓x_tInc, ↓x_tPutI, ↓x_tPutL, ↓x_tPutP, ↓x_tPutc, ↓x_tAstI, ↓x_tAstL, ↓x_tAstP, ↓x_tAstcI, ↓x_tAstcL, ↓x_tAcpI, ↓x_tAcpL, ↓x_tExp, ↓x_tExv, ↓x_tExw, ↓x_tIte, ↓x_tSw, ↓x_tRet, ↓x_tRetB, ↓x_tRetL, ↓x_tRetv, ↓x_tBrk, ↓x_tCont, ↓x_tThr, ↓x_wD, ↓x_wK, ↓x_jIx, ↓x_jOb, ↓x_jInt_I, ↓x_jLng_L, ↓x_jRef_R, ↓x_jStr_S, ↓x_jPls_R, ↓x_jPls_N, ↓x_jAny_R, ↓x_jAny_S, ↓jIntg_0, ↓jLngg_0, ↓jRefg_0, ↓jAnyg_0, ↓jStrg_0, ↓jPlsg_0, ↓jst_x0, ↓jst2_x0, ↓jIntg_1, ↓jLngg_1, ↓jRefg_1, ↓jAnyg_1, ↓jst_x1, ↓jst2_x1, ↓jIntg_2, ↓jLngg_2, ↓jRefg_2, ↓jAnyg_2, ↓jst_x2, ↓jst2_x2, ↓jIntg_3, ↓jLngg_3, ↓jRefg_3, ↓jAnyg_3, ↓jst_x3, ↓jst2_x3, ↓jIntg_4, ↓jLngg_4, ↓jRefg_4, ↓jAnyg_4, ↓jst_x4, ↓jst2_x4, ↓jIntg_5, ↓jLngg_5, ↓jRefg_5, ↓jAnyg_5, ↓jst_x5, ↓jst2_x5, ↓jIntg_6, ↓jLngg_6, ↓jRefg_6, ↓jAnyg_6, ↓jst_x6, ↓jst2_x6, ↓jIntg_7, ↓jLngg_7, ↓jRefg_7, ↓jAnyg_7, ↓jst_x7, ↓jst2_x7, ↓jIntg_8, ↓jLngg_8, ↓jRefg_8, ↓jAnyg_8, ↓jst_x8, ↓jst2_x8, ↓jIntg_9, ↓jLngg_9, ↓jRefg_9, ↓jAnyg_9, ↓jst_x9, ↓jst2_x9, ↓jIntg_10, ↓jLngg_10, ↓jRefg_10, ↓jAnyg_10, ↓jst_x10, ↓jst2_x10, ↓jIntg_11, ↓jLngg_11, ↓jRefg_11, ↓jAnyg_11, ↓jst_x11, ↓jst2_x11, ↓jIntg_12, ↓jLngg_12, ↓jRefg_12, ↓jAnyg_12, ↓jst_x12, ↓jst2_x12, ↓jIntg_13, ↓jLngg_13, ↓jRefg_13, ↓jAnyg_13, ↓jst_x13, ↓jst2_x13, ↓jIntg_14, ↓jLngg_14, ↓jRefg_14, ↓jAnyg_14, ↓jst_x14, ↓jst2_x14, ↓ex_some, jpv_some, jpv_none, jPls_pv, jisL_I, jisL_L, jisL_R, jisL_S, jisL_N, jisL_U, j_op0, j_op1, j_op2, j_c2, true_and, and_true, true_or, or_true, Int.toNat_natCast, nat1, ex_row, ex_row2, jwb1, jwb, jwb2, Classical.not_not, not_true_eq_false, false_implies, true_implies, ne_eq, not_false_eq_true, rV_inj, vI_inj, vL_inj, hi_tp, Nat.reduceEqDiff, Nat.reduceLeDiff, Nat.reduceAdd, Int.reduceLE, Int.reduceLT, Int.reduceEq, Int.reduceNeg, Int.reduceToNat, Int.reduceAdd, Int.reduceSub, Int.reduceMul, w_id, hsh_si, hp_si, hi_si_ne, oS63 hO2, oS91 hO2, oP63_60 hO2]
        refine ⟨by omega, by omega, hB, fun b hb => ?_, hF.si (Or.inl rfl)⟩
        rw [hi_si]
        by_cases hba : b = a
        · rw [if_pos ⟨rfl, hba⟩, hr b hb, if_neg (by omega)]
        · rw [if_neg (fun z => hba z.2)]; exact h9 b hb hba
theorem m_239 {N : Nat} (hN : D 0 0 = N) (hS : S < 256) (h5 : ixB S N ≤ 5) : ∀ n, n ≤ N → Q239 sc D N S n := by
  intro n
  induction n with
  | zero => intro h; exact m_239s hN hS h5 h (fun m z => by omega)
  | succ n ih => intro h; exact m_239s hN hS h5 h (fun m z => by
      obtain rfl : m = n := by omega
      exact ih (by omega))
end MBEST
