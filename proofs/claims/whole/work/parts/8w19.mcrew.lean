/-! The reference's crews -/
section MCREW
variable {sc : jSc} {σ : jH} {D : jD} {S : Nat}
theorem mxF_mono {f g : Nat → Nat} : ∀ {m}, (∀ k, k < m → f k ≤ g k) → mxF f m ≤ mxF g m
  | 0, _ => Nat.le_refl _
  | m + 1, h => by
    have := mxF_mono (m := m) (fun k hk => h k (by omega))
    have := h m (by omega)
    rw [mxF, mxF]
    omega
theorem dF_mono {s m n : Nat} (h : m ≤ n) : dF s m ≤ dF s n := Nat.div_le_div_right (by omega)
def S50 : Nat → Nat → Prop := fun r k => r = 95 ∨ r = 96 ∨ r = 97 ∨ (r = 63 ∧ k = 68)
/-- a way that goes on as c begins -/
def Cmp (N G S : Nat) (c : Nat → Int) (n : Nat) (d : Nat → Int) : Prop := Vc N G S d N ∧ ∀ b, b < N - n → d b = c b
/-- the best of the ways so far: none is better than L, or one is -/
def Bst (D : jD) (N G S n L : Nat) (C : (Nat → Int) → Prop) (Bo : Nat → Int) (L' : Int) (Bn : Nat → Int) : Prop :=
  (L' = L ∧ (∀ b, b < N → Bn b = Bo b) ∧ ∀ d, C d → L ≤ tmC D N G S d) ∨ (∃ d, C d ∧ tmC D N G S d < L ∧ L' = tmC D N G S d ∧ (∀ b, b < N → Bn b = d b) ∧ ∀ e, C e → tmC D N G S d < tmC D N G S e ∨ (tmC D N G S d = tmC D N G S e ∧ cdn N d n ≤ cdn N e n))
def Q250 (sc : jSc) (D : jD) (N G S n : Nat) : Prop := ∀ (σ : jH) (c : Nat → Int) (pf : Nat → Nat) (L : Nat), MD σ D → (∀ b, b < N - n → hi σ 95 b = c b ∧ (S.testBit b = true → 0 ≤ c b ∧ c b < G) ∧ (S.testBit b = false → c b = -1)) → (∀ d, (∀ b, b < N - n → d b = c b) → ∀ g, g < G → lds D N S d g N = pf g + lds D N S d g n) → (∀ g, g < G → hi σ 97 g = (pf g : Nat)) → (∀ g, pf g ≤ 6 * (N - n)) → hi σ 63 68 = L → L ≤ 1000000 → Ct sc (n + 2) 250 [vR 63, vI S, vI (N - n : Nat)] σ (fun r τ => r = rN ∧ Bst D N G S n L (Cmp N G S c n) (hi σ 96) (hi τ 63 68) (hi τ 96) ∧ (∀ b, b < N - n → hi τ 95 b = hi σ 95 b) ∧ (∀ g, g < G → hi τ 97 g = (pf g : Nat)) ∧ Fr S50 σ τ)
set_option maxRecDepth 20000 in
theorem m_250s {N G n : Nat} (hN : D 0 0 = N) (hG : D 0 1 = G) (hS : S < 256) (hn : n ≤ N) (ih : ∀ m, n = m + 1 → Q250 sc D N G S m) : Q250 sc D N G S n := by
  intro σ c pf L hM hp hl hr hpf hL hL2
  obtain ⟨hO, hR, hD⟩ := id hM
  have hd := hD.1
  have h29 : hi σ 63 29 = N := by rw [hR.1.1]; exact hN
  have h30 : hi σ 63 30 = G := by rw [hR.1.2.1]; exact hG
  have hq : ∀ g, g < G → hi σ 75 g = qkL D g ∧ 1 ≤ qkL D g ∧ qkL D g ≤ 3 := fun g hg => by
    have := qkL_is (g := g) hD (by omega)
    rw [hR.2.2.2.2.1 g (by omega)]
    exact this
  have hT : ∀ d, Cmp N G S c n d → mxF (fun g => dF (qkL D g) (pf g)) G ≤ tmC D N G S d := fun d hd2 => mxF_mono (fun g hg => dF_mono (by rw [hl d hd2.2 g hg]; omega))
  have hdFb : ∀ g, g < G → dF (qkL D g) (pf g) ≤ 48 := fun g hg => by
    refine (dF_le (hq g hg).2.1).mpr ?_
    have h1 := hpf g
    have h2 : 1 * 48 ≤ qkL D g * 48 := Nat.mul_le_mul_right _ (hq g hg).2.1
    omega
  refine Ct.of (n := (n + 1)) (L := [vR 63, vI S, vI (N - n : Nat), vU, vU, vU]) cov_250 rfl (Nat.le_of_ble_eq_true rfl) ?_
  unfold T_250
  simp only [↓x_eInt, ↓x_eLng, ↓x_eNul, ↓x_eStr, ↓x_eLoc, ↓x_eLol, ↓x_eLor, ↓x_eBin, ↓x_eDiv, ↓x_eRem, ↓x_eNeg, ↓x_eLbin, ↓x_eLdiv, ↓x_eLrem, ↓x_eLshl, ↓x_eLshr, ↓x_eI2l, ↓x_eL2i, ↓x_eFldI, ↓x_eFldL, ↓x_eFldP, ↓x_eAldI, ↓x_eAldS, ↓x_eAldL, ↓x_eAldP, ↓x_eLen, ↓x_eLenS, ↓x_eCall, ↓x_eCalv, ↓x_eMin, ↓x_eMax, ↓x_eLmin, ↓x_eAbs, ↓x_eSlen, ↓x_eSat, ↓x_eIte, ↓x_eNewa, ↓x_eNewo, ↓x_esN, ↓x_esC, ↓x_cCmp, ↓x_cCmpz, ↓x_cLcmp, ↓x_cIsn, ↓x_cNot, ↓x_cAnd, ↓x_cOr, ↓x_tSkip, ↓x_tSup, ↓x_tSeq, ↓x_tSetI, ↓x_tSetL, ↓x_tSetR, ↓x_tInc, ↓x_tPutI, ↓x_tPutL, ↓x_tPutP, ↓x_tPutc, ↓x_tAstI, ↓x_tAstL, ↓x_tAstP, ↓x_tAstcI, ↓x_tAstcL, ↓x_tAcpI, ↓x_tAcpL, ↓x_tExp, ↓x_tExv, ↓x_tExw, ↓x_tIte, ↓x_tSw, ↓x_tRet, ↓x_tRetB, ↓x_tRetL, ↓x_tRetv, ↓x_tBrk, ↓x_tCont, ↓x_tThr, ↓x_wD, ↓x_wK, ↓x_jIx, ↓x_jOb, ↓x_jInt_I, ↓x_jLng_L, ↓x_jRef_R, ↓x_jStr_S, ↓x_jPls_R, ↓x_jPls_N, ↓x_jAny_R, ↓x_jAny_S, ↓jIntg_0, ↓jLngg_0, ↓jRefg_0, ↓jAnyg_0, ↓jStrg_0, ↓jPlsg_0, ↓jst_x0, ↓jst2_x0, ↓jIntg_1, ↓jLngg_1, ↓jRefg_1, ↓jAnyg_1, ↓jst_x1, ↓jst2_x1, ↓jIntg_2, ↓jLngg_2, ↓jRefg_2, ↓jAnyg_2, ↓jst_x2, ↓jst2_x2, ↓jIntg_3, ↓jLngg_3, ↓jRefg_3, ↓jAnyg_3, ↓jst_x3, ↓jst2_x3, ↓jIntg_4, ↓jLngg_4, ↓jRefg_4, ↓jAnyg_4, ↓jst_x4, ↓jst2_x4, ↓jIntg_5, ↓jLngg_5, ↓jRefg_5, ↓jAnyg_5, ↓jst_x5, ↓jst2_x5, ↓jIntg_6, ↓jLngg_6, ↓jRefg_6, ↓jAnyg_6, ↓jst_x6, ↓jst2_x6, ↓jIntg_7, ↓jLngg_7, ↓jRefg_7, ↓jAnyg_7, ↓jst_x7, ↓jst2_x7, ↓jIntg_8, ↓jLngg_8, ↓jRefg_8, ↓jAnyg_8, ↓jst_x8, ↓jst2_x8, ↓jIntg_9, ↓jLngg_9, ↓jRefg_9, ↓jAnyg_9, ↓jst_x9, ↓jst2_x9, ↓jIntg_10, ↓jLngg_10, ↓jRefg_10, ↓jAnyg_10, ↓jst_x10, ↓jst2_x10, ↓jIntg_11, ↓jLngg_11, ↓jRefg_11, ↓jAnyg_11, ↓jst_x11, ↓jst2_x11, ↓jIntg_12, ↓jLngg_12, ↓jRefg_12, ↓jAnyg_12, ↓jst_x12, ↓jst2_x12, ↓jIntg_13, ↓jLngg_13, ↓jRefg_13, ↓jAnyg_13, ↓jst_x13, ↓jst2_x13, ↓jIntg_14, ↓jLngg_14, ↓jRefg_14, ↓jAnyg_14, ↓jst_x14, ↓jst2_x14, ↓ex_some, jpv_some, jpv_none, jPls_pv, jisL_I, jisL_L, jisL_R, jisL_S, jisL_N, jisL_U, j_op0, j_op1, j_op2, j_c2, true_and, and_true, true_or, or_true, Int.toNat_natCast, nat1, ex_row, ex_row2, jwb1, jwb, jwb2, Classical.not_not, not_true_eq_false, false_implies, true_implies, ne_eq, not_false_eq_true, rV_inj, vI_inj, vL_inj, hi_tp, Nat.reduceEqDiff, Nat.reduceLeDiff, Nat.reduceAdd, Int.reduceLE, Int.reduceLT, Int.reduceEq, Int.reduceNeg, Int.reduceToNat, Int.reduceAdd, Int.reduceSub, Int.reduceMul, oS63 hO]
  refine tLoop_go (fun y : Nat × jV => G - y.1) (fun y => [vR 63, vI S, vI (N - n : Nat), vI (mxF (fun g => dF (qkL D g) (pf g)) y.1 : Nat), vI y.1, y.2]) (fun y τ => y.1 ≤ G ∧ τ = σ) (fun y τ => y.1 = G ∧ τ = σ) (0, vU) rfl ⟨Nat.zero_le _, rfl⟩ ?_ ?_
  · rintro ⟨y, z⟩ τ N' NN ⟨hy, rfl⟩ hN2 hE
    simp only at hy
    have hmx := (mxF_iff (f := fun g => dF (qkL D g) (pf g)) (b := 48) (m := y)).mpr (fun k hk => hdFb k (by omega))
    simp (disch := omega) only [↓x_eInt, ↓x_eLng, ↓x_eNul, ↓x_eStr, ↓x_eLoc, ↓x_eLol, ↓x_eLor, ↓x_eBin, ↓x_eDiv, ↓x_eRem, ↓x_eNeg, ↓x_eLbin, ↓x_eLdiv, ↓x_eLrem, ↓x_eLshl, ↓x_eLshr, ↓x_eI2l, ↓x_eL2i, ↓x_eFldI, ↓x_eFldL, ↓x_eFldP, ↓x_eAldI, ↓x_eAldS, ↓x_eAldL, ↓x_eAldP, ↓x_eLen, ↓x_eLenS, ↓x_eCall, ↓x_eCalv, ↓x_eMin, ↓x_eMax, ↓x_eLmin, ↓x_eAbs, ↓x_eSlen, ↓x_eSat, ↓x_eIte, ↓x_eNewa, ↓x_eNewo, ↓x_esN, ↓x_esC, ↓x_cCmp, ↓x_cCmpz, ↓x_cLcmp, ↓x_cIsn, ↓x_cNot, ↓x_cAnd, ↓x_cOr, ↓x_tSkip, ↓x_tSup, ↓x_tSeq, ↓x_tSetI, ↓x_tSetL, ↓x_tSetR, ↓x_tInc, ↓x_tPutI, ↓x_tPutL, ↓x_tPutP, ↓x_tPutc, ↓x_tAstI, ↓x_tAstL, ↓x_tAstP, ↓x_tAstcI, ↓x_tAstcL, ↓x_tAcpI, ↓x_tAcpL, ↓x_tExp, ↓x_tExv, ↓x_tExw, ↓x_tIte, ↓x_tSw, ↓x_tRet, ↓x_tRetB, ↓x_tRetL, ↓x_tRetv, ↓x_tBrk, ↓x_tCont, ↓x_tThr, ↓x_wD, ↓x_wK, ↓x_jIx, ↓x_jOb, ↓x_jInt_I, ↓x_jLng_L, ↓x_jRef_R, ↓x_jStr_S, ↓x_jPls_R, ↓x_jPls_N, ↓x_jAny_R, ↓x_jAny_S, ↓jIntg_0, ↓jLngg_0, ↓jRefg_0, ↓jAnyg_0, ↓jStrg_0, ↓jPlsg_0, ↓jst_x0, ↓jst2_x0, ↓jIntg_1, ↓jLngg_1, ↓jRefg_1, ↓jAnyg_1, ↓jst_x1, ↓jst2_x1, ↓jIntg_2, ↓jLngg_2, ↓jRefg_2, ↓jAnyg_2, ↓jst_x2, ↓jst2_x2, ↓jIntg_3, ↓jLngg_3, ↓jRefg_3, ↓jAnyg_3, ↓jst_x3, ↓jst2_x3, ↓jIntg_4, ↓jLngg_4, ↓jRefg_4, ↓jAnyg_4, ↓jst_x4, ↓jst2_x4, ↓jIntg_5, ↓jLngg_5, ↓jRefg_5, ↓jAnyg_5, ↓jst_x5, ↓jst2_x5, ↓jIntg_6, ↓jLngg_6, ↓jRefg_6, ↓jAnyg_6, ↓jst_x6, ↓jst2_x6, ↓jIntg_7, ↓jLngg_7, ↓jRefg_7, ↓jAnyg_7, ↓jst_x7, ↓jst2_x7, ↓jIntg_8, ↓jLngg_8, ↓jRefg_8, ↓jAnyg_8, ↓jst_x8, ↓jst2_x8, ↓jIntg_9, ↓jLngg_9, ↓jRefg_9, ↓jAnyg_9, ↓jst_x9, ↓jst2_x9, ↓jIntg_10, ↓jLngg_10, ↓jRefg_10, ↓jAnyg_10, ↓jst_x10, ↓jst2_x10, ↓jIntg_11, ↓jLngg_11, ↓jRefg_11, ↓jAnyg_11, ↓jst_x11, ↓jst2_x11, ↓jIntg_12, ↓jLngg_12, ↓jRefg_12, ↓jAnyg_12, ↓jst_x12, ↓jst2_x12, ↓jIntg_13, ↓jLngg_13, ↓jRefg_13, ↓jAnyg_13, ↓jst_x13, ↓jst2_x13, ↓jIntg_14, ↓jLngg_14, ↓jRefg_14, ↓jAnyg_14, ↓jst_x14, ↓jst2_x14, ↓ex_some, jpv_some, jpv_none, jPls_pv, jisL_I, jisL_L, jisL_R, jisL_S, jisL_N, jisL_U, j_op0, j_op1, j_op2, j_c2, true_and, and_true, true_or, or_true, Int.toNat_natCast, nat1, ex_row, ex_row2, jwb1, jwb, jwb2, Classical.not_not, not_true_eq_false, false_implies, true_implies, ne_eq, not_false_eq_true, rV_inj, vI_inj, vL_inj, hi_tp, Nat.reduceEqDiff, Nat.reduceLeDiff, Nat.reduceAdd, Int.reduceLE, Int.reduceLT, Int.reduceEq, Int.reduceNeg, Int.reduceToNat, Int.reduceAdd, Int.reduceSub, Int.reduceMul, w_id, hsh_si, hp_si, hi_si_ne, oS63 hO, h30]
    refine ⟨fun hlt => ?_, fun hlt => hE (y, z) _ ⟨by show y = G; omega, rfl⟩⟩
    have hqy := hq y (by omega)
    have hry := hr y (by omega)
    have hpy := hpf y
    have hdy := hdFb y (by omega)
    simp (disch := omega) only [↓x_eInt, ↓x_eLng, ↓x_eNul, ↓x_eStr, ↓x_eLoc, ↓x_eLol, ↓x_eLor, ↓x_eBin, ↓x_eDiv, ↓x_eRem, ↓x_eNeg, ↓x_eLbin, ↓x_eLdiv, ↓x_eLrem, ↓x_eLshl, ↓x_eLshr, ↓x_eI2l, ↓x_eL2i, ↓x_eFldI, ↓x_eFldL, ↓x_eFldP, ↓x_eAldI, ↓x_eAldS, ↓x_eAldL, ↓x_eAldP, ↓x_eLen, ↓x_eLenS, ↓x_eCall, ↓x_eCalv, ↓x_eMin, ↓x_eMax, ↓x_eLmin, ↓x_eAbs, ↓x_eSlen, ↓x_eSat, ↓x_eIte, ↓x_eNewa, ↓x_eNewo, ↓x_esN, ↓x_esC, ↓x_cCmp, ↓x_cCmpz, ↓x_cLcmp, ↓x_cIsn, ↓x_cNot, ↓x_cAnd, ↓x_cOr, ↓x_tSkip, ↓x_tSup, ↓x_tSeq, ↓x_tSetI, ↓x_tSetL, ↓x_tSetR, ↓x_tInc, ↓x_tPutI, ↓x_tPutL, ↓x_tPutP, ↓x_tPutc, ↓x_tAstI, ↓x_tAstL, ↓x_tAstP, ↓x_tAstcI, ↓x_tAstcL, ↓x_tAcpI, ↓x_tAcpL, ↓x_tExp, ↓x_tExv, ↓x_tExw, ↓x_tIte, ↓x_tSw, ↓x_tRet, ↓x_tRetB, ↓x_tRetL, ↓x_tRetv, ↓x_tBrk, ↓x_tCont, ↓x_tThr, ↓x_wD, ↓x_wK, ↓x_jIx, ↓x_jOb, ↓x_jInt_I, ↓x_jLng_L, ↓x_jRef_R, ↓x_jStr_S, ↓x_jPls_R, ↓x_jPls_N, ↓x_jAny_R, ↓x_jAny_S, ↓jIntg_0, ↓jLngg_0, ↓jRefg_0, ↓jAnyg_0, ↓jStrg_0, ↓jPlsg_0, ↓jst_x0, ↓jst2_x0, ↓jIntg_1, ↓jLngg_1, ↓jRefg_1, ↓jAnyg_1, ↓jst_x1, ↓jst2_x1, ↓jIntg_2, ↓jLngg_2, ↓jRefg_2, ↓jAnyg_2, ↓jst_x2, ↓jst2_x2, ↓jIntg_3, ↓jLngg_3, ↓jRefg_3, ↓jAnyg_3, ↓jst_x3, ↓jst2_x3, ↓jIntg_4, ↓jLngg_4, ↓jRefg_4, ↓jAnyg_4, ↓jst_x4, ↓jst2_x4, ↓jIntg_5, ↓jLngg_5, ↓jRefg_5, ↓jAnyg_5, ↓jst_x5, ↓jst2_x5, ↓jIntg_6, ↓jLngg_6, ↓jRefg_6, ↓jAnyg_6, ↓jst_x6, ↓jst2_x6, ↓jIntg_7, ↓jLngg_7, ↓jRefg_7, ↓jAnyg_7, ↓jst_x7, ↓jst2_x7, ↓jIntg_8, ↓jLngg_8, ↓jRefg_8, ↓jAnyg_8, ↓jst_x8, ↓jst2_x8, ↓jIntg_9, ↓jLngg_9, ↓jRefg_9, ↓jAnyg_9, ↓jst_x9, ↓jst2_x9, ↓jIntg_10, ↓jLngg_10, ↓jRefg_10, ↓jAnyg_10, ↓jst_x10, ↓jst2_x10, ↓jIntg_11, ↓jLngg_11, ↓jRefg_11, ↓jAnyg_11, ↓jst_x11, ↓jst2_x11, ↓jIntg_12, ↓jLngg_12, ↓jRefg_12, ↓jAnyg_12, ↓jst_x12, ↓jst2_x12, ↓jIntg_13, ↓jLngg_13, ↓jRefg_13, ↓jAnyg_13, ↓jst_x13, ↓jst2_x13, ↓jIntg_14, ↓jLngg_14, ↓jRefg_14, ↓jAnyg_14, ↓jst_x14, ↓jst2_x14, ↓ex_some, jpv_some, jpv_none, jPls_pv, jisL_I, jisL_L, jisL_R, jisL_S, jisL_N, jisL_U, j_op0, j_op1, j_op2, j_c2, true_and, and_true, true_or, or_true, Int.toNat_natCast, nat1, ex_row, ex_row2, jwb1, jwb, jwb2, Classical.not_not, not_true_eq_false, false_implies, true_implies, ne_eq, not_false_eq_true, rV_inj, vI_inj, vL_inj, hi_tp, Nat.reduceEqDiff, Nat.reduceLeDiff, Nat.reduceAdd, Int.reduceLE, Int.reduceLT, Int.reduceEq, Int.reduceNeg, Int.reduceToNat, Int.reduceAdd, Int.reduceSub, Int.reduceMul, w_id, hsh_si, hp_si, hi_si_ne, oS63 hO, oS97 hO, oP63_67 hO, oS75 hO, oP63_19 hO, hqy.1, hry]
    rw [show (pf y : Int) + (qkL D y : Int) - 1 = ((pf y + qkL D y - 1 : Nat) : Int) by omega, jdiv (by omega) (by omega), show ((pf y + qkL D y - 1 : Nat) : Int) / (qkL D y : Int) = ((dF (qkL D y) (pf y) : Nat) : Int) from rfl]
    simp (disch := omega) only [↓x_eInt, ↓x_eLng, ↓x_eNul, ↓x_eStr, ↓x_eLoc, ↓x_eLol, ↓x_eLor, ↓x_eBin, ↓x_eDiv, ↓x_eRem, ↓x_eNeg, ↓x_eLbin, ↓x_eLdiv, ↓x_eLrem, ↓x_eLshl, ↓x_eLshr, ↓x_eI2l, ↓x_eL2i, ↓x_eFldI, ↓x_eFldL, ↓x_eFldP, ↓x_eAldI, ↓x_eAldS, ↓x_eAldL, ↓x_eAldP, ↓x_eLen, ↓x_eLenS, ↓x_eCall, ↓x_eCalv, ↓x_eMin, ↓x_eMax, ↓x_eLmin, ↓x_eAbs, ↓x_eSlen, ↓x_eSat, ↓x_eIte, ↓x_eNewa, ↓x_eNewo, ↓x_esN, ↓x_esC, ↓x_cCmp, ↓x_cCmpz, ↓x_cLcmp, ↓x_cIsn, ↓x_cNot, ↓x_cAnd, ↓x_cOr, ↓x_tSkip, ↓x_tSup, ↓x_tSeq, ↓x_tSetI, ↓x_tSetL, ↓x_tSetR, ↓x_tInc, ↓x_tPutI, ↓x_tPutL, ↓x_tPutP, ↓x_tPutc, ↓x_tAstI, ↓x_tAstL, ↓x_tAstP, ↓x_tAstcI, ↓x_tAstcL, ↓x_tAcpI, ↓x_tAcpL, ↓x_tExp, ↓x_tExv, ↓x_tExw, ↓x_tIte, ↓x_tSw, ↓x_tRet, ↓x_tRetB, ↓x_tRetL, ↓x_tRetv, ↓x_tBrk, ↓x_tCont, ↓x_tThr, ↓x_wD, ↓x_wK, ↓x_jIx, ↓x_jOb, ↓x_jInt_I, ↓x_jLng_L, ↓x_jRef_R, ↓x_jStr_S, ↓x_jPls_R, ↓x_jPls_N, ↓x_jAny_R, ↓x_jAny_S, ↓jIntg_0, ↓jLngg_0, ↓jRefg_0, ↓jAnyg_0, ↓jStrg_0, ↓jPlsg_0, ↓jst_x0, ↓jst2_x0, ↓jIntg_1, ↓jLngg_1, ↓jRefg_1, ↓jAnyg_1, ↓jst_x1, ↓jst2_x1, ↓jIntg_2, ↓jLngg_2, ↓jRefg_2, ↓jAnyg_2, ↓jst_x2, ↓jst2_x2, ↓jIntg_3, ↓jLngg_3, ↓jRefg_3, ↓jAnyg_3, ↓jst_x3, ↓jst2_x3, ↓jIntg_4, ↓jLngg_4, ↓jRefg_4, ↓jAnyg_4, ↓jst_x4, ↓jst2_x4, ↓jIntg_5, ↓jLngg_5, ↓jRefg_5, ↓jAnyg_5, ↓jst_x5, ↓jst2_x5, ↓jIntg_6, ↓jLngg_6, ↓jRefg_6, ↓jAnyg_6, ↓jst_x6, ↓jst2_x6, ↓jIntg_7, ↓jLngg_7, ↓jRefg_7, ↓jAnyg_7, ↓jst_x7, ↓jst2_x7, ↓jIntg_8, ↓jLngg_8, ↓jRefg_8, ↓jAnyg_8, ↓jst_x8, ↓jst2_x8, ↓jIntg_9, ↓jLngg_9, ↓jRefg_9, ↓jAnyg_9, ↓jst_x9, ↓jst2_x9, ↓jIntg_10, ↓jLngg_10, ↓jRefg_10, ↓jAnyg_10, ↓jst_x10, ↓jst2_x10, ↓jIntg_11, ↓jLngg_11, ↓jRefg_11, ↓jAnyg_11, ↓jst_x11, ↓jst2_x11, ↓jIntg_12, ↓jLngg_12, ↓jRefg_12, ↓jAnyg_12, ↓jst_x12, ↓jst2_x12, ↓jIntg_13, ↓jLngg_13, ↓jRefg_13, ↓jAnyg_13, ↓jst_x13, ↓jst2_x13, ↓jIntg_14, ↓jLngg_14, ↓jRefg_14, ↓jAnyg_14, ↓jst_x14, ↓jst2_x14, ↓ex_some, jpv_some, jpv_none, jPls_pv, jisL_I, jisL_L, jisL_R, jisL_S, jisL_N, jisL_U, j_op0, j_op1, j_op2, j_c2, true_and, and_true, true_or, or_true, Int.toNat_natCast, nat1, ex_row, ex_row2, jwb1, jwb, jwb2, Classical.not_not, not_true_eq_false, false_implies, true_implies, ne_eq, not_false_eq_true, rV_inj, vI_inj, vL_inj, hi_tp, Nat.reduceEqDiff, Nat.reduceLeDiff, Nat.reduceAdd, Int.reduceLE, Int.reduceLT, Int.reduceEq, Int.reduceNeg, Int.reduceToNat, Int.reduceAdd, Int.reduceSub, Int.reduceMul, w_id, hsh_si, hp_si, hi_si_ne]
    have hnx := hN2 (y + 1, vI (dF (qkL D y) (pf y) : Nat)) τ (by show G - (y + 1) < G - y; omega) ⟨by show y + 1 ≤ G; omega, rfl⟩
    have hms : mxF (fun g => dF (qkL D g) (pf g)) (y + 1) = max (mxF (fun g => dF (qkL D g) (pf g)) y) (dF (qkL D y) (pf y)) := rfl
    simp only [hms] at hnx
    refine ⟨by omega, by omega, by omega, by omega, by omega, by omega, by omega, fun g => ?_, fun g => ?_⟩
    · rw [Nat.max_eq_right (by omega)] at hnx; exact hnx
    · rw [Nat.max_eq_left (by omega)] at hnx; exact hnx
  · rintro ⟨y, z⟩ τ ⟨h, rfl⟩
    simp only at h
    subst h
    have hmx := (mxF_iff (f := fun g => dF (qkL D g) (pf g)) (b := 48) (m := y)).mpr (fun k hk => hdFb k (by omega))
    generalize hM0 : mxF (fun g => dF (qkL D g) (pf g)) y = M at *
    simp (disch := omega) only [↓x_eInt, ↓x_eLng, ↓x_eNul, ↓x_eStr, ↓x_eLoc, ↓x_eLol, ↓x_eLor, ↓x_eBin, ↓x_eDiv, ↓x_eRem, ↓x_eNeg, ↓x_eLbin, ↓x_eLdiv, ↓x_eLrem, ↓x_eLshl, ↓x_eLshr, ↓x_eI2l, ↓x_eL2i, ↓x_eFldI, ↓x_eFldL, ↓x_eFldP, ↓x_eAldI, ↓x_eAldS, ↓x_eAldL, ↓x_eAldP, ↓x_eLen, ↓x_eLenS, ↓x_eCall, ↓x_eCalv, ↓x_eMin, ↓x_eMax, ↓x_eLmin, ↓x_eAbs, ↓x_eSlen, ↓x_eSat, ↓x_eIte, ↓x_eNewa, ↓x_eNewo, ↓x_esN, ↓x_esC, ↓x_cCmp, ↓x_cCmpz, ↓x_cLcmp, ↓x_cIsn, ↓x_cNot, ↓x_cAnd, ↓x_cOr, ↓x_tSkip, ↓x_tSup, ↓x_tSeq, ↓x_tSetI, ↓x_tSetL, ↓x_tSetR, ↓x_tInc, ↓x_tPutI, ↓x_tPutL, ↓x_tPutP, ↓x_tPutc, ↓x_tAstI, ↓x_tAstL, ↓x_tAstP, ↓x_tAstcI, ↓x_tAstcL, ↓x_tAcpI, ↓x_tAcpL, ↓x_tExp, ↓x_tExv, ↓x_tExw, ↓x_tIte, ↓x_tSw, ↓x_tRet, ↓x_tRetB, ↓x_tRetL, ↓x_tRetv, ↓x_tBrk, ↓x_tCont, ↓x_tThr, ↓x_wD, ↓x_wK, ↓x_jIx, ↓x_jOb, ↓x_jInt_I, ↓x_jLng_L, ↓x_jRef_R, ↓x_jStr_S, ↓x_jPls_R, ↓x_jPls_N, ↓x_jAny_R, ↓x_jAny_S, ↓jIntg_0, ↓jLngg_0, ↓jRefg_0, ↓jAnyg_0, ↓jStrg_0, ↓jPlsg_0, ↓jst_x0, ↓jst2_x0, ↓jIntg_1, ↓jLngg_1, ↓jRefg_1, ↓jAnyg_1, ↓jst_x1, ↓jst2_x1, ↓jIntg_2, ↓jLngg_2, ↓jRefg_2, ↓jAnyg_2, ↓jst_x2, ↓jst2_x2, ↓jIntg_3, ↓jLngg_3, ↓jRefg_3, ↓jAnyg_3, ↓jst_x3, ↓jst2_x3, ↓jIntg_4, ↓jLngg_4, ↓jRefg_4, ↓jAnyg_4, ↓jst_x4, ↓jst2_x4, ↓jIntg_5, ↓jLngg_5, ↓jRefg_5, ↓jAnyg_5, ↓jst_x5, ↓jst2_x5, ↓jIntg_6, ↓jLngg_6, ↓jRefg_6, ↓jAnyg_6, ↓jst_x6, ↓jst2_x6, ↓jIntg_7, ↓jLngg_7, ↓jRefg_7, ↓jAnyg_7, ↓jst_x7, ↓jst2_x7, ↓jIntg_8, ↓jLngg_8, ↓jRefg_8, ↓jAnyg_8, ↓jst_x8, ↓jst2_x8, ↓jIntg_9, ↓jLngg_9, ↓jRefg_9, ↓jAnyg_9, ↓jst_x9, ↓jst2_x9, ↓jIntg_10, ↓jLngg_10, ↓jRefg_10, ↓jAnyg_10, ↓jst_x10, ↓jst2_x10, ↓jIntg_11, ↓jLngg_11, ↓jRefg_11, ↓jAnyg_11, ↓jst_x11, ↓jst2_x11, ↓jIntg_12, ↓jLngg_12, ↓jRefg_12, ↓jAnyg_12, ↓jst_x12, ↓jst2_x12, ↓jIntg_13, ↓jLngg_13, ↓jRefg_13, ↓jAnyg_13, ↓jst_x13, ↓jst2_x13, ↓jIntg_14, ↓jLngg_14, ↓jRefg_14, ↓jAnyg_14, ↓jst_x14, ↓jst2_x14, ↓ex_some, jpv_some, jpv_none, jPls_pv, jisL_I, jisL_L, jisL_R, jisL_S, jisL_N, jisL_U, j_op0, j_op1, j_op2, j_c2, true_and, and_true, true_or, or_true, Int.toNat_natCast, nat1, ex_row, ex_row2, jwb1, jwb, jwb2, Classical.not_not, not_true_eq_false, false_implies, true_implies, ne_eq, not_false_eq_true, rV_inj, vI_inj, vL_inj, hi_tp, Nat.reduceEqDiff, Nat.reduceLeDiff, Nat.reduceAdd, Int.reduceLE, Int.reduceLT, Int.reduceEq, Int.reduceNeg, Int.reduceToNat, Int.reduceAdd, Int.reduceSub, Int.reduceMul, w_id, hsh_si, hp_si, hi_si_ne, oS63 hO, hL, h29]
    refine ⟨fun hge => ⟨Or.inl ⟨rfl, fun b _ => rfl, fun d hd2 => by have := hT d hd2; omega⟩, fun b _ => trivial, hr, Fr.refl _ _⟩, fun hge => ⟨fun hlast => ?_, fun hlast => ?_⟩⟩
    · obtain rfl : n = 0 := by omega
      rw [Nat.sub_zero] at hp hl ⊢
      have hpc : Cmp N y S c 0 c := ⟨fun b _ h2 => ⟨(hp b h2).2.1, (hp b h2).2.2⟩, fun b _ => rfl⟩
      have htm : ∀ d, (∀ b, b < N → d b = c b) → tmC D N y S d = M := fun d hd2 => by
        have : ∀ k, k ≤ y → mxF (fun g => dF (qkL D g) (lds D N S d g N)) k = mxF (fun g => dF (qkL D g) (pf g)) k := by
          intro k
          induction k with
          | zero => intro _; rfl
          | succ k ih =>
            intro hk
            rw [mxF, mxF, ih (by omega), hl d hd2 k (by omega)]
            rfl
        rw [← hM0]
        exact this y (Nat.le_refl _)
      simp (disch := omega) only [↓x_eInt, ↓x_eLng, ↓x_eNul, ↓x_eStr, ↓x_eLoc, ↓x_eLol, ↓x_eLor, ↓x_eBin, ↓x_eDiv, ↓x_eRem, ↓x_eNeg, ↓x_eLbin, ↓x_eLdiv, ↓x_eLrem, ↓x_eLshl, ↓x_eLshr, ↓x_eI2l, ↓x_eL2i, ↓x_eFldI, ↓x_eFldL, ↓x_eFldP, ↓x_eAldI, ↓x_eAldS, ↓x_eAldL, ↓x_eAldP, ↓x_eLen, ↓x_eLenS, ↓x_eCall, ↓x_eCalv, ↓x_eMin, ↓x_eMax, ↓x_eLmin, ↓x_eAbs, ↓x_eSlen, ↓x_eSat, ↓x_eIte, ↓x_eNewa, ↓x_eNewo, ↓x_esN, ↓x_esC, ↓x_cCmp, ↓x_cCmpz, ↓x_cLcmp, ↓x_cIsn, ↓x_cNot, ↓x_cAnd, ↓x_cOr, ↓x_tSkip, ↓x_tSup, ↓x_tSeq, ↓x_tSetI, ↓x_tSetL, ↓x_tSetR, ↓x_tInc, ↓x_tPutI, ↓x_tPutL, ↓x_tPutP, ↓x_tPutc, ↓x_tAstI, ↓x_tAstL, ↓x_tAstP, ↓x_tAstcI, ↓x_tAstcL, ↓x_tAcpI, ↓x_tAcpL, ↓x_tExp, ↓x_tExv, ↓x_tExw, ↓x_tIte, ↓x_tSw, ↓x_tRet, ↓x_tRetB, ↓x_tRetL, ↓x_tRetv, ↓x_tBrk, ↓x_tCont, ↓x_tThr, ↓x_wD, ↓x_wK, ↓x_jIx, ↓x_jOb, ↓x_jInt_I, ↓x_jLng_L, ↓x_jRef_R, ↓x_jStr_S, ↓x_jPls_R, ↓x_jPls_N, ↓x_jAny_R, ↓x_jAny_S, ↓jIntg_0, ↓jLngg_0, ↓jRefg_0, ↓jAnyg_0, ↓jStrg_0, ↓jPlsg_0, ↓jst_x0, ↓jst2_x0, ↓jIntg_1, ↓jLngg_1, ↓jRefg_1, ↓jAnyg_1, ↓jst_x1, ↓jst2_x1, ↓jIntg_2, ↓jLngg_2, ↓jRefg_2, ↓jAnyg_2, ↓jst_x2, ↓jst2_x2, ↓jIntg_3, ↓jLngg_3, ↓jRefg_3, ↓jAnyg_3, ↓jst_x3, ↓jst2_x3, ↓jIntg_4, ↓jLngg_4, ↓jRefg_4, ↓jAnyg_4, ↓jst_x4, ↓jst2_x4, ↓jIntg_5, ↓jLngg_5, ↓jRefg_5, ↓jAnyg_5, ↓jst_x5, ↓jst2_x5, ↓jIntg_6, ↓jLngg_6, ↓jRefg_6, ↓jAnyg_6, ↓jst_x6, ↓jst2_x6, ↓jIntg_7, ↓jLngg_7, ↓jRefg_7, ↓jAnyg_7, ↓jst_x7, ↓jst2_x7, ↓jIntg_8, ↓jLngg_8, ↓jRefg_8, ↓jAnyg_8, ↓jst_x8, ↓jst2_x8, ↓jIntg_9, ↓jLngg_9, ↓jRefg_9, ↓jAnyg_9, ↓jst_x9, ↓jst2_x9, ↓jIntg_10, ↓jLngg_10, ↓jRefg_10, ↓jAnyg_10, ↓jst_x10, ↓jst2_x10, ↓jIntg_11, ↓jLngg_11, ↓jRefg_11, ↓jAnyg_11, ↓jst_x11, ↓jst2_x11, ↓jIntg_12, ↓jLngg_12, ↓jRefg_12, ↓jAnyg_12, ↓jst_x12, ↓jst2_x12, ↓jIntg_13, ↓jLngg_13, ↓jRefg_13, ↓jAnyg_13, ↓jst_x13, ↓jst2_x13, ↓jIntg_14, ↓jLngg_14, ↓jRefg_14, ↓jAnyg_14, ↓jst_x14, ↓jst2_x14, ↓ex_some, jpv_some, jpv_none, jPls_pv, jisL_I, jisL_L, jisL_R, jisL_S, jisL_N, jisL_U, j_op0, j_op1, j_op2, j_c2, true_and, and_true, true_or, or_true, Int.toNat_natCast, nat1, ex_row, ex_row2, jwb1, jwb, jwb2, Classical.not_not, not_true_eq_false, false_implies, true_implies, ne_eq, not_false_eq_true, rV_inj, vI_inj, vL_inj, hi_tp, Nat.reduceEqDiff, Nat.reduceLeDiff, Nat.reduceAdd, Int.reduceLE, Int.reduceLT, Int.reduceEq, Int.reduceNeg, Int.reduceToNat, Int.reduceAdd, Int.reduceSub, Int.reduceMul, w_id, hsh_si, hp_si, hi_si_ne, oS63 hO, oP63_65 hO, oP63_66 hO, jf_12_68]
      refine (m_186 (n := 8) (by simp only [hsh_si]; exact oS95 hO) (by simp only [hsh_si]; exact oS96 hO) (by decide) (by decide) (by decide) (by decide) (by decide)).void (by omega) ?_
      refine ⟨Or.inr ⟨c, ⟨hpc.1, fun b hb => rfl⟩, by rw [htm c (fun _ _ => rfl)]; omega, ?_, fun b hb => ?_, fun e he => Or.inr ?_⟩, fun b hb => ?_, fun g hg => ?_, ?_⟩
      · rw [hi_sr_ne (by decide), hi_si_eq, htm c (fun _ _ => rfl)]
      · rw [hi_sr_eq, cpf, if_pos (by omega), hi_si_ne (by decide)]
        exact (hp b hb).1
      · rw [htm c (fun _ _ => rfl), htm e he.2]
        exact ⟨rfl, Nat.le_refl _⟩
      · rw [hi_sr_ne (by decide), hi_si_ne (by decide)]
      · rw [hi_sr_ne (by decide), hi_si_ne (by decide)]; exact hr g hg
      · exact ((Fr.refl _ _).si (by unfold S50; omega)).sr (fun _ => Or.inr (Or.inl rfl))
    · obtain ⟨m, rfl⟩ : ∃ m, n = m + 1 := ⟨n - 1, by omega⟩
      have ih := ih m rfl
      generalize hA : N - (m + 1) = a at *
      have hnx : N - m = a + 1 := by omega
      have hhr := hrL_is (a := a) hD (by omega)
      have hh1 : hi τ 72 (4 * a) = hrL D a := by rw [(hR.2.1 a (by omega)).1]; exact hhr.1
      have hcdn : ∀ d : Nat → Int, cdn N d (m + 1) = (d a + 1).toNat * 5 ^ m + cdn N d m := fun d => by rw [cdn, hA]
      have hlds : ∀ d g, lds D N S d g (m + 1) = (if S.testBit a = true ∧ d a = (g : Int) then hrL D a else 0) + lds D N S d g m := fun d g => by rw [lds, hA]
      rw [jbit (by omega) (by omega)]
      cases hbit : S.testBit a with
      | false =>
        simp only [Bool.false_eq_true, ↓reduceIte]
        refine ⟨fun _ => ?_, fun z => absurd (show j_w 0 = 0 from rfl) z⟩
        simp (disch := omega) only [↓x_eInt, ↓x_eLng, ↓x_eNul, ↓x_eStr, ↓x_eLoc, ↓x_eLol, ↓x_eLor, ↓x_eBin, ↓x_eDiv, ↓x_eRem, ↓x_eNeg, ↓x_eLbin, ↓x_eLdiv, ↓x_eLrem, ↓x_eLshl, ↓x_eLshr, ↓x_eI2l, ↓x_eL2i, ↓x_eFldI, ↓x_eFldL, ↓x_eFldP, ↓x_eAldI, ↓x_eAldS, ↓x_eAldL, ↓x_eAldP, ↓x_eLen, ↓x_eLenS, ↓x_eCall, ↓x_eCalv, ↓x_eMin, ↓x_eMax, ↓x_eLmin, ↓x_eAbs, ↓x_eSlen, ↓x_eSat, ↓x_eIte, ↓x_eNewa, ↓x_eNewo, ↓x_esN, ↓x_esC, ↓x_cCmp, ↓x_cCmpz, ↓x_cLcmp, ↓x_cIsn, ↓x_cNot, ↓x_cAnd, ↓x_cOr, ↓x_tSkip, ↓x_tSup, ↓x_tSeq, ↓x_tSetI, ↓x_tSetL, ↓x_tSetR, ↓x_tInc, ↓x_tPutI, ↓x_tPutL, ↓x_tPutP, ↓x_tPutc, ↓x_tAstI, ↓x_tAstL, ↓x_tAstP, ↓x_tAstcI, ↓x_tAstcL, ↓x_tAcpI, ↓x_tAcpL, ↓x_tExp, ↓x_tExv, ↓x_tExw, ↓x_tIte, ↓x_tSw, ↓x_tRet, ↓x_tRetB, ↓x_tRetL, ↓x_tRetv, ↓x_tBrk, ↓x_tCont, ↓x_tThr, ↓x_wD, ↓x_wK, ↓x_jIx, ↓x_jOb, ↓x_jInt_I, ↓x_jLng_L, ↓x_jRef_R, ↓x_jStr_S, ↓x_jPls_R, ↓x_jPls_N, ↓x_jAny_R, ↓x_jAny_S, ↓jIntg_0, ↓jLngg_0, ↓jRefg_0, ↓jAnyg_0, ↓jStrg_0, ↓jPlsg_0, ↓jst_x0, ↓jst2_x0, ↓jIntg_1, ↓jLngg_1, ↓jRefg_1, ↓jAnyg_1, ↓jst_x1, ↓jst2_x1, ↓jIntg_2, ↓jLngg_2, ↓jRefg_2, ↓jAnyg_2, ↓jst_x2, ↓jst2_x2, ↓jIntg_3, ↓jLngg_3, ↓jRefg_3, ↓jAnyg_3, ↓jst_x3, ↓jst2_x3, ↓jIntg_4, ↓jLngg_4, ↓jRefg_4, ↓jAnyg_4, ↓jst_x4, ↓jst2_x4, ↓jIntg_5, ↓jLngg_5, ↓jRefg_5, ↓jAnyg_5, ↓jst_x5, ↓jst2_x5, ↓jIntg_6, ↓jLngg_6, ↓jRefg_6, ↓jAnyg_6, ↓jst_x6, ↓jst2_x6, ↓jIntg_7, ↓jLngg_7, ↓jRefg_7, ↓jAnyg_7, ↓jst_x7, ↓jst2_x7, ↓jIntg_8, ↓jLngg_8, ↓jRefg_8, ↓jAnyg_8, ↓jst_x8, ↓jst2_x8, ↓jIntg_9, ↓jLngg_9, ↓jRefg_9, ↓jAnyg_9, ↓jst_x9, ↓jst2_x9, ↓jIntg_10, ↓jLngg_10, ↓jRefg_10, ↓jAnyg_10, ↓jst_x10, ↓jst2_x10, ↓jIntg_11, ↓jLngg_11, ↓jRefg_11, ↓jAnyg_11, ↓jst_x11, ↓jst2_x11, ↓jIntg_12, ↓jLngg_12, ↓jRefg_12, ↓jAnyg_12, ↓jst_x12, ↓jst2_x12, ↓jIntg_13, ↓jLngg_13, ↓jRefg_13, ↓jAnyg_13, ↓jst_x13, ↓jst2_x13, ↓jIntg_14, ↓jLngg_14, ↓jRefg_14, ↓jAnyg_14, ↓jst_x14, ↓jst2_x14, ↓ex_some, jpv_some, jpv_none, jPls_pv, jisL_I, jisL_L, jisL_R, jisL_S, jisL_N, jisL_U, j_op0, j_op1, j_op2, j_c2, true_and, and_true, true_or, or_true, Int.toNat_natCast, nat1, ex_row, ex_row2, jwb1, jwb, jwb2, Classical.not_not, not_true_eq_false, false_implies, true_implies, ne_eq, not_false_eq_true, rV_inj, vI_inj, vL_inj, hi_tp, Nat.reduceEqDiff, Nat.reduceLeDiff, Nat.reduceAdd, Int.reduceLE, Int.reduceLT, Int.reduceEq, Int.reduceNeg, Int.reduceToNat, Int.reduceAdd, Int.reduceSub, Int.reduceMul, w_id, hsh_si, hp_si, hi_si_ne, oS63 hO, oS95 hO, oP63_65 hO]
        refine ⟨by omega, by omega, ?_⟩
        have hcall := ih (hsi τ 95 a (-1)) (upw c a (-1)) pf L ⟨hO, by
            have hF : Fr (fun r _ => r = 95) τ (hsi τ 95 a (-1)) := (Fr.refl _ _).si rfl
            exact RM_fr hR hF (fun r k a b => by omega) (fun k a b => by omega), hD⟩ (fun b hb => by
            rw [hi_si, upw_eq]
            by_cases hba : b = a
            · rw [if_pos ⟨rfl, hba⟩, if_pos hba, hba]
              exact ⟨rfl, fun z => (by rw [hbit] at z; cases z), fun _ => rfl⟩
            · rw [if_neg (fun z => hba z.2), if_neg hba]
              exact hp b (by omega)) (fun d hd2 g hg => by
            have h1 := hl d (fun b hb => by rw [hd2 b (by omega), upw_eq, if_neg (by omega)]) g hg
            rw [hlds, if_neg (fun z => by rw [hbit] at z; exact absurd z.1 (by decide))] at h1
            omega) (fun g hg => by rw [hi_si_ne (by decide)]; exact hr g hg) (fun g => Nat.le_trans (hpf g) (by omega)) (by rw [hi_si_ne (by decide)]; exact hL) hL2
        rw [show ((a + 1 : Nat) : Int) = ((N - m : Nat) : Int) by omega]
        refine hcall.cat2 (by omega) ?_
        rintro r υ ⟨rfl, f1, f2, f3, f4⟩
        have hiff : ∀ d, Cmp N y S (upw c a (-1)) m d ↔ Cmp N y S c (m + 1) d := fun d => by
          unfold Cmp
          refine and_congr_right (fun hv => ⟨fun h b hb => ?_, fun h b hb => ?_⟩)
          · rw [h b (by omega), upw_eq, if_neg (by omega)]
          · rw [upw_eq]
            by_cases hba : b = a
            · rw [if_pos hba, hba]; exact (hv a (by omega) (by omega)).2 hbit
            · rw [if_neg hba]; exact h b (by omega)
        have hda : ∀ d, Cmp N y S c (m + 1) d → d a = -1 := fun d hd2 => (hd2.1 a (by omega) (by omega)).2 hbit
        refine Or.inl ⟨rfl, ?_, fun b hb => ?_, f3, ?_⟩
        · rcases f1 with ⟨g1, g2, g3⟩ | ⟨d, g1, g2, g3, g4, g5⟩
          · exact Or.inl ⟨g1, fun b hb => by rw [g2 b hb, hi_si_ne (by decide)], fun d hd2 => g3 d ((hiff d).mpr hd2)⟩
          · refine Or.inr ⟨d, (hiff d).mp g1, g2, g3, g4, fun e he => ?_⟩
            have := g5 e ((hiff e).mpr he)
            rw [hcdn, hcdn, hda d ((hiff d).mp g1), hda e he]
            omega
        · rw [f2 b (by omega), hi_si, if_neg (fun z => by omega)]
        · exact ((Fr.refl _ _).si (Or.inl rfl)).trans f4
      | true =>
        simp only [↓reduceIte]
        refine ⟨fun z => absurd z (by decide), fun _ => ?_⟩
        refine tLoop_go (fun g : Nat => y - g) (fun g => [vR 63, vI S, vI a, vI M, vI g, z]) (fun g υ => g ≤ y ∧ Bst D N y S (m + 1) L (fun d => Cmp N y S c (m + 1) d ∧ d a < g) (hi τ 96) (hi υ 63 68) (hi υ 96) ∧ (∀ b, b < a → hi υ 95 b = hi τ 95 b) ∧ (∀ x, x < y → hi υ 97 x = (pf x : Nat)) ∧ Fr S50 τ υ) (fun g υ => Bst D N y S (m + 1) L (Cmp N y S c (m + 1)) (hi τ 96) (hi υ 63 68) (hi υ 96) ∧ (∀ b, b < a → hi υ 95 b = hi τ 95 b) ∧ (∀ x, x < y → hi υ 97 x = (pf x : Nat)) ∧ Fr S50 τ υ) 0 rfl ⟨Nat.zero_le _, Or.inl ⟨hL, fun b _ => rfl, fun d hd2 => ?_⟩, fun b _ => rfl, hr, Fr.refl _ _⟩ ?_ ?_
        · have h1 := (hd2.1.1 a (by omega) (by omega)).1 hbit
          have h2 := hd2.2
          omega
        · rintro g υ N' NN ⟨hg, hB, h5, h7, hF⟩ hN2 hE
          have hO2 := hF.ok hO
          have h302 : hi υ 63 30 = y := by rw [hF.i (by unfold S50; omega)]; exact h30
          have hh2 : hi υ 72 (4 * a) = hrL D a := by rw [hF.i (by unfold S50; omega)]; exact hh1
          simp (disch := omega) only [↓x_eInt, ↓x_eLng, ↓x_eNul, ↓x_eStr, ↓x_eLoc, ↓x_eLol, ↓x_eLor, ↓x_eBin, ↓x_eDiv, ↓x_eRem, ↓x_eNeg, ↓x_eLbin, ↓x_eLdiv, ↓x_eLrem, ↓x_eLshl, ↓x_eLshr, ↓x_eI2l, ↓x_eL2i, ↓x_eFldI, ↓x_eFldL, ↓x_eFldP, ↓x_eAldI, ↓x_eAldS, ↓x_eAldL, ↓x_eAldP, ↓x_eLen, ↓x_eLenS, ↓x_eCall, ↓x_eCalv, ↓x_eMin, ↓x_eMax, ↓x_eLmin, ↓x_eAbs, ↓x_eSlen, ↓x_eSat, ↓x_eIte, ↓x_eNewa, ↓x_eNewo, ↓x_esN, ↓x_esC, ↓x_cCmp, ↓x_cCmpz, ↓x_cLcmp, ↓x_cIsn, ↓x_cNot, ↓x_cAnd, ↓x_cOr, ↓x_tSkip, ↓x_tSup, ↓x_tSeq, ↓x_tSetI, ↓x_tSetL, ↓x_tSetR, ↓x_tInc, ↓x_tPutI, ↓x_tPutL, ↓x_tPutP, ↓x_tPutc, ↓x_tAstI, ↓x_tAstL, ↓x_tAstP, ↓x_tAstcI, ↓x_tAstcL, ↓x_tAcpI, ↓x_tAcpL, ↓x_tExp, ↓x_tExv, ↓x_tExw, ↓x_tIte, ↓x_tSw, ↓x_tRet, ↓x_tRetB, ↓x_tRetL, ↓x_tRetv, ↓x_tBrk, ↓x_tCont, ↓x_tThr, ↓x_wD, ↓x_wK, ↓x_jIx, ↓x_jOb, ↓x_jInt_I, ↓x_jLng_L, ↓x_jRef_R, ↓x_jStr_S, ↓x_jPls_R, ↓x_jPls_N, ↓x_jAny_R, ↓x_jAny_S, ↓jIntg_0, ↓jLngg_0, ↓jRefg_0, ↓jAnyg_0, ↓jStrg_0, ↓jPlsg_0, ↓jst_x0, ↓jst2_x0, ↓jIntg_1, ↓jLngg_1, ↓jRefg_1, ↓jAnyg_1, ↓jst_x1, ↓jst2_x1, ↓jIntg_2, ↓jLngg_2, ↓jRefg_2, ↓jAnyg_2, ↓jst_x2, ↓jst2_x2, ↓jIntg_3, ↓jLngg_3, ↓jRefg_3, ↓jAnyg_3, ↓jst_x3, ↓jst2_x3, ↓jIntg_4, ↓jLngg_4, ↓jRefg_4, ↓jAnyg_4, ↓jst_x4, ↓jst2_x4, ↓jIntg_5, ↓jLngg_5, ↓jRefg_5, ↓jAnyg_5, ↓jst_x5, ↓jst2_x5, ↓jIntg_6, ↓jLngg_6, ↓jRefg_6, ↓jAnyg_6, ↓jst_x6, ↓jst2_x6, ↓jIntg_7, ↓jLngg_7, ↓jRefg_7, ↓jAnyg_7, ↓jst_x7, ↓jst2_x7, ↓jIntg_8, ↓jLngg_8, ↓jRefg_8, ↓jAnyg_8, ↓jst_x8, ↓jst2_x8, ↓jIntg_9, ↓jLngg_9, ↓jRefg_9, ↓jAnyg_9, ↓jst_x9, ↓jst2_x9, ↓jIntg_10, ↓jLngg_10, ↓jRefg_10, ↓jAnyg_10, ↓jst_x10, ↓jst2_x10, ↓jIntg_11, ↓jLngg_11, ↓jRefg_11, ↓jAnyg_11, ↓jst_x11, ↓jst2_x11, ↓jIntg_12, ↓jLngg_12, ↓jRefg_12, ↓jAnyg_12, ↓jst_x12, ↓jst2_x12, ↓jIntg_13, ↓jLngg_13, ↓jRefg_13, ↓jAnyg_13, ↓jst_x13, ↓jst2_x13, ↓jIntg_14, ↓jLngg_14, ↓jRefg_14, ↓jAnyg_14, ↓jst_x14, ↓jst2_x14, ↓ex_some, jpv_some, jpv_none, jPls_pv, jisL_I, jisL_L, jisL_R, jisL_S, jisL_N, jisL_U, j_op0, j_op1, j_op2, j_c2, true_and, and_true, true_or, or_true, Int.toNat_natCast, nat1, ex_row, ex_row2, jwb1, jwb, jwb2, Classical.not_not, not_true_eq_false, false_implies, true_implies, ne_eq, not_false_eq_true, rV_inj, vI_inj, vL_inj, hi_tp, Nat.reduceEqDiff, Nat.reduceLeDiff, Nat.reduceAdd, Int.reduceLE, Int.reduceLT, Int.reduceEq, Int.reduceNeg, Int.reduceToNat, Int.reduceAdd, Int.reduceSub, Int.reduceMul, w_id, hsh_si, hp_si, hi_si_ne, oS63 hO2, h302]
          refine ⟨fun hlt => ?_, fun hlt => hE g _ ⟨?_, h5, h7, hF⟩⟩
          · have h7g := h7 g (by omega)
            simp (disch := omega) only [↓x_eInt, ↓x_eLng, ↓x_eNul, ↓x_eStr, ↓x_eLoc, ↓x_eLol, ↓x_eLor, ↓x_eBin, ↓x_eDiv, ↓x_eRem, ↓x_eNeg, ↓x_eLbin, ↓x_eLdiv, ↓x_eLrem, ↓x_eLshl, ↓x_eLshr, ↓x_eI2l, ↓x_eL2i, ↓x_eFldI, ↓x_eFldL, ↓x_eFldP, ↓x_eAldI, ↓x_eAldS, ↓x_eAldL, ↓x_eAldP, ↓x_eLen, ↓x_eLenS, ↓x_eCall, ↓x_eCalv, ↓x_eMin, ↓x_eMax, ↓x_eLmin, ↓x_eAbs, ↓x_eSlen, ↓x_eSat, ↓x_eIte, ↓x_eNewa, ↓x_eNewo, ↓x_esN, ↓x_esC, ↓x_cCmp, ↓x_cCmpz, ↓x_cLcmp, ↓x_cIsn, ↓x_cNot, ↓x_cAnd, ↓x_cOr, ↓x_tSkip, ↓x_tSup, ↓x_tSeq, ↓x_tSetI, ↓x_tSetL, ↓x_tSetR, ↓x_tInc, ↓x_tPutI, ↓x_tPutL, ↓x_tPutP, ↓x_tPutc, ↓x_tAstI, ↓x_tAstL, ↓x_tAstP, ↓x_tAstcI, ↓x_tAstcL, ↓x_tAcpI, ↓x_tAcpL, ↓x_tExp, ↓x_tExv, ↓x_tExw, ↓x_tIte, ↓x_tSw, ↓x_tRet, ↓x_tRetB, ↓x_tRetL, ↓x_tRetv, ↓x_tBrk, ↓x_tCont, ↓x_tThr, ↓x_wD, ↓x_wK, ↓x_jIx, ↓x_jOb, ↓x_jInt_I, ↓x_jLng_L, ↓x_jRef_R, ↓x_jStr_S, ↓x_jPls_R, ↓x_jPls_N, ↓x_jAny_R, ↓x_jAny_S, ↓jIntg_0, ↓jLngg_0, ↓jRefg_0, ↓jAnyg_0, ↓jStrg_0, ↓jPlsg_0, ↓jst_x0, ↓jst2_x0, ↓jIntg_1, ↓jLngg_1, ↓jRefg_1, ↓jAnyg_1, ↓jst_x1, ↓jst2_x1, ↓jIntg_2, ↓jLngg_2, ↓jRefg_2, ↓jAnyg_2, ↓jst_x2, ↓jst2_x2, ↓jIntg_3, ↓jLngg_3, ↓jRefg_3, ↓jAnyg_3, ↓jst_x3, ↓jst2_x3, ↓jIntg_4, ↓jLngg_4, ↓jRefg_4, ↓jAnyg_4, ↓jst_x4, ↓jst2_x4, ↓jIntg_5, ↓jLngg_5, ↓jRefg_5, ↓jAnyg_5, ↓jst_x5, ↓jst2_x5, ↓jIntg_6, ↓jLngg_6, ↓jRefg_6, ↓jAnyg_6, ↓jst_x6, ↓jst2_x6, ↓jIntg_7, ↓jLngg_7, ↓jRefg_7, ↓jAnyg_7, ↓jst_x7, ↓jst2_x7, ↓jIntg_8, ↓jLngg_8, ↓jRefg_8, ↓jAnyg_8, ↓jst_x8, ↓jst2_x8, ↓jIntg_9, ↓jLngg_9, ↓jRefg_9, ↓jAnyg_9, ↓jst_x9, ↓jst2_x9, ↓jIntg_10, ↓jLngg_10, ↓jRefg_10, ↓jAnyg_10, ↓jst_x10, ↓jst2_x10, ↓jIntg_11, ↓jLngg_11, ↓jRefg_11, ↓jAnyg_11, ↓jst_x11, ↓jst2_x11, ↓jIntg_12, ↓jLngg_12, ↓jRefg_12, ↓jAnyg_12, ↓jst_x12, ↓jst2_x12, ↓jIntg_13, ↓jLngg_13, ↓jRefg_13, ↓jAnyg_13, ↓jst_x13, ↓jst2_x13, ↓jIntg_14, ↓jLngg_14, ↓jRefg_14, ↓jAnyg_14, ↓jst_x14, ↓jst2_x14, ↓ex_some, jpv_some, jpv_none, jPls_pv, jisL_I, jisL_L, jisL_R, jisL_S, jisL_N, jisL_U, j_op0, j_op1, j_op2, j_c2, true_and, and_true, true_or, or_true, Int.toNat_natCast, nat1, ex_row, ex_row2, jwb1, jwb, jwb2, Classical.not_not, not_true_eq_false, false_implies, true_implies, ne_eq, not_false_eq_true, rV_inj, vI_inj, vL_inj, hi_tp, Nat.reduceEqDiff, Nat.reduceLeDiff, Nat.reduceAdd, Int.reduceLE, Int.reduceLT, Int.reduceEq, Int.reduceNeg, Int.reduceToNat, Int.reduceAdd, Int.reduceSub, Int.reduceMul, w_id, hsh_si, hp_si, hi_si_ne, oS63 hO2, oS95 hO2, oP63_65 hO2, oS97 hO2, oP63_67 hO2, oS72 hO2, oP63_16 hO2, h7g]
            rw [show (4 * (a : Int) + 0).toNat = 4 * a by omega, hh2]
            refine ⟨by omega, by omega, by omega, by omega, by omega, by omega, ?_⟩
            have hF2 : Fr S50 τ (hsi (hsi υ 95 a g) 97 g ((pf g : Int) + (hrL D a : Int))) := (hF.si (Or.inl rfl)).si (Or.inr (Or.inr (Or.inl rfl)))
            have hO3 := hF2.ok hO
            have hL' : ∃ L' : Nat, hi υ 63 68 = L' ∧ L' ≤ L := by
              rcases hB with ⟨g1, _⟩ | ⟨d, _, g2, g3, _⟩
              · exact ⟨L, g1, Nat.le_refl _⟩
              · exact ⟨_, g3, by omega⟩
            obtain ⟨L', hL1, hL3⟩ := hL'
            have hcall := ih (hsi (hsi υ 95 a g) 97 g ((pf g : Int) + (hrL D a : Int))) (upw c a g) (fun x => pf x + if x = g then hrL D a else 0) L' ⟨hO3, RM_fr hR hF2 (fun r k a b => by unfold S50; omega) (fun k a b => by unfold S50; omega), hD⟩ (fun b hb => by
                rw [hi_si_ne (by decide), hi_si, upw_eq]
                by_cases hba : b = a
                · rw [if_pos ⟨rfl, hba⟩, if_pos hba, hba]
                  exact ⟨rfl, fun _ => by omega, fun z => (by rw [hbit] at z; cases z)⟩
                · rw [if_neg (fun z => hba z.2), if_neg hba, h5 b (by omega)]
                  exact hp b (by omega)) (fun d hd2 x hx => by
                have h1 := hl d (fun b hb => by rw [hd2 b (by omega), upw_eq, if_neg (by omega)]) x hx
                have h2 := hd2 a (by omega)
                rw [upw_eq, if_pos rfl] at h2
                rw [hlds] at h1
                rw [h1]
                by_cases hxg : x = g
                · rw [if_pos ⟨hbit, by omega⟩]; simp only [if_pos hxg]; omega
                · rw [if_neg (fun z => hxg (by omega))]; simp only [if_neg hxg]; omega) (fun x hx => by
                rw [hi_si]
                by_cases hxg : x = g
                · simp only [if_pos hxg, hxg, and_self, ↓reduceIte]; rfl
                · rw [if_neg (fun z => hxg z.2), hi_si_ne (by decide), h7 x hx]; simp only [if_neg hxg, Nat.add_zero]) (fun x => by
                have := hpf x
                split <;> omega) (by rw [hi_si_ne (by decide), hi_si_ne (by decide)]; exact hL1) (by omega)
            rw [show ((a + 1 : Nat) : Int) = ((N - m : Nat) : Int) by omega]
            refine ⟨by omega, by omega, ?_⟩
            refine hcall.cat2 (by omega) ?_
            rintro r υ2 ⟨rfl, f1, f2, f3, f4⟩
            refine Or.inl ⟨rfl, ?_⟩
            have hF3 := hF2.trans f4
            have hO4 := hF3.ok hO
            have hh3 : hi υ2 72 (4 * a) = hrL D a := by rw [hF3.i (by unfold S50; omega)]; exact hh1
            have f3g := f3 g (by omega)
            simp only [↓reduceIte] at f3g
            simp (disch := omega) only [↓x_eInt, ↓x_eLng, ↓x_eNul, ↓x_eStr, ↓x_eLoc, ↓x_eLol, ↓x_eLor, ↓x_eBin, ↓x_eDiv, ↓x_eRem, ↓x_eNeg, ↓x_eLbin, ↓x_eLdiv, ↓x_eLrem, ↓x_eLshl, ↓x_eLshr, ↓x_eI2l, ↓x_eL2i, ↓x_eFldI, ↓x_eFldL, ↓x_eFldP, ↓x_eAldI, ↓x_eAldS, ↓x_eAldL, ↓x_eAldP, ↓x_eLen, ↓x_eLenS, ↓x_eCall, ↓x_eCalv, ↓x_eMin, ↓x_eMax, ↓x_eLmin, ↓x_eAbs, ↓x_eSlen, ↓x_eSat, ↓x_eIte, ↓x_eNewa, ↓x_eNewo, ↓x_esN, ↓x_esC, ↓x_cCmp, ↓x_cCmpz, ↓x_cLcmp, ↓x_cIsn, ↓x_cNot, ↓x_cAnd, ↓x_cOr, ↓x_tSkip, ↓x_tSup, ↓x_tSeq, ↓x_tSetI, ↓x_tSetL, ↓x_tSetR, ↓x_tInc, ↓x_tPutI, ↓x_tPutL, ↓x_tPutP, ↓x_tPutc, ↓x_tAstI, ↓x_tAstL, ↓x_tAstP, ↓x_tAstcI, ↓x_tAstcL, ↓x_tAcpI, ↓x_tAcpL, ↓x_tExp, ↓x_tExv, ↓x_tExw, ↓x_tIte, ↓x_tSw, ↓x_tRet, ↓x_tRetB, ↓x_tRetL, ↓x_tRetv, ↓x_tBrk, ↓x_tCont, ↓x_tThr, ↓x_wD, ↓x_wK, ↓x_jIx, ↓x_jOb, ↓x_jInt_I, ↓x_jLng_L, ↓x_jRef_R, ↓x_jStr_S, ↓x_jPls_R, ↓x_jPls_N, ↓x_jAny_R, ↓x_jAny_S, ↓jIntg_0, ↓jLngg_0, ↓jRefg_0, ↓jAnyg_0, ↓jStrg_0, ↓jPlsg_0, ↓jst_x0, ↓jst2_x0, ↓jIntg_1, ↓jLngg_1, ↓jRefg_1, ↓jAnyg_1, ↓jst_x1, ↓jst2_x1, ↓jIntg_2, ↓jLngg_2, ↓jRefg_2, ↓jAnyg_2, ↓jst_x2, ↓jst2_x2, ↓jIntg_3, ↓jLngg_3, ↓jRefg_3, ↓jAnyg_3, ↓jst_x3, ↓jst2_x3, ↓jIntg_4, ↓jLngg_4, ↓jRefg_4, ↓jAnyg_4, ↓jst_x4, ↓jst2_x4, ↓jIntg_5, ↓jLngg_5, ↓jRefg_5, ↓jAnyg_5, ↓jst_x5, ↓jst2_x5, ↓jIntg_6, ↓jLngg_6, ↓jRefg_6, ↓jAnyg_6, ↓jst_x6, ↓jst2_x6, ↓jIntg_7, ↓jLngg_7, ↓jRefg_7, ↓jAnyg_7, ↓jst_x7, ↓jst2_x7, ↓jIntg_8, ↓jLngg_8, ↓jRefg_8, ↓jAnyg_8, ↓jst_x8, ↓jst2_x8, ↓jIntg_9, ↓jLngg_9, ↓jRefg_9, ↓jAnyg_9, ↓jst_x9, ↓jst2_x9, ↓jIntg_10, ↓jLngg_10, ↓jRefg_10, ↓jAnyg_10, ↓jst_x10, ↓jst2_x10, ↓jIntg_11, ↓jLngg_11, ↓jRefg_11, ↓jAnyg_11, ↓jst_x11, ↓jst2_x11, ↓jIntg_12, ↓jLngg_12, ↓jRefg_12, ↓jAnyg_12, ↓jst_x12, ↓jst2_x12, ↓jIntg_13, ↓jLngg_13, ↓jRefg_13, ↓jAnyg_13, ↓jst_x13, ↓jst2_x13, ↓jIntg_14, ↓jLngg_14, ↓jRefg_14, ↓jAnyg_14, ↓jst_x14, ↓jst2_x14, ↓ex_some, jpv_some, jpv_none, jPls_pv, jisL_I, jisL_L, jisL_R, jisL_S, jisL_N, jisL_U, j_op0, j_op1, j_op2, j_c2, true_and, and_true, true_or, or_true, Int.toNat_natCast, nat1, ex_row, ex_row2, jwb1, jwb, jwb2, Classical.not_not, not_true_eq_false, false_implies, true_implies, ne_eq, not_false_eq_true, rV_inj, vI_inj, vL_inj, hi_tp, Nat.reduceEqDiff, Nat.reduceLeDiff, Nat.reduceAdd, Int.reduceLE, Int.reduceLT, Int.reduceEq, Int.reduceNeg, Int.reduceToNat, Int.reduceAdd, Int.reduceSub, Int.reduceMul, w_id, hsh_si, hp_si, hi_si_ne, oS63 hO4, oS97 hO4, oP63_67 hO4, oS72 hO4, oP63_16 hO4, f3g]
            rw [hh3]
            have hiff : ∀ d, Cmp N y S (upw c a g) m d ↔ Cmp N y S c (m + 1) d ∧ d a = g := fun d => by
              unfold Cmp
              constructor
              · rintro ⟨hv, h⟩
                refine ⟨⟨hv, fun b hb => ?_⟩, ?_⟩
                · rw [h b (by omega), upw_eq, if_neg (by omega)]
                · rw [h a (by omega), upw_eq, if_pos rfl]
              · rintro ⟨⟨hv, h⟩, h2⟩
                refine ⟨hv, fun b hb => ?_⟩
                rw [upw_eq]
                by_cases hba : b = a
                · rw [if_pos hba, hba]; exact h2
                · rw [if_neg hba]; exact h b (by omega)
            have hB2 : Bst D N y S (m + 1) L (fun d => Cmp N y S c (m + 1) d ∧ d a < ((g + 1 : Nat) : Int)) (hi τ 96) (hi υ2 63 68) (hi υ2 96) := by
              have e96 : hi (hsi (hsi υ 95 a g) 97 g ((pf g : Int) + (hrL D a : Int))) 96 = hi υ 96 := by rw [hi_si_ne (by decide), hi_si_ne (by decide)]
              rw [e96] at f1
              rcases f1 with ⟨g1, g2, g3⟩ | ⟨d, g1, g2, g3, g4, g5⟩
              · rcases hB with ⟨b1, b2, b3⟩ | ⟨d, b1, b2, b3, b4, b5⟩
                · have hLL : L' = L := by omega
                  refine Or.inl ⟨by omega, fun b hb => by rw [g2 b hb, b2 b hb], fun d hd2 => ?_⟩
                  by_cases hda : d a = g
                  · have := g3 d ((hiff d).mpr ⟨hd2.1, hda⟩); omega
                  · exact b3 d ⟨hd2.1, by have := hd2.2; omega⟩
                · refine Or.inr ⟨d, ⟨b1.1, by have := b1.2; omega⟩, b2, by omega, fun b hb => by rw [g2 b hb, b4 b hb], fun e he => ?_⟩
                  by_cases hea : e a = g
                  · have h1 := g3 e ((hiff e).mpr ⟨he.1, hea⟩)
                    by_cases hlt2 : tmC D N y S d < tmC D N y S e
                    · exact Or.inl hlt2
                    · refine Or.inr ⟨by omega, ?_⟩
                      rw [hcdn, hcdn, hea]
                      have h2 := cdn_lt (N := N) (G := y) (S := S) (by omega) (n := m) (by omega) (fun b q1 q2 => b1.1.1 b (by omega) q2)
                      have h3 := (b1.1.1 a (by omega) (by omega)).1 hbit
                      have h4 := b1.2
                      have h6 : ((d a + 1).toNat + 1) * 5 ^ m ≤ ((g : Int) + 1).toNat * 5 ^ m := Nat.mul_le_mul_right _ (by omega)
                      rw [Nat.add_mul, Nat.one_mul] at h6
                      omega
                  · exact b5 e ⟨he.1, by have := he.2; omega⟩
              · have gd := (hiff d).mp g1
                refine Or.inr ⟨d, ⟨gd.1, by omega⟩, by omega, g3, g4, fun e he => ?_⟩
                by_cases hea : e a = g
                · have := g5 e ((hiff e).mpr ⟨he.1, hea⟩)
                  rw [hcdn, hcdn, hea, gd.2]
                  omega
                · have hel : e a < g := by have := he.2; omega
                  refine Or.inl ?_
                  rcases hB with ⟨b1, b2, b3⟩ | ⟨d2, b1, b2, b3, b4, b5⟩
                  · have := b3 e ⟨he.1, hel⟩; omega
                  · have := b5 e ⟨he.1, hel⟩; omega
            refine ⟨by omega, by omega, by omega, by omega, by omega, by omega, hN2 (g + 1) _ (by omega) ⟨by omega, ?_, fun b hb => ?_, fun x hx => ?_, hF3.si (Or.inr (Or.inr (Or.inl rfl)))⟩⟩
            · rw [hi_si_ne (by decide), hi_si_ne (by decide)]; exact hB2
            · rw [hi_si_ne (by decide), f2 b (by omega), hi_si_ne (by decide), hi_si, if_neg (fun z => by omega)]
              exact h5 b hb
            · rw [hi_si]
              by_cases hxg : x = g
              · rw [if_pos ⟨rfl, hxg⟩, hxg]; omega
              · rw [if_neg (fun z => hxg z.2), f3 x hx]; simp only [if_neg hxg, Nat.add_zero]
          · rcases hB with ⟨g1, g2, g3⟩ | ⟨d, g1, g2, g3, g4, g5⟩
            · exact Or.inl ⟨g1, g2, fun d hd2 => g3 d ⟨hd2, by have := (hd2.1 a (by omega) (by omega)).1 hbit; omega⟩⟩
            · exact Or.inr ⟨d, g1.1, g2, g3, g4, fun e he => g5 e ⟨he, by have := (he.1 a (by omega) (by omega)).1 hbit; omega⟩⟩
        · rintro g υ h
          exact h
theorem m_250 {N G : Nat} (hN : D 0 0 = N) (hG : D 0 1 = G) (hS : S < 256) : ∀ n, n ≤ N → Q250 sc D N G S n := by
  intro n
  induction n with
  | zero => intro h; exact m_250s hN hG hS h (fun m z => by omega)
  | succ n ih => intro h; exact m_250s hN hG hS h (fun m z => by
      obtain rfl : m = n := by omega
      exact ih (by omega))
end MCREW
