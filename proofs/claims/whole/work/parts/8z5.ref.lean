/-! The reference is made (written by wip/gen8z5.py) -/
section REF
variable {sc : jSc} {σ τ : jH} {g : Nat → Nat → Int}
def P_cl : List (Nat × Nat × Nat) := [(0, 11, 58), (58, 3, 62), (58, 2, 61), (58, 1, 60), (58, 0, 59), (0, 10, 46), (46, 8, 55), (55, 1, 57), (55, 0, 56), (46, 7, 54), (46, 6, 53), (46, 5, 52), (46, 4, 51), (46, 3, 50), (46, 2, 49), (46, 1, 48), (46, 0, 47), (0, 9, 34), (34, 8, 43), (43, 1, 45), (43, 0, 44), (34, 7, 42), (34, 6, 41), (34, 5, 40), (34, 4, 39), (34, 3, 38), (34, 2, 37), (34, 1, 36), (34, 0, 35), (0, 8, 33), (0, 7, 27), (27, 0, 28), (28, 3, 32), (28, 2, 31), (28, 1, 30), (28, 0, 29), (0, 6, 24), (24, 1, 26), (24, 0, 25), (0, 5, 22), (22, 0, 23), (0, 4, 18), (18, 2, 21), (18, 1, 20), (18, 0, 19), (0, 3, 12), (12, 4, 17), (12, 3, 16), (12, 2, 15), (12, 1, 14), (12, 0, 13), (0, 2, 9), (9, 1, 11), (9, 0, 10), (0, 1, 3), (3, 4, 8), (3, 3, 7), (3, 2, 6), (3, 1, 5), (3, 0, 4), (0, 0, 1), (1, 0, 2)]
def I_cl : List (Nat × Nat × Nat × Int) := [(58, 6, 7, 8), (61, 0, 12, (-1)), (60, 0, 8, (-1)), (59, 0, 8, (-1)), (46, 13, 14, 5), (46, 12, 13, 8), (34, 13, 14, 5), (34, 12, 13, 8), (31, 0, 12, (-1)), (30, 0, 8, (-1)), (29, 0, 8, (-1)), (24, 2, 3, (-1)), (18, 4, 5, (-1)), (10, 0, 12, (-1)), (1, 7, 8, (-1))]
def P_all : List (Nat × Nat × Nat) := [(63, 75, 101), (63, 71, 100), (63, 70, 99), (63, 69, 98), (63, 67, 97), (63, 66, 96), (63, 65, 95), (63, 64, 94), (63, 63, 93), (63, 61, 92), (63, 60, 91), (63, 58, 90), (63, 57, 89), (63, 54, 88), (63, 53, 87), (63, 52, 86), (63, 45, 85), (63, 44, 84), (63, 43, 83), (63, 40, 82), (63, 39, 81), (63, 38, 80), (63, 37, 79), (63, 36, 78), (63, 21, 77), (63, 20, 76), (63, 19, 75), (63, 18, 74), (63, 17, 73), (63, 16, 72), (63, 15, 71), (63, 14, 70), (63, 13, 69), (63, 12, 68), (63, 11, 67), (63, 10, 66), (63, 9, 65), (63, 1, 64), (0, 11, 58), (58, 3, 62), (58, 2, 61), (58, 1, 60), (58, 0, 59), (0, 10, 46), (46, 8, 55), (55, 1, 57), (55, 0, 56), (46, 7, 54), (46, 6, 53), (46, 5, 52), (46, 4, 51), (46, 3, 50), (46, 2, 49), (46, 1, 48), (46, 0, 47), (0, 9, 34), (34, 8, 43), (43, 1, 45), (43, 0, 44), (34, 7, 42), (34, 6, 41), (34, 5, 40), (34, 4, 39), (34, 3, 38), (34, 2, 37), (34, 1, 36), (34, 0, 35), (0, 8, 33), (0, 7, 27), (27, 0, 28), (28, 3, 32), (28, 2, 31), (28, 1, 30), (28, 0, 29), (0, 6, 24), (24, 1, 26), (24, 0, 25), (0, 5, 22), (22, 0, 23), (0, 4, 18), (18, 2, 21), (18, 1, 20), (18, 0, 19), (0, 3, 12), (12, 4, 17), (12, 3, 16), (12, 2, 15), (12, 1, 14), (12, 0, 13), (0, 2, 9), (9, 1, 11), (9, 0, 10), (0, 1, 3), (3, 4, 8), (3, 3, 7), (3, 2, 6), (3, 1, 5), (3, 0, 4), (0, 0, 1), (1, 0, 2)]
theorem mq_id : mq σ (hi σ 63 4) (hi σ 63 5) (hi σ 63 6) (hi σ 63 7) = σ := by
  refine Prod.ext rfl (Prod.ext (funext fun x => funext fun y => ?_) rfl)
  show hi (mq σ (hi σ 63 4) (hi σ 63 5) (hi σ 63 6) (hi σ 63 7)) x y = hi σ x y
  unfold mq
  simp only [hi_si]
  repeat' split
  all_goals (first | rfl | (rename_i hc; rw [hc.1, hc.2]))
theorem P_all_ok : ∀ x ∈ okPt, lkP P_all x.1 x.2.1 = some x.2.2 := by decide
/-- the reference has been made -/
def MdR (g : Nat → Nat → Int) (τ : jH) : Prop := hsh τ = okSh.take 102 ∧ (∀ r k, hp τ r k = lkP P_all r k) ∧ (∀ r k, r ≤ 62 → hi τ r k = if 3 ≤ r ∧ r ≤ 5 then g r k else lkI I_cl r k) ∧ (∀ r k, r ≤ 62 → ¬ (3 ≤ r ∧ r ≤ 5) → hl τ r k = 0) ∧
  RM τ D0 ∧ (∀ j, j < 171 → hi τ 86 j = wz (D0 0 4) j) ∧ (∀ j, j < 12 → hi τ 90 j = -1) ∧ hi τ 63 42 = 0 ∧ hi τ 63 59 = 0 ∧ hi τ 63 47 = 0 ∧ hi τ 63 76 = 0 ∧ hi τ 63 48 = 0 ∧ hi τ 63 2 = 0 ∧ hi τ 63 8 = -1 ∧ (∀ k, hi τ 64 k = 0) ∧ (∀ k, hi τ 65 k = 0)
theorem ref_end {N B K : jN} {R : jR → jH → Prop} {d : Nat} (hd : 2 ≤ d) (h : Rp g (okSh.take 102) P_all ((63, 8, 9, -1) :: I_cl) σ) (hy : ∀ τ, MdR g τ → R rN τ) : tSeq (tSeq (tExw 12 185 (esC (eLor 0) esN)) (tExw 12 187 (esC (eLor 0) esN))) tRetv sc (Cd sc d) N B K R [vR 63] σ := by
  have hO : Ok_km σ := h.okp (fun i q hi h1 => take_ok i q (by omega) h1) (fun x hx _ => P_all_ok x hx)
  rw [sq_as]
  refine tSeq_g (fun L τ => L = [vR 63] ∧ RDm τ D0 ∧ Fr Sm σ τ) (fun N1 hN1 => ?_) ?_
  · have h3 := kmS63 hO
    simp only [↓x_eInt, ↓x_eLng, ↓x_eNul, ↓x_eStr, ↓x_eLoc, ↓x_eLol, ↓x_eLor, ↓x_eBin, ↓x_eDiv, ↓x_eRem, ↓x_eNeg, ↓x_eLbin, ↓x_eLdiv, ↓x_eLrem, ↓x_eLshl, ↓x_eLshr, ↓x_eI2l, ↓x_eL2i, ↓x_eFldI, ↓x_eFldL, ↓x_eFldP, ↓x_eAldI, ↓x_eAldS, ↓x_eAldL, ↓x_eAldP, ↓x_eLen, ↓x_eLenS, ↓x_eCall, ↓x_eCalv, ↓x_eMin, ↓x_eMax, ↓x_eLmin, ↓x_eAbs, ↓x_eSlen, ↓x_eSat, ↓x_eIte, ↓x_eNewa, ↓x_eNewo, ↓x_esN, ↓x_esC, ↓x_cCmp, ↓x_cCmpz, ↓x_cLcmp, ↓x_cIsn, ↓x_cNot, ↓x_cAnd, ↓x_cOr, ↓x_tSkip, ↓x_tSup, ↓x_tSeq, ↓x_tSetI, ↓x_tSetL, ↓x_tSetR, ↓x_tInc, ↓x_tPutI, ↓x_tPutL, ↓x_tPutP, ↓x_tPutc, ↓x_tAstI, ↓x_tAstL, ↓x_tAstP, ↓x_tAstcI, ↓x_tAstcL, ↓x_tAcpI, ↓x_tAcpL, ↓x_tExp, ↓x_tExv, ↓x_tExw, ↓x_tIte, ↓x_tSw, ↓x_tRet, ↓x_tRetB, ↓x_tRetL, ↓x_tRetv, ↓x_tBrk, ↓x_tCont, ↓x_tThr, ↓x_wD, ↓x_wK, ↓x_jIx, ↓x_jOb, ↓x_jInt_I, ↓x_jLng_L, ↓x_jRef_R, ↓x_jStr_S, ↓x_jPls_R, ↓x_jPls_N, ↓x_jAny_R, ↓x_jAny_S, ↓jIntg_0, ↓jLngg_0, ↓jRefg_0, ↓jAnyg_0, ↓jStrg_0, ↓jPlsg_0, ↓jst_x0, ↓jst2_x0, ↓jIntg_1, ↓jLngg_1, ↓jRefg_1, ↓jAnyg_1, ↓jst_x1, ↓jst2_x1, ↓jIntg_2, ↓jLngg_2, ↓jRefg_2, ↓jAnyg_2, ↓jst_x2, ↓jst2_x2, ↓jIntg_3, ↓jLngg_3, ↓jRefg_3, ↓jAnyg_3, ↓jst_x3, ↓jst2_x3, ↓jIntg_4, ↓jLngg_4, ↓jRefg_4, ↓jAnyg_4, ↓jst_x4, ↓jst2_x4, ↓jIntg_5, ↓jLngg_5, ↓jRefg_5, ↓jAnyg_5, ↓jst_x5, ↓jst2_x5, ↓jIntg_6, ↓jLngg_6, ↓jRefg_6, ↓jAnyg_6, ↓jst_x6, ↓jst2_x6, ↓jIntg_7, ↓jLngg_7, ↓jRefg_7, ↓jAnyg_7, ↓jst_x7, ↓jst2_x7, ↓jIntg_8, ↓jLngg_8, ↓jRefg_8, ↓jAnyg_8, ↓jst_x8, ↓jst2_x8, ↓jIntg_9, ↓jLngg_9, ↓jRefg_9, ↓jAnyg_9, ↓jst_x9, ↓jst2_x9, ↓jIntg_10, ↓jLngg_10, ↓jRefg_10, ↓jAnyg_10, ↓jst_x10, ↓jst2_x10, ↓jIntg_11, ↓jLngg_11, ↓jRefg_11, ↓jAnyg_11, ↓jst_x11, ↓jst2_x11, ↓jIntg_12, ↓jLngg_12, ↓jRefg_12, ↓jAnyg_12, ↓jst_x12, ↓jst2_x12, ↓jIntg_13, ↓jLngg_13, ↓jRefg_13, ↓jAnyg_13, ↓jst_x13, ↓jst2_x13, ↓jIntg_14, ↓jLngg_14, ↓jRefg_14, ↓jAnyg_14, ↓jst_x14, ↓jst2_x14, ↓ex_some, jpv_some, jpv_none, jPls_pv, jisL_I, jisL_L, jisL_R, jisL_S, jisL_N, jisL_U, j_op0, j_op1, j_op2, j_c2, true_and, and_true, true_or, or_true, Int.toNat_natCast, nat1, ex_row, ex_row2, jwb1, jwb, jwb2, Classical.not_not, not_true_eq_false, false_implies, true_implies, ne_eq, not_false_eq_true, rV_inj, vI_inj, vL_inj, hi_tp, Nat.reduceEqDiff, Nat.reduceLeDiff, Nat.reduceAdd, Int.reduceLE, Int.reduceLT, Int.reduceEq, Int.reduceNeg, Int.reduceToNat, Int.reduceAdd, Int.reduceSub, Int.reduceMul, h3]
    have h5 := km_m_185 (sc := sc) (σ := σ) (A := hi σ 63 4) (q := hi σ 63 5) (k := hi σ 63 6) (o := hi σ 63 7) hO
    rw [mq_id] at h5
    refine h5.cat2 (by omega) (fun x τ hh => Or.inl ⟨hh.1, ?_⟩)
    obtain ⟨-, σ', rfl, h1, hF⟩ := hh
    have e : ∀ k, 4 ≤ k → k ≤ 7 → hi σ' 63 k = hi σ 63 k := fun k a b => hF.i (by unfold Sm; omega)
    rw [← e 4 (by omega) (by omega), ← e 5 (by omega) (by omega), ← e 6 (by omega) (by omega), ← e 7 (by omega) (by omega), mq_id]
    exact hN1 _ _ ⟨rfl, h1, hF⟩
  rintro L τ ⟨rfl, hR, hF⟩
  have hO2 := hF.okp hO
  have h3 := kmS63 hO2
  simp only [↓x_eInt, ↓x_eLng, ↓x_eNul, ↓x_eStr, ↓x_eLoc, ↓x_eLol, ↓x_eLor, ↓x_eBin, ↓x_eDiv, ↓x_eRem, ↓x_eNeg, ↓x_eLbin, ↓x_eLdiv, ↓x_eLrem, ↓x_eLshl, ↓x_eLshr, ↓x_eI2l, ↓x_eL2i, ↓x_eFldI, ↓x_eFldL, ↓x_eFldP, ↓x_eAldI, ↓x_eAldS, ↓x_eAldL, ↓x_eAldP, ↓x_eLen, ↓x_eLenS, ↓x_eCall, ↓x_eCalv, ↓x_eMin, ↓x_eMax, ↓x_eLmin, ↓x_eAbs, ↓x_eSlen, ↓x_eSat, ↓x_eIte, ↓x_eNewa, ↓x_eNewo, ↓x_esN, ↓x_esC, ↓x_cCmp, ↓x_cCmpz, ↓x_cLcmp, ↓x_cIsn, ↓x_cNot, ↓x_cAnd, ↓x_cOr, ↓x_tSkip, ↓x_tSup, ↓x_tSeq, ↓x_tSetI, ↓x_tSetL, ↓x_tSetR, ↓x_tInc, ↓x_tPutI, ↓x_tPutL, ↓x_tPutP, ↓x_tPutc, ↓x_tAstI, ↓x_tAstL, ↓x_tAstP, ↓x_tAstcI, ↓x_tAstcL, ↓x_tAcpI, ↓x_tAcpL, ↓x_tExp, ↓x_tExv, ↓x_tExw, ↓x_tIte, ↓x_tSw, ↓x_tRet, ↓x_tRetB, ↓x_tRetL, ↓x_tRetv, ↓x_tBrk, ↓x_tCont, ↓x_tThr, ↓x_wD, ↓x_wK, ↓x_jIx, ↓x_jOb, ↓x_jInt_I, ↓x_jLng_L, ↓x_jRef_R, ↓x_jStr_S, ↓x_jPls_R, ↓x_jPls_N, ↓x_jAny_R, ↓x_jAny_S, ↓jIntg_0, ↓jLngg_0, ↓jRefg_0, ↓jAnyg_0, ↓jStrg_0, ↓jPlsg_0, ↓jst_x0, ↓jst2_x0, ↓jIntg_1, ↓jLngg_1, ↓jRefg_1, ↓jAnyg_1, ↓jst_x1, ↓jst2_x1, ↓jIntg_2, ↓jLngg_2, ↓jRefg_2, ↓jAnyg_2, ↓jst_x2, ↓jst2_x2, ↓jIntg_3, ↓jLngg_3, ↓jRefg_3, ↓jAnyg_3, ↓jst_x3, ↓jst2_x3, ↓jIntg_4, ↓jLngg_4, ↓jRefg_4, ↓jAnyg_4, ↓jst_x4, ↓jst2_x4, ↓jIntg_5, ↓jLngg_5, ↓jRefg_5, ↓jAnyg_5, ↓jst_x5, ↓jst2_x5, ↓jIntg_6, ↓jLngg_6, ↓jRefg_6, ↓jAnyg_6, ↓jst_x6, ↓jst2_x6, ↓jIntg_7, ↓jLngg_7, ↓jRefg_7, ↓jAnyg_7, ↓jst_x7, ↓jst2_x7, ↓jIntg_8, ↓jLngg_8, ↓jRefg_8, ↓jAnyg_8, ↓jst_x8, ↓jst2_x8, ↓jIntg_9, ↓jLngg_9, ↓jRefg_9, ↓jAnyg_9, ↓jst_x9, ↓jst2_x9, ↓jIntg_10, ↓jLngg_10, ↓jRefg_10, ↓jAnyg_10, ↓jst_x10, ↓jst2_x10, ↓jIntg_11, ↓jLngg_11, ↓jRefg_11, ↓jAnyg_11, ↓jst_x11, ↓jst2_x11, ↓jIntg_12, ↓jLngg_12, ↓jRefg_12, ↓jAnyg_12, ↓jst_x12, ↓jst2_x12, ↓jIntg_13, ↓jLngg_13, ↓jRefg_13, ↓jAnyg_13, ↓jst_x13, ↓jst2_x13, ↓jIntg_14, ↓jLngg_14, ↓jRefg_14, ↓jAnyg_14, ↓jst_x14, ↓jst2_x14, ↓ex_some, jpv_some, jpv_none, jPls_pv, jisL_I, jisL_L, jisL_R, jisL_S, jisL_N, jisL_U, j_op0, j_op1, j_op2, j_c2, true_and, and_true, true_or, or_true, Int.toNat_natCast, nat1, ex_row, ex_row2, jwb1, jwb, jwb2, Classical.not_not, not_true_eq_false, false_implies, true_implies, ne_eq, not_false_eq_true, rV_inj, vI_inj, vL_inj, hi_tp, Nat.reduceEqDiff, Nat.reduceLeDiff, Nat.reduceAdd, Int.reduceLE, Int.reduceLT, Int.reduceEq, Int.reduceNeg, Int.reduceToNat, Int.reduceAdd, Int.reduceSub, Int.reduceMul, h3]
  refine (km_m_187 (c := 0) hO2 hR WD0).cat2 (by omega) (fun x υ hh => Or.inl ⟨hh.1, hy _ ?_⟩)
  obtain ⟨-, r1, r2, r3, r4, r5, r6, r7, r8, hF2⟩ := hh
  have hi0 : ∀ r k, ¬ Sm r k → ¬ Ss r k → hi υ r k = if 3 ≤ r ∧ r ≤ 5 then g r k else lkI ((63, 8, 9, -1) :: I_cl) r k := fun r k a b => by
    rw [hF2.i b, hF.i a]; exact h.2.2.1 r k
  refine ⟨?_, fun r k => ?_, fun r k hr => ?_, fun r k hr h5 => ?_, r1, r2, r3, r4, r5, r6, r7, r8, ?_, ?_, fun k => ?_, fun k => ?_⟩
  · rw [hF2.1, hF.1]; exact h.1
  · rw [hF2.hp, hF.hp]; exact h.2.1 r k
  · rw [hi0 r k (by unfold Sm; omega) (by unfold Ss; omega)]
    show (if 3 ≤ r ∧ r ≤ 5 then g r k else if r = 63 ∧ 8 ≤ k ∧ k < 9 then -1 else lkI I_cl r k) = _
    rw [if_neg (show ¬ (r = 63 ∧ 8 ≤ k ∧ k < 9) by omega)]
  · rw [hF2.lr (fun k => by unfold Ss; omega), hF.lr (fun k => by unfold Sm; omega)]
    exact h.2.2.2 r k h5
  · rw [hi0 63 2 (by unfold Sm; omega) (by unfold Ss; omega)]; rfl
  · rw [hi0 63 8 (by unfold Sm; omega) (by unfold Ss; omega)]; rfl
  · rw [hi0 64 k (by unfold Sm; omega) (by unfold Ss; omega), if_neg (by omega)]
    exact lkI_no (by decide) k
  · rw [hi0 65 k (by unfold Sm; omega) (by unfold Ss; omega), if_neg (by omega)]
    exact lkI_no (by decide) k
set_option maxRecDepth 20000 in
theorem k_169 (h : Rp g (okSh.take 64) P_cl I_cl σ) : Ct sc 3 169 [vR 63] σ (fun r τ => r = rN ∧ MdR g τ) := by
  refine Ct.of (n := 2) (L := [vR 63]) cov_169 rfl (Nat.le_of_ble_eq_true rfl) ?_
  unfold T_169
  refine b_su (r := 63) rfl ?_
  refine b_na (r := 63) rfl h rfl ⟨rfl, Or.inr (by decide)⟩ (by decide) (fun σ h => ?_)
  refine b_fi (r := 63) rfl h rfl ((jf_12_8 _).mpr trivial) (by decide) (fun σ h => ?_)
  refine b_na (r := 63) rfl h rfl ⟨rfl, Or.inr (by decide)⟩ (by decide) (fun σ h => ?_)
  refine b_na (r := 63) rfl h rfl ⟨rfl, Or.inr (by decide)⟩ (by decide) (fun σ h => ?_)
  refine b_na (r := 63) rfl h rfl ⟨rfl, Or.inr (by decide)⟩ (by decide) (fun σ h => ?_)
  refine b_na (r := 63) rfl h rfl ⟨rfl, Or.inr (by decide)⟩ (by decide) (fun σ h => ?_)
  refine b_na (r := 63) rfl h rfl ⟨rfl, Or.inr (by decide)⟩ (by decide) (fun σ h => ?_)
  refine b_na (r := 63) rfl h rfl ⟨rfl, Or.inr (by decide)⟩ (by decide) (fun σ h => ?_)
  refine b_na (r := 63) rfl h rfl ⟨rfl, Or.inr (by decide)⟩ (by decide) (fun σ h => ?_)
  refine b_na (r := 63) rfl h rfl ⟨rfl, Or.inr (by decide)⟩ (by decide) (fun σ h => ?_)
  refine b_na (r := 63) rfl h rfl ⟨rfl, Or.inr (by decide)⟩ (by decide) (fun σ h => ?_)
  refine b_na (r := 63) rfl h rfl ⟨rfl, Or.inr (by decide)⟩ (by decide) (fun σ h => ?_)
  refine b_na (r := 63) rfl h rfl ⟨rfl, Or.inr (by decide)⟩ (by decide) (fun σ h => ?_)
  refine b_na (r := 63) rfl h rfl ⟨rfl, Or.inr (by decide)⟩ (by decide) (fun σ h => ?_)
  refine b_na (r := 63) rfl h rfl ⟨rfl, Or.inr (by decide)⟩ (by decide) (fun σ h => ?_)
  refine b_na (r := 63) rfl h rfl ⟨rfl, Or.inr (by decide)⟩ (by decide) (fun σ h => ?_)
  refine b_na (r := 63) rfl h rfl ⟨rfl, Or.inr (by decide)⟩ (by decide) (fun σ h => ?_)
  refine b_na (r := 63) rfl h rfl ⟨rfl, Or.inr (by decide)⟩ (by decide) (fun σ h => ?_)
  refine b_na (r := 63) rfl h rfl ⟨rfl, Or.inr (by decide)⟩ (by decide) (fun σ h => ?_)
  refine b_na (r := 63) rfl h rfl ⟨rfl, Or.inr (by decide)⟩ (by decide) (fun σ h => ?_)
  refine b_na (r := 63) rfl h rfl ⟨rfl, Or.inr (by decide)⟩ (by decide) (fun σ h => ?_)
  refine b_na (r := 63) rfl h rfl ⟨rfl, Or.inr (by decide)⟩ (by decide) (fun σ h => ?_)
  refine b_na (r := 63) rfl h rfl ⟨rfl, Or.inr (by decide)⟩ (by decide) (fun σ h => ?_)
  refine b_na (r := 63) rfl h rfl ⟨rfl, Or.inr (by decide)⟩ (by decide) (fun σ h => ?_)
  refine b_na (r := 63) rfl h rfl ⟨rfl, Or.inr (by decide)⟩ (by decide) (fun σ h => ?_)
  refine b_na (r := 63) rfl h rfl ⟨rfl, Or.inr (by decide)⟩ (by decide) (fun σ h => ?_)
  refine b_na (r := 63) rfl h rfl ⟨rfl, Or.inr (by decide)⟩ (by decide) (fun σ h => ?_)
  refine b_na (r := 63) rfl h rfl ⟨rfl, Or.inr (by decide)⟩ (by decide) (fun σ h => ?_)
  refine b_na (r := 63) rfl h rfl ⟨rfl, Or.inr (by decide)⟩ (by decide) (fun σ h => ?_)
  refine b_na (r := 63) rfl h rfl ⟨rfl, Or.inr (by decide)⟩ (by decide) (fun σ h => ?_)
  refine b_na (r := 63) rfl h rfl ⟨rfl, Or.inr (by decide)⟩ (by decide) (fun σ h => ?_)
  refine b_na (r := 63) rfl h rfl ⟨rfl, Or.inr (by decide)⟩ (by decide) (fun σ h => ?_)
  refine b_na (r := 63) rfl h rfl ⟨rfl, Or.inr (by decide)⟩ (by decide) (fun σ h => ?_)
  refine b_na (r := 63) rfl h rfl ⟨rfl, Or.inr (by decide)⟩ (by decide) (fun σ h => ?_)
  refine b_na (r := 63) rfl h rfl ⟨rfl, Or.inr (by decide)⟩ (by decide) (fun σ h => ?_)
  refine b_na (r := 63) rfl h rfl ⟨rfl, Or.inr (by decide)⟩ (by decide) (fun σ h => ?_)
  refine b_na (r := 63) rfl h rfl ⟨rfl, Or.inr (by decide)⟩ (by decide) (fun σ h => ?_)
  refine b_na (r := 63) rfl h rfl ⟨rfl, Or.inr (by decide)⟩ (by decide) (fun σ h => ?_)
  refine b_na (r := 63) rfl h rfl ⟨rfl, Or.inr (by decide)⟩ (by decide) (fun σ h => ?_)
  exact ref_end (by decide) (h.cast rfl rfl rfl) (fun τ hh => ⟨rfl, hh⟩)
end REF
