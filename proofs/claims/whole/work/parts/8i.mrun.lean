/-! The reference goes a WORK's steps -/
section MRUN
variable {sc : jSc} {σ : jH} {D : jD} {cd : lC} {f : Int}
theorem wk_cases {k : Wk} (hk : okW D k) : k = wFin ∨ (∃ y a x r, k = wOne y a x r) ∨ ∃ n b r, k = wRep n b r := by
  refine wk_ind (D := D) (P := fun k => k = wFin ∨ (∃ y a x r, k = wOne y a x r) ∨ ∃ n b r, k = wRep n b r) ?_ ?_ ?_ k hk
  · exact Or.inl rfl
  · intro k a x r _
    exact Or.inr (Or.inl ⟨k, a, x, r, rfl⟩)
  · intro n b r _ _
    exact Or.inr (Or.inr ⟨n, b, r, rfl⟩)
theorem itr_add (g : jWs → jWs) : ∀ (j m : Nat) (s : jWs), itr g (j + m) s = itr g m (itr g j s)
  | 0, m, s => by rw [Nat.zero_add]; rfl
  | j + 1, m, s => by rw [show j + 1 + m = j + m + 1 by omega, itr, itr_add g j m]; rfl
/-- the reference's counts -/
def MS (σ : jH) (s : jWs) : Prop := hi σ 87 = s.1 ∧ hi σ 63 49 = s.2.1 ∧ hi σ 63 50 = s.2.2.1 ∧ hi σ 63 51 = s.2.2.2
def Sxx : Nat → Nat → Prop := fun r k => Sw r k ∨ (r = 63 ∧ 49 ≤ k ∧ k ≤ 51)
theorem MT_fx {τ : jH} (h : MT σ D cd) (hF : Fr Sxx σ τ) : MT τ D cd := ⟨hF.ok h.1, RM_fr h.2.1 hF (fun r k a b => by unfold Sxx Sw; omega) (fun k a b => by unfold Sxx Sw; omega), h.2.2.1, MC_fr h.2.2.2.1 hF (fun k => by unfold Sxx Sw; omega) (fun k => by unfold Sxx Sw; omega) (by unfold Sxx Sw; omega), h.2.2.2.2⟩
/-- all the loops' bodies along it are so -/
def Bd (Q : Wk → Prop) : Wk → Prop
  | .var 0 => True
  | .op (.op (.var _) (.op (.var _) (.var _))) r => Bd Q r
  | .op (.op (.op (.var _) (.var 0)) b) r => Q b ∧ Bd Q r
  | _ => True
/-- what m_210 says of steps -/
def Q210 (sc : jSc) (D : jD) (cd : lC) (f : Int) (k : Wk) : Prop := okW D k → ∀ (o : Nat) (σ : jH) (s : jWs), MT σ D cd → hi σ 63 55 = f → inW D s → MS σ s → MCd (hi σ 85) k o → o + mlen k ≤ 150 → Ct sc (dpt k + 8) 210 [vR 63, vI o, vI (o + mlen k : Nat)] σ (fun r τ => r = rN ∧ MS τ (runW D cd f k s) ∧ Fr Sxx σ τ)
theorem m_210s (hf01 : f = 0 ∨ f = 1) {k : Wk} (hB : Bd (Q210 sc D cd f) k) : Q210 sc D cd f k := by
  intro hk o σ s hM hf hs hS hC ho
  have hO := hM.1
  refine Ct.of (n := (dpt k + 7)) (L := [vR 63, vI o, vI (o + mlen k : Nat), vU, vU, vU]) cov_210 rfl (Nat.le_of_ble_eq_true rfl) ?_
  unfold T_210
  simp only [↓x_eInt, ↓x_eLng, ↓x_eNul, ↓x_eStr, ↓x_eLoc, ↓x_eLol, ↓x_eLor, ↓x_eBin, ↓x_eDiv, ↓x_eRem, ↓x_eNeg, ↓x_eLbin, ↓x_eLdiv, ↓x_eLrem, ↓x_eLshl, ↓x_eLshr, ↓x_eI2l, ↓x_eL2i, ↓x_eFldI, ↓x_eFldL, ↓x_eFldP, ↓x_eAldI, ↓x_eAldS, ↓x_eAldL, ↓x_eAldP, ↓x_eLen, ↓x_eLenS, ↓x_eCall, ↓x_eCalv, ↓x_eMin, ↓x_eMax, ↓x_eLmin, ↓x_eAbs, ↓x_eSlen, ↓x_eSat, ↓x_eIte, ↓x_eNewa, ↓x_eNewo, ↓x_esN, ↓x_esC, ↓x_cCmp, ↓x_cCmpz, ↓x_cLcmp, ↓x_cIsn, ↓x_cNot, ↓x_cAnd, ↓x_cOr, ↓x_tSkip, ↓x_tSup, ↓x_tSeq, ↓x_tSetI, ↓x_tSetL, ↓x_tSetR, ↓x_tInc, ↓x_tPutI, ↓x_tPutL, ↓x_tPutP, ↓x_tPutc, ↓x_tAstI, ↓x_tAstL, ↓x_tAstP, ↓x_tAstcI, ↓x_tAstcL, ↓x_tAcpI, ↓x_tAcpL, ↓x_tExp, ↓x_tExv, ↓x_tExw, ↓x_tIte, ↓x_tSw, ↓x_tRet, ↓x_tRetB, ↓x_tRetL, ↓x_tRetv, ↓x_tBrk, ↓x_tCont, ↓x_tThr, ↓x_wD, ↓x_wK, ↓x_jIx, ↓x_jOb, ↓x_jInt_I, ↓x_jLng_L, ↓x_jRef_R, ↓x_jStr_S, ↓x_jPls_R, ↓x_jPls_N, ↓x_jAny_R, ↓x_jAny_S, ↓jIntg_0, ↓jLngg_0, ↓jRefg_0, ↓jAnyg_0, ↓jStrg_0, ↓jPlsg_0, ↓jst_x0, ↓jst2_x0, ↓jIntg_1, ↓jLngg_1, ↓jRefg_1, ↓jAnyg_1, ↓jst_x1, ↓jst2_x1, ↓jIntg_2, ↓jLngg_2, ↓jRefg_2, ↓jAnyg_2, ↓jst_x2, ↓jst2_x2, ↓jIntg_3, ↓jLngg_3, ↓jRefg_3, ↓jAnyg_3, ↓jst_x3, ↓jst2_x3, ↓jIntg_4, ↓jLngg_4, ↓jRefg_4, ↓jAnyg_4, ↓jst_x4, ↓jst2_x4, ↓jIntg_5, ↓jLngg_5, ↓jRefg_5, ↓jAnyg_5, ↓jst_x5, ↓jst2_x5, ↓jIntg_6, ↓jLngg_6, ↓jRefg_6, ↓jAnyg_6, ↓jst_x6, ↓jst2_x6, ↓jIntg_7, ↓jLngg_7, ↓jRefg_7, ↓jAnyg_7, ↓jst_x7, ↓jst2_x7, ↓jIntg_8, ↓jLngg_8, ↓jRefg_8, ↓jAnyg_8, ↓jst_x8, ↓jst2_x8, ↓jIntg_9, ↓jLngg_9, ↓jRefg_9, ↓jAnyg_9, ↓jst_x9, ↓jst2_x9, ↓jIntg_10, ↓jLngg_10, ↓jRefg_10, ↓jAnyg_10, ↓jst_x10, ↓jst2_x10, ↓jIntg_11, ↓jLngg_11, ↓jRefg_11, ↓jAnyg_11, ↓jst_x11, ↓jst2_x11, ↓jIntg_12, ↓jLngg_12, ↓jRefg_12, ↓jAnyg_12, ↓jst_x12, ↓jst2_x12, ↓jIntg_13, ↓jLngg_13, ↓jRefg_13, ↓jAnyg_13, ↓jst_x13, ↓jst2_x13, ↓jIntg_14, ↓jLngg_14, ↓jRefg_14, ↓jAnyg_14, ↓jst_x14, ↓jst2_x14, ↓ex_some, jpv_some, jpv_none, jPls_pv, jisL_I, jisL_L, jisL_R, jisL_S, jisL_N, jisL_U, j_op0, j_op1, j_op2, j_c2, true_and, and_true, true_or, or_true, Int.toNat_natCast, nat1, ex_row, ex_row2, jwb1, jwb, jwb2, Classical.not_not, not_true_eq_false, false_implies, true_implies, ne_eq, not_false_eq_true, rV_inj, vI_inj, vL_inj, hi_tp, Nat.reduceEqDiff, Nat.reduceLeDiff, Nat.reduceAdd, Int.reduceLE, Int.reduceLT, Int.reduceEq, Int.reduceNeg, Int.reduceToNat, Int.reduceAdd, Int.reduceSub, Int.reduceMul, oS63 hO, oS85 hO, oP63_45 hO, jf_12_49, jf_12_50, jf_12_51]
  refine tLoop_go (fun x : Wk × Nat × jWs × jV × jV => mlen x.1) (fun x => [vR 63, vI o, vI (o + mlen k : Nat), vI x.2.1, x.2.2.2.1, x.2.2.2.2])
    (fun x τ => okW D x.1 ∧ Bd (Q210 sc D cd f) x.1 ∧ MCd (hi σ 85) x.1 x.2.1 ∧ x.2.1 + mlen x.1 = o + mlen k ∧ runW D cd f x.1 x.2.2.1 = runW D cd f k s ∧ inW D x.2.2.1 ∧ MS τ x.2.2.1 ∧ Fr Sxx σ τ ∧ dpt x.1 ≤ dpt k)
    (fun x τ => MS τ (runW D cd f k s) ∧ Fr Sxx σ τ) (k, o, s, vU, vU) rfl ⟨hk, hB, hC, rfl, rfl, hs, hS, Fr.refl _ _, Nat.le_refl _⟩ ?_ ?_
  · rintro ⟨x, p, u, y4, y5⟩ τ N' N ⟨hx, hBx, hCx, hpx, hrx, hux, hSx, hF, hdx⟩ hN hE
    simp only at hx hBx hCx hpx hrx hux hSx hdx
    have hO2 := hF.ok hO
    have hM2 := MT_fx hM hF
    have hf2 : hi τ 63 55 = f := by rw [hF.i (by unfold Sxx Sw; omega)]; exact hf
    have e85 : hi τ 85 = hi σ 85 := hF.ir (fun k => by unfold Sxx Sw; omega)
    obtain ⟨s1, s2, s3, s4⟩ := id hSx
    obtain ⟨u1, u2, u3⟩ := id hux
    simp (disch := omega) only [↓x_eInt, ↓x_eLng, ↓x_eNul, ↓x_eStr, ↓x_eLoc, ↓x_eLol, ↓x_eLor, ↓x_eBin, ↓x_eDiv, ↓x_eRem, ↓x_eNeg, ↓x_eLbin, ↓x_eLdiv, ↓x_eLrem, ↓x_eLshl, ↓x_eLshr, ↓x_eI2l, ↓x_eL2i, ↓x_eFldI, ↓x_eFldL, ↓x_eFldP, ↓x_eAldI, ↓x_eAldS, ↓x_eAldL, ↓x_eAldP, ↓x_eLen, ↓x_eLenS, ↓x_eCall, ↓x_eCalv, ↓x_eMin, ↓x_eMax, ↓x_eLmin, ↓x_eAbs, ↓x_eSlen, ↓x_eSat, ↓x_eIte, ↓x_eNewa, ↓x_eNewo, ↓x_esN, ↓x_esC, ↓x_cCmp, ↓x_cCmpz, ↓x_cLcmp, ↓x_cIsn, ↓x_cNot, ↓x_cAnd, ↓x_cOr, ↓x_tSkip, ↓x_tSup, ↓x_tSeq, ↓x_tSetI, ↓x_tSetL, ↓x_tSetR, ↓x_tInc, ↓x_tPutI, ↓x_tPutL, ↓x_tPutP, ↓x_tPutc, ↓x_tAstI, ↓x_tAstL, ↓x_tAstP, ↓x_tAstcI, ↓x_tAstcL, ↓x_tAcpI, ↓x_tAcpL, ↓x_tExp, ↓x_tExv, ↓x_tExw, ↓x_tIte, ↓x_tSw, ↓x_tRet, ↓x_tRetB, ↓x_tRetL, ↓x_tRetv, ↓x_tBrk, ↓x_tCont, ↓x_tThr, ↓x_wD, ↓x_wK, ↓x_jIx, ↓x_jOb, ↓x_jInt_I, ↓x_jLng_L, ↓x_jRef_R, ↓x_jStr_S, ↓x_jPls_R, ↓x_jPls_N, ↓x_jAny_R, ↓x_jAny_S, ↓jIntg_0, ↓jLngg_0, ↓jRefg_0, ↓jAnyg_0, ↓jStrg_0, ↓jPlsg_0, ↓jst_x0, ↓jst2_x0, ↓jIntg_1, ↓jLngg_1, ↓jRefg_1, ↓jAnyg_1, ↓jst_x1, ↓jst2_x1, ↓jIntg_2, ↓jLngg_2, ↓jRefg_2, ↓jAnyg_2, ↓jst_x2, ↓jst2_x2, ↓jIntg_3, ↓jLngg_3, ↓jRefg_3, ↓jAnyg_3, ↓jst_x3, ↓jst2_x3, ↓jIntg_4, ↓jLngg_4, ↓jRefg_4, ↓jAnyg_4, ↓jst_x4, ↓jst2_x4, ↓jIntg_5, ↓jLngg_5, ↓jRefg_5, ↓jAnyg_5, ↓jst_x5, ↓jst2_x5, ↓jIntg_6, ↓jLngg_6, ↓jRefg_6, ↓jAnyg_6, ↓jst_x6, ↓jst2_x6, ↓jIntg_7, ↓jLngg_7, ↓jRefg_7, ↓jAnyg_7, ↓jst_x7, ↓jst2_x7, ↓jIntg_8, ↓jLngg_8, ↓jRefg_8, ↓jAnyg_8, ↓jst_x8, ↓jst2_x8, ↓jIntg_9, ↓jLngg_9, ↓jRefg_9, ↓jAnyg_9, ↓jst_x9, ↓jst2_x9, ↓jIntg_10, ↓jLngg_10, ↓jRefg_10, ↓jAnyg_10, ↓jst_x10, ↓jst2_x10, ↓jIntg_11, ↓jLngg_11, ↓jRefg_11, ↓jAnyg_11, ↓jst_x11, ↓jst2_x11, ↓jIntg_12, ↓jLngg_12, ↓jRefg_12, ↓jAnyg_12, ↓jst_x12, ↓jst2_x12, ↓jIntg_13, ↓jLngg_13, ↓jRefg_13, ↓jAnyg_13, ↓jst_x13, ↓jst2_x13, ↓jIntg_14, ↓jLngg_14, ↓jRefg_14, ↓jAnyg_14, ↓jst_x14, ↓jst2_x14, ↓ex_some, jpv_some, jpv_none, jPls_pv, jisL_I, jisL_L, jisL_R, jisL_S, jisL_N, jisL_U, j_op0, j_op1, j_op2, j_c2, true_and, and_true, true_or, or_true, Int.toNat_natCast, nat1, ex_row, ex_row2, jwb1, jwb, jwb2, Classical.not_not, not_true_eq_false, false_implies, true_implies, ne_eq, not_false_eq_true, rV_inj, vI_inj, vL_inj, hi_tp, Nat.reduceEqDiff, Nat.reduceLeDiff, Nat.reduceAdd, Int.reduceLE, Int.reduceLT, Int.reduceEq, Int.reduceNeg, Int.reduceToNat, Int.reduceAdd, Int.reduceSub, Int.reduceMul, w_id, hsh_si, hp_si, hi_si_ne, oS63 hO2, oS85 hO2, oP63_45 hO2, jf_12_49, jf_12_50, jf_12_51, s2, e85]
    rcases wk_cases hx with rfl | ⟨y, a, c, r, rfl⟩ | ⟨n, b, r, rfl⟩
    · have e0 : mlen wFin = 0 := rfl
      rw [e0] at hpx
      rw [run_fin] at hrx
      exact ⟨fun h => by omega, fun h => hE (wFin, p, u, y4, y5) _ ⟨by rw [← hrx]; exact hSx, hF⟩⟩
    · have e0 : mlen (wOne y a c r) = 3 + mlen r := rfl
      rw [e0] at hpx
      obtain ⟨x1, x2, x3, x4⟩ := id hx
      obtain ⟨c1, c2, c3, c4⟩ := id hCx
      refine ⟨fun h1 => ⟨fun h2 => ?_, fun h2 => hE (wOne y a c r, p, u, y4, y5) _ ⟨by rw [← hrx, run_stop hx (by omega)]; exact hSx, hF⟩⟩, fun h1 => by omega⟩
      rw [show ((p : Int) + 2).toNat = p + 2 by omega, c1, w_id (by omega)]
      refine ⟨by omega, by omega, fun h => by omega, fun _ => ⟨by omega, by omega, by omega, by omega, by omega, by omega, ?_⟩⟩
      have hF1 : Fr Sxx σ (hsi τ 63 49 ((u.2.1 + 1 : Nat) : Int)) := hF.si (Or.inr ⟨rfl, by omega, by omega⟩)
      have hM1 := MT_fx hM hF1
      have h87 : hi (hsi τ 63 49 ((u.2.1 + 1 : Nat) : Int)) 87 = u.1 := by rw [hi_si_ne (by decide)]; exact s1
      refine (m_220 (k := y) (a := a) (x := c) hM1 (by rw [h87]; exact u1) (by rw [hi_si_nk (by decide)]; exact hf2) hf01 x1 (by omega) (fun z => ⟨c3 z, x3 z⟩)).cal (by omega) ?_
      rintro r' τ2 ⟨rfl, g1, -, g3⟩
      refine ⟨_, rfl, rfl, ?_⟩
      simp only [x_jInt_I]
      rw [h87] at g1 ⊢
      have hF3 : Fr Sxx σ τ2 := hF1.trans (g3.mono (fun r k h => Or.inl h))
      have hO3 := hF3.ok hO
      have t49 : hi τ2 63 49 = ((u.2.1 + 1 : Nat) : Int) := by rw [g3.i (by unfold Sw; omega), hi_si_eq]
      have t50 : hi τ2 63 50 = u.2.2.1 := by rw [g3.i (by unfold Sw; omega), hi_si_nk (by decide)]; exact s3
      have t51 : hi τ2 63 51 = u.2.2.2 := by rw [g3.i (by unfold Sw; omega), hi_si_nk (by decide)]; exact s4
      have hrun : runW D cd f r (stpW D cd f y a c u) = runW D cd f k s := by rw [← hrx, run_one, if_neg (by omega)]
      have hin := stp_in (cd := cd) (f := f) hM.2.2.1 hux (by omega) x2 x3
      have hpp : (p : Int) + 3 = ((p + 3 : Nat) : Int) := rfl
      by_cases hok : okG D cd u.1 f y a c = true
      · rw [if_pos hok, w_id (by omega)]
        refine ⟨fun _ => ⟨oS63 hO3, oS63 hO3, ?_⟩, fun z => by omega⟩
        refine hN (r, p + 3, stpW D cd f y a c u, y4, y5) _ (by show mlen r < mlen (wOne y a c r); omega) ⟨x4, hBx, c4, by show p + 3 + mlen r = _; omega, hrun, hin, ⟨?_, ?_, ?_, ?_⟩, hF3.si (Or.inr ⟨rfl, by omega, by omega⟩), hdx⟩
        · rw [hi_si_ne (by decide)]; exact g1
        · rw [hi_si_nk (by decide)]; exact t49
        · rw [hi_si_eq, t50]; simp only [stpW]; rw [if_pos hok]; rfl
        · rw [hi_si_nk (by decide), t51]; simp only [stpW]; rw [if_pos hok]
      · rw [if_neg hok, w_id (by omega)]
        refine ⟨fun z => (z rfl).elim, fun _ => ⟨oS63 hO3, oS63 hO3, ?_⟩⟩
        refine hN (r, p + 3, stpW D cd f y a c u, y4, y5) _ (by show mlen r < mlen (wOne y a c r); omega) ⟨x4, hBx, c4, by show p + 3 + mlen r = _; omega, hrun, hin, ⟨?_, ?_, ?_, ?_⟩, hF3.si (Or.inr ⟨rfl, by omega, by omega⟩), hdx⟩
        · rw [hi_si_ne (by decide)]; exact g1
        · rw [hi_si_nk (by decide)]; exact t49
        · rw [hi_si_nk (by decide), t50]; simp only [stpW]; rw [if_neg hok]
        · rw [hi_si_eq, t51]; simp only [stpW]; rw [if_neg hok]; rfl
    · have e0 : mlen (wRep n b r) = 3 + mlen b + mlen r := rfl
      have e1 : dpt (wRep n b r) = max (dpt b + 1) (dpt r) := rfl
      rw [e0] at hpx
      rw [e1] at hdx
      obtain ⟨x1, x2, x3⟩ := id hx
      obtain ⟨c1, c2, c3, c4, c5⟩ := id hCx
      obtain ⟨b1, b2⟩ := id hBx
      refine ⟨fun h1 => ⟨fun h2 => ?_, fun h2 => hE (wRep n b r, p, u, y4, y5) _ ⟨by rw [← hrx, run_stop hx (by omega)]; exact hSx, hF⟩⟩, fun h1 => by omega⟩
      rw [show ((p : Int) + 2).toNat = p + 2 by omega, c1, c3, w_id (by omega)]
      refine ⟨by omega, by omega, fun _ => ⟨by omega, by omega, ?_⟩, fun h => (h rfl).elim⟩
      have hF1 : Fr Sxx σ (hsi τ 63 49 ((u.2.1 + 1 : Nat) : Int)) := hF.si (Or.inr ⟨rfl, by omega, by omega⟩)
      have hin1 : inW D (u.1, u.2.1 + 1, u.2.2.1, u.2.2.2) := ⟨u1, by show u.2.1 + 1 ≤ 200; omega, by show u.2.2.1 + u.2.2.2 ≤ u.2.1 + 1; omega⟩
      have hrun : runW D cd f r (itr (runW D cd f b) n (u.1, u.2.1 + 1, u.2.2.1, u.2.2.2)) = runW D cd f k s := by rw [← hrx, run_rep, if_neg (by omega)]
      have hitr : ∀ j, inW D (itr (runW D cd f b) j (u.1, u.2.1 + 1, u.2.2.1, u.2.2.2)) := fun j => itr_in (fun s hs => run_in hM.2.2.1 x2 s hs) j _ hin1
      refine tLoop_go (fun j : Nat => n - j) (fun j => [vR 63, vI o, vI (o + mlen k : Nat), vI p, vI (p + 3 + mlen b : Nat), vI j]) (fun j υ => j ≤ n ∧ MS υ (itr (runW D cd f b) j (u.1, u.2.1 + 1, u.2.2.1, u.2.2.2)) ∧ Fr Sxx σ υ) (fun j υ => MS υ (itr (runW D cd f b) n (u.1, u.2.1 + 1, u.2.2.1, u.2.2.2)) ∧ Fr Sxx σ υ) 0 rfl ⟨Nat.zero_le _, ⟨by rw [hi_si_ne (by decide)]; exact s1, hi_si_eq _ _ _ _, by rw [hi_si_nk (by decide)]; exact s3, by rw [hi_si_nk (by decide)]; exact s4⟩, hF1⟩ ?_ ?_
      · rintro j υ M' M ⟨hj, hSj, hFj⟩ hN2 hE2
        have hO4 := hFj.ok hO
        have e85 : hi υ 85 = hi σ 85 := hFj.ir (fun k => by unfold Sxx Sw; omega)
        have hj49 := hSj.2.1
        have hjr := (hitr j).2.1
        simp (disch := omega) only [↓x_eInt, ↓x_eLng, ↓x_eNul, ↓x_eStr, ↓x_eLoc, ↓x_eLol, ↓x_eLor, ↓x_eBin, ↓x_eDiv, ↓x_eRem, ↓x_eNeg, ↓x_eLbin, ↓x_eLdiv, ↓x_eLrem, ↓x_eLshl, ↓x_eLshr, ↓x_eI2l, ↓x_eL2i, ↓x_eFldI, ↓x_eFldL, ↓x_eFldP, ↓x_eAldI, ↓x_eAldS, ↓x_eAldL, ↓x_eAldP, ↓x_eLen, ↓x_eLenS, ↓x_eCall, ↓x_eCalv, ↓x_eMin, ↓x_eMax, ↓x_eLmin, ↓x_eAbs, ↓x_eSlen, ↓x_eSat, ↓x_eIte, ↓x_eNewa, ↓x_eNewo, ↓x_esN, ↓x_esC, ↓x_cCmp, ↓x_cCmpz, ↓x_cLcmp, ↓x_cIsn, ↓x_cNot, ↓x_cAnd, ↓x_cOr, ↓x_tSkip, ↓x_tSup, ↓x_tSeq, ↓x_tSetI, ↓x_tSetL, ↓x_tSetR, ↓x_tInc, ↓x_tPutI, ↓x_tPutL, ↓x_tPutP, ↓x_tPutc, ↓x_tAstI, ↓x_tAstL, ↓x_tAstP, ↓x_tAstcI, ↓x_tAstcL, ↓x_tAcpI, ↓x_tAcpL, ↓x_tExp, ↓x_tExv, ↓x_tExw, ↓x_tIte, ↓x_tSw, ↓x_tRet, ↓x_tRetB, ↓x_tRetL, ↓x_tRetv, ↓x_tBrk, ↓x_tCont, ↓x_tThr, ↓x_wD, ↓x_wK, ↓x_jIx, ↓x_jOb, ↓x_jInt_I, ↓x_jLng_L, ↓x_jRef_R, ↓x_jStr_S, ↓x_jPls_R, ↓x_jPls_N, ↓x_jAny_R, ↓x_jAny_S, ↓jIntg_0, ↓jLngg_0, ↓jRefg_0, ↓jAnyg_0, ↓jStrg_0, ↓jPlsg_0, ↓jst_x0, ↓jst2_x0, ↓jIntg_1, ↓jLngg_1, ↓jRefg_1, ↓jAnyg_1, ↓jst_x1, ↓jst2_x1, ↓jIntg_2, ↓jLngg_2, ↓jRefg_2, ↓jAnyg_2, ↓jst_x2, ↓jst2_x2, ↓jIntg_3, ↓jLngg_3, ↓jRefg_3, ↓jAnyg_3, ↓jst_x3, ↓jst2_x3, ↓jIntg_4, ↓jLngg_4, ↓jRefg_4, ↓jAnyg_4, ↓jst_x4, ↓jst2_x4, ↓jIntg_5, ↓jLngg_5, ↓jRefg_5, ↓jAnyg_5, ↓jst_x5, ↓jst2_x5, ↓jIntg_6, ↓jLngg_6, ↓jRefg_6, ↓jAnyg_6, ↓jst_x6, ↓jst2_x6, ↓jIntg_7, ↓jLngg_7, ↓jRefg_7, ↓jAnyg_7, ↓jst_x7, ↓jst2_x7, ↓jIntg_8, ↓jLngg_8, ↓jRefg_8, ↓jAnyg_8, ↓jst_x8, ↓jst2_x8, ↓jIntg_9, ↓jLngg_9, ↓jRefg_9, ↓jAnyg_9, ↓jst_x9, ↓jst2_x9, ↓jIntg_10, ↓jLngg_10, ↓jRefg_10, ↓jAnyg_10, ↓jst_x10, ↓jst2_x10, ↓jIntg_11, ↓jLngg_11, ↓jRefg_11, ↓jAnyg_11, ↓jst_x11, ↓jst2_x11, ↓jIntg_12, ↓jLngg_12, ↓jRefg_12, ↓jAnyg_12, ↓jst_x12, ↓jst2_x12, ↓jIntg_13, ↓jLngg_13, ↓jRefg_13, ↓jAnyg_13, ↓jst_x13, ↓jst2_x13, ↓jIntg_14, ↓jLngg_14, ↓jRefg_14, ↓jAnyg_14, ↓jst_x14, ↓jst2_x14, ↓ex_some, jpv_some, jpv_none, jPls_pv, jisL_I, jisL_L, jisL_R, jisL_S, jisL_N, jisL_U, j_op0, j_op1, j_op2, j_c2, true_and, and_true, true_or, or_true, Int.toNat_natCast, nat1, ex_row, ex_row2, jwb1, jwb, jwb2, Classical.not_not, not_true_eq_false, false_implies, true_implies, ne_eq, not_false_eq_true, rV_inj, vI_inj, vL_inj, hi_tp, Nat.reduceEqDiff, Nat.reduceLeDiff, Nat.reduceAdd, Int.reduceLE, Int.reduceLT, Int.reduceEq, Int.reduceNeg, Int.reduceToNat, Int.reduceAdd, Int.reduceSub, Int.reduceMul, w_id, hsh_si, hp_si, hi_si_ne, oS63 hO4, oS85 hO4, oP63_45 hO4, e85, hj49, c2]
        refine ⟨by omega, by omega, fun g1 => ⟨fun g2 => ?_, fun g2 => hE2 j _ ⟨?_, hFj⟩⟩, fun g1 => hE2 j _ ⟨?_, hFj⟩⟩
        · refine (b1 x2 (p + 3) υ _ (MT_fx hM hFj) (by rw [hFj.i (by unfold Sxx Sw; omega)]; exact hf) (hitr j) hSj (by rw [e85]; exact c4) (by omega)).cat2 (by omega) ?_
          rintro r' υ2 ⟨rfl, q1, q2⟩
          exact Or.inl ⟨rfl, hN2 (j + 1) _ (by omega) ⟨by omega, by rw [itr_s]; exact q1, hFj.trans q2⟩⟩
        · have := itr_add (runW D cd f b) j (n - j) (u.1, u.2.1 + 1, u.2.2.1, u.2.2.2)
          rw [show j + (n - j) = n by omega, itr_stop x2 (n - j) (by omega)] at this
          rw [this]
          exact hSj
        · rw [show n = j by omega]
          exact hSj
      · rintro j υ ⟨hSj, hFj⟩
        simp (disch := omega) only [↓x_eInt, ↓x_eLng, ↓x_eNul, ↓x_eStr, ↓x_eLoc, ↓x_eLol, ↓x_eLor, ↓x_eBin, ↓x_eDiv, ↓x_eRem, ↓x_eNeg, ↓x_eLbin, ↓x_eLdiv, ↓x_eLrem, ↓x_eLshl, ↓x_eLshr, ↓x_eI2l, ↓x_eL2i, ↓x_eFldI, ↓x_eFldL, ↓x_eFldP, ↓x_eAldI, ↓x_eAldS, ↓x_eAldL, ↓x_eAldP, ↓x_eLen, ↓x_eLenS, ↓x_eCall, ↓x_eCalv, ↓x_eMin, ↓x_eMax, ↓x_eLmin, ↓x_eAbs, ↓x_eSlen, ↓x_eSat, ↓x_eIte, ↓x_eNewa, ↓x_eNewo, ↓x_esN, ↓x_esC, ↓x_cCmp, ↓x_cCmpz, ↓x_cLcmp, ↓x_cIsn, ↓x_cNot, ↓x_cAnd, ↓x_cOr, ↓x_tSkip, ↓x_tSup, ↓x_tSeq, ↓x_tSetI, ↓x_tSetL, ↓x_tSetR, ↓x_tInc, ↓x_tPutI, ↓x_tPutL, ↓x_tPutP, ↓x_tPutc, ↓x_tAstI, ↓x_tAstL, ↓x_tAstP, ↓x_tAstcI, ↓x_tAstcL, ↓x_tAcpI, ↓x_tAcpL, ↓x_tExp, ↓x_tExv, ↓x_tExw, ↓x_tIte, ↓x_tSw, ↓x_tRet, ↓x_tRetB, ↓x_tRetL, ↓x_tRetv, ↓x_tBrk, ↓x_tCont, ↓x_tThr, ↓x_wD, ↓x_wK, ↓x_jIx, ↓x_jOb, ↓x_jInt_I, ↓x_jLng_L, ↓x_jRef_R, ↓x_jStr_S, ↓x_jPls_R, ↓x_jPls_N, ↓x_jAny_R, ↓x_jAny_S, ↓jIntg_0, ↓jLngg_0, ↓jRefg_0, ↓jAnyg_0, ↓jStrg_0, ↓jPlsg_0, ↓jst_x0, ↓jst2_x0, ↓jIntg_1, ↓jLngg_1, ↓jRefg_1, ↓jAnyg_1, ↓jst_x1, ↓jst2_x1, ↓jIntg_2, ↓jLngg_2, ↓jRefg_2, ↓jAnyg_2, ↓jst_x2, ↓jst2_x2, ↓jIntg_3, ↓jLngg_3, ↓jRefg_3, ↓jAnyg_3, ↓jst_x3, ↓jst2_x3, ↓jIntg_4, ↓jLngg_4, ↓jRefg_4, ↓jAnyg_4, ↓jst_x4, ↓jst2_x4, ↓jIntg_5, ↓jLngg_5, ↓jRefg_5, ↓jAnyg_5, ↓jst_x5, ↓jst2_x5, ↓jIntg_6, ↓jLngg_6, ↓jRefg_6, ↓jAnyg_6, ↓jst_x6, ↓jst2_x6, ↓jIntg_7, ↓jLngg_7, ↓jRefg_7, ↓jAnyg_7, ↓jst_x7, ↓jst2_x7, ↓jIntg_8, ↓jLngg_8, ↓jRefg_8, ↓jAnyg_8, ↓jst_x8, ↓jst2_x8, ↓jIntg_9, ↓jLngg_9, ↓jRefg_9, ↓jAnyg_9, ↓jst_x9, ↓jst2_x9, ↓jIntg_10, ↓jLngg_10, ↓jRefg_10, ↓jAnyg_10, ↓jst_x10, ↓jst2_x10, ↓jIntg_11, ↓jLngg_11, ↓jRefg_11, ↓jAnyg_11, ↓jst_x11, ↓jst2_x11, ↓jIntg_12, ↓jLngg_12, ↓jRefg_12, ↓jAnyg_12, ↓jst_x12, ↓jst2_x12, ↓jIntg_13, ↓jLngg_13, ↓jRefg_13, ↓jAnyg_13, ↓jst_x13, ↓jst2_x13, ↓jIntg_14, ↓jLngg_14, ↓jRefg_14, ↓jAnyg_14, ↓jst_x14, ↓jst2_x14, ↓ex_some, jpv_some, jpv_none, jPls_pv, jisL_I, jisL_L, jisL_R, jisL_S, jisL_N, jisL_U, j_op0, j_op1, j_op2, j_c2, true_and, and_true, true_or, or_true, Int.toNat_natCast, nat1, ex_row, ex_row2, jwb1, jwb, jwb2, Classical.not_not, not_true_eq_false, false_implies, true_implies, ne_eq, not_false_eq_true, rV_inj, vI_inj, vL_inj, hi_tp, Nat.reduceEqDiff, Nat.reduceLeDiff, Nat.reduceAdd, Int.reduceLE, Int.reduceLT, Int.reduceEq, Int.reduceNeg, Int.reduceToNat, Int.reduceAdd, Int.reduceSub, Int.reduceMul, w_id, hsh_si, hp_si, hi_si_ne]
        exact hN (r, p + 3 + mlen b, itr (runW D cd f b) n (u.1, u.2.1 + 1, u.2.2.1, u.2.2.2), _, _) _ (by show mlen r < mlen (wRep n b r); omega) ⟨x3, b2, c5, by show p + 3 + mlen b + mlen r = _; omega, hrun, hitr n, hSj, hFj, by show dpt r ≤ dpt k; omega⟩
  · rintro ⟨x, p, u, y4, y5⟩ τ ⟨h1, h2⟩
    exact ⟨h1, h2⟩
theorem m_210 (hf01 : f = 0 ∨ f = 1) {k : Wk} (hk : okW D k) : Q210 sc D cd f k := by
  refine m_210s hf01 ?_
  refine wk_ind (D := D) (P := fun k => Bd (Q210 sc D cd f) k) ?_ ?_ ?_ k hk
  · exact trivial
  · intro y a x r h
    exact h
  · intro n b r h1 h2
    exact ⟨m_210s hf01 h1, h2⟩
end MRUN
