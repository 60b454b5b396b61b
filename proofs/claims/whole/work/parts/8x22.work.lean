/-! What changes the class: work -/
section WORK3
variable {sc : jSc} {σ τ υ μ : jH} {D : jD} {b b' : Nat → Int} {N N' t : Nat} {F F' e0 e1 R V V' L L' : Int} {cd cd' : lC} {u u' w : Nat → Int} {T : List (Nat → Int)} {im : List (List (Nat → Int))}
/-- the towns ahead of q are as they were -/
theorem Chn.cg2 {q : Nat} (es : ∀ (i : Nat) (x : Nat × Nat), (hsh σ)[i]? = some x → (hsh τ)[i]? = some x) (e : ∀ r, (58 ≤ r ∧ r ≤ 62) ∨ (103 ≤ r ∧ r < q) → hi τ r = hi σ r ∧ hl τ r = hl σ r ∧ hp τ r = hp σ r) : ∀ {T : List (Nat → Int)} {o : Option Nat}, (∀ p, o = some p → p + 4 < q) → Chn σ D T o → Chn τ D T o
  | [], _, _, h => h
  | w :: st, _, hp0, h => by
    obtain ⟨p, h1, ⟨h2, h3, h4, h5, h6⟩, h7, h8⟩ := h
    have hpq := hp0 p h1
    have e1 : hp τ p = hp σ p := (e p (by omega)).2.2
    have hOW : OW τ p := by
      obtain ⟨c0, c1, c2, c3, c4, c5, c6⟩ := h2.1
      refine ⟨c0, es _ _ c1, es _ _ c2, es _ _ c3, es _ _ c4, es _ _ c5, ?_⟩
      rw [e1]; exact c6
    refine ⟨p, h1, ⟨⟨hOW, ?_⟩, ?_, h4, h5, by rw [(e p (by omega)).1]; exact h6⟩, ?_, ?_⟩
    · rw [(e p (by omega)).1, (e (p + 1) (by omega)).1, (e (p + 2) (by omega)).1, (e (p + 3) (by omega)).1]
      exact h2.2
    · unfold NT
      rw [(e (p + 4) (by omega)).2.1]
      exact h3
    · rw [e1]; exact h7
    · rw [e1]; exact Chn.cg2 es e (fun p' hp' => by have := h7 p' hp'; omega) h8
theorem Chn.lt {q : Nat} : ∀ {T : List (Nat → Int)} {o : Option Nat}, (hsh σ).length = q → Chn σ D T o → ∀ p, o = some p → p + 4 < q
  | [], _, _, h, p, hp0 => by rw [h] at hp0; cases hp0
  | w :: st, _, hq, h, p, hp0 => by
    obtain ⟨p', h1, ⟨h2, -⟩, -⟩ := h
    rw [hp0] at h1
    obtain rfl := Option.some.inj h1
    have := sh_lt h2.1.2.2.2.2.2.1
    omega
theorem c_115 {n : Int} (h : CI σ μ b N F e0 e1 R D cd V u L (w :: T) im) (hn : -2147483648 ≤ n ∧ n ≤ 2147483647) : Ct sc 8 115 [vR 0, vI n] σ (Qs σ (0 ≤ n ∧ n ≤ 150 ∧ n ≤ N) 0 (fun r τ => (T.length = 16 ∧ r = rV (vI (-20)) ∧ CI τ μ b 0 (-1) e0 e1 R D cd V u L (w :: T) im) ∨ (T.length < 16 ∧ ((∃ kd pl, pWs b n.toNat (D 0 0) 0 0 = .error (kd, pl) ∧ r = rV (vI (kd - 10)) ∧ CI τ μ b 0 pl e0 e1 R D cd V u L (w :: T) im) ∨ (∃ k a, pWs b n.toNat (D 0 0) 0 0 = .ok (k, a) ∧ r = rV (vI ((runW D cd 0 k (w, 0, 0, 0)).2.2.1 : Nat)) ∧ CI τ τ b 0 (-1) e0 e1 (runW D cd 0 k (w, 0, 0, 0)).2.2.2 D cd V u L ((runW D cd 0 k (w, 0, 0, 0)).1 :: w :: T) im ∧ Mg μ τ))))) := by
  obtain ⟨t, t1, t2, t3, hX⟩ := h.2.2.2.1
  have hO := h.1
  have hdd := hX.2.2.1
  have hN := h.2.1.2.1
  have hBy := h.2.1.2.2.1
  rw [h.2.1.2.2.2.1] at hBy
  have hT17 : T.length ≤ 16 := by
    have := h.2.2.2.2.2.2.2.1.2.1
    simp at this
    exact this
  obtain ⟨p, p1, hTp, hNp, hWp, p2, p3⟩ := h.tw
  have hPo := hTp.1
  refine Ct.qs (fun Q hy hno => ?_)
  refine Ct.of (n := 7) (L := [vR 0, vI n, vU]) cov_115 rfl (Nat.le_of_ble_eq_true rfl) ?_
  unfold T_115
  refine tSeq_g (fun L' τ => L' = [vR 0, vI n, vU] ∧ (0 ≤ n ∧ n ≤ 150 ∧ n ≤ N) ∧ τ = opT σ n) (fun N1 hN1 => ?_) ?_
  · simp only [↓x_eInt, ↓x_eLng, ↓x_eNul, ↓x_eStr, ↓x_eLoc, ↓x_eLol, ↓x_eLor, ↓x_eBin, ↓x_eDiv, ↓x_eRem, ↓x_eNeg, ↓x_eLbin, ↓x_eLdiv, ↓x_eLrem, ↓x_eLshl, ↓x_eLshr, ↓x_eI2l, ↓x_eL2i, ↓x_eFldI, ↓x_eFldL, ↓x_eFldP, ↓x_eAldI, ↓x_eAldS, ↓x_eAldL, ↓x_eAldP, ↓x_eLen, ↓x_eLenS, ↓x_eCall, ↓x_eCalv, ↓x_eMin, ↓x_eMax, ↓x_eLmin, ↓x_eAbs, ↓x_eSlen, ↓x_eSat, ↓x_eIte, ↓x_eNewa, ↓x_eNewo, ↓x_esN, ↓x_esC, ↓x_cCmp, ↓x_cCmpz, ↓x_cLcmp, ↓x_cIsn, ↓x_cNot, ↓x_cAnd, ↓x_cOr, ↓x_tSkip, ↓x_tSup, ↓x_tSeq, ↓x_tSetI, ↓x_tSetL, ↓x_tSetR, ↓x_tInc, ↓x_tPutI, ↓x_tPutL, ↓x_tPutP, ↓x_tPutc, ↓x_tAstI, ↓x_tAstL, ↓x_tAstP, ↓x_tAstcI, ↓x_tAstcL, ↓x_tAcpI, ↓x_tAcpL, ↓x_tExp, ↓x_tExv, ↓x_tExw, ↓x_tIte, ↓x_tSw, ↓x_tRet, ↓x_tRetB, ↓x_tRetL, ↓x_tRetv, ↓x_tBrk, ↓x_tCont, ↓x_tThr, ↓x_wD, ↓x_wK, ↓x_jIx, ↓x_jOb, ↓x_jInt_I, ↓x_jLng_L, ↓x_jRef_R, ↓x_jStr_S, ↓x_jPls_R, ↓x_jPls_N, ↓x_jAny_R, ↓x_jAny_S, ↓jIntg_0, ↓jLngg_0, ↓jRefg_0, ↓jAnyg_0, ↓jStrg_0, ↓jPlsg_0, ↓jst_x0, ↓jst2_x0, ↓jIntg_1, ↓jLngg_1, ↓jRefg_1, ↓jAnyg_1, ↓jst_x1, ↓jst2_x1, ↓jIntg_2, ↓jLngg_2, ↓jRefg_2, ↓jAnyg_2, ↓jst_x2, ↓jst2_x2, ↓jIntg_3, ↓jLngg_3, ↓jRefg_3, ↓jAnyg_3, ↓jst_x3, ↓jst2_x3, ↓jIntg_4, ↓jLngg_4, ↓jRefg_4, ↓jAnyg_4, ↓jst_x4, ↓jst2_x4, ↓jIntg_5, ↓jLngg_5, ↓jRefg_5, ↓jAnyg_5, ↓jst_x5, ↓jst2_x5, ↓jIntg_6, ↓jLngg_6, ↓jRefg_6, ↓jAnyg_6, ↓jst_x6, ↓jst2_x6, ↓jIntg_7, ↓jLngg_7, ↓jRefg_7, ↓jAnyg_7, ↓jst_x7, ↓jst2_x7, ↓jIntg_8, ↓jLngg_8, ↓jRefg_8, ↓jAnyg_8, ↓jst_x8, ↓jst2_x8, ↓jIntg_9, ↓jLngg_9, ↓jRefg_9, ↓jAnyg_9, ↓jst_x9, ↓jst2_x9, ↓jIntg_10, ↓jLngg_10, ↓jRefg_10, ↓jAnyg_10, ↓jst_x10, ↓jst2_x10, ↓jIntg_11, ↓jLngg_11, ↓jRefg_11, ↓jAnyg_11, ↓jst_x11, ↓jst2_x11, ↓jIntg_12, ↓jLngg_12, ↓jRefg_12, ↓jAnyg_12, ↓jst_x12, ↓jst2_x12, ↓jIntg_13, ↓jLngg_13, ↓jRefg_13, ↓jAnyg_13, ↓jst_x13, ↓jst2_x13, ↓jIntg_14, ↓jLngg_14, ↓jRefg_14, ↓jAnyg_14, ↓jst_x14, ↓jst2_x14, ↓ex_some, jpv_some, jpv_none, jPls_pv, jisL_I, jisL_L, jisL_R, jisL_S, jisL_N, jisL_U, j_op0, j_op1, j_op2, j_c2, true_and, and_true, true_or, or_true, Int.toNat_natCast, nat1, ex_row, ex_row2, jwb1, jwb, jwb2, Classical.not_not, not_true_eq_false, false_implies, true_implies, ne_eq, not_false_eq_true, rV_inj, vI_inj, vL_inj, hi_tp, Nat.reduceEqDiff, Nat.reduceLeDiff, Nat.reduceAdd, Int.reduceLE, Int.reduceLT, Int.reduceEq, Int.reduceNeg, Int.reduceToNat, Int.reduceAdd, Int.reduceSub, Int.reduceMul, oS0 hO]
    refine (c_157 (m := 150) hO h.2.1.1 h.2.1.2.1 (by omega) hn).cat2 (by omega) ?_
    rintro r τ (⟨a1, rfl, rfl⟩ | ⟨a1, rfl, rfl⟩)
    · exact Or.inl ⟨rfl, hN1 _ _ ⟨rfl, a1, rfl⟩⟩
    · exact Or.inr ⟨0, rfl, hno a1⟩
  rintro L1 τ ⟨rfl, hok, rfl⟩
  have hy := fun r τ => hy r τ hok
  obtain ⟨m, rfl⟩ := Int.eq_ofNat_of_zero_le hok.1
  rw [Int.toNat_natCast] at hy
  obtain ⟨o1, o2, o3, o4, o5⟩ := op_of h (n := m) (by omega)
  rw [o1]
  generalize hsi (hsi σ 1 2 (m : Int)) 1 1 0 = σ1 at *
  have hO1 := o2.1
  have hl1 : ∀ {a s v k : Int}, Fr (fun r _ => r = 1) σ (tp σ1 a s v k (-1)) := Fr_tp o3 (fun _ => rfl)
  have q11 : hp σ1 0 11 = some p := by rw [o3.hp]; exact p1
  have q9 : hp σ1 0 9 = some t := by rw [o3.hp]; exact t2
  have sp : (hsh σ1)[p]? = some (12, 0) := by rw [o3.sh]; exact OWs0 hPo
  have st0 : (hsh σ1)[t]? = some (13, 0) := by rw [o3.sh]; exact hX.1.2.1.1
  refine tSeq_g (fun L' τ => L' = [vR 0, vI m, vU] ∧ T.length < 16 ∧ τ = tp σ1 0 (hi σ 1 4) (hi σ 1 5) (hi σ 1 6) (-1)) (fun N1 hN1 => ?_) ?_
  · have e9 : hi (tp σ1 0 (hi σ 1 4) (hi σ 1 5) (hi σ 1 6) (-1)) p 9 = T.length := by rw [hl1.i (by omega)]; exact p3
    simp (disch := omega) only [↓x_eInt, ↓x_eLng, ↓x_eNul, ↓x_eStr, ↓x_eLoc, ↓x_eLol, ↓x_eLor, ↓x_eBin, ↓x_eDiv, ↓x_eRem, ↓x_eNeg, ↓x_eLbin, ↓x_eLdiv, ↓x_eLrem, ↓x_eLshl, ↓x_eLshr, ↓x_eI2l, ↓x_eL2i, ↓x_eFldI, ↓x_eFldL, ↓x_eFldP, ↓x_eAldI, ↓x_eAldS, ↓x_eAldL, ↓x_eAldP, ↓x_eLen, ↓x_eLenS, ↓x_eCall, ↓x_eCalv, ↓x_eMin, ↓x_eMax, ↓x_eLmin, ↓x_eAbs, ↓x_eSlen, ↓x_eSat, ↓x_eIte, ↓x_eNewa, ↓x_eNewo, ↓x_esN, ↓x_esC, ↓x_cCmp, ↓x_cCmpz, ↓x_cLcmp, ↓x_cIsn, ↓x_cNot, ↓x_cAnd, ↓x_cOr, ↓x_tSkip, ↓x_tSup, ↓x_tSeq, ↓x_tSetI, ↓x_tSetL, ↓x_tSetR, ↓x_tInc, ↓x_tPutI, ↓x_tPutL, ↓x_tPutP, ↓x_tPutc, ↓x_tAstI, ↓x_tAstL, ↓x_tAstP, ↓x_tAstcI, ↓x_tAstcL, ↓x_tAcpI, ↓x_tAcpL, ↓x_tExp, ↓x_tExv, ↓x_tExw, ↓x_tIte, ↓x_tSw, ↓x_tRet, ↓x_tRetB, ↓x_tRetL, ↓x_tRetv, ↓x_tBrk, ↓x_tCont, ↓x_tThr, ↓x_wD, ↓x_wK, ↓x_jIx, ↓x_jOb, ↓x_jInt_I, ↓x_jLng_L, ↓x_jRef_R, ↓x_jStr_S, ↓x_jPls_R, ↓x_jPls_N, ↓x_jAny_R, ↓x_jAny_S, ↓jIntg_0, ↓jLngg_0, ↓jRefg_0, ↓jAnyg_0, ↓jStrg_0, ↓jPlsg_0, ↓jst_x0, ↓jst2_x0, ↓jIntg_1, ↓jLngg_1, ↓jRefg_1, ↓jAnyg_1, ↓jst_x1, ↓jst2_x1, ↓jIntg_2, ↓jLngg_2, ↓jRefg_2, ↓jAnyg_2, ↓jst_x2, ↓jst2_x2, ↓jIntg_3, ↓jLngg_3, ↓jRefg_3, ↓jAnyg_3, ↓jst_x3, ↓jst2_x3, ↓jIntg_4, ↓jLngg_4, ↓jRefg_4, ↓jAnyg_4, ↓jst_x4, ↓jst2_x4, ↓jIntg_5, ↓jLngg_5, ↓jRefg_5, ↓jAnyg_5, ↓jst_x5, ↓jst2_x5, ↓jIntg_6, ↓jLngg_6, ↓jRefg_6, ↓jAnyg_6, ↓jst_x6, ↓jst2_x6, ↓jIntg_7, ↓jLngg_7, ↓jRefg_7, ↓jAnyg_7, ↓jst_x7, ↓jst2_x7, ↓jIntg_8, ↓jLngg_8, ↓jRefg_8, ↓jAnyg_8, ↓jst_x8, ↓jst2_x8, ↓jIntg_9, ↓jLngg_9, ↓jRefg_9, ↓jAnyg_9, ↓jst_x9, ↓jst2_x9, ↓jIntg_10, ↓jLngg_10, ↓jRefg_10, ↓jAnyg_10, ↓jst_x10, ↓jst2_x10, ↓jIntg_11, ↓jLngg_11, ↓jRefg_11, ↓jAnyg_11, ↓jst_x11, ↓jst2_x11, ↓jIntg_12, ↓jLngg_12, ↓jRefg_12, ↓jAnyg_12, ↓jst_x12, ↓jst2_x12, ↓jIntg_13, ↓jLngg_13, ↓jRefg_13, ↓jAnyg_13, ↓jst_x13, ↓jst2_x13, ↓jIntg_14, ↓jLngg_14, ↓jRefg_14, ↓jAnyg_14, ↓jst_x14, ↓jst2_x14, ↓ex_some, jpv_some, jpv_none, jPls_pv, jisL_I, jisL_L, jisL_R, jisL_S, jisL_N, jisL_U, j_op0, j_op1, j_op2, j_c2, true_and, and_true, true_or, or_true, Int.toNat_natCast, nat1, ex_row, ex_row2, jwb1, jwb, jwb2, Classical.not_not, not_true_eq_false, false_implies, true_implies, ne_eq, not_false_eq_true, rV_inj, vI_inj, vL_inj, hi_tp, Nat.reduceEqDiff, Nat.reduceLeDiff, Nat.reduceAdd, Int.reduceLE, Int.reduceLT, Int.reduceEq, Int.reduceNeg, Int.reduceToNat, Int.reduceAdd, Int.reduceSub, Int.reduceMul, w_id, hsh_si, hp_si, hi_si_ne, hsh_tp, hp_tp, oS0 hO1, q11, sp, e9]
    refine ⟨fun g => hy _ _ (Or.inl ⟨by omega, rfl, ?_⟩), fun g => hN1 _ _ ⟨rfl, by omega, rfl⟩⟩
    exact h.gd t1 t2 (hl1.mono (fun r k z => Or.inl z)) (CIt_tp o4 o5 hBy)
  rintro L1 τ ⟨rfl, hlt, rfl⟩
  have hy := fun r τ a => hy r τ (Or.inr ⟨hlt, a⟩)
  have e9t : hi (tp σ1 0 (hi σ 1 4) (hi σ 1 5) (hi σ 1 6) (-1)) t 9 = D 0 0 := by rw [hl1.i (by omega)]; exact hX.2.1.1.1
  refine tSeq_g (fun L' τ => L' = [vR 0, vI m, vU] ∧ ∃ k a σ' a' s' v', pWs b m (D 0 0) 0 0 = .ok (k, a) ∧ τ = tp σ' a' s' v' (hi σ 1 6) (-1) ∧ CCd (hi σ' 13) (hi σ' 14) (hi σ' 15) k 0 ∧ hi σ' 12 5 = clen k ∧ Fr Sst σ1 σ') (fun N1 hN1 => ?_) ?_
  · simp (disch := omega) only [↓x_eInt, ↓x_eLng, ↓x_eNul, ↓x_eStr, ↓x_eLoc, ↓x_eLol, ↓x_eLor, ↓x_eBin, ↓x_eDiv, ↓x_eRem, ↓x_eNeg, ↓x_eLbin, ↓x_eLdiv, ↓x_eLrem, ↓x_eLshl, ↓x_eLshr, ↓x_eI2l, ↓x_eL2i, ↓x_eFldI, ↓x_eFldL, ↓x_eFldP, ↓x_eAldI, ↓x_eAldS, ↓x_eAldL, ↓x_eAldP, ↓x_eLen, ↓x_eLenS, ↓x_eCall, ↓x_eCalv, ↓x_eMin, ↓x_eMax, ↓x_eLmin, ↓x_eAbs, ↓x_eSlen, ↓x_eSat, ↓x_eIte, ↓x_eNewa, ↓x_eNewo, ↓x_esN, ↓x_esC, ↓x_cCmp, ↓x_cCmpz, ↓x_cLcmp, ↓x_cIsn, ↓x_cNot, ↓x_cAnd, ↓x_cOr, ↓x_tSkip, ↓x_tSup, ↓x_tSeq, ↓x_tSetI, ↓x_tSetL, ↓x_tSetR, ↓x_tInc, ↓x_tPutI, ↓x_tPutL, ↓x_tPutP, ↓x_tPutc, ↓x_tAstI, ↓x_tAstL, ↓x_tAstP, ↓x_tAstcI, ↓x_tAstcL, ↓x_tAcpI, ↓x_tAcpL, ↓x_tExp, ↓x_tExv, ↓x_tExw, ↓x_tIte, ↓x_tSw, ↓x_tRet, ↓x_tRetB, ↓x_tRetL, ↓x_tRetv, ↓x_tBrk, ↓x_tCont, ↓x_tThr, ↓x_wD, ↓x_wK, ↓x_jIx, ↓x_jOb, ↓x_jInt_I, ↓x_jLng_L, ↓x_jRef_R, ↓x_jStr_S, ↓x_jPls_R, ↓x_jPls_N, ↓x_jAny_R, ↓x_jAny_S, ↓jIntg_0, ↓jLngg_0, ↓jRefg_0, ↓jAnyg_0, ↓jStrg_0, ↓jPlsg_0, ↓jst_x0, ↓jst2_x0, ↓jIntg_1, ↓jLngg_1, ↓jRefg_1, ↓jAnyg_1, ↓jst_x1, ↓jst2_x1, ↓jIntg_2, ↓jLngg_2, ↓jRefg_2, ↓jAnyg_2, ↓jst_x2, ↓jst2_x2, ↓jIntg_3, ↓jLngg_3, ↓jRefg_3, ↓jAnyg_3, ↓jst_x3, ↓jst2_x3, ↓jIntg_4, ↓jLngg_4, ↓jRefg_4, ↓jAnyg_4, ↓jst_x4, ↓jst2_x4, ↓jIntg_5, ↓jLngg_5, ↓jRefg_5, ↓jAnyg_5, ↓jst_x5, ↓jst2_x5, ↓jIntg_6, ↓jLngg_6, ↓jRefg_6, ↓jAnyg_6, ↓jst_x6, ↓jst2_x6, ↓jIntg_7, ↓jLngg_7, ↓jRefg_7, ↓jAnyg_7, ↓jst_x7, ↓jst2_x7, ↓jIntg_8, ↓jLngg_8, ↓jRefg_8, ↓jAnyg_8, ↓jst_x8, ↓jst2_x8, ↓jIntg_9, ↓jLngg_9, ↓jRefg_9, ↓jAnyg_9, ↓jst_x9, ↓jst2_x9, ↓jIntg_10, ↓jLngg_10, ↓jRefg_10, ↓jAnyg_10, ↓jst_x10, ↓jst2_x10, ↓jIntg_11, ↓jLngg_11, ↓jRefg_11, ↓jAnyg_11, ↓jst_x11, ↓jst2_x11, ↓jIntg_12, ↓jLngg_12, ↓jRefg_12, ↓jAnyg_12, ↓jst_x12, ↓jst2_x12, ↓jIntg_13, ↓jLngg_13, ↓jRefg_13, ↓jAnyg_13, ↓jst_x13, ↓jst2_x13, ↓jIntg_14, ↓jLngg_14, ↓jRefg_14, ↓jAnyg_14, ↓jst_x14, ↓jst2_x14, ↓ex_some, jpv_some, jpv_none, jPls_pv, jisL_I, jisL_L, jisL_R, jisL_S, jisL_N, jisL_U, j_op0, j_op1, j_op2, j_c2, true_and, and_true, true_or, or_true, Int.toNat_natCast, nat1, ex_row, ex_row2, jwb1, jwb, jwb2, Classical.not_not, not_true_eq_false, false_implies, true_implies, ne_eq, not_false_eq_true, rV_inj, vI_inj, vL_inj, hi_tp, Nat.reduceEqDiff, Nat.reduceLeDiff, Nat.reduceAdd, Int.reduceLE, Int.reduceLT, Int.reduceEq, Int.reduceNeg, Int.reduceToNat, Int.reduceAdd, Int.reduceSub, Int.reduceMul, w_id, hsh_si, hp_si, hi_si_ne, hsh_tp, hp_tp, oS0 hO1, q9, st0, e9t, oP0_0 hO1, oP0_3 hO1, oS1 hO1, oS12 hO1]
    refine (c_52 (D := D) o2 (by omega) rfl (by omega)).cal (by omega) ?_
    rw [o5]
    intro r τ hh
    cases hb : pWs b m (D 0 0) 0 0 with
    | error q =>
      obtain ⟨kd, pl⟩ := q
      rw [hb] at hh
      obtain ⟨rfl, σ', a', s', v', rfl, hF⟩ := hh
      refine ⟨_, rfl, rfl, ?_⟩
      have hO2 := hF.ok hO1
      simp (disch := omega) only [↓x_eInt, ↓x_eLng, ↓x_eNul, ↓x_eStr, ↓x_eLoc, ↓x_eLol, ↓x_eLor, ↓x_eBin, ↓x_eDiv, ↓x_eRem, ↓x_eNeg, ↓x_eLbin, ↓x_eLdiv, ↓x_eLrem, ↓x_eLshl, ↓x_eLshr, ↓x_eI2l, ↓x_eL2i, ↓x_eFldI, ↓x_eFldL, ↓x_eFldP, ↓x_eAldI, ↓x_eAldS, ↓x_eAldL, ↓x_eAldP, ↓x_eLen, ↓x_eLenS, ↓x_eCall, ↓x_eCalv, ↓x_eMin, ↓x_eMax, ↓x_eLmin, ↓x_eAbs, ↓x_eSlen, ↓x_eSat, ↓x_eIte, ↓x_eNewa, ↓x_eNewo, ↓x_esN, ↓x_esC, ↓x_cCmp, ↓x_cCmpz, ↓x_cLcmp, ↓x_cIsn, ↓x_cNot, ↓x_cAnd, ↓x_cOr, ↓x_tSkip, ↓x_tSup, ↓x_tSeq, ↓x_tSetI, ↓x_tSetL, ↓x_tSetR, ↓x_tInc, ↓x_tPutI, ↓x_tPutL, ↓x_tPutP, ↓x_tPutc, ↓x_tAstI, ↓x_tAstL, ↓x_tAstP, ↓x_tAstcI, ↓x_tAstcL, ↓x_tAcpI, ↓x_tAcpL, ↓x_tExp, ↓x_tExv, ↓x_tExw, ↓x_tIte, ↓x_tSw, ↓x_tRet, ↓x_tRetB, ↓x_tRetL, ↓x_tRetv, ↓x_tBrk, ↓x_tCont, ↓x_tThr, ↓x_wD, ↓x_wK, ↓x_jIx, ↓x_jOb, ↓x_jInt_I, ↓x_jLng_L, ↓x_jRef_R, ↓x_jStr_S, ↓x_jPls_R, ↓x_jPls_N, ↓x_jAny_R, ↓x_jAny_S, ↓jIntg_0, ↓jLngg_0, ↓jRefg_0, ↓jAnyg_0, ↓jStrg_0, ↓jPlsg_0, ↓jst_x0, ↓jst2_x0, ↓jIntg_1, ↓jLngg_1, ↓jRefg_1, ↓jAnyg_1, ↓jst_x1, ↓jst2_x1, ↓jIntg_2, ↓jLngg_2, ↓jRefg_2, ↓jAnyg_2, ↓jst_x2, ↓jst2_x2, ↓jIntg_3, ↓jLngg_3, ↓jRefg_3, ↓jAnyg_3, ↓jst_x3, ↓jst2_x3, ↓jIntg_4, ↓jLngg_4, ↓jRefg_4, ↓jAnyg_4, ↓jst_x4, ↓jst2_x4, ↓jIntg_5, ↓jLngg_5, ↓jRefg_5, ↓jAnyg_5, ↓jst_x5, ↓jst2_x5, ↓jIntg_6, ↓jLngg_6, ↓jRefg_6, ↓jAnyg_6, ↓jst_x6, ↓jst2_x6, ↓jIntg_7, ↓jLngg_7, ↓jRefg_7, ↓jAnyg_7, ↓jst_x7, ↓jst2_x7, ↓jIntg_8, ↓jLngg_8, ↓jRefg_8, ↓jAnyg_8, ↓jst_x8, ↓jst2_x8, ↓jIntg_9, ↓jLngg_9, ↓jRefg_9, ↓jAnyg_9, ↓jst_x9, ↓jst2_x9, ↓jIntg_10, ↓jLngg_10, ↓jRefg_10, ↓jAnyg_10, ↓jst_x10, ↓jst2_x10, ↓jIntg_11, ↓jLngg_11, ↓jRefg_11, ↓jAnyg_11, ↓jst_x11, ↓jst2_x11, ↓jIntg_12, ↓jLngg_12, ↓jRefg_12, ↓jAnyg_12, ↓jst_x12, ↓jst2_x12, ↓jIntg_13, ↓jLngg_13, ↓jRefg_13, ↓jAnyg_13, ↓jst_x13, ↓jst2_x13, ↓jIntg_14, ↓jLngg_14, ↓jRefg_14, ↓jAnyg_14, ↓jst_x14, ↓jst2_x14, ↓ex_some, jpv_some, jpv_none, jPls_pv, jisL_I, jisL_L, jisL_R, jisL_S, jisL_N, jisL_U, j_op0, j_op1, j_op2, j_c2, true_and, and_true, true_or, or_true, Int.toNat_natCast, nat1, ex_row, ex_row2, jwb1, jwb, jwb2, Classical.not_not, not_true_eq_false, false_implies, true_implies, ne_eq, not_false_eq_true, rV_inj, vI_inj, vL_inj, hi_tp, Nat.reduceEqDiff, Nat.reduceLeDiff, Nat.reduceAdd, Int.reduceLE, Int.reduceLT, Int.reduceEq, Int.reduceNeg, Int.reduceToNat, Int.reduceAdd, Int.reduceSub, Int.reduceMul, w_id, hsh_si, hp_si, hi_si_ne, hsh_tp, hp_tp, oS0 hO2, oP0_0 hO2, oS1 hO2]
      refine (c_65i (a := a') (s := s') (v := v') (k := kd) (p := pl) hO2).val (by omega) rfl ?_
      simp (disch := omega) only [↓x_eInt, ↓x_eLng, ↓x_eNul, ↓x_eStr, ↓x_eLoc, ↓x_eLol, ↓x_eLor, ↓x_eBin, ↓x_eDiv, ↓x_eRem, ↓x_eNeg, ↓x_eLbin, ↓x_eLdiv, ↓x_eLrem, ↓x_eLshl, ↓x_eLshr, ↓x_eI2l, ↓x_eL2i, ↓x_eFldI, ↓x_eFldL, ↓x_eFldP, ↓x_eAldI, ↓x_eAldS, ↓x_eAldL, ↓x_eAldP, ↓x_eLen, ↓x_eLenS, ↓x_eCall, ↓x_eCalv, ↓x_eMin, ↓x_eMax, ↓x_eLmin, ↓x_eAbs, ↓x_eSlen, ↓x_eSat, ↓x_eIte, ↓x_eNewa, ↓x_eNewo, ↓x_esN, ↓x_esC, ↓x_cCmp, ↓x_cCmpz, ↓x_cLcmp, ↓x_cIsn, ↓x_cNot, ↓x_cAnd, ↓x_cOr, ↓x_tSkip, ↓x_tSup, ↓x_tSeq, ↓x_tSetI, ↓x_tSetL, ↓x_tSetR, ↓x_tInc, ↓x_tPutI, ↓x_tPutL, ↓x_tPutP, ↓x_tPutc, ↓x_tAstI, ↓x_tAstL, ↓x_tAstP, ↓x_tAstcI, ↓x_tAstcL, ↓x_tAcpI, ↓x_tAcpL, ↓x_tExp, ↓x_tExv, ↓x_tExw, ↓x_tIte, ↓x_tSw, ↓x_tRet, ↓x_tRetB, ↓x_tRetL, ↓x_tRetv, ↓x_tBrk, ↓x_tCont, ↓x_tThr, ↓x_wD, ↓x_wK, ↓x_jIx, ↓x_jOb, ↓x_jInt_I, ↓x_jLng_L, ↓x_jRef_R, ↓x_jStr_S, ↓x_jPls_R, ↓x_jPls_N, ↓x_jAny_R, ↓x_jAny_S, ↓jIntg_0, ↓jLngg_0, ↓jRefg_0, ↓jAnyg_0, ↓jStrg_0, ↓jPlsg_0, ↓jst_x0, ↓jst2_x0, ↓jIntg_1, ↓jLngg_1, ↓jRefg_1, ↓jAnyg_1, ↓jst_x1, ↓jst2_x1, ↓jIntg_2, ↓jLngg_2, ↓jRefg_2, ↓jAnyg_2, ↓jst_x2, ↓jst2_x2, ↓jIntg_3, ↓jLngg_3, ↓jRefg_3, ↓jAnyg_3, ↓jst_x3, ↓jst2_x3, ↓jIntg_4, ↓jLngg_4, ↓jRefg_4, ↓jAnyg_4, ↓jst_x4, ↓jst2_x4, ↓jIntg_5, ↓jLngg_5, ↓jRefg_5, ↓jAnyg_5, ↓jst_x5, ↓jst2_x5, ↓jIntg_6, ↓jLngg_6, ↓jRefg_6, ↓jAnyg_6, ↓jst_x6, ↓jst2_x6, ↓jIntg_7, ↓jLngg_7, ↓jRefg_7, ↓jAnyg_7, ↓jst_x7, ↓jst2_x7, ↓jIntg_8, ↓jLngg_8, ↓jRefg_8, ↓jAnyg_8, ↓jst_x8, ↓jst2_x8, ↓jIntg_9, ↓jLngg_9, ↓jRefg_9, ↓jAnyg_9, ↓jst_x9, ↓jst2_x9, ↓jIntg_10, ↓jLngg_10, ↓jRefg_10, ↓jAnyg_10, ↓jst_x10, ↓jst2_x10, ↓jIntg_11, ↓jLngg_11, ↓jRefg_11, ↓jAnyg_11, ↓jst_x11, ↓jst2_x11, ↓jIntg_12, ↓jLngg_12, ↓jRefg_12, ↓jAnyg_12, ↓jst_x12, ↓jst2_x12, ↓jIntg_13, ↓jLngg_13, ↓jRefg_13, ↓jAnyg_13, ↓jst_x13, ↓jst2_x13, ↓jIntg_14, ↓jLngg_14, ↓jRefg_14, ↓jAnyg_14, ↓jst_x14, ↓jst2_x14, ↓ex_some, jpv_some, jpv_none, jPls_pv, jisL_I, jisL_L, jisL_R, jisL_S, jisL_N, jisL_U, j_op0, j_op1, j_op2, j_c2, true_and, and_true, true_or, or_true, Int.toNat_natCast, nat1, ex_row, ex_row2, jwb1, jwb, jwb2, Classical.not_not, not_true_eq_false, false_implies, true_implies, ne_eq, not_false_eq_true, rV_inj, vI_inj, vL_inj, hi_tp, Nat.reduceEqDiff, Nat.reduceLeDiff, Nat.reduceAdd, Int.reduceLE, Int.reduceLT, Int.reduceEq, Int.reduceNeg, Int.reduceToNat, Int.reduceAdd, Int.reduceSub, Int.reduceMul, w_id, hsh_si, hp_si, hi_si_ne]
      refine hy _ _ (Or.inl ⟨kd, pl, hb, rfl, ?_⟩)
      have hF2 : Fr (fun r k => r = 1 ∨ Sst r k) σ (tp σ' a' s' v' kd pl) := Fr_tp ((o3.mono (fun r k z => Or.inl z)).trans (hF.mono (fun r k z => Or.inr z))) (fun _ => Or.inl rfl)
      exact h.g (hF2.mono (fun r k z => by unfold Sst at z; unfold Cg; omega)) (CIt_tp (by rw [hF.i (by unfold Sst; omega)]; exact o4) (by rw [hF.ir (fun k => by unfold Sst; omega)]; exact o5) hBy) (LWc_fr h.2.2.2.2.1 hF2 (fun k => by unfold Sst; omega) (fun k => by unfold Sst; omega) (fun k => by unfold Sst; omega)) (h.2.2.2.2.2.1.fr hF2 (fun k => by unfold Sst; omega) (by unfold Sst; omega)) (h.2.2.2.2.2.2.1.fr hF2 (fun r k z => by unfold Sst at z; omega))
    | ok q =>
      obtain ⟨k, a⟩ := q
      rw [hb] at hh
      obtain ⟨rfl, σ', a', s', v', rfl, g1, g2, hF⟩ := hh
      refine ⟨_, rfl, rfl, ?_⟩
      simp (disch := omega) only [↓x_eInt, ↓x_eLng, ↓x_eNul, ↓x_eStr, ↓x_eLoc, ↓x_eLol, ↓x_eLor, ↓x_eBin, ↓x_eDiv, ↓x_eRem, ↓x_eNeg, ↓x_eLbin, ↓x_eLdiv, ↓x_eLrem, ↓x_eLshl, ↓x_eLshr, ↓x_eI2l, ↓x_eL2i, ↓x_eFldI, ↓x_eFldL, ↓x_eFldP, ↓x_eAldI, ↓x_eAldS, ↓x_eAldL, ↓x_eAldP, ↓x_eLen, ↓x_eLenS, ↓x_eCall, ↓x_eCalv, ↓x_eMin, ↓x_eMax, ↓x_eLmin, ↓x_eAbs, ↓x_eSlen, ↓x_eSat, ↓x_eIte, ↓x_eNewa, ↓x_eNewo, ↓x_esN, ↓x_esC, ↓x_cCmp, ↓x_cCmpz, ↓x_cLcmp, ↓x_cIsn, ↓x_cNot, ↓x_cAnd, ↓x_cOr, ↓x_tSkip, ↓x_tSup, ↓x_tSeq, ↓x_tSetI, ↓x_tSetL, ↓x_tSetR, ↓x_tInc, ↓x_tPutI, ↓x_tPutL, ↓x_tPutP, ↓x_tPutc, ↓x_tAstI, ↓x_tAstL, ↓x_tAstP, ↓x_tAstcI, ↓x_tAstcL, ↓x_tAcpI, ↓x_tAcpL, ↓x_tExp, ↓x_tExv, ↓x_tExw, ↓x_tIte, ↓x_tSw, ↓x_tRet, ↓x_tRetB, ↓x_tRetL, ↓x_tRetv, ↓x_tBrk, ↓x_tCont, ↓x_tThr, ↓x_wD, ↓x_wK, ↓x_jIx, ↓x_jOb, ↓x_jInt_I, ↓x_jLng_L, ↓x_jRef_R, ↓x_jStr_S, ↓x_jPls_R, ↓x_jPls_N, ↓x_jAny_R, ↓x_jAny_S, ↓jIntg_0, ↓jLngg_0, ↓jRefg_0, ↓jAnyg_0, ↓jStrg_0, ↓jPlsg_0, ↓jst_x0, ↓jst2_x0, ↓jIntg_1, ↓jLngg_1, ↓jRefg_1, ↓jAnyg_1, ↓jst_x1, ↓jst2_x1, ↓jIntg_2, ↓jLngg_2, ↓jRefg_2, ↓jAnyg_2, ↓jst_x2, ↓jst2_x2, ↓jIntg_3, ↓jLngg_3, ↓jRefg_3, ↓jAnyg_3, ↓jst_x3, ↓jst2_x3, ↓jIntg_4, ↓jLngg_4, ↓jRefg_4, ↓jAnyg_4, ↓jst_x4, ↓jst2_x4, ↓jIntg_5, ↓jLngg_5, ↓jRefg_5, ↓jAnyg_5, ↓jst_x5, ↓jst2_x5, ↓jIntg_6, ↓jLngg_6, ↓jRefg_6, ↓jAnyg_6, ↓jst_x6, ↓jst2_x6, ↓jIntg_7, ↓jLngg_7, ↓jRefg_7, ↓jAnyg_7, ↓jst_x7, ↓jst2_x7, ↓jIntg_8, ↓jLngg_8, ↓jRefg_8, ↓jAnyg_8, ↓jst_x8, ↓jst2_x8, ↓jIntg_9, ↓jLngg_9, ↓jRefg_9, ↓jAnyg_9, ↓jst_x9, ↓jst2_x9, ↓jIntg_10, ↓jLngg_10, ↓jRefg_10, ↓jAnyg_10, ↓jst_x10, ↓jst2_x10, ↓jIntg_11, ↓jLngg_11, ↓jRefg_11, ↓jAnyg_11, ↓jst_x11, ↓jst2_x11, ↓jIntg_12, ↓jLngg_12, ↓jRefg_12, ↓jAnyg_12, ↓jst_x12, ↓jst2_x12, ↓jIntg_13, ↓jLngg_13, ↓jRefg_13, ↓jAnyg_13, ↓jst_x13, ↓jst2_x13, ↓jIntg_14, ↓jLngg_14, ↓jRefg_14, ↓jAnyg_14, ↓jst_x14, ↓jst2_x14, ↓ex_some, jpv_some, jpv_none, jPls_pv, jisL_I, jisL_L, jisL_R, jisL_S, jisL_N, jisL_U, j_op0, j_op1, j_op2, j_c2, true_and, and_true, true_or, or_true, Int.toNat_natCast, nat1, ex_row, ex_row2, jwb1, jwb, jwb2, Classical.not_not, not_true_eq_false, false_implies, true_implies, ne_eq, not_false_eq_true, rV_inj, vI_inj, vL_inj, hi_tp, Nat.reduceEqDiff, Nat.reduceLeDiff, Nat.reduceAdd, Int.reduceLE, Int.reduceLT, Int.reduceEq, Int.reduceNeg, Int.reduceToNat, Int.reduceAdd, Int.reduceSub, Int.reduceMul, w_id, hsh_si, hp_si, hi_si_ne]
      exact hN1 _ _ ⟨rfl, k, a, σ', a', s', v', hb, rfl, g1, g2, hF⟩
  rintro L1 τ ⟨rfl, k, a, σ', a', s', v', hb, rfl, g1, g2, hF⟩
  have hy := fun r τ c d => hy r τ (Or.inr ⟨k, a, hb, c, d⟩)
  obtain ⟨-, ha, -, hokW, hdp, -, hcl⟩ := pW_at (D := D) rfl m 0 0 k a (by omega) (by omega) (by omega) hb
  -- the text's rows are read: go on from here
  have hF2 : Fr (fun r k => r = 1 ∨ Sst r k) σ (tp σ' a' s' v' (hi σ 1 6) (-1)) := Fr_tp ((o3.mono (fun r k z => Or.inl z)).trans (hF.mono (fun r k z => Or.inr z))) (fun _ => Or.inl rfl)
  have hF3 : Fr (fun r _ => r = 1) σ' (tp σ' a' s' v' (hi σ 1 6) (-1)) := Fr_tp (Fr.refl _ _) (fun _ => rfl)
  have hC2 : CI (tp σ' a' s' v' (hi σ 1 6) (-1)) μ b 0 (-1) e0 e1 R D cd V u L (w :: T) im := h.g (hF2.mono (fun r k z => by unfold Sst at z; unfold Cg; omega)) (CIt_tp (by rw [hF.i (by unfold Sst; omega)]; exact o4) (by rw [hF.ir (fun k => by unfold Sst; omega)]; exact o5) hBy) (LWc_fr h.2.2.2.2.1 hF2 (fun k => by unfold Sst; omega) (fun k => by unfold Sst; omega) (fun k => by unfold Sst; omega)) (h.2.2.2.2.2.1.fr hF2 (fun k => by unfold Sst; omega) (by unfold Sst; omega)) (h.2.2.2.2.2.2.1.fr hF2 (fun r k z => by unfold Sst at z; omega))
  have g1' : CCd (hi (tp σ' a' s' v' (hi σ 1 6) (-1)) 13) (hi (tp σ' a' s' v' (hi σ 1 6) (-1)) 14) (hi (tp σ' a' s' v' (hi σ 1 6) (-1)) 15) k 0 := by
    rw [hF3.ir (fun k => by omega), hF3.ir (fun k => by omega), hF3.ir (fun k => by omega)]; exact g1
  have g2' : hi (tp σ' a' s' v' (hi σ 1 6) (-1)) 12 5 = clen k := by rw [hF3.i (by omega)]; exact g2
  have h9' : hp (tp σ' a' s' v' (hi σ 1 6) (-1)) 0 9 = some t := by rw [hF2.hp]; exact t2
  have h11' : hp (tp σ' a' s' v' (hi σ 1 6) (-1)) 0 11 = some p := by rw [hF2.hp]; exact p1
  have hTp' : TW (tp σ' a' s' v' (hi σ 1 6) (-1)) p D w 0 := TW_fr hTp hF2 (fun r k a b => by unfold Sst; omega)
  have hNp' : NT (tp σ' a' s' v' (hi σ 1 6) (-1)) p w := NT_fr hNp hF2 (fun k => by unfold Sst; omega)
  have hXp' : CX (tp σ' a' s' v' (hi σ 1 6) (-1)) t D := CX_fr2 hX hF2 (fun r k a b => by unfold Sst; omega)
  have hp9' : hi (tp σ' a' s' v' (hi σ 1 6) (-1)) p 9 = T.length := by rw [hF2.i (by unfold Sst; omega)]; exact p3
  generalize tp σ' a' s' v' (hi σ 1 6) (-1) = τ2 at *
  clear hF g1 g2 hF3 σ' a' s' v' hF2 o1 o2 o3 o4 o5 hl1 e9t st0 sp q9 q11 hO1
  have hO2 := hC2.1
  have hlen := hO2.len
  generalize hq : (hsh τ2).length = q at hlen
  have hpq := Chn.lt hq hC2.2.2.2.2.2.2.2.1.2.2 p h11'
  refine tSeq_g (fun L' τ => L' = [vR 0, vI m, vR q] ∧ NwT τ2 q τ) (fun N1 hN1 => ?_) ?_
  · simp (disch := omega) only [↓x_eInt, ↓x_eLng, ↓x_eNul, ↓x_eStr, ↓x_eLoc, ↓x_eLol, ↓x_eLor, ↓x_eBin, ↓x_eDiv, ↓x_eRem, ↓x_eNeg, ↓x_eLbin, ↓x_eLdiv, ↓x_eLrem, ↓x_eLshl, ↓x_eLshr, ↓x_eI2l, ↓x_eL2i, ↓x_eFldI, ↓x_eFldL, ↓x_eFldP, ↓x_eAldI, ↓x_eAldS, ↓x_eAldL, ↓x_eAldP, ↓x_eLen, ↓x_eLenS, ↓x_eCall, ↓x_eCalv, ↓x_eMin, ↓x_eMax, ↓x_eLmin, ↓x_eAbs, ↓x_eSlen, ↓x_eSat, ↓x_eIte, ↓x_eNewa, ↓x_eNewo, ↓x_esN, ↓x_esC, ↓x_cCmp, ↓x_cCmpz, ↓x_cLcmp, ↓x_cIsn, ↓x_cNot, ↓x_cAnd, ↓x_cOr, ↓x_tSkip, ↓x_tSup, ↓x_tSeq, ↓x_tSetI, ↓x_tSetL, ↓x_tSetR, ↓x_tInc, ↓x_tPutI, ↓x_tPutL, ↓x_tPutP, ↓x_tPutc, ↓x_tAstI, ↓x_tAstL, ↓x_tAstP, ↓x_tAstcI, ↓x_tAstcL, ↓x_tAcpI, ↓x_tAcpL, ↓x_tExp, ↓x_tExv, ↓x_tExw, ↓x_tIte, ↓x_tSw, ↓x_tRet, ↓x_tRetB, ↓x_tRetL, ↓x_tRetv, ↓x_tBrk, ↓x_tCont, ↓x_tThr, ↓x_wD, ↓x_wK, ↓x_jIx, ↓x_jOb, ↓x_jInt_I, ↓x_jLng_L, ↓x_jRef_R, ↓x_jStr_S, ↓x_jPls_R, ↓x_jPls_N, ↓x_jAny_R, ↓x_jAny_S, ↓jIntg_0, ↓jLngg_0, ↓jRefg_0, ↓jAnyg_0, ↓jStrg_0, ↓jPlsg_0, ↓jst_x0, ↓jst2_x0, ↓jIntg_1, ↓jLngg_1, ↓jRefg_1, ↓jAnyg_1, ↓jst_x1, ↓jst2_x1, ↓jIntg_2, ↓jLngg_2, ↓jRefg_2, ↓jAnyg_2, ↓jst_x2, ↓jst2_x2, ↓jIntg_3, ↓jLngg_3, ↓jRefg_3, ↓jAnyg_3, ↓jst_x3, ↓jst2_x3, ↓jIntg_4, ↓jLngg_4, ↓jRefg_4, ↓jAnyg_4, ↓jst_x4, ↓jst2_x4, ↓jIntg_5, ↓jLngg_5, ↓jRefg_5, ↓jAnyg_5, ↓jst_x5, ↓jst2_x5, ↓jIntg_6, ↓jLngg_6, ↓jRefg_6, ↓jAnyg_6, ↓jst_x6, ↓jst2_x6, ↓jIntg_7, ↓jLngg_7, ↓jRefg_7, ↓jAnyg_7, ↓jst_x7, ↓jst2_x7, ↓jIntg_8, ↓jLngg_8, ↓jRefg_8, ↓jAnyg_8, ↓jst_x8, ↓jst2_x8, ↓jIntg_9, ↓jLngg_9, ↓jRefg_9, ↓jAnyg_9, ↓jst_x9, ↓jst2_x9, ↓jIntg_10, ↓jLngg_10, ↓jRefg_10, ↓jAnyg_10, ↓jst_x10, ↓jst2_x10, ↓jIntg_11, ↓jLngg_11, ↓jRefg_11, ↓jAnyg_11, ↓jst_x11, ↓jst2_x11, ↓jIntg_12, ↓jLngg_12, ↓jRefg_12, ↓jAnyg_12, ↓jst_x12, ↓jst2_x12, ↓jIntg_13, ↓jLngg_13, ↓jRefg_13, ↓jAnyg_13, ↓jst_x13, ↓jst2_x13, ↓jIntg_14, ↓jLngg_14, ↓jRefg_14, ↓jAnyg_14, ↓jst_x14, ↓jst2_x14, ↓ex_some, jpv_some, jpv_none, jPls_pv, jisL_I, jisL_L, jisL_R, jisL_S, jisL_N, jisL_U, j_op0, j_op1, j_op2, j_c2, true_and, and_true, true_or, or_true, Int.toNat_natCast, nat1, ex_row, ex_row2, jwb1, jwb, jwb2, Classical.not_not, not_true_eq_false, false_implies, true_implies, ne_eq, not_false_eq_true, rV_inj, vI_inj, vL_inj, hi_tp, Nat.reduceEqDiff, Nat.reduceLeDiff, Nat.reduceAdd, Int.reduceLE, Int.reduceLT, Int.reduceEq, Int.reduceNeg, Int.reduceToNat, Int.reduceAdd, Int.reduceSub, Int.reduceMul, w_id, hsh_si, hp_si, hi_si_ne, hq]
    refine (c_75 hq).newo (by omega) ?_
    rintro r υ ⟨rfl, a1⟩
    exact ⟨rfl, hN1 _ _ ⟨rfl, a1⟩⟩
  rintro L1 τ3 ⟨rfl, hU⟩
  have hXt := hU.xt hq
  have hC3 := hC2.xt hXt
  have hO3 := hC3.1
  have hQ3 := hU.ow hq hlen
  have hT3 := hTp'.xt hXt
  have hN3 := hNp'.xt hTp'.1 hXt
  have hX3 := hXp'.xt hXt
  have e0' : hp τ3 0 = hp τ2 0 := (hU.2.1 0 (by omega)).2.2
  refine tSeq_g (fun L' τ => L' = [vR 0, vI m, vR q] ∧ TW τ q D w 0 ∧ NT τ q w ∧ Fr (Sq q) τ3 τ) (fun N1 hN1 => ?_) ?_
  · simp (disch := omega) only [↓x_eInt, ↓x_eLng, ↓x_eNul, ↓x_eStr, ↓x_eLoc, ↓x_eLol, ↓x_eLor, ↓x_eBin, ↓x_eDiv, ↓x_eRem, ↓x_eNeg, ↓x_eLbin, ↓x_eLdiv, ↓x_eLrem, ↓x_eLshl, ↓x_eLshr, ↓x_eI2l, ↓x_eL2i, ↓x_eFldI, ↓x_eFldL, ↓x_eFldP, ↓x_eAldI, ↓x_eAldS, ↓x_eAldL, ↓x_eAldP, ↓x_eLen, ↓x_eLenS, ↓x_eCall, ↓x_eCalv, ↓x_eMin, ↓x_eMax, ↓x_eLmin, ↓x_eAbs, ↓x_eSlen, ↓x_eSat, ↓x_eIte, ↓x_eNewa, ↓x_eNewo, ↓x_esN, ↓x_esC, ↓x_cCmp, ↓x_cCmpz, ↓x_cLcmp, ↓x_cIsn, ↓x_cNot, ↓x_cAnd, ↓x_cOr, ↓x_tSkip, ↓x_tSup, ↓x_tSeq, ↓x_tSetI, ↓x_tSetL, ↓x_tSetR, ↓x_tInc, ↓x_tPutI, ↓x_tPutL, ↓x_tPutP, ↓x_tPutc, ↓x_tAstI, ↓x_tAstL, ↓x_tAstP, ↓x_tAstcI, ↓x_tAstcL, ↓x_tAcpI, ↓x_tAcpL, ↓x_tExp, ↓x_tExv, ↓x_tExw, ↓x_tIte, ↓x_tSw, ↓x_tRet, ↓x_tRetB, ↓x_tRetL, ↓x_tRetv, ↓x_tBrk, ↓x_tCont, ↓x_tThr, ↓x_wD, ↓x_wK, ↓x_jIx, ↓x_jOb, ↓x_jInt_I, ↓x_jLng_L, ↓x_jRef_R, ↓x_jStr_S, ↓x_jPls_R, ↓x_jPls_N, ↓x_jAny_R, ↓x_jAny_S, ↓jIntg_0, ↓jLngg_0, ↓jRefg_0, ↓jAnyg_0, ↓jStrg_0, ↓jPlsg_0, ↓jst_x0, ↓jst2_x0, ↓jIntg_1, ↓jLngg_1, ↓jRefg_1, ↓jAnyg_1, ↓jst_x1, ↓jst2_x1, ↓jIntg_2, ↓jLngg_2, ↓jRefg_2, ↓jAnyg_2, ↓jst_x2, ↓jst2_x2, ↓jIntg_3, ↓jLngg_3, ↓jRefg_3, ↓jAnyg_3, ↓jst_x3, ↓jst2_x3, ↓jIntg_4, ↓jLngg_4, ↓jRefg_4, ↓jAnyg_4, ↓jst_x4, ↓jst2_x4, ↓jIntg_5, ↓jLngg_5, ↓jRefg_5, ↓jAnyg_5, ↓jst_x5, ↓jst2_x5, ↓jIntg_6, ↓jLngg_6, ↓jRefg_6, ↓jAnyg_6, ↓jst_x6, ↓jst2_x6, ↓jIntg_7, ↓jLngg_7, ↓jRefg_7, ↓jAnyg_7, ↓jst_x7, ↓jst2_x7, ↓jIntg_8, ↓jLngg_8, ↓jRefg_8, ↓jAnyg_8, ↓jst_x8, ↓jst2_x8, ↓jIntg_9, ↓jLngg_9, ↓jRefg_9, ↓jAnyg_9, ↓jst_x9, ↓jst2_x9, ↓jIntg_10, ↓jLngg_10, ↓jRefg_10, ↓jAnyg_10, ↓jst_x10, ↓jst2_x10, ↓jIntg_11, ↓jLngg_11, ↓jRefg_11, ↓jAnyg_11, ↓jst_x11, ↓jst2_x11, ↓jIntg_12, ↓jLngg_12, ↓jRefg_12, ↓jAnyg_12, ↓jst_x12, ↓jst2_x12, ↓jIntg_13, ↓jLngg_13, ↓jRefg_13, ↓jAnyg_13, ↓jst_x13, ↓jst2_x13, ↓jIntg_14, ↓jLngg_14, ↓jRefg_14, ↓jAnyg_14, ↓jst_x14, ↓jst2_x14, ↓ex_some, jpv_some, jpv_none, jPls_pv, jisL_I, jisL_L, jisL_R, jisL_S, jisL_N, jisL_U, j_op0, j_op1, j_op2, j_c2, true_and, and_true, true_or, or_true, Int.toNat_natCast, nat1, ex_row, ex_row2, jwb1, jwb, jwb2, Classical.not_not, not_true_eq_false, false_implies, true_implies, ne_eq, not_false_eq_true, rV_inj, vI_inj, vL_inj, hi_tp, Nat.reduceEqDiff, Nat.reduceLeDiff, Nat.reduceAdd, Int.reduceLE, Int.reduceLT, Int.reduceEq, Int.reduceNeg, Int.reduceToNat, Int.reduceAdd, Int.reduceSub, Int.reduceMul, w_id, hsh_si, hp_si, hi_si_ne, oS0 hO3, e0', h11', OWs0 hQ3]
    refine (c_76 hT3 hN3 hQ3 (Or.inl hpq)).cat2 (by omega) ?_
    rintro r υ ⟨rfl, a1, a2, a3⟩
    exact Or.inl ⟨rfl, hN1 _ _ ⟨rfl, a1, a2, a3⟩⟩
  rintro L1 τ4 ⟨rfl, hT4, hN4, hF4⟩
  have hO4 := hF4.ok hO3
  have s40 : (hsh τ4)[0]? = some (14, 0) := oS0 hO4
  have q411 : hp τ4 0 11 = some p := by rw [hF4.hp, e0']; exact h11'
  have s4p : (hsh τ4)[p]? = some (12, 0) := by rw [hF4.sh]; exact OWs0 hT3.1
  have s4q : (hsh τ4)[q]? = some (12, 0) := OWs0 hT4.1
  have hp49 : hi τ4 p 9 = T.length := by rw [hF4.i (by unfold Sq; omega), (hU.2.1 p (by omega)).1]; exact hp9'
  refine tSeq_g (fun L' τ => L' = [vR 0, vI m, vR q] ∧ τ = hsp τ4 q 10 (some p)) (fun N1 hN1 => ?_) ?_
  · simp (disch := omega) only [↓x_eInt, ↓x_eLng, ↓x_eNul, ↓x_eStr, ↓x_eLoc, ↓x_eLol, ↓x_eLor, ↓x_eBin, ↓x_eDiv, ↓x_eRem, ↓x_eNeg, ↓x_eLbin, ↓x_eLdiv, ↓x_eLrem, ↓x_eLshl, ↓x_eLshr, ↓x_eI2l, ↓x_eL2i, ↓x_eFldI, ↓x_eFldL, ↓x_eFldP, ↓x_eAldI, ↓x_eAldS, ↓x_eAldL, ↓x_eAldP, ↓x_eLen, ↓x_eLenS, ↓x_eCall, ↓x_eCalv, ↓x_eMin, ↓x_eMax, ↓x_eLmin, ↓x_eAbs, ↓x_eSlen, ↓x_eSat, ↓x_eIte, ↓x_eNewa, ↓x_eNewo, ↓x_esN, ↓x_esC, ↓x_cCmp, ↓x_cCmpz, ↓x_cLcmp, ↓x_cIsn, ↓x_cNot, ↓x_cAnd, ↓x_cOr, ↓x_tSkip, ↓x_tSup, ↓x_tSeq, ↓x_tSetI, ↓x_tSetL, ↓x_tSetR, ↓x_tInc, ↓x_tPutI, ↓x_tPutL, ↓x_tPutP, ↓x_tPutc, ↓x_tAstI, ↓x_tAstL, ↓x_tAstP, ↓x_tAstcI, ↓x_tAstcL, ↓x_tAcpI, ↓x_tAcpL, ↓x_tExp, ↓x_tExv, ↓x_tExw, ↓x_tIte, ↓x_tSw, ↓x_tRet, ↓x_tRetB, ↓x_tRetL, ↓x_tRetv, ↓x_tBrk, ↓x_tCont, ↓x_tThr, ↓x_wD, ↓x_wK, ↓x_jIx, ↓x_jOb, ↓x_jInt_I, ↓x_jLng_L, ↓x_jRef_R, ↓x_jStr_S, ↓x_jPls_R, ↓x_jPls_N, ↓x_jAny_R, ↓x_jAny_S, ↓jIntg_0, ↓jLngg_0, ↓jRefg_0, ↓jAnyg_0, ↓jStrg_0, ↓jPlsg_0, ↓jst_x0, ↓jst2_x0, ↓jIntg_1, ↓jLngg_1, ↓jRefg_1, ↓jAnyg_1, ↓jst_x1, ↓jst2_x1, ↓jIntg_2, ↓jLngg_2, ↓jRefg_2, ↓jAnyg_2, ↓jst_x2, ↓jst2_x2, ↓jIntg_3, ↓jLngg_3, ↓jRefg_3, ↓jAnyg_3, ↓jst_x3, ↓jst2_x3, ↓jIntg_4, ↓jLngg_4, ↓jRefg_4, ↓jAnyg_4, ↓jst_x4, ↓jst2_x4, ↓jIntg_5, ↓jLngg_5, ↓jRefg_5, ↓jAnyg_5, ↓jst_x5, ↓jst2_x5, ↓jIntg_6, ↓jLngg_6, ↓jRefg_6, ↓jAnyg_6, ↓jst_x6, ↓jst2_x6, ↓jIntg_7, ↓jLngg_7, ↓jRefg_7, ↓jAnyg_7, ↓jst_x7, ↓jst2_x7, ↓jIntg_8, ↓jLngg_8, ↓jRefg_8, ↓jAnyg_8, ↓jst_x8, ↓jst2_x8, ↓jIntg_9, ↓jLngg_9, ↓jRefg_9, ↓jAnyg_9, ↓jst_x9, ↓jst2_x9, ↓jIntg_10, ↓jLngg_10, ↓jRefg_10, ↓jAnyg_10, ↓jst_x10, ↓jst2_x10, ↓jIntg_11, ↓jLngg_11, ↓jRefg_11, ↓jAnyg_11, ↓jst_x11, ↓jst2_x11, ↓jIntg_12, ↓jLngg_12, ↓jRefg_12, ↓jAnyg_12, ↓jst_x12, ↓jst2_x12, ↓jIntg_13, ↓jLngg_13, ↓jRefg_13, ↓jAnyg_13, ↓jst_x13, ↓jst2_x13, ↓jIntg_14, ↓jLngg_14, ↓jRefg_14, ↓jAnyg_14, ↓jst_x14, ↓jst2_x14, ↓ex_some, jpv_some, jpv_none, jPls_pv, jisL_I, jisL_L, jisL_R, jisL_S, jisL_N, jisL_U, j_op0, j_op1, j_op2, j_c2, true_and, and_true, true_or, or_true, Int.toNat_natCast, nat1, ex_row, ex_row2, jwb1, jwb, jwb2, Classical.not_not, not_true_eq_false, false_implies, true_implies, ne_eq, not_false_eq_true, rV_inj, vI_inj, vL_inj, hi_tp, Nat.reduceEqDiff, Nat.reduceLeDiff, Nat.reduceAdd, Int.reduceLE, Int.reduceLT, Int.reduceEq, Int.reduceNeg, Int.reduceToNat, Int.reduceAdd, Int.reduceSub, Int.reduceMul, w_id, hsh_si, hp_si, hi_si_ne, s40, q411, s4q]
    exact hN1 _ _ ⟨rfl, rfl⟩
  rintro L1 τ ⟨rfl, rfl⟩
  refine tSeq_g (fun L' τ => L' = [vR 0, vI m, vR q] ∧ τ = hsi (hsp τ4 q 10 (some p)) q 9 (T.length + 1 : Nat)) (fun N1 hN1 => ?_) ?_
  · have z0 : (hsh (hsp τ4 q 10 (some p)))[0]? = some (14, 0) := s40
    have z1 : (hsh (hsp τ4 q 10 (some p)))[p]? = some (12, 0) := s4p
    have z2 : (hsh (hsp τ4 q 10 (some p)))[q]? = some (12, 0) := s4q
    have z3 : hp (hsp τ4 q 10 (some p)) 0 11 = some p := by rw [hp_sp, if_neg (by omega)]; exact q411
    have z4 : hi (hsp τ4 q 10 (some p)) p 9 = T.length := by rw [hi_sp]; exact hp49
    simp (disch := omega) only [↓x_eInt, ↓x_eLng, ↓x_eNul, ↓x_eStr, ↓x_eLoc, ↓x_eLol, ↓x_eLor, ↓x_eBin, ↓x_eDiv, ↓x_eRem, ↓x_eNeg, ↓x_eLbin, ↓x_eLdiv, ↓x_eLrem, ↓x_eLshl, ↓x_eLshr, ↓x_eI2l, ↓x_eL2i, ↓x_eFldI, ↓x_eFldL, ↓x_eFldP, ↓x_eAldI, ↓x_eAldS, ↓x_eAldL, ↓x_eAldP, ↓x_eLen, ↓x_eLenS, ↓x_eCall, ↓x_eCalv, ↓x_eMin, ↓x_eMax, ↓x_eLmin, ↓x_eAbs, ↓x_eSlen, ↓x_eSat, ↓x_eIte, ↓x_eNewa, ↓x_eNewo, ↓x_esN, ↓x_esC, ↓x_cCmp, ↓x_cCmpz, ↓x_cLcmp, ↓x_cIsn, ↓x_cNot, ↓x_cAnd, ↓x_cOr, ↓x_tSkip, ↓x_tSup, ↓x_tSeq, ↓x_tSetI, ↓x_tSetL, ↓x_tSetR, ↓x_tInc, ↓x_tPutI, ↓x_tPutL, ↓x_tPutP, ↓x_tPutc, ↓x_tAstI, ↓x_tAstL, ↓x_tAstP, ↓x_tAstcI, ↓x_tAstcL, ↓x_tAcpI, ↓x_tAcpL, ↓x_tExp, ↓x_tExv, ↓x_tExw, ↓x_tIte, ↓x_tSw, ↓x_tRet, ↓x_tRetB, ↓x_tRetL, ↓x_tRetv, ↓x_tBrk, ↓x_tCont, ↓x_tThr, ↓x_wD, ↓x_wK, ↓x_jIx, ↓x_jOb, ↓x_jInt_I, ↓x_jLng_L, ↓x_jRef_R, ↓x_jStr_S, ↓x_jPls_R, ↓x_jPls_N, ↓x_jAny_R, ↓x_jAny_S, ↓jIntg_0, ↓jLngg_0, ↓jRefg_0, ↓jAnyg_0, ↓jStrg_0, ↓jPlsg_0, ↓jst_x0, ↓jst2_x0, ↓jIntg_1, ↓jLngg_1, ↓jRefg_1, ↓jAnyg_1, ↓jst_x1, ↓jst2_x1, ↓jIntg_2, ↓jLngg_2, ↓jRefg_2, ↓jAnyg_2, ↓jst_x2, ↓jst2_x2, ↓jIntg_3, ↓jLngg_3, ↓jRefg_3, ↓jAnyg_3, ↓jst_x3, ↓jst2_x3, ↓jIntg_4, ↓jLngg_4, ↓jRefg_4, ↓jAnyg_4, ↓jst_x4, ↓jst2_x4, ↓jIntg_5, ↓jLngg_5, ↓jRefg_5, ↓jAnyg_5, ↓jst_x5, ↓jst2_x5, ↓jIntg_6, ↓jLngg_6, ↓jRefg_6, ↓jAnyg_6, ↓jst_x6, ↓jst2_x6, ↓jIntg_7, ↓jLngg_7, ↓jRefg_7, ↓jAnyg_7, ↓jst_x7, ↓jst2_x7, ↓jIntg_8, ↓jLngg_8, ↓jRefg_8, ↓jAnyg_8, ↓jst_x8, ↓jst2_x8, ↓jIntg_9, ↓jLngg_9, ↓jRefg_9, ↓jAnyg_9, ↓jst_x9, ↓jst2_x9, ↓jIntg_10, ↓jLngg_10, ↓jRefg_10, ↓jAnyg_10, ↓jst_x10, ↓jst2_x10, ↓jIntg_11, ↓jLngg_11, ↓jRefg_11, ↓jAnyg_11, ↓jst_x11, ↓jst2_x11, ↓jIntg_12, ↓jLngg_12, ↓jRefg_12, ↓jAnyg_12, ↓jst_x12, ↓jst2_x12, ↓jIntg_13, ↓jLngg_13, ↓jRefg_13, ↓jAnyg_13, ↓jst_x13, ↓jst2_x13, ↓jIntg_14, ↓jLngg_14, ↓jRefg_14, ↓jAnyg_14, ↓jst_x14, ↓jst2_x14, ↓ex_some, jpv_some, jpv_none, jPls_pv, jisL_I, jisL_L, jisL_R, jisL_S, jisL_N, jisL_U, j_op0, j_op1, j_op2, j_c2, true_and, and_true, true_or, or_true, Int.toNat_natCast, nat1, ex_row, ex_row2, jwb1, jwb, jwb2, Classical.not_not, not_true_eq_false, false_implies, true_implies, ne_eq, not_false_eq_true, rV_inj, vI_inj, vL_inj, hi_tp, Nat.reduceEqDiff, Nat.reduceLeDiff, Nat.reduceAdd, Int.reduceLE, Int.reduceLT, Int.reduceEq, Int.reduceNeg, Int.reduceToNat, Int.reduceAdd, Int.reduceSub, Int.reduceMul, w_id, hsh_si, hp_si, hi_si_ne, z0, z1, z2, z3, z4, jf_9_9]
    exact hN1 _ _ ⟨rfl, rfl⟩
  rintro L1 τ ⟨rfl, rfl⟩
  have f5s : hsh (hsi (hsp τ4 q 10 (some p)) q 9 (T.length + 1 : Nat)) = hsh τ4 := rfl
  have f5l : hl (hsi (hsp τ4 q 10 (some p)) q 9 (T.length + 1 : Nat)) = hl τ4 := rfl
  have f5i : ∀ r k, ¬ (r = q ∧ k = 9) → hi (hsi (hsp τ4 q 10 (some p)) q 9 (T.length + 1 : Nat)) r k = hi τ4 r k := fun r k hrk => by rw [hi_si, if_neg hrk, hi_sp]
  have f5q : hi (hsi (hsp τ4 q 10 (some p)) q 9 (T.length + 1 : Nat)) q 9 = (T.length + 1 : Nat) := hi_si_eq _ _ _ _
  have f5p : ∀ r k, ¬ (r = q ∧ k = 10) → hp (hsi (hsp τ4 q 10 (some p)) q 9 (T.length + 1 : Nat)) r k = hp τ4 r k := fun r k hrk => by rw [hp_si, hp_sp, if_neg hrk]
  have f5pq : hp (hsi (hsp τ4 q 10 (some p)) q 9 (T.length + 1 : Nat)) q 10 = some p := by rw [hp_si, hp_sp, if_pos ⟨rfl, rfl⟩]
  generalize hsi (hsp τ4 q 10 (some p)) q 9 (T.length + 1 : Nat) = τ5 at *
  have f5i' : ∀ r, r ≠ q → hi τ5 r = hi τ4 r := fun r hr => funext fun k => f5i r k (fun z => hr z.1)
  have f5p' : ∀ r, r ≠ q → hp τ5 r = hp τ4 r := fun r hr => funext fun k => f5p r k (fun z => hr z.1)
  have hO5 : Ok τ5 := ⟨by rw [f5s]; exact hO4.1, fun x hx => by rw [f5p' x.1 (by have := okPt_le x hx; omega)]; exact hO4.2 x hx⟩
  have hT5 : TW τ5 q D w 0 := by
    obtain ⟨c0, c1, c2, c3, c4, c5, c6, c7, c8⟩ := hT4
    refine ⟨?_, ?_, ?_, ?_, ?_, ?_, ?_, ?_, ?_⟩
    · unfold OW
      rw [f5s, f5p q 0 (by omega), f5p q 1 (by omega), f5p q 2 (by omega), f5p q 3 (by omega)]
      exact c0
    · rw [f5i' (q + 1) (by omega)]; exact c1
    · rw [f5i' (q + 2) (by omega)]; exact c2
    · rw [f5i' (q + 3) (by omega)]; exact c3
    · rw [f5i q 4 (by omega)]; exact c4
    · rw [f5i q 5 (by omega)]; exact c5
    · rw [f5i q 6 (by omega)]; exact c6
    · rw [f5i q 7 (by omega)]; exact c7
    · rw [f5i q 8 (by omega)]; exact c8
  have hN5 : NT τ5 q w := by unfold NT; rw [f5l]; exact hN4
  have k5 : ∀ r, r < q → hi τ5 r = hi τ2 r := fun r hr => by rw [f5i' r (by omega), hF4.ir (fun k => by unfold Sq; omega), (hU.2.1 r hr).1]
  have k5p : ∀ r, r < q → hp τ5 r = hp τ2 r := fun r hr => by rw [f5p' r (by omega), hF4.hp, (hU.2.1 r hr).2.2]
  have k5l : ∀ r, r < q → hl τ5 r = hl τ2 r := fun r hr => by rw [f5l, hF4.lr (fun k => by unfold Sq; omega), (hU.2.1 r hr).2.1]
  have k5s : hsh τ5 = hsh τ2 ++ [(12, 0), (0, 8), (0, 8), (0, 12), (1, 12)] := by rw [f5s, hF4.sh, hU.1]
  have hX5t : Xt τ2 τ5 := ⟨fun i x hx => by rw [k5s, List.getElem?_append_left (sh_lt hx)]; exact hx, fun r hr => ⟨k5 r (by omega), k5l r (by omega), k5p r (by omega)⟩⟩
  have hX5 := hXp'.xt hX5t
  have hL2 := hC2.2.2.2.2.1
  have hLC5 : LC τ5 (lX cd) V := by unfold LC; rw [k5 3 (by omega), k5 4 (by omega)]; exact hL2.1
  have hKC5 : KC τ5 D (lX cd) V := by unfold KC; rw [k5 8 (by omega)]; exact hL2.2.1
  have hrun := run_in (cd := cd) (f := 0) hXp'.2.2 hokW (w, 0, 0, 0) ⟨hWp, Nat.zero_le _, Nat.zero_le _⟩
  have hd8 : hp τ5 0 11 = some p := by rw [k5p 0 (by omega)]; exact h11'
  refine tSeq_g (fun L' τ => L' = [vR 0, vI m, vR q] ∧ TW τ q D (runW D cd 0 k (w, 0, 0, 0)).1 0 ∧ NT τ q (runW D cd 0 k (w, 0, 0, 0)).1 ∧ KC τ D (lX cd) V ∧ hi τ 12 7 = (runW D cd 0 k (w, 0, 0, 0)).2.2.1 ∧ hi τ 12 8 = (runW D cd 0 k (w, 0, 0, 0)).2.2.2 ∧ Fr (Srn q) τ5 τ) (fun N1 hN1 => ?_) ?_
  · have z9 : hp τ5 0 9 = some t := by rw [k5p 0 (by omega)]; exact h9'
    simp (disch := omega) only [↓x_eInt, ↓x_eLng, ↓x_eNul, ↓x_eStr, ↓x_eLoc, ↓x_eLol, ↓x_eLor, ↓x_eBin, ↓x_eDiv, ↓x_eRem, ↓x_eNeg, ↓x_eLbin, ↓x_eLdiv, ↓x_eLrem, ↓x_eLshl, ↓x_eLshr, ↓x_eI2l, ↓x_eL2i, ↓x_eFldI, ↓x_eFldL, ↓x_eFldP, ↓x_eAldI, ↓x_eAldS, ↓x_eAldL, ↓x_eAldP, ↓x_eLen, ↓x_eLenS, ↓x_eCall, ↓x_eCalv, ↓x_eMin, ↓x_eMax, ↓x_eLmin, ↓x_eAbs, ↓x_eSlen, ↓x_eSat, ↓x_eIte, ↓x_eNewa, ↓x_eNewo, ↓x_esN, ↓x_esC, ↓x_cCmp, ↓x_cCmpz, ↓x_cLcmp, ↓x_cIsn, ↓x_cNot, ↓x_cAnd, ↓x_cOr, ↓x_tSkip, ↓x_tSup, ↓x_tSeq, ↓x_tSetI, ↓x_tSetL, ↓x_tSetR, ↓x_tInc, ↓x_tPutI, ↓x_tPutL, ↓x_tPutP, ↓x_tPutc, ↓x_tAstI, ↓x_tAstL, ↓x_tAstP, ↓x_tAstcI, ↓x_tAstcL, ↓x_tAcpI, ↓x_tAcpL, ↓x_tExp, ↓x_tExv, ↓x_tExw, ↓x_tIte, ↓x_tSw, ↓x_tRet, ↓x_tRetB, ↓x_tRetL, ↓x_tRetv, ↓x_tBrk, ↓x_tCont, ↓x_tThr, ↓x_wD, ↓x_wK, ↓x_jIx, ↓x_jOb, ↓x_jInt_I, ↓x_jLng_L, ↓x_jRef_R, ↓x_jStr_S, ↓x_jPls_R, ↓x_jPls_N, ↓x_jAny_R, ↓x_jAny_S, ↓jIntg_0, ↓jLngg_0, ↓jRefg_0, ↓jAnyg_0, ↓jStrg_0, ↓jPlsg_0, ↓jst_x0, ↓jst2_x0, ↓jIntg_1, ↓jLngg_1, ↓jRefg_1, ↓jAnyg_1, ↓jst_x1, ↓jst2_x1, ↓jIntg_2, ↓jLngg_2, ↓jRefg_2, ↓jAnyg_2, ↓jst_x2, ↓jst2_x2, ↓jIntg_3, ↓jLngg_3, ↓jRefg_3, ↓jAnyg_3, ↓jst_x3, ↓jst2_x3, ↓jIntg_4, ↓jLngg_4, ↓jRefg_4, ↓jAnyg_4, ↓jst_x4, ↓jst2_x4, ↓jIntg_5, ↓jLngg_5, ↓jRefg_5, ↓jAnyg_5, ↓jst_x5, ↓jst2_x5, ↓jIntg_6, ↓jLngg_6, ↓jRefg_6, ↓jAnyg_6, ↓jst_x6, ↓jst2_x6, ↓jIntg_7, ↓jLngg_7, ↓jRefg_7, ↓jAnyg_7, ↓jst_x7, ↓jst2_x7, ↓jIntg_8, ↓jLngg_8, ↓jRefg_8, ↓jAnyg_8, ↓jst_x8, ↓jst2_x8, ↓jIntg_9, ↓jLngg_9, ↓jRefg_9, ↓jAnyg_9, ↓jst_x9, ↓jst2_x9, ↓jIntg_10, ↓jLngg_10, ↓jRefg_10, ↓jAnyg_10, ↓jst_x10, ↓jst2_x10, ↓jIntg_11, ↓jLngg_11, ↓jRefg_11, ↓jAnyg_11, ↓jst_x11, ↓jst2_x11, ↓jIntg_12, ↓jLngg_12, ↓jRefg_12, ↓jAnyg_12, ↓jst_x12, ↓jst2_x12, ↓jIntg_13, ↓jLngg_13, ↓jRefg_13, ↓jAnyg_13, ↓jst_x13, ↓jst2_x13, ↓jIntg_14, ↓jLngg_14, ↓jRefg_14, ↓jAnyg_14, ↓jst_x14, ↓jst2_x14, ↓ex_some, jpv_some, jpv_none, jPls_pv, jisL_I, jisL_L, jisL_R, jisL_S, jisL_N, jisL_U, j_op0, j_op1, j_op2, j_c2, true_and, and_true, true_or, or_true, Int.toNat_natCast, nat1, ex_row, ex_row2, jwb1, jwb, jwb2, Classical.not_not, not_true_eq_false, false_implies, true_implies, ne_eq, not_false_eq_true, rV_inj, vI_inj, vL_inj, hi_tp, Nat.reduceEqDiff, Nat.reduceLeDiff, Nat.reduceAdd, Int.reduceLE, Int.reduceLT, Int.reduceEq, Int.reduceNeg, Int.reduceToNat, Int.reduceAdd, Int.reduceSub, Int.reduceMul, w_id, hsh_si, hp_si, hi_si_ne, oS0 hO5, oP0_3 hO5, oP0_1 hO5, oS12 hO5, z9]
    refine (c_58 (g := 0) (k := k) hO5 hT5 hX5 hWp hN5 hLC5 hKC5 hL2.2.2.1 hL2.2.2.2.1 hL2.2.2.2.2 (by omega) (Or.inr (by omega)) hokW ?_ ?_ (by omega) (by omega)).cat2 (by omega) ?_
    · rw [k5 13 (by omega), k5 14 (by omega), k5 15 (by omega)]; exact g1'
    · rw [k5 12 (by omega)]; exact g2'
    rintro r υ ⟨rfl, c1, c2, c3, c4, c5, c6⟩
    exact Or.inl ⟨rfl, hN1 _ _ ⟨rfl, c1, c2, c3, c4, c5, c6⟩⟩
  rintro L1 τ6 ⟨rfl, hT6, hN6, hK6, h67, h68, hF6⟩
  have hO6 := hF6.ok hO5
  generalize hrr : runW D cd 0 k (w, 0, 0, 0) = rr at *
  have hrun := hrun
  unfold inW at hrun
  have y0 : (hsh (hsp τ6 0 11 (some q)))[0]? = some (14, 0) := by rw [hsh_sp]; exact oS0 hO6
  have y12 : (hsh (hsp τ6 0 11 (some q)))[12]? = some (10, 0) := by rw [hsh_sp]; exact oS12 hO6
  have y3 : hp (hsp τ6 0 11 (some q)) 0 3 = some 12 := by rw [hp_sp, if_neg (by omega)]; exact oP0_3 hO6
  have y8 : hi (hsp τ6 0 11 (some q)) 12 8 = rr.2.2.2 := by rw [hi_sp]; exact h68
  have y7 : hi (hsp τ6 0 11 (some q)) 12 7 = rr.2.2.1 := by rw [hi_sp]; exact h67
  simp (disch := omega) only [↓x_eInt, ↓x_eLng, ↓x_eNul, ↓x_eStr, ↓x_eLoc, ↓x_eLol, ↓x_eLor, ↓x_eBin, ↓x_eDiv, ↓x_eRem, ↓x_eNeg, ↓x_eLbin, ↓x_eLdiv, ↓x_eLrem, ↓x_eLshl, ↓x_eLshr, ↓x_eI2l, ↓x_eL2i, ↓x_eFldI, ↓x_eFldL, ↓x_eFldP, ↓x_eAldI, ↓x_eAldS, ↓x_eAldL, ↓x_eAldP, ↓x_eLen, ↓x_eLenS, ↓x_eCall, ↓x_eCalv, ↓x_eMin, ↓x_eMax, ↓x_eLmin, ↓x_eAbs, ↓x_eSlen, ↓x_eSat, ↓x_eIte, ↓x_eNewa, ↓x_eNewo, ↓x_esN, ↓x_esC, ↓x_cCmp, ↓x_cCmpz, ↓x_cLcmp, ↓x_cIsn, ↓x_cNot, ↓x_cAnd, ↓x_cOr, ↓x_tSkip, ↓x_tSup, ↓x_tSeq, ↓x_tSetI, ↓x_tSetL, ↓x_tSetR, ↓x_tInc, ↓x_tPutI, ↓x_tPutL, ↓x_tPutP, ↓x_tPutc, ↓x_tAstI, ↓x_tAstL, ↓x_tAstP, ↓x_tAstcI, ↓x_tAstcL, ↓x_tAcpI, ↓x_tAcpL, ↓x_tExp, ↓x_tExv, ↓x_tExw, ↓x_tIte, ↓x_tSw, ↓x_tRet, ↓x_tRetB, ↓x_tRetL, ↓x_tRetv, ↓x_tBrk, ↓x_tCont, ↓x_tThr, ↓x_wD, ↓x_wK, ↓x_jIx, ↓x_jOb, ↓x_jInt_I, ↓x_jLng_L, ↓x_jRef_R, ↓x_jStr_S, ↓x_jPls_R, ↓x_jPls_N, ↓x_jAny_R, ↓x_jAny_S, ↓jIntg_0, ↓jLngg_0, ↓jRefg_0, ↓jAnyg_0, ↓jStrg_0, ↓jPlsg_0, ↓jst_x0, ↓jst2_x0, ↓jIntg_1, ↓jLngg_1, ↓jRefg_1, ↓jAnyg_1, ↓jst_x1, ↓jst2_x1, ↓jIntg_2, ↓jLngg_2, ↓jRefg_2, ↓jAnyg_2, ↓jst_x2, ↓jst2_x2, ↓jIntg_3, ↓jLngg_3, ↓jRefg_3, ↓jAnyg_3, ↓jst_x3, ↓jst2_x3, ↓jIntg_4, ↓jLngg_4, ↓jRefg_4, ↓jAnyg_4, ↓jst_x4, ↓jst2_x4, ↓jIntg_5, ↓jLngg_5, ↓jRefg_5, ↓jAnyg_5, ↓jst_x5, ↓jst2_x5, ↓jIntg_6, ↓jLngg_6, ↓jRefg_6, ↓jAnyg_6, ↓jst_x6, ↓jst2_x6, ↓jIntg_7, ↓jLngg_7, ↓jRefg_7, ↓jAnyg_7, ↓jst_x7, ↓jst2_x7, ↓jIntg_8, ↓jLngg_8, ↓jRefg_8, ↓jAnyg_8, ↓jst_x8, ↓jst2_x8, ↓jIntg_9, ↓jLngg_9, ↓jRefg_9, ↓jAnyg_9, ↓jst_x9, ↓jst2_x9, ↓jIntg_10, ↓jLngg_10, ↓jRefg_10, ↓jAnyg_10, ↓jst_x10, ↓jst2_x10, ↓jIntg_11, ↓jLngg_11, ↓jRefg_11, ↓jAnyg_11, ↓jst_x11, ↓jst2_x11, ↓jIntg_12, ↓jLngg_12, ↓jRefg_12, ↓jAnyg_12, ↓jst_x12, ↓jst2_x12, ↓jIntg_13, ↓jLngg_13, ↓jRefg_13, ↓jAnyg_13, ↓jst_x13, ↓jst2_x13, ↓jIntg_14, ↓jLngg_14, ↓jRefg_14, ↓jAnyg_14, ↓jst_x14, ↓jst2_x14, ↓ex_some, jpv_some, jpv_none, jPls_pv, jisL_I, jisL_L, jisL_R, jisL_S, jisL_N, jisL_U, j_op0, j_op1, j_op2, j_c2, true_and, and_true, true_or, or_true, Int.toNat_natCast, nat1, ex_row, ex_row2, jwb1, jwb, jwb2, Classical.not_not, not_true_eq_false, false_implies, true_implies, ne_eq, not_false_eq_true, rV_inj, vI_inj, vL_inj, hi_tp, Nat.reduceEqDiff, Nat.reduceLeDiff, Nat.reduceAdd, Int.reduceLE, Int.reduceLT, Int.reduceEq, Int.reduceNeg, Int.reduceToNat, Int.reduceAdd, Int.reduceSub, Int.reduceMul, w_id, hsh_si, hp_si, hi_si_ne, oS0 hO6, y0, y12, y3, y8, y7, jf_11_13]
  refine hy _ _ rfl ?_
  have fi : ∀ r, r ≠ 0 → hi (hsi (hsp τ6 0 11 (some q)) 0 13 rr.2.2.2) r = hi τ6 r := fun r hr => by rw [hi_si_ne hr, hi_sp]
  have fi0 : ∀ j, j ≠ 13 → hi (hsi (hsp τ6 0 11 (some q)) 0 13 rr.2.2.2) 0 j = hi τ2 0 j := fun j hj => by rw [hi_si, if_neg (fun z => hj z.2), hi_sp, hF6.i (by unfold Srn Sgo Sh Sq; omega), k5 0 (by omega)]
  have fi13 : hi (hsi (hsp τ6 0 11 (some q)) 0 13 rr.2.2.2) 0 13 = rr.2.2.2 := hi_si_eq _ _ _ _
  have fp : ∀ r, r ≠ 0 → hp (hsi (hsp τ6 0 11 (some q)) 0 13 rr.2.2.2) r = hp τ5 r := fun r hr => funext fun j => by rw [hp_si, hp_sp, if_neg (fun z => hr z.1), hF6.hp]
  have fp0 : ∀ j, j ≠ 11 → hp (hsi (hsp τ6 0 11 (some q)) 0 13 rr.2.2.2) 0 j = hp τ2 0 j := fun j hj => by rw [hp_si, hp_sp, if_neg (fun z => hj z.2), hF6.hp, k5p 0 (by omega)]
  have fp11 : hp (hsi (hsp τ6 0 11 (some q)) 0 13 rr.2.2.2) 0 11 = some q := by rw [hp_si, hp_sp, if_pos ⟨rfl, rfl⟩]
  have fs : hsh (hsi (hsp τ6 0 11 (some q)) 0 13 rr.2.2.2) = hsh τ2 ++ [(12, 0), (0, 8), (0, 8), (0, 12), (1, 12)] := by rw [hsh_si, hsh_sp, hF6.sh]; exact k5s
  have fl : hl (hsi (hsp τ6 0 11 (some q)) 0 13 rr.2.2.2) = hl τ6 := rfl
  have fs6 : hsh (hsi (hsp τ6 0 11 (some q)) 0 13 rr.2.2.2) = hsh τ6 := rfl
  generalize hsi (hsp τ6 0 11 (some q)) 0 13 rr.2.2.2 = ω at *
  clear y0 y12 y3 y8 y7
  have fr : ∀ r, r < q → r ≠ 0 → r ≠ 6 → r ≠ 7 → r ≠ 8 → r ≠ 12 → r ≠ 17 → hi ω r = hi τ2 r := fun r c1 c2 c3 c4 c5 c6 c7 => by
    rw [fi r c2, hF6.ir (fun j => by unfold Srn Sgo Sh Sq; omega), k5 r c1]
  have frl : ∀ r, r < q → r ≠ 6 → r ≠ 7 → r ≠ 8 → r ≠ 12 → r ≠ 17 → hl ω r = hl τ2 r := fun r c1 c3 c4 c5 c6 c7 => by
    rw [fl, hF6.lr (fun j => by unfold Srn Sgo Sh Sq; omega), k5l r c1]
  have frp : ∀ r, r < q → r ≠ 0 → hp ω r = hp τ2 r := fun r c1 c2 => by rw [fp r c2, k5p r c1]
  have es : ∀ (i : Nat) (x : Nat × Nat), (hsh τ2)[i]? = some x → (hsh ω)[i]? = some x := fun i x hx => by rw [fs, List.getElem?_append_left (sh_lt hx)]; exact hx
  have hOw : Ok ω := ⟨fun i x hx => es i x (hO2.1 i x hx), fun x hx => by
    have := okPt0 x hx
    have := okPt_le x hx
    by_cases hx0 : x.1 = 0
    · rw [hx0, fp0 _ (by omega), ← hx0]; exact hO2.2 x hx
    · rw [frp _ (by omega) hx0]; exact hO2.2 x hx⟩
  have hch : ∀ {T : List (Nat → Int)} {o : Option Nat}, Chn τ2 D T o → Chn ω D T o := fun hc => Chn.cg2 es (fun r hr => ⟨fr r (by omega) (by omega) (by omega) (by omega) (by omega) (by omega) (by omega), frl r (by omega) (by omega) (by omega) (by omega) (by omega) (by omega), frp r (by omega) (by omega)⟩) (Chn.lt hq hc) hc
  have hXw : CX ω t D := by
    refine ⟨?_, ?_, hXp'.2.2⟩
    · rcases t1 with rfl | rfl
      · exact OT_A hOw
      · exact OT_B hOw
    · have e : ∀ r, t ≤ r → r ≤ t + 11 → hi ω r = hi τ2 r := fun r c1 c2 => fr r (by omega) (by omega) (by omega) (by omega) (by omega) (by omega) (by omega)
      unfold RDc
      rw [e t (by omega) (by omega), e (t + 1) (by omega) (by omega), e (t + 2) (by omega) (by omega), e (t + 3) (by omega) (by omega), e (t + 4) (by omega) (by omega), e (t + 5) (by omega) (by omega), e (t + 6) (by omega) (by omega), e (t + 7) (by omega) (by omega), e (t + 8) (by omega) (by omega), e (t + 9) (by omega) (by omega), e (t + 10) (by omega) (by omega)]
      exact hXp'.2.1
  have hmu := hC2.2.2.2.2.2.2.2.2.2.1.2
  obtain ⟨c1, c2, c3, -, c5, c6, c7, c8, c9⟩ := id hC2
  refine ⟨⟨hOw, ?_, ?_, ⟨t, t1, by rw [fp0 9 (by omega)]; exact h9', ?_, hXw⟩, ?_, ?_, ?_, ?_, ?_⟩, ?_, ?_⟩
  · unfold CIt
    rw [fr 1 (by omega) (by omega) (by omega) (by omega) (by omega) (by omega) (by omega), fr 2 (by omega) (by omega) (by omega) (by omega) (by omega) (by omega) (by omega)]
    exact c2
  · exact ⟨by rw [fi0 14 (by omega)]; exact c3.1, by rw [fi0 15 (by omega)]; exact c3.2.1, fi13⟩
  · obtain ⟨t', t1', t2', t3', -⟩ := hC2.2.2.2.1
    rw [h9'] at t2'
    obtain rfl := Option.some.inj t2'
    rw [fp0 10 (by omega)]; exact t3'
  · refine ⟨?_, ?_, c5.2.2⟩
    · unfold LC
      rw [fr 3 (by omega) (by omega) (by omega) (by omega) (by omega) (by omega) (by omega), fr 4 (by omega) (by omega) (by omega) (by omega) (by omega) (by omega) (by omega)]
      exact c5.1
    · unfold KC
      rw [fi 8 (by omega)]
      exact hK6
  · unfold CIb BKc
    rw [fr 9 (by omega) (by omega) (by omega) (by omega) (by omega) (by omega) (by omega), fr 10 (by omega) (by omega) (by omega) (by omega) (by omega) (by omega) (by omega)]
    exact c6
  · unfold CIk LDk CRk BSk BsA
    rw [fr 22 (by omega) (by omega) (by omega) (by omega) (by omega) (by omega) (by omega), frl 22 (by omega) (by omega) (by omega) (by omega) (by omega) (by omega), fr 24 (by omega) (by omega) (by omega) (by omega) (by omega) (by omega) (by omega), fr 25 (by omega) (by omega) (by omega) (by omega) (by omega) (by omega) (by omega), fr 18 (by omega) (by omega) (by omega) (by omega) (by omega) (by omega) (by omega), fr 21 (by omega) (by omega) (by omega) (by omega) (by omega) (by omega) (by omega), frl 18 (by omega) (by omega) (by omega) (by omega) (by omega) (by omega)]
    exact c7
  · refine ⟨by simp, by simp; omega, q, fp11, ⟨?_, ?_, hrun.1, Or.inr hlen, ?_⟩, ?_, ?_⟩
    · unfold TW OW
      rw [fs6, fi q (by omega), fi (q + 1) (by omega), fi (q + 2) (by omega), fi (q + 3) (by omega), fp q (by omega), ← hF6.hp]
      exact hT6
    · unfold NT
      rw [fl]
      exact hN6
    · rw [fi q (by omega), hF6.i (by unfold Srn Sgo Sh Sq; omega), f5q]; rfl
    · intro p' hp'
      rw [fp q (by omega), f5pq] at hp'
      obtain rfl := Option.some.inj hp'
      exact hpq
    · rw [fp q (by omega), f5pq]
      have := hch c8.2.2
      rw [h11'] at this
      exact this
  · exact ⟨by rw [fi0 12 (by omega)]; exact c9.1, ⟨c9.2.1.1, Mk.refl _⟩, fun i hi => ⟨(c9.2.2 i hi).1, by rw [frp 33 (by omega) (by omega)]; exact hch (c9.2.2 i hi).2⟩⟩
  · rw [fs, hmu.1]
  · intro r d1 d2
    have := hmu.2 r d1 d2
    exact ⟨by rw [fr r (by omega) (by omega) (by omega) (by omega) (by omega) (by omega) (by omega)]; exact this.1, by rw [frl r (by omega) (by omega) (by omega) (by omega) (by omega) (by omega)]; exact this.2.1, by rw [frp r (by omega) (by omega)]; exact this.2.2⟩
end WORK3
