/-! Sets of wagons as bits -/
section BITS
variable {sc : jSc} {σ : jH}
theorem jandn {m L : Nat} (hm : m < 2147483648) (hL : L < 2147483648) : ∃ r : Nat, j_op 3 m (j_op 5 L (-1)) = r ∧ r ≤ m ∧ ∀ i, r.testBit i = (m.testBit i && !L.testBit i) := by
  have hx : Int32.ofInt (j_op 5 L (-1)) = Int32.ofInt L ^^^ Int32.ofInt (-1) := Int32.ofInt_toInt _
  have hb : (Int32.ofInt (m : Int) &&& Int32.ofInt (j_op 5 L (-1))).toBitVec = BitVec.ofNat 32 m &&& ~~~ BitVec.ofNat 32 L := by
    rw [hx, Int32.toBitVec_and, Int32.toBitVec_xor]
    have e1 : (Int32.ofInt (m : Int)).toBitVec = BitVec.ofNat 32 m := BitVec.eq_of_toNat_eq (by rw [b32 hm, BitVec.toNat_ofNat]; omega)
    have e2 : (Int32.ofInt (L : Int)).toBitVec = BitVec.ofNat 32 L := BitVec.eq_of_toNat_eq (by rw [b32 hL, BitVec.toNat_ofNat]; omega)
    have e3 : (Int32.ofInt (-1)).toBitVec = BitVec.allOnes 32 := rfl
    rw [e1, e2, e3, BitVec.xor_allOnes]
  have hle : (BitVec.ofNat 32 m &&& ~~~ BitVec.ofNat 32 L).toNat ≤ m := by
    rw [BitVec.toNat_and, BitVec.toNat_ofNat]
    exact Nat.le_trans Nat.and_le_left (Nat.mod_le _ _)
  refine ⟨(BitVec.ofNat 32 m &&& ~~~ BitVec.ofNat 32 L).toNat, t32 (by rw [hb]) (by omega), hle, fun i => ?_⟩
  rw [BitVec.testBit_toNat, BitVec.getLsbD_and, BitVec.getLsbD_not, BitVec.getLsbD_ofNat, BitVec.getLsbD_ofNat]
  by_cases h : i < 32
  · simp [h]
  · have : m.testBit i = false := Nat.testBit_lt_two_pow (Nat.lt_of_lt_of_le hm (Nat.le_trans (by decide : 2147483648 ≤ 2 ^ 32) (Nat.pow_le_pow_right (by decide) (by omega))))
    simp [h, this]
/-- the first n laid, as bits -/
def lbt (w : Nat → Int) : Nat → Nat
  | 0 => 0
  | n + 1 => lbt w n ||| (if w n = 1 then 2 ^ n else 0)
theorem lbt_bit (w : Nat → Int) : ∀ n i, (lbt w n).testBit i = decide (i < n ∧ w i = 1)
  | 0, i => by simp [lbt]
  | n + 1, i => by
    rw [lbt, Nat.testBit_or, lbt_bit w n i]
    by_cases h : w n = 1
    · rw [if_pos h, Nat.testBit_two_pow]
      by_cases hi : i = n
      · subst hi; simp [h]
      · have h1 : ¬ n = i := fun q => hi q.symm
        have h2 : (i < n + 1) = (i < n) := propext ⟨fun q => by omega, fun q => by omega⟩
        simp [h1, h2]
    · rw [if_neg h, Nat.zero_testBit, Bool.or_false]
      by_cases hi : i = n
      · subst hi; simp [h]
      · have h2 : (i < n + 1) = (i < n) := propext ⟨fun q => by omega, fun q => by omega⟩
        simp [h2]
theorem lbt_lt (w : Nat → Int) : ∀ n, lbt w n < 2 ^ n
  | 0 => by simp [lbt]
  | n + 1 => by
    rw [lbt]
    have h1 := lbt_lt w n
    have h2 : (2 : Nat) ^ n < 2 ^ (n + 1) := Nat.pow_lt_pow_right (by decide) (by omega)
    refine Nat.or_lt_two_pow (by omega) ?_
    split
    · exact h2
    · exact Nat.two_pow_pos _
theorem lbt_congr {w v : Nat → Int} {n : Nat} (h : ∀ i, i < n → (w i = 1 ↔ v i = 1)) : lbt w n = lbt v n := by
  refine Nat.eq_of_testBit_eq (fun i => ?_)
  rw [lbt_bit, lbt_bit]
  by_cases hi : i < n
  · simp [hi, h i hi]
  · simp [hi]
/-- how many bits -/
def pc8 (x : Nat) : Nat := ((List.range 8).filter (fun i => x.testBit i)).length
def bcE (x : Int) : Int := let a := x - j_op 3 (j_op 8 x 1) 1431655765
  let b := j_op 3 a 858993459 + j_op 3 (j_op 8 a 2) 858993459
  let c := j_op 3 (b + j_op 8 b 4) 252645135
  let d := c + j_op 8 c 8
  let e := d + j_op 8 d 16
  j_op 3 e 63
theorem bc_all : (List.range 256).all (fun x => decide (bcE x = pc8 x)) = true := by decide +kernel
theorem c_289 {x : Nat} (hx : x < 256) : Ct sc 1 289 [vI x] σ (fun r τ => r = rV (vI (pc8 x)) ∧ τ = σ) := by
  have h := of_decide_eq_true (List.all_eq_true.mp bc_all x (List.mem_range.mpr hx))
  refine Ct.of (n := 0) (L := [vI x]) cov_289 rfl (Nat.le_of_ble_eq_true rfl) ?_
  unfold T_289
  simp only [↓x_eInt, ↓x_eLng, ↓x_eNul, ↓x_eStr, ↓x_eLoc, ↓x_eLol, ↓x_eLor, ↓x_eBin, ↓x_eDiv, ↓x_eRem, ↓x_eNeg, ↓x_eLbin, ↓x_eLdiv, ↓x_eLrem, ↓x_eLshl, ↓x_eLshr, ↓x_eI2l, ↓x_eL2i, ↓x_eFldI, ↓x_eFldL, ↓x_eFldP, ↓x_eAldI, ↓x_eAldS, ↓x_eAldL, ↓x_eAldP, ↓x_eLen, ↓x_eLenS, ↓x_eCall, ↓x_eCalv, ↓x_eMin, ↓x_eMax, ↓x_eLmin, ↓x_eAbs, ↓x_eSlen, ↓x_eSat, ↓x_eIte, ↓x_eNewa, ↓x_eNewo, ↓x_esN, ↓x_esC, ↓x_cCmp, ↓x_cCmpz, ↓x_cLcmp, ↓x_cIsn, ↓x_cNot, ↓x_cAnd, ↓x_cOr, ↓x_tSkip, ↓x_tSup, ↓x_tSeq, ↓x_tSetI, ↓x_tSetL, ↓x_tSetR, ↓x_tInc, ↓x_tPutI, ↓x_tPutL, ↓x_tPutP, ↓x_tPutc, ↓x_tAstI, ↓x_tAstL, ↓x_tAstP, ↓x_tAstcI, ↓x_tAstcL, ↓x_tAcpI, ↓x_tAcpL, ↓x_tExp, ↓x_tExv, ↓x_tExw, ↓x_tIte, ↓x_tSw, ↓x_tRet, ↓x_tRetB, ↓x_tRetL, ↓x_tRetv, ↓x_tBrk, ↓x_tCont, ↓x_tThr, ↓x_wD, ↓x_wK, ↓x_jIx, ↓x_jOb, ↓x_jInt_I, ↓x_jLng_L, ↓x_jRef_R, ↓x_jStr_S, ↓x_jPls_R, ↓x_jPls_N, ↓x_jAny_R, ↓x_jAny_S, ↓jIntg_0, ↓jLngg_0, ↓jRefg_0, ↓jAnyg_0, ↓jStrg_0, ↓jPlsg_0, ↓jst_x0, ↓jst2_x0, ↓jIntg_1, ↓jLngg_1, ↓jRefg_1, ↓jAnyg_1, ↓jst_x1, ↓jst2_x1, ↓jIntg_2, ↓jLngg_2, ↓jRefg_2, ↓jAnyg_2, ↓jst_x2, ↓jst2_x2, ↓jIntg_3, ↓jLngg_3, ↓jRefg_3, ↓jAnyg_3, ↓jst_x3, ↓jst2_x3, ↓jIntg_4, ↓jLngg_4, ↓jRefg_4, ↓jAnyg_4, ↓jst_x4, ↓jst2_x4, ↓jIntg_5, ↓jLngg_5, ↓jRefg_5, ↓jAnyg_5, ↓jst_x5, ↓jst2_x5, ↓jIntg_6, ↓jLngg_6, ↓jRefg_6, ↓jAnyg_6, ↓jst_x6, ↓jst2_x6, ↓jIntg_7, ↓jLngg_7, ↓jRefg_7, ↓jAnyg_7, ↓jst_x7, ↓jst2_x7, ↓jIntg_8, ↓jLngg_8, ↓jRefg_8, ↓jAnyg_8, ↓jst_x8, ↓jst2_x8, ↓jIntg_9, ↓jLngg_9, ↓jRefg_9, ↓jAnyg_9, ↓jst_x9, ↓jst2_x9, ↓jIntg_10, ↓jLngg_10, ↓jRefg_10, ↓jAnyg_10, ↓jst_x10, ↓jst2_x10, ↓jIntg_11, ↓jLngg_11, ↓jRefg_11, ↓jAnyg_11, ↓jst_x11, ↓jst2_x11, ↓jIntg_12, ↓jLngg_12, ↓jRefg_12, ↓jAnyg_12, ↓jst_x12, ↓jst2_x12, ↓jIntg_13, ↓jLngg_13, ↓jRefg_13, ↓jAnyg_13, ↓jst_x13, ↓jst2_x13, ↓jIntg_14, ↓jLngg_14, ↓jRefg_14, ↓jAnyg_14, ↓jst_x14, ↓jst2_x14, ↓ex_some, jpv_some, jpv_none, jPls_pv, jisL_I, jisL_L, jisL_R, jisL_S, jisL_N, jisL_U, j_op0, j_op1, j_op2, j_c2, true_and, and_true, true_or, or_true, Int.toNat_natCast, nat1, ex_row, ex_row2, jwb1, jwb, jwb2, Classical.not_not, not_true_eq_false, false_implies, true_implies, ne_eq, not_false_eq_true, rV_inj, vI_inj, vL_inj, hi_tp, Nat.reduceEqDiff, Nat.reduceLeDiff, Nat.reduceAdd, Int.reduceLE, Int.reduceLT, Int.reduceEq, Int.reduceNeg, Int.reduceToNat, Int.reduceAdd, Int.reduceSub, Int.reduceMul]
  exact h
end BITS
