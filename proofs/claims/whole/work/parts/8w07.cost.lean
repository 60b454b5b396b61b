/-! COST: sums of ties, and what one wagon's cell adds to it -/
section COST
variable {sc : jSc} {σ : jH} {D : jD} {w c : Nat → Int}
def smI (f : Nat → Int) : Nat → Int
  | 0 => 0
  | n + 1 => smI f n + f n
theorem smI_con {f g : Nat → Int} : ∀ {n}, (∀ i, i < n → f i = g i) → smI f n = smI g n
  | 0, _ => rfl
  | n + 1, h => by rw [smI, smI, smI_con (fun i hi => h i (by omega)), h n (by omega)]
theorem smI_add (f g : Nat → Int) : ∀ n, smI (fun i => f i + g i) n = smI f n + smI g n
  | 0 => rfl
  | n + 1 => by
    have := smI_add f g n
    simp only [smI] at this ⊢
    omega
theorem smI_0 : ∀ n, smI (fun _ => 0) n = 0
  | 0 => rfl
  | n + 1 => by rw [smI, smI_0 n]; rfl
/-- all but one, and that one -/
theorem smI_one (f : Nat → Int) (a : Nat) : ∀ n, smI f n = smI (fun i => if i = a then 0 else f i) n + (if a < n then f a else 0)
  | 0 => by simp [smI]
  | n + 1 => by
    have ih := smI_one f a n
    simp only [smI] at ih ⊢
    by_cases h : n = a
    · subst h
      rw [if_neg (by omega)] at ih
      rw [if_pos rfl, if_pos (by omega)]
      omega
    · rw [if_neg h]
      by_cases h2 : a < n
      · rw [if_pos h2] at ih
        rw [if_pos (by omega)]
        omega
      · rw [if_neg h2] at ih
        rw [if_neg (by omega)]
        omega
theorem smI_rg {f : Nat → Int} {m : Int} (h : ∀ i, 0 ≤ f i ∧ f i ≤ m) : ∀ n : Nat, 0 ≤ smI f n ∧ smI f n ≤ m * n
  | 0 => by simp [smI]
  | n + 1 => by
    have ih := smI_rg h n
    have := h n
    rw [smI, show m * ((n + 1 : Nat) : Int) = m * n + m by rw [Int.natCast_succ, Int.mul_add, Int.mul_one]]
    omega
/-- a symmetric table: row a and column a apart -/
theorem sm2 {f : Nat → Nat → Int} {a N : Nat} (hs : ∀ i j, f i j = f j i) (h0 : f a a = 0) (ha : a < N) : smI (fun i => smI (f i) N) N = smI (fun i => smI (fun j => if i = a ∨ j = a then 0 else f i j) N) N + 2 * smI (f a) N := by
  have h1 : ∀ i, i ≠ a → smI (f i) N = smI (fun j => if i = a ∨ j = a then 0 else f i j) N + f i a := by
    intro i hi
    rw [smI_one (f i) a N, if_pos ha]
    congr 1
    refine smI_con (fun j _ => ?_)
    by_cases hj : j = a
    · rw [if_pos hj, if_pos (Or.inr hj)]
    · rw [if_neg hj, if_neg (fun z => z.elim hi hj)]
  have h2 : smI (fun j => if a = a ∨ j = a then 0 else f a j) N = 0 := by
    rw [smI_con (g := fun _ => 0) (fun j _ => if_pos (Or.inl rfl)), smI_0]
  rw [smI_one (fun i => smI (f i) N) a N, if_pos ha]
  rw [smI_one (fun i => smI (fun j => if i = a ∨ j = a then 0 else f i j) N) a N, if_pos ha, h2]
  have h3 : smI (fun i => if i = a then 0 else smI (f i) N) N = smI (fun i => (if i = a then 0 else smI (fun j => if i = a ∨ j = a then 0 else f i j) N) + (if i = a then 0 else f i a)) N := by
    refine smI_con (fun i _ => ?_)
    by_cases hi : i = a
    · rw [if_pos hi, if_pos hi, if_pos hi]; rfl
    · rw [if_neg hi, if_neg hi, if_neg hi, h1 i hi]
  have h4 : smI (f a) N = smI (fun i => if i = a then 0 else f i a) N := by
    rw [smI_one (f a) a N, if_pos ha, h0, Int.add_zero]
    refine smI_con (fun j _ => ?_)
    by_cases hj : j = a
    · rw [if_pos hj, if_pos hj]
    · rw [if_neg hj, if_neg hj, hs]
  rw [h3, smI_add, ← h4]
  omega
/-- what the tie of two costs, by their cells -/
def ttC (D : jD) (c : Nat → Int) (a b : Nat) : Int := if c a = -1 ∨ c b = -1 then 0 else D 5 (8 * a + b) * (if c b < c a then c a - c b else c b - c a)
def grC (D : jD) (c : Nat → Int) (a : Nat) : Int := if c a = -1 then 0 else D 6 (c a).toNat
def csC (D : jD) (c : Nat → Int) (N : Nat) : Int := smI (grC D c) N + smI (fun a => smI (ttC D c a) N) N / 2
theorem ttC_rg (hD : WD D 61) (hc : ∀ a, -1 ≤ c a ∧ c a ≤ 11) (a b : Nat) : 0 ≤ ttC D c a b ∧ ttC D c a b ≤ 6039 := by
  have h5 := hD.2.2.1 (8 * a + b)
  have ha := hc a
  have hb := hc b
  unfold ttC
  split
  · omega
  · have h1 : 0 ≤ (if c b < c a then c a - c b else c b - c a) ∧ (if c b < c a then c a - c b else c b - c a) ≤ 11 := by split <;> omega
    refine ⟨Int.mul_nonneg h5.1 h1.1, ?_⟩
    have h2 := Int.mul_le_mul h5.2 h1.2 h1.1 (by omega)
    omega
theorem grC_rg (hD : WD D 61) (a : Nat) : 0 ≤ grC D c a ∧ grC D c a ≤ 9 := by
  unfold grC
  split
  · omega
  · exact hD.2.2.2.2.2.1 _
/-- wagon a in cell x: the cost is what it adds, and the same for all x -/
theorem csC_at (hD : WD D 61) {a N : Nat} (ha : a < N) (hN : N ≤ 8) {x y : Int} (hx : 0 ≤ x) (hy : 0 ≤ y) : csC D (upw c a x) N - (smI (ttC D (upw c a x) a) N + D 6 x.toNat) = csC D (upw c a y) N - (smI (ttC D (upw c a y) a) N + D 6 y.toNat) := by
  have key : ∀ z : Int, 0 ≤ z → csC D (upw c a z) N - (smI (ttC D (upw c a z) a) N + D 6 z.toNat) = smI (fun i => if i = a then 0 else grC D c i) N + smI (fun i => smI (fun j => if i = a ∨ j = a then 0 else ttC D c i j) N) N / 2 := by
    intro z hz
    have hsy : ∀ i j, i < N → j < N → ttC D (upw c a z) i j = ttC D (upw c a z) j i := by
      intro i j hi hj
      have h5 := hD.2.2.2.1 i j (by omega) (by omega)
      unfold ttC
      by_cases h1 : upw c a z i = -1
      · rw [if_pos (Or.inl h1), if_pos (Or.inr h1)]
      · by_cases h2 : upw c a z j = -1
        · rw [if_pos (Or.inr h2), if_pos (Or.inl h2)]
        · rw [if_neg (show ¬ (upw c a z i = -1 ∨ upw c a z j = -1) from fun q => q.elim h1 h2), if_neg (show ¬ (upw c a z j = -1 ∨ upw c a z i = -1) from fun q => q.elim h2 h1), h5]
          congr 1
          split <;> split <;> omega
    have h00 : ttC D (upw c a z) a a = 0 := by
      unfold ttC
      rw [hD.2.2.2.2.1 a]
      split
      · rfl
      · rw [Int.zero_mul]
    have e1 : smI (fun i => smI (ttC D (upw c a z) i) N) N = smI (fun i => smI (fun j => if i < N ∧ j < N then ttC D (upw c a z) i j else 0) N) N := smI_con (fun i hi => smI_con (fun j hj => by rw [if_pos ⟨hi, hj⟩]))
    have e2 := sm2 (f := fun i j => if i < N ∧ j < N then ttC D (upw c a z) i j else 0) (a := a) (N := N) (fun i j => by
      by_cases hij : i < N ∧ j < N
      · rw [if_pos hij, if_pos ⟨hij.2, hij.1⟩]
        exact hsy i j hij.1 hij.2
      · rw [if_neg hij, if_neg (fun q => hij ⟨q.2, q.1⟩)]) (by rw [if_pos ⟨ha, ha⟩]; exact h00) ha
    have e3 : smI (fun j => if a < N ∧ j < N then ttC D (upw c a z) a j else 0) N = smI (ttC D (upw c a z) a) N := smI_con (fun j hj => by rw [if_pos ⟨ha, hj⟩])
    have e4 : smI (fun i => smI (fun j => if i = a ∨ j = a then 0 else (if i < N ∧ j < N then ttC D (upw c a z) i j else 0)) N) N = smI (fun i => smI (fun j => if i = a ∨ j = a then 0 else ttC D c i j) N) N := by
      refine smI_con (fun i hi => smI_con (fun j hj => ?_))
      by_cases h : i = a ∨ j = a
      · rw [if_pos h, if_pos h]
      · rw [if_neg h, if_neg h, if_pos ⟨hi, hj⟩]
        unfold ttC
        rw [upw_eq, upw_eq, if_neg (fun q => h (Or.inl q)), if_neg (fun q => h (Or.inr q))]
    have e5 : smI (grC D (upw c a z)) N = smI (fun i => if i = a then 0 else grC D c i) N + D 6 z.toNat := by
      rw [smI_one (grC D (upw c a z)) a N, if_pos ha]
      congr 1
      · refine smI_con (fun i _ => ?_)
        by_cases h : i = a
        · rw [if_pos h, if_pos h]
        · rw [if_neg h, if_neg h]
          unfold grC
          rw [upw_eq, if_neg h]
      · unfold grC
        rw [upw_eq, if_pos rfl, if_neg (by omega)]
    rw [e3, e4] at e2
    unfold csC
    rw [e1, e2, e5]
    omega
  rw [key x hx, key y hy]
theorem m_235 {a : Nat} (hM : MD σ D) (ha : a < 8) (hc : ∀ b, b < 8 → hi σ 91 b = c b) (hr : ∀ b, -1 ≤ c b ∧ c b ≤ 11) : Ct sc 1 235 [vR 63, vI a] σ (fun r τ => r = rV (vI (smI (ttC D c a) (D 0 0).toNat)) ∧ τ = σ) := by
  obtain ⟨hO, hR, hD⟩ := id hM
  have hd := hD.1
  have h29 : hi σ 63 29 = D 0 0 := hR.1.1
  obtain ⟨n, hn⟩ := Int.eq_ofNat_of_zero_le (show 0 ≤ D 0 0 by omega)
  rw [hn, Int.toNat_natCast]
  rw [hn] at h29
  refine Ct.of (n := 0) (L := [vR 63, vI a, vU, vU]) cov_235 rfl (Nat.le_of_ble_eq_true rfl) ?_
  unfold T_235
  simp only [↓x_eInt, ↓x_eLng, ↓x_eNul, ↓x_eStr, ↓x_eLoc, ↓x_eLol, ↓x_eLor, ↓x_eBin, ↓x_eDiv, ↓x_eRem, ↓x_eNeg, ↓x_eLbin, ↓x_eLdiv, ↓x_eLrem, ↓x_eLshl, ↓x_eLshr, ↓x_eI2l, ↓x_eL2i, ↓x_eFldI, ↓x_eFldL, ↓x_eFldP, ↓x_eAldI, ↓x_eAldS, ↓x_eAldL, ↓x_eAldP, ↓x_eLen, ↓x_eLenS, ↓x_eCall, ↓x_eCalv, ↓x_eMin, ↓x_eMax, ↓x_eLmin, ↓x_eAbs, ↓x_eSlen, ↓x_eSat, ↓x_eIte, ↓x_eNewa, ↓x_eNewo, ↓x_esN, ↓x_esC, ↓x_cCmp, ↓x_cCmpz, ↓x_cLcmp, ↓x_cIsn, ↓x_cNot, ↓x_cAnd, ↓x_cOr, ↓x_tSkip, ↓x_tSup, ↓x_tSeq, ↓x_tSetI, ↓x_tSetL, ↓x_tSetR, ↓x_tInc, ↓x_tPutI, ↓x_tPutL, ↓x_tPutP, ↓x_tPutc, ↓x_tAstI, ↓x_tAstL, ↓x_tAstP, ↓x_tAstcI, ↓x_tAstcL, ↓x_tAcpI, ↓x_tAcpL, ↓x_tExp, ↓x_tExv, ↓x_tExw, ↓x_tIte, ↓x_tSw, ↓x_tRet, ↓x_tRetB, ↓x_tRetL, ↓x_tRetv, ↓x_tBrk, ↓x_tCont, ↓x_tThr, ↓x_wD, ↓x_wK, ↓x_jIx, ↓x_jOb, ↓x_jInt_I, ↓x_jLng_L, ↓x_jRef_R, ↓x_jStr_S, ↓x_jPls_R, ↓x_jPls_N, ↓x_jAny_R, ↓x_jAny_S, ↓jIntg_0, ↓jLngg_0, ↓jRefg_0, ↓jAnyg_0, ↓jStrg_0, ↓jPlsg_0, ↓jst_x0, ↓jst2_x0, ↓jIntg_1, ↓jLngg_1, ↓jRefg_1, ↓jAnyg_1, ↓jst_x1, ↓jst2_x1, ↓jIntg_2, ↓jLngg_2, ↓jRefg_2, ↓jAnyg_2, ↓jst_x2, ↓jst2_x2, ↓jIntg_3, ↓jLngg_3, ↓jRefg_3, ↓jAnyg_3, ↓jst_x3, ↓jst2_x3, ↓jIntg_4, ↓jLngg_4, ↓jRefg_4, ↓jAnyg_4, ↓jst_x4, ↓jst2_x4, ↓jIntg_5, ↓jLngg_5, ↓jRefg_5, ↓jAnyg_5, ↓jst_x5, ↓jst2_x5, ↓jIntg_6, ↓jLngg_6, ↓jRefg_6, ↓jAnyg_6, ↓jst_x6, ↓jst2_x6, ↓jIntg_7, ↓jLngg_7, ↓jRefg_7, ↓jAnyg_7, ↓jst_x7, ↓jst2_x7, ↓jIntg_8, ↓jLngg_8, ↓jRefg_8, ↓jAnyg_8, ↓jst_x8, ↓jst2_x8, ↓jIntg_9, ↓jLngg_9, ↓jRefg_9, ↓jAnyg_9, ↓jst_x9, ↓jst2_x9, ↓jIntg_10, ↓jLngg_10, ↓jRefg_10, ↓jAnyg_10, ↓jst_x10, ↓jst2_x10, ↓jIntg_11, ↓jLngg_11, ↓jRefg_11, ↓jAnyg_11, ↓jst_x11, ↓jst2_x11, ↓jIntg_12, ↓jLngg_12, ↓jRefg_12, ↓jAnyg_12, ↓jst_x12, ↓jst2_x12, ↓jIntg_13, ↓jLngg_13, ↓jRefg_13, ↓jAnyg_13, ↓jst_x13, ↓jst2_x13, ↓jIntg_14, ↓jLngg_14, ↓jRefg_14, ↓jAnyg_14, ↓jst_x14, ↓jst2_x14, ↓ex_some, jpv_some, jpv_none, jPls_pv, jisL_I, jisL_L, jisL_R, jisL_S, jisL_N, jisL_U, j_op0, j_op1, j_op2, j_c2, true_and, and_true, true_or, or_true, Int.toNat_natCast, nat1, ex_row, ex_row2, jwb1, jwb, jwb2, Classical.not_not, not_true_eq_false, false_implies, true_implies, ne_eq, not_false_eq_true, rV_inj, vI_inj, vL_inj, hi_tp, Nat.reduceEqDiff, Nat.reduceLeDiff, Nat.reduceAdd, Int.reduceLE, Int.reduceLT, Int.reduceEq, Int.reduceNeg, Int.reduceToNat, Int.reduceAdd, Int.reduceSub, Int.reduceMul, oS63 hO]
  refine tLoop_go (fun y : Nat => n - y) (fun y => [vR 63, vI a, vI (smI (ttC D c a) y), vI y]) (fun y τ => y ≤ n ∧ τ = σ) (fun y τ => y = n ∧ τ = σ) 0 rfl ⟨Nat.zero_le _, rfl⟩ ?_ ?_
  · rintro y τ N' N ⟨hy, rfl⟩ hN hE
    have ca := hc a ha
    have ra := hr a
    have ry := hr y
    simp (disch := omega) only [↓x_eInt, ↓x_eLng, ↓x_eNul, ↓x_eStr, ↓x_eLoc, ↓x_eLol, ↓x_eLor, ↓x_eBin, ↓x_eDiv, ↓x_eRem, ↓x_eNeg, ↓x_eLbin, ↓x_eLdiv, ↓x_eLrem, ↓x_eLshl, ↓x_eLshr, ↓x_eI2l, ↓x_eL2i, ↓x_eFldI, ↓x_eFldL, ↓x_eFldP, ↓x_eAldI, ↓x_eAldS, ↓x_eAldL, ↓x_eAldP, ↓x_eLen, ↓x_eLenS, ↓x_eCall, ↓x_eCalv, ↓x_eMin, ↓x_eMax, ↓x_eLmin, ↓x_eAbs, ↓x_eSlen, ↓x_eSat, ↓x_eIte, ↓x_eNewa, ↓x_eNewo, ↓x_esN, ↓x_esC, ↓x_cCmp, ↓x_cCmpz, ↓x_cLcmp, ↓x_cIsn, ↓x_cNot, ↓x_cAnd, ↓x_cOr, ↓x_tSkip, ↓x_tSup, ↓x_tSeq, ↓x_tSetI, ↓x_tSetL, ↓x_tSetR, ↓x_tInc, ↓x_tPutI, ↓x_tPutL, ↓x_tPutP, ↓x_tPutc, ↓x_tAstI, ↓x_tAstL, ↓x_tAstP, ↓x_tAstcI, ↓x_tAstcL, ↓x_tAcpI, ↓x_tAcpL, ↓x_tExp, ↓x_tExv, ↓x_tExw, ↓x_tIte, ↓x_tSw, ↓x_tRet, ↓x_tRetB, ↓x_tRetL, ↓x_tRetv, ↓x_tBrk, ↓x_tCont, ↓x_tThr, ↓x_wD, ↓x_wK, ↓x_jIx, ↓x_jOb, ↓x_jInt_I, ↓x_jLng_L, ↓x_jRef_R, ↓x_jStr_S, ↓x_jPls_R, ↓x_jPls_N, ↓x_jAny_R, ↓x_jAny_S, ↓jIntg_0, ↓jLngg_0, ↓jRefg_0, ↓jAnyg_0, ↓jStrg_0, ↓jPlsg_0, ↓jst_x0, ↓jst2_x0, ↓jIntg_1, ↓jLngg_1, ↓jRefg_1, ↓jAnyg_1, ↓jst_x1, ↓jst2_x1, ↓jIntg_2, ↓jLngg_2, ↓jRefg_2, ↓jAnyg_2, ↓jst_x2, ↓jst2_x2, ↓jIntg_3, ↓jLngg_3, ↓jRefg_3, ↓jAnyg_3, ↓jst_x3, ↓jst2_x3, ↓jIntg_4, ↓jLngg_4, ↓jRefg_4, ↓jAnyg_4, ↓jst_x4, ↓jst2_x4, ↓jIntg_5, ↓jLngg_5, ↓jRefg_5, ↓jAnyg_5, ↓jst_x5, ↓jst2_x5, ↓jIntg_6, ↓jLngg_6, ↓jRefg_6, ↓jAnyg_6, ↓jst_x6, ↓jst2_x6, ↓jIntg_7, ↓jLngg_7, ↓jRefg_7, ↓jAnyg_7, ↓jst_x7, ↓jst2_x7, ↓jIntg_8, ↓jLngg_8, ↓jRefg_8, ↓jAnyg_8, ↓jst_x8, ↓jst2_x8, ↓jIntg_9, ↓jLngg_9, ↓jRefg_9, ↓jAnyg_9, ↓jst_x9, ↓jst2_x9, ↓jIntg_10, ↓jLngg_10, ↓jRefg_10, ↓jAnyg_10, ↓jst_x10, ↓jst2_x10, ↓jIntg_11, ↓jLngg_11, ↓jRefg_11, ↓jAnyg_11, ↓jst_x11, ↓jst2_x11, ↓jIntg_12, ↓jLngg_12, ↓jRefg_12, ↓jAnyg_12, ↓jst_x12, ↓jst2_x12, ↓jIntg_13, ↓jLngg_13, ↓jRefg_13, ↓jAnyg_13, ↓jst_x13, ↓jst2_x13, ↓jIntg_14, ↓jLngg_14, ↓jRefg_14, ↓jAnyg_14, ↓jst_x14, ↓jst2_x14, ↓ex_some, jpv_some, jpv_none, jPls_pv, jisL_I, jisL_L, jisL_R, jisL_S, jisL_N, jisL_U, j_op0, j_op1, j_op2, j_c2, true_and, and_true, true_or, or_true, Int.toNat_natCast, nat1, ex_row, ex_row2, jwb1, jwb, jwb2, Classical.not_not, not_true_eq_false, false_implies, true_implies, ne_eq, not_false_eq_true, rV_inj, vI_inj, vL_inj, hi_tp, Nat.reduceEqDiff, Nat.reduceLeDiff, Nat.reduceAdd, Int.reduceLE, Int.reduceLT, Int.reduceEq, Int.reduceNeg, Int.reduceToNat, Int.reduceAdd, Int.reduceSub, Int.reduceMul, w_id, hsh_si, hp_si, hi_si_ne, oS63 hO, h29]
    refine ⟨fun hlt => ?_, fun hlt => hE y _ ⟨by omega, rfl⟩⟩
    have cy := hc y (by omega)
    have h5 := hR.2.2.1 (8 * a + y) (by omega)
    have hnx := hN (y + 1) _ (by omega) ⟨by omega, rfl⟩
    rw [smI, ttC] at hnx
    simp (disch := omega) only [↓x_eInt, ↓x_eLng, ↓x_eNul, ↓x_eStr, ↓x_eLoc, ↓x_eLol, ↓x_eLor, ↓x_eBin, ↓x_eDiv, ↓x_eRem, ↓x_eNeg, ↓x_eLbin, ↓x_eLdiv, ↓x_eLrem, ↓x_eLshl, ↓x_eLshr, ↓x_eI2l, ↓x_eL2i, ↓x_eFldI, ↓x_eFldL, ↓x_eFldP, ↓x_eAldI, ↓x_eAldS, ↓x_eAldL, ↓x_eAldP, ↓x_eLen, ↓x_eLenS, ↓x_eCall, ↓x_eCalv, ↓x_eMin, ↓x_eMax, ↓x_eLmin, ↓x_eAbs, ↓x_eSlen, ↓x_eSat, ↓x_eIte, ↓x_eNewa, ↓x_eNewo, ↓x_esN, ↓x_esC, ↓x_cCmp, ↓x_cCmpz, ↓x_cLcmp, ↓x_cIsn, ↓x_cNot, ↓x_cAnd, ↓x_cOr, ↓x_tSkip, ↓x_tSup, ↓x_tSeq, ↓x_tSetI, ↓x_tSetL, ↓x_tSetR, ↓x_tInc, ↓x_tPutI, ↓x_tPutL, ↓x_tPutP, ↓x_tPutc, ↓x_tAstI, ↓x_tAstL, ↓x_tAstP, ↓x_tAstcI, ↓x_tAstcL, ↓x_tAcpI, ↓x_tAcpL, ↓x_tExp, ↓x_tExv, ↓x_tExw, ↓x_tIte, ↓x_tSw, ↓x_tRet, ↓x_tRetB, ↓x_tRetL, ↓x_tRetv, ↓x_tBrk, ↓x_tCont, ↓x_tThr, ↓x_wD, ↓x_wK, ↓x_jIx, ↓x_jOb, ↓x_jInt_I, ↓x_jLng_L, ↓x_jRef_R, ↓x_jStr_S, ↓x_jPls_R, ↓x_jPls_N, ↓x_jAny_R, ↓x_jAny_S, ↓jIntg_0, ↓jLngg_0, ↓jRefg_0, ↓jAnyg_0, ↓jStrg_0, ↓jPlsg_0, ↓jst_x0, ↓jst2_x0, ↓jIntg_1, ↓jLngg_1, ↓jRefg_1, ↓jAnyg_1, ↓jst_x1, ↓jst2_x1, ↓jIntg_2, ↓jLngg_2, ↓jRefg_2, ↓jAnyg_2, ↓jst_x2, ↓jst2_x2, ↓jIntg_3, ↓jLngg_3, ↓jRefg_3, ↓jAnyg_3, ↓jst_x3, ↓jst2_x3, ↓jIntg_4, ↓jLngg_4, ↓jRefg_4, ↓jAnyg_4, ↓jst_x4, ↓jst2_x4, ↓jIntg_5, ↓jLngg_5, ↓jRefg_5, ↓jAnyg_5, ↓jst_x5, ↓jst2_x5, ↓jIntg_6, ↓jLngg_6, ↓jRefg_6, ↓jAnyg_6, ↓jst_x6, ↓jst2_x6, ↓jIntg_7, ↓jLngg_7, ↓jRefg_7, ↓jAnyg_7, ↓jst_x7, ↓jst2_x7, ↓jIntg_8, ↓jLngg_8, ↓jRefg_8, ↓jAnyg_8, ↓jst_x8, ↓jst2_x8, ↓jIntg_9, ↓jLngg_9, ↓jRefg_9, ↓jAnyg_9, ↓jst_x9, ↓jst2_x9, ↓jIntg_10, ↓jLngg_10, ↓jRefg_10, ↓jAnyg_10, ↓jst_x10, ↓jst2_x10, ↓jIntg_11, ↓jLngg_11, ↓jRefg_11, ↓jAnyg_11, ↓jst_x11, ↓jst2_x11, ↓jIntg_12, ↓jLngg_12, ↓jRefg_12, ↓jAnyg_12, ↓jst_x12, ↓jst2_x12, ↓jIntg_13, ↓jLngg_13, ↓jRefg_13, ↓jAnyg_13, ↓jst_x13, ↓jst2_x13, ↓jIntg_14, ↓jLngg_14, ↓jRefg_14, ↓jAnyg_14, ↓jst_x14, ↓jst2_x14, ↓ex_some, jpv_some, jpv_none, jPls_pv, jisL_I, jisL_L, jisL_R, jisL_S, jisL_N, jisL_U, j_op0, j_op1, j_op2, j_c2, true_and, and_true, true_or, or_true, Int.toNat_natCast, nat1, ex_row, ex_row2, jwb1, jwb, jwb2, Classical.not_not, not_true_eq_false, false_implies, true_implies, ne_eq, not_false_eq_true, rV_inj, vI_inj, vL_inj, hi_tp, Nat.reduceEqDiff, Nat.reduceLeDiff, Nat.reduceAdd, Int.reduceLE, Int.reduceLT, Int.reduceEq, Int.reduceNeg, Int.reduceToNat, Int.reduceAdd, Int.reduceSub, Int.reduceMul, w_id, hsh_si, hp_si, hi_si_ne, oS91 hO, oP63_60 hO, oS73 hO, oP63_17 hO, ca, cy]
    rw [show (8 * (a : Int) + y).toNat = 8 * a + y by omega, h5]
    refine ⟨by omega, by omega, fun g => ?_, fun g => ⟨by omega, by omega, fun g2 => ?_, fun g2 => ⟨by omega, by omega, by omega, by omega, by omega, by omega, fun g3 => ⟨by omega, by omega, by omega, by omega, ?_⟩, fun g3 => ⟨by omega, by omega, by omega, by omega, ?_⟩⟩⟩⟩
    · rw [if_pos (Or.inl g)] at hnx; exact hnx
    · rw [if_pos (Or.inr g2)] at hnx; exact hnx
    · rw [if_neg (fun z => z.elim g g2), if_pos g3] at hnx; exact hnx
    · rw [if_neg (fun z => z.elim g g2), if_neg g3] at hnx; exact hnx
  · rintro y τ ⟨rfl, rfl⟩
    simp (disch := omega) only [↓x_eInt, ↓x_eLng, ↓x_eNul, ↓x_eStr, ↓x_eLoc, ↓x_eLol, ↓x_eLor, ↓x_eBin, ↓x_eDiv, ↓x_eRem, ↓x_eNeg, ↓x_eLbin, ↓x_eLdiv, ↓x_eLrem, ↓x_eLshl, ↓x_eLshr, ↓x_eI2l, ↓x_eL2i, ↓x_eFldI, ↓x_eFldL, ↓x_eFldP, ↓x_eAldI, ↓x_eAldS, ↓x_eAldL, ↓x_eAldP, ↓x_eLen, ↓x_eLenS, ↓x_eCall, ↓x_eCalv, ↓x_eMin, ↓x_eMax, ↓x_eLmin, ↓x_eAbs, ↓x_eSlen, ↓x_eSat, ↓x_eIte, ↓x_eNewa, ↓x_eNewo, ↓x_esN, ↓x_esC, ↓x_cCmp, ↓x_cCmpz, ↓x_cLcmp, ↓x_cIsn, ↓x_cNot, ↓x_cAnd, ↓x_cOr, ↓x_tSkip, ↓x_tSup, ↓x_tSeq, ↓x_tSetI, ↓x_tSetL, ↓x_tSetR, ↓x_tInc, ↓x_tPutI, ↓x_tPutL, ↓x_tPutP, ↓x_tPutc, ↓x_tAstI, ↓x_tAstL, ↓x_tAstP, ↓x_tAstcI, ↓x_tAstcL, ↓x_tAcpI, ↓x_tAcpL, ↓x_tExp, ↓x_tExv, ↓x_tExw, ↓x_tIte, ↓x_tSw, ↓x_tRet, ↓x_tRetB, ↓x_tRetL, ↓x_tRetv, ↓x_tBrk, ↓x_tCont, ↓x_tThr, ↓x_wD, ↓x_wK, ↓x_jIx, ↓x_jOb, ↓x_jInt_I, ↓x_jLng_L, ↓x_jRef_R, ↓x_jStr_S, ↓x_jPls_R, ↓x_jPls_N, ↓x_jAny_R, ↓x_jAny_S, ↓jIntg_0, ↓jLngg_0, ↓jRefg_0, ↓jAnyg_0, ↓jStrg_0, ↓jPlsg_0, ↓jst_x0, ↓jst2_x0, ↓jIntg_1, ↓jLngg_1, ↓jRefg_1, ↓jAnyg_1, ↓jst_x1, ↓jst2_x1, ↓jIntg_2, ↓jLngg_2, ↓jRefg_2, ↓jAnyg_2, ↓jst_x2, ↓jst2_x2, ↓jIntg_3, ↓jLngg_3, ↓jRefg_3, ↓jAnyg_3, ↓jst_x3, ↓jst2_x3, ↓jIntg_4, ↓jLngg_4, ↓jRefg_4, ↓jAnyg_4, ↓jst_x4, ↓jst2_x4, ↓jIntg_5, ↓jLngg_5, ↓jRefg_5, ↓jAnyg_5, ↓jst_x5, ↓jst2_x5, ↓jIntg_6, ↓jLngg_6, ↓jRefg_6, ↓jAnyg_6, ↓jst_x6, ↓jst2_x6, ↓jIntg_7, ↓jLngg_7, ↓jRefg_7, ↓jAnyg_7, ↓jst_x7, ↓jst2_x7, ↓jIntg_8, ↓jLngg_8, ↓jRefg_8, ↓jAnyg_8, ↓jst_x8, ↓jst2_x8, ↓jIntg_9, ↓jLngg_9, ↓jRefg_9, ↓jAnyg_9, ↓jst_x9, ↓jst2_x9, ↓jIntg_10, ↓jLngg_10, ↓jRefg_10, ↓jAnyg_10, ↓jst_x10, ↓jst2_x10, ↓jIntg_11, ↓jLngg_11, ↓jRefg_11, ↓jAnyg_11, ↓jst_x11, ↓jst2_x11, ↓jIntg_12, ↓jLngg_12, ↓jRefg_12, ↓jAnyg_12, ↓jst_x12, ↓jst2_x12, ↓jIntg_13, ↓jLngg_13, ↓jRefg_13, ↓jAnyg_13, ↓jst_x13, ↓jst2_x13, ↓jIntg_14, ↓jLngg_14, ↓jRefg_14, ↓jAnyg_14, ↓jst_x14, ↓jst2_x14, ↓ex_some, jpv_some, jpv_none, jPls_pv, jisL_I, jisL_L, jisL_R, jisL_S, jisL_N, jisL_U, j_op0, j_op1, j_op2, j_c2, true_and, and_true, true_or, or_true, Int.toNat_natCast, nat1, ex_row, ex_row2, jwb1, jwb, jwb2, Classical.not_not, not_true_eq_false, false_implies, true_implies, ne_eq, not_false_eq_true, rV_inj, vI_inj, vL_inj, hi_tp, Nat.reduceEqDiff, Nat.reduceLeDiff, Nat.reduceAdd, Int.reduceLE, Int.reduceLT, Int.reduceEq, Int.reduceNeg, Int.reduceToNat, Int.reduceAdd, Int.reduceSub, Int.reduceMul, w_id, hsh_si, hp_si, hi_si_ne]
end COST
