/-! The class runs a WORK -/
section CRUN
variable {sc : jSc} {σ τ : jH} {D : jD} {cd : lC} {w : Nat → Int} {q t : Nat} {f : Int} {S : Nat → Nat → Prop}
theorem TW_fr (h : TW σ q D w f) (hF : Fr S σ τ) (hS : ∀ r k, q ≤ r → r ≤ q + 3 → ¬ S r k) : TW τ q D w f := by
  have e : ∀ r, q ≤ r → r ≤ q + 3 → hi τ r = hi σ r := fun r a b => hF.ir (fun k => hS r k a b)
  refine ⟨OW_fr h.1 hF, ?_⟩
  rw [e q (by omega) (by omega), e (q + 1) (by omega) (by omega), e (q + 2) (by omega) (by omega), e (q + 3) (by omega) (by omega)]
  exact h.2
theorem NT_fr (h : NT σ q w) (hF : Fr S σ τ) (hS : ∀ k, ¬ S (q + 4) k) : NT τ q w := NT_keep h hF hS (fun _ _ _ => rfl)
theorem CX_fr (h : CX σ t D) (hF : Fr S σ τ) (hS : ∀ r k, t ≤ r → r ≤ t + 11 → ¬ S r k) : CX τ t D := by
  have e : ∀ r, t ≤ r → r ≤ t + 11 → hi τ r = hi σ r := fun r a b => hF.ir (fun k => hS r k a b)
  refine ⟨?_, ?_, h.2.2⟩
  · unfold OT; rw [hF.sh, hF.hp]; exact h.1
  · unfold RDc
    rw [e t (by omega) (by omega), e (t + 1) (by omega) (by omega), e (t + 2) (by omega) (by omega), e (t + 3) (by omega) (by omega), e (t + 4) (by omega) (by omega), e (t + 5) (by omega) (by omega), e (t + 6) (by omega) (by omega), e (t + 7) (by omega) (by omega), e (t + 8) (by omega) (by omega), e (t + 9) (by omega) (by omega), e (t + 10) (by omega) (by omega)]
    exact h.2.1
theorem LC_fr {l : lC} {V : Int} (h : LC σ l V) (hF : Fr S σ τ) (h4 : ∀ k, ¬ S 4 k) (h3 : ∀ k, k ≠ 6 → ¬ S 3 k) : LC τ l V := by
  unfold LC
  rw [hF.ir h4, hF.i (h3 5 (by decide)), hF.i (h3 7 (by decide)), hF.i (h3 8 (by decide)), hF.i (h3 9 (by decide))]
  exact h
/-- an open loop: turns left, where it starts, its body, what follows it -/
abbrev jFm : Type := Nat × Nat × Wk × Wk
def fEnd (z : Nat) : List jFm → Nat
  | [] => z
  | x :: _ => x.2.1 + 1 + clen x.2.2.1
def fSum : List jFm → Nat
  | [] => 0
  | x :: l => x.1 + fSum l
def fGo (D : jD) (cd : lC) (f : Int) : List jFm → jWs → jWs
  | [], s => s
  | x :: l, s => fGo D cd f l (runW D cd f x.2.2.2 (itr (runW D cd f x.2.2.1) (x.1 - 1) s))
def fOk (D : jD) (r0 r1 r2 : Nat → Int) (z : Nat) (r17 : Nat → Int) : List jFm → Prop
  | [] => True
  | x :: l => (1 ≤ x.1 ∧ x.1 ≤ 20) ∧ okW D x.2.2.1 ∧ okW D x.2.2.2 ∧ CCd r0 r1 r2 x.2.2.1 (x.2.1 + 1) ∧ r0 (x.2.1 + 1 + clen x.2.2.1) = 5 ∧ r1 (x.2.1 + 1 + clen x.2.2.1) = x.2.1 ∧ CCd r0 r1 r2 x.2.2.2 (x.2.1 + 2 + clen x.2.2.1) ∧ x.2.1 + 2 + clen x.2.2.1 + clen x.2.2.2 = fEnd z l ∧ r17 l.length = x.1 ∧ (l.length + dpt x.2.2.1 + 1 ≤ 6 ∧ l.length + dpt x.2.2.2 ≤ 6) ∧ fOk D r0 r1 r2 z r17 l
theorem fOk_congr {r0 r1 r2 u v : Nat → Int} {z : Nat} : ∀ {l : List jFm}, (∀ j, j < l.length → v j = u j) → fOk D r0 r1 r2 z u l → fOk D r0 r1 r2 z v l
  | [], _, _ => trivial
  | x :: l, h, ⟨a1, a2, a3, a4, a5, a6, a7, a8, a9, a10, a11⟩ => ⟨a1, a2, a3, a4, a5, a6, a7, a8, by rw [h l.length (by simp)]; exact a9, a10, fOk_congr (fun j hj => h j (by simp; omega)) a11⟩
theorem fEnd_le {r0 r1 r2 u : Nat → Int} {z : Nat} : ∀ {l : List jFm}, fOk D r0 r1 r2 z u l → fEnd z l ≤ z
  | [], _ => Nat.le_refl _
  | x :: l, ⟨_, _, _, _, _, _, _, a8, _, _, a11⟩ => by
    have := fEnd_le a11
    simp only [fEnd]
    omega
theorem fGo_stop {r0 r1 r2 u : Nat → Int} {z : Nat} : ∀ {l : List jFm} {s : jWs}, fOk D r0 r1 r2 z u l → 200 ≤ s.2.1 → fGo D cd f l s = s
  | [], _, _, _ => rfl
  | x :: l, s, ⟨_, a2, a3, _, _, _, _, _, _, _, a11⟩, h => by
    rw [fGo, itr_stop a2 _ h, run_stop a3 h]
    exact fGo_stop a11 h
/-- what a run may write -/
def Srn (q : Nat) : Nat → Nat → Prop := fun r k => Sgo q r k ∨ r = 17 ∨ (r = 12 ∧ 6 ≤ k)
def Srs : Nat → Nat → Prop := fun r k => r = 17 ∨ (r = 12 ∧ 6 ≤ k)
set_option maxRecDepth 20000 in
theorem c_58 {V : Int} {k : Wk} {g : Nat} (hO : Ok σ) (hT : TW σ q D w g) (hX : CX σ t D) (hW : WW D w) (hNT : NT σ q w) (hC : LC σ (lX cd) V) (hK : KC σ D (lX cd) V) (hV : 0 ≤ V ∧ V < 10000) (hD : okd 32 (lX cd) 0) (hF1 : fd (lX cd) 0 = 1) (hg : g ≤ 1) (hq : q + 4 < t ∨ t + 11 < q)
    (hk : okW D k) (hCd : CCd (hi σ 13) (hi σ 14) (hi σ 15) k 0) (h5 : hi σ 12 5 = clen k) (hcl : clen k ≤ 150) (hdp : dpt k ≤ 6) :
    Ct sc 7 58 [vR 12, vR q, vR t, vR 3] σ (fun r τ => r = rN ∧ TW τ q D (runW D cd g k (w, 0, 0, 0)).1 g ∧ NT τ q (runW D cd g k (w, 0, 0, 0)).1 ∧ KC τ D (lX cd) V ∧ hi τ 12 7 = (runW D cd g k (w, 0, 0, 0)).2.2.1 ∧ hi τ 12 8 = (runW D cd g k (w, 0, 0, 0)).2.2.2 ∧ Fr (Srn q) σ τ) := by
  have hl := OWl hT.1
  have ht := hX.1.1
  have hs : ∀ {σ τ : jH}, Fr Srs σ τ → Fr (Srn q) σ τ := fun h => h.mono (fun r k h => by unfold Srs at h; unfold Srn; omega)
  have kT : ∀ {σ τ : jH} {w : Nat → Int}, TW σ q D w g → Fr Srs σ τ → TW τ q D w g := fun h hF => TW_fr h hF (fun r k a b => by unfold Srs; omega)
  have kN : ∀ {σ τ : jH} {w : Nat → Int}, NT σ q w → Fr Srs σ τ → NT τ q w := fun h hF => NT_fr h hF (fun k => by unfold Srs; omega)
  have kK : ∀ {σ τ : jH}, KC σ D (lX cd) V → Fr Srs σ τ → KC τ D (lX cd) V := fun h hF => KC_q h hF (fun k => by unfold Srs; omega)
  refine Ct.of (n := 6) (L := [vR 12, vR q, vR t, vR 3, vU, vU, vU]) cov_58 rfl (Nat.le_of_ble_eq_true rfl) ?_
  unfold T_58
  simp only [↓x_eInt, ↓x_eLng, ↓x_eNul, ↓x_eStr, ↓x_eLoc, ↓x_eLol, ↓x_eLor, ↓x_eBin, ↓x_eDiv, ↓x_eRem, ↓x_eNeg, ↓x_eLbin, ↓x_eLdiv, ↓x_eLrem, ↓x_eLshl, ↓x_eLshr, ↓x_eI2l, ↓x_eL2i, ↓x_eFldI, ↓x_eFldL, ↓x_eFldP, ↓x_eAldI, ↓x_eAldS, ↓x_eAldL, ↓x_eAldP, ↓x_eLen, ↓x_eLenS, ↓x_eCall, ↓x_eCalv, ↓x_eMin, ↓x_eMax, ↓x_eLmin, ↓x_eAbs, ↓x_eSlen, ↓x_eSat, ↓x_eIte, ↓x_eNewa, ↓x_eNewo, ↓x_esN, ↓x_esC, ↓x_cCmp, ↓x_cCmpz, ↓x_cLcmp, ↓x_cIsn, ↓x_cNot, ↓x_cAnd, ↓x_cOr, ↓x_tSkip, ↓x_tSup, ↓x_tSeq, ↓x_tSetI, ↓x_tSetL, ↓x_tSetR, ↓x_tInc, ↓x_tPutI, ↓x_tPutL, ↓x_tPutP, ↓x_tPutc, ↓x_tAstI, ↓x_tAstL, ↓x_tAstP, ↓x_tAstcI, ↓x_tAstcL, ↓x_tAcpI, ↓x_tAcpL, ↓x_tExp, ↓x_tExv, ↓x_tExw, ↓x_tIte, ↓x_tSw, ↓x_tRet, ↓x_tRetB, ↓x_tRetL, ↓x_tRetv, ↓x_tBrk, ↓x_tCont, ↓x_tThr, ↓x_wD, ↓x_wK, ↓x_jIx, ↓x_jOb, ↓x_jInt_I, ↓x_jLng_L, ↓x_jRef_R, ↓x_jStr_S, ↓x_jPls_R, ↓x_jPls_N, ↓x_jAny_R, ↓x_jAny_S, ↓jIntg_0, ↓jLngg_0, ↓jRefg_0, ↓jAnyg_0, ↓jStrg_0, ↓jPlsg_0, ↓jst_x0, ↓jst2_x0, ↓jIntg_1, ↓jLngg_1, ↓jRefg_1, ↓jAnyg_1, ↓jst_x1, ↓jst2_x1, ↓jIntg_2, ↓jLngg_2, ↓jRefg_2, ↓jAnyg_2, ↓jst_x2, ↓jst2_x2, ↓jIntg_3, ↓jLngg_3, ↓jRefg_3, ↓jAnyg_3, ↓jst_x3, ↓jst2_x3, ↓jIntg_4, ↓jLngg_4, ↓jRefg_4, ↓jAnyg_4, ↓jst_x4, ↓jst2_x4, ↓jIntg_5, ↓jLngg_5, ↓jRefg_5, ↓jAnyg_5, ↓jst_x5, ↓jst2_x5, ↓jIntg_6, ↓jLngg_6, ↓jRefg_6, ↓jAnyg_6, ↓jst_x6, ↓jst2_x6, ↓jIntg_7, ↓jLngg_7, ↓jRefg_7, ↓jAnyg_7, ↓jst_x7, ↓jst2_x7, ↓jIntg_8, ↓jLngg_8, ↓jRefg_8, ↓jAnyg_8, ↓jst_x8, ↓jst2_x8, ↓jIntg_9, ↓jLngg_9, ↓jRefg_9, ↓jAnyg_9, ↓jst_x9, ↓jst2_x9, ↓jIntg_10, ↓jLngg_10, ↓jRefg_10, ↓jAnyg_10, ↓jst_x10, ↓jst2_x10, ↓jIntg_11, ↓jLngg_11, ↓jRefg_11, ↓jAnyg_11, ↓jst_x11, ↓jst2_x11, ↓jIntg_12, ↓jLngg_12, ↓jRefg_12, ↓jAnyg_12, ↓jst_x12, ↓jst2_x12, ↓jIntg_13, ↓jLngg_13, ↓jRefg_13, ↓jAnyg_13, ↓jst_x13, ↓jst2_x13, ↓jIntg_14, ↓jLngg_14, ↓jRefg_14, ↓jAnyg_14, ↓jst_x14, ↓jst2_x14, ↓ex_some, jpv_some, jpv_none, jPls_pv, jisL_I, jisL_L, jisL_R, jisL_S, jisL_N, jisL_U, j_op0, j_op1, j_op2, j_c2, true_and, and_true, true_or, or_true, Int.toNat_natCast, nat1, ex_row, ex_row2, jwb1, jwb, jwb2, Classical.not_not, not_true_eq_false, false_implies, true_implies, ne_eq, not_false_eq_true, rV_inj, vI_inj, vL_inj, hi_tp, Nat.reduceEqDiff, Nat.reduceLeDiff, Nat.reduceAdd, Int.reduceLE, Int.reduceLT, Int.reduceEq, Int.reduceNeg, Int.reduceToNat, Int.reduceAdd, Int.reduceSub, Int.reduceMul, oS12 hO, oS13 hO, oS14 hO, oS15 hO, oS16 hO, oS17 hO, oP12_0 hO, oP12_1 hO, oP12_2 hO, oP12_3 hO, oP12_4 hO, jf_7_5, jf_7_6, jf_7_7, jf_7_8]
  have hF0 : Fr Srs σ (hsi (hsi (hsi σ 12 7 0) 12 8 0) 12 6 0) := (((Fr.refl _ _).si (by unfold Srs; omega)).si (by unfold Srs; omega)).si (by unfold Srs; omega)
  simp (disch := omega) only [↓x_eInt, ↓x_eLng, ↓x_eNul, ↓x_eStr, ↓x_eLoc, ↓x_eLol, ↓x_eLor, ↓x_eBin, ↓x_eDiv, ↓x_eRem, ↓x_eNeg, ↓x_eLbin, ↓x_eLdiv, ↓x_eLrem, ↓x_eLshl, ↓x_eLshr, ↓x_eI2l, ↓x_eL2i, ↓x_eFldI, ↓x_eFldL, ↓x_eFldP, ↓x_eAldI, ↓x_eAldS, ↓x_eAldL, ↓x_eAldP, ↓x_eLen, ↓x_eLenS, ↓x_eCall, ↓x_eCalv, ↓x_eMin, ↓x_eMax, ↓x_eLmin, ↓x_eAbs, ↓x_eSlen, ↓x_eSat, ↓x_eIte, ↓x_eNewa, ↓x_eNewo, ↓x_esN, ↓x_esC, ↓x_cCmp, ↓x_cCmpz, ↓x_cLcmp, ↓x_cIsn, ↓x_cNot, ↓x_cAnd, ↓x_cOr, ↓x_tSkip, ↓x_tSup, ↓x_tSeq, ↓x_tSetI, ↓x_tSetL, ↓x_tSetR, ↓x_tInc, ↓x_tPutI, ↓x_tPutL, ↓x_tPutP, ↓x_tPutc, ↓x_tAstI, ↓x_tAstL, ↓x_tAstP, ↓x_tAstcI, ↓x_tAstcL, ↓x_tAcpI, ↓x_tAcpL, ↓x_tExp, ↓x_tExv, ↓x_tExw, ↓x_tIte, ↓x_tSw, ↓x_tRet, ↓x_tRetB, ↓x_tRetL, ↓x_tRetv, ↓x_tBrk, ↓x_tCont, ↓x_tThr, ↓x_wD, ↓x_wK, ↓x_jIx, ↓x_jOb, ↓x_jInt_I, ↓x_jLng_L, ↓x_jRef_R, ↓x_jStr_S, ↓x_jPls_R, ↓x_jPls_N, ↓x_jAny_R, ↓x_jAny_S, ↓jIntg_0, ↓jLngg_0, ↓jRefg_0, ↓jAnyg_0, ↓jStrg_0, ↓jPlsg_0, ↓jst_x0, ↓jst2_x0, ↓jIntg_1, ↓jLngg_1, ↓jRefg_1, ↓jAnyg_1, ↓jst_x1, ↓jst2_x1, ↓jIntg_2, ↓jLngg_2, ↓jRefg_2, ↓jAnyg_2, ↓jst_x2, ↓jst2_x2, ↓jIntg_3, ↓jLngg_3, ↓jRefg_3, ↓jAnyg_3, ↓jst_x3, ↓jst2_x3, ↓jIntg_4, ↓jLngg_4, ↓jRefg_4, ↓jAnyg_4, ↓jst_x4, ↓jst2_x4, ↓jIntg_5, ↓jLngg_5, ↓jRefg_5, ↓jAnyg_5, ↓jst_x5, ↓jst2_x5, ↓jIntg_6, ↓jLngg_6, ↓jRefg_6, ↓jAnyg_6, ↓jst_x6, ↓jst2_x6, ↓jIntg_7, ↓jLngg_7, ↓jRefg_7, ↓jAnyg_7, ↓jst_x7, ↓jst2_x7, ↓jIntg_8, ↓jLngg_8, ↓jRefg_8, ↓jAnyg_8, ↓jst_x8, ↓jst2_x8, ↓jIntg_9, ↓jLngg_9, ↓jRefg_9, ↓jAnyg_9, ↓jst_x9, ↓jst2_x9, ↓jIntg_10, ↓jLngg_10, ↓jRefg_10, ↓jAnyg_10, ↓jst_x10, ↓jst2_x10, ↓jIntg_11, ↓jLngg_11, ↓jRefg_11, ↓jAnyg_11, ↓jst_x11, ↓jst2_x11, ↓jIntg_12, ↓jLngg_12, ↓jRefg_12, ↓jAnyg_12, ↓jst_x12, ↓jst2_x12, ↓jIntg_13, ↓jLngg_13, ↓jRefg_13, ↓jAnyg_13, ↓jst_x13, ↓jst2_x13, ↓jIntg_14, ↓jLngg_14, ↓jRefg_14, ↓jAnyg_14, ↓jst_x14, ↓jst2_x14, ↓ex_some, jpv_some, jpv_none, jPls_pv, jisL_I, jisL_L, jisL_R, jisL_S, jisL_N, jisL_U, j_op0, j_op1, j_op2, j_c2, true_and, and_true, true_or, or_true, Int.toNat_natCast, nat1, ex_row, ex_row2, jwb1, jwb, jwb2, Classical.not_not, not_true_eq_false, false_implies, true_implies, ne_eq, not_false_eq_true, rV_inj, vI_inj, vL_inj, hi_tp, Nat.reduceEqDiff, Nat.reduceLeDiff, Nat.reduceAdd, Int.reduceLE, Int.reduceLT, Int.reduceEq, Int.reduceNeg, Int.reduceToNat, Int.reduceAdd, Int.reduceSub, Int.reduceMul, w_id, hsh_si, hp_si, hi_si_ne, oS12 hO, oS13 hO, oS14 hO, oS15 hO, oS16 hO, oS17 hO, oP12_0 hO, oP12_1 hO, oP12_2 hO, oP12_3 hO, oP12_4 hO, jf_7_5, jf_7_6, jf_7_7, jf_7_8]
  refine tLoop_go (fun x : List jFm × Wk × Nat × jWs × Nat => fSum x.1 + 21 * (200 - x.2.2.2.1.2.1)) (fun x => [vR 12, vR q, vR t, vR 3, vI x.2.2.2.1.2.1, vI x.2.2.1, vI x.2.2.2.2])
    (fun x τ => okW D x.2.1 ∧ CCd (hi σ 13) (hi σ 14) (hi σ 15) x.2.1 x.2.2.1 ∧ x.2.2.1 + clen x.2.1 = fEnd (clen k) x.1 ∧ fOk D (hi σ 13) (hi σ 14) (hi σ 15) (clen k) (hi τ 17) x.1 ∧ fGo D cd g x.1 (runW D cd g x.2.1 x.2.2.2.1) = runW D cd g k (w, 0, 0, 0) ∧ inW D x.2.2.2.1 ∧ TW τ q D x.2.2.2.1.1 g ∧ NT τ q x.2.2.2.1.1 ∧ KC τ D (lX cd) V ∧ hi τ 12 6 = x.1.length ∧ hi τ 12 7 = x.2.2.2.1.2.2.1 ∧ hi τ 12 8 = x.2.2.2.1.2.2.2 ∧ Fr (Srn q) σ τ ∧ x.1.length + dpt x.2.1 ≤ 6 ∧ x.2.2.2.2 + fSum x.1 + 21 * (200 - x.2.2.2.1.2.1) ≤ 4200)
    (fun x τ => TW τ q D (runW D cd g k (w, 0, 0, 0)).1 g ∧ NT τ q (runW D cd g k (w, 0, 0, 0)).1 ∧ KC τ D (lX cd) V ∧ hi τ 12 7 = (runW D cd g k (w, 0, 0, 0)).2.2.1 ∧ hi τ 12 8 = (runW D cd g k (w, 0, 0, 0)).2.2.2 ∧ Fr (Srn q) σ τ) ([], k, 0, (w, 0, 0, 0), 0) rfl
    ⟨hk, hCd, by simp [fEnd], trivial, rfl, ⟨hW, by simp, by simp⟩, kT hT hF0, kN hNT hF0, kK hK hF0, by simp [hi_si], by simp [hi_si], by simp [hi_si], hs hF0, by simpa using hdp, by simp [fSum]⟩ ?_ ?_
  · rintro ⟨fs, x, p, s, n⟩ τ N' N ⟨hx, hCx, hpx, hfo, hrx, hsx, hTx, hNx, hKx, h6, h7, h8, hF, hdx, hmx⟩ hN hE
    simp only at hx hCx hpx hfo hrx hsx hTx hNx hKx h6 h7 h8 hdx hmx
    have hO2 := hF.ok hO
    have e13 : hi τ 13 = hi σ 13 := hF.ir (fun k => by unfold Srn Sgo Sh Sq; omega)
    have e14 : hi τ 14 = hi σ 14 := hF.ir (fun k => by unfold Srn Sgo Sh Sq; omega)
    have e15 : hi τ 15 = hi σ 15 := hF.ir (fun k => by unfold Srn Sgo Sh Sq; omega)
    have e5 : hi τ 12 5 = clen k := by rw [hF.i (by unfold Srn Sgo Sh Sq; omega)]; exact h5
    have hle := fEnd_le hfo
    obtain ⟨s1, s2, s3⟩ := id hsx
    simp (disch := omega) only [↓x_eInt, ↓x_eLng, ↓x_eNul, ↓x_eStr, ↓x_eLoc, ↓x_eLol, ↓x_eLor, ↓x_eBin, ↓x_eDiv, ↓x_eRem, ↓x_eNeg, ↓x_eLbin, ↓x_eLdiv, ↓x_eLrem, ↓x_eLshl, ↓x_eLshr, ↓x_eI2l, ↓x_eL2i, ↓x_eFldI, ↓x_eFldL, ↓x_eFldP, ↓x_eAldI, ↓x_eAldS, ↓x_eAldL, ↓x_eAldP, ↓x_eLen, ↓x_eLenS, ↓x_eCall, ↓x_eCalv, ↓x_eMin, ↓x_eMax, ↓x_eLmin, ↓x_eAbs, ↓x_eSlen, ↓x_eSat, ↓x_eIte, ↓x_eNewa, ↓x_eNewo, ↓x_esN, ↓x_esC, ↓x_cCmp, ↓x_cCmpz, ↓x_cLcmp, ↓x_cIsn, ↓x_cNot, ↓x_cAnd, ↓x_cOr, ↓x_tSkip, ↓x_tSup, ↓x_tSeq, ↓x_tSetI, ↓x_tSetL, ↓x_tSetR, ↓x_tInc, ↓x_tPutI, ↓x_tPutL, ↓x_tPutP, ↓x_tPutc, ↓x_tAstI, ↓x_tAstL, ↓x_tAstP, ↓x_tAstcI, ↓x_tAstcL, ↓x_tAcpI, ↓x_tAcpL, ↓x_tExp, ↓x_tExv, ↓x_tExw, ↓x_tIte, ↓x_tSw, ↓x_tRet, ↓x_tRetB, ↓x_tRetL, ↓x_tRetv, ↓x_tBrk, ↓x_tCont, ↓x_tThr, ↓x_wD, ↓x_wK, ↓x_jIx, ↓x_jOb, ↓x_jInt_I, ↓x_jLng_L, ↓x_jRef_R, ↓x_jStr_S, ↓x_jPls_R, ↓x_jPls_N, ↓x_jAny_R, ↓x_jAny_S, ↓jIntg_0, ↓jLngg_0, ↓jRefg_0, ↓jAnyg_0, ↓jStrg_0, ↓jPlsg_0, ↓jst_x0, ↓jst2_x0, ↓jIntg_1, ↓jLngg_1, ↓jRefg_1, ↓jAnyg_1, ↓jst_x1, ↓jst2_x1, ↓jIntg_2, ↓jLngg_2, ↓jRefg_2, ↓jAnyg_2, ↓jst_x2, ↓jst2_x2, ↓jIntg_3, ↓jLngg_3, ↓jRefg_3, ↓jAnyg_3, ↓jst_x3, ↓jst2_x3, ↓jIntg_4, ↓jLngg_4, ↓jRefg_4, ↓jAnyg_4, ↓jst_x4, ↓jst2_x4, ↓jIntg_5, ↓jLngg_5, ↓jRefg_5, ↓jAnyg_5, ↓jst_x5, ↓jst2_x5, ↓jIntg_6, ↓jLngg_6, ↓jRefg_6, ↓jAnyg_6, ↓jst_x6, ↓jst2_x6, ↓jIntg_7, ↓jLngg_7, ↓jRefg_7, ↓jAnyg_7, ↓jst_x7, ↓jst2_x7, ↓jIntg_8, ↓jLngg_8, ↓jRefg_8, ↓jAnyg_8, ↓jst_x8, ↓jst2_x8, ↓jIntg_9, ↓jLngg_9, ↓jRefg_9, ↓jAnyg_9, ↓jst_x9, ↓jst2_x9, ↓jIntg_10, ↓jLngg_10, ↓jRefg_10, ↓jAnyg_10, ↓jst_x10, ↓jst2_x10, ↓jIntg_11, ↓jLngg_11, ↓jRefg_11, ↓jAnyg_11, ↓jst_x11, ↓jst2_x11, ↓jIntg_12, ↓jLngg_12, ↓jRefg_12, ↓jAnyg_12, ↓jst_x12, ↓jst2_x12, ↓jIntg_13, ↓jLngg_13, ↓jRefg_13, ↓jAnyg_13, ↓jst_x13, ↓jst2_x13, ↓jIntg_14, ↓jLngg_14, ↓jRefg_14, ↓jAnyg_14, ↓jst_x14, ↓jst2_x14, ↓ex_some, jpv_some, jpv_none, jPls_pv, jisL_I, jisL_L, jisL_R, jisL_S, jisL_N, jisL_U, j_op0, j_op1, j_op2, j_c2, true_and, and_true, true_or, or_true, Int.toNat_natCast, nat1, ex_row, ex_row2, jwb1, jwb, jwb2, Classical.not_not, not_true_eq_false, false_implies, true_implies, ne_eq, not_false_eq_true, rV_inj, vI_inj, vL_inj, hi_tp, Nat.reduceEqDiff, Nat.reduceLeDiff, Nat.reduceAdd, Int.reduceLE, Int.reduceLT, Int.reduceEq, Int.reduceNeg, Int.reduceToNat, Int.reduceAdd, Int.reduceSub, Int.reduceMul, w_id, hsh_si, hp_si, hi_si_ne, oS12 hO2, oS13 hO2, oS14 hO2, oS15 hO2, oS16 hO2, oS17 hO2, oP12_0 hO2, oP12_1 hO2, oP12_2 hO2, oP12_3 hO2, oP12_4 hO2, jf_7_5, jf_7_6, jf_7_7, jf_7_8, e13, e5]
    rcases wk_cases hx with rfl | ⟨y, a, c, r, rfl⟩ | ⟨m, b, r, rfl⟩
    · have e0 : clen wFin = 0 := rfl
      rw [e0] at hpx
      rw [run_fin] at hrx
      cases fs with
      | nil =>
        simp only [fEnd] at hpx
        refine ⟨fun _ => ⟨fun h => by omega, fun _ => hE ([], wFin, p, s, n) _ ?_⟩, fun h => by omega⟩
        rw [← hrx]
        exact ⟨hTx, hNx, hKx, h7, h8, hF⟩
      | cons fr l =>
        obtain ⟨m, o, b, r⟩ := fr
        obtain ⟨a1, a2, a3, a4, a5, a6, a7, a8, a9, a10, a11⟩ := id hfo
        simp only at a1 a2 a3 a4 a5 a6 a7 a8 a9 a10
        have hle2 := fEnd_le a11
        simp only [fEnd, fSum, List.length_cons] at hpx hmx h6 hle
        have ep : p = o + 1 + clen b := by omega
        obtain ⟨m1, rfl⟩ : ∃ m1, m = m1 + 1 := ⟨m - 1, by omega⟩
        rw [ep, a5]
        refine ⟨fun _ => ⟨fun _ => ⟨by omega, by omega, fun _ => ?_, fun h => (h rfl).elim⟩, fun h => by omega⟩, fun h => by omega⟩
        refine (c_60 (d := l.length) (m := m1) (e := (o : Int)) hO2 (by omega) (by rw [e14]; exact a6) h6 (by omega) a9 (by omega)).cal (by omega) ?_
        rintro r' υ (⟨g1, rfl, rfl⟩ | ⟨g1, rfl, rfl⟩)
        · refine ⟨_, rfl, rfl, ?_⟩
          simp (disch := omega) only [↓x_eInt, ↓x_eLng, ↓x_eNul, ↓x_eStr, ↓x_eLoc, ↓x_eLol, ↓x_eLor, ↓x_eBin, ↓x_eDiv, ↓x_eRem, ↓x_eNeg, ↓x_eLbin, ↓x_eLdiv, ↓x_eLrem, ↓x_eLshl, ↓x_eLshr, ↓x_eI2l, ↓x_eL2i, ↓x_eFldI, ↓x_eFldL, ↓x_eFldP, ↓x_eAldI, ↓x_eAldS, ↓x_eAldL, ↓x_eAldP, ↓x_eLen, ↓x_eLenS, ↓x_eCall, ↓x_eCalv, ↓x_eMin, ↓x_eMax, ↓x_eLmin, ↓x_eAbs, ↓x_eSlen, ↓x_eSat, ↓x_eIte, ↓x_eNewa, ↓x_eNewo, ↓x_esN, ↓x_esC, ↓x_cCmp, ↓x_cCmpz, ↓x_cLcmp, ↓x_cIsn, ↓x_cNot, ↓x_cAnd, ↓x_cOr, ↓x_tSkip, ↓x_tSup, ↓x_tSeq, ↓x_tSetI, ↓x_tSetL, ↓x_tSetR, ↓x_tInc, ↓x_tPutI, ↓x_tPutL, ↓x_tPutP, ↓x_tPutc, ↓x_tAstI, ↓x_tAstL, ↓x_tAstP, ↓x_tAstcI, ↓x_tAstcL, ↓x_tAcpI, ↓x_tAcpL, ↓x_tExp, ↓x_tExv, ↓x_tExw, ↓x_tIte, ↓x_tSw, ↓x_tRet, ↓x_tRetB, ↓x_tRetL, ↓x_tRetv, ↓x_tBrk, ↓x_tCont, ↓x_tThr, ↓x_wD, ↓x_wK, ↓x_jIx, ↓x_jOb, ↓x_jInt_I, ↓x_jLng_L, ↓x_jRef_R, ↓x_jStr_S, ↓x_jPls_R, ↓x_jPls_N, ↓x_jAny_R, ↓x_jAny_S, ↓jIntg_0, ↓jLngg_0, ↓jRefg_0, ↓jAnyg_0, ↓jStrg_0, ↓jPlsg_0, ↓jst_x0, ↓jst2_x0, ↓jIntg_1, ↓jLngg_1, ↓jRefg_1, ↓jAnyg_1, ↓jst_x1, ↓jst2_x1, ↓jIntg_2, ↓jLngg_2, ↓jRefg_2, ↓jAnyg_2, ↓jst_x2, ↓jst2_x2, ↓jIntg_3, ↓jLngg_3, ↓jRefg_3, ↓jAnyg_3, ↓jst_x3, ↓jst2_x3, ↓jIntg_4, ↓jLngg_4, ↓jRefg_4, ↓jAnyg_4, ↓jst_x4, ↓jst2_x4, ↓jIntg_5, ↓jLngg_5, ↓jRefg_5, ↓jAnyg_5, ↓jst_x5, ↓jst2_x5, ↓jIntg_6, ↓jLngg_6, ↓jRefg_6, ↓jAnyg_6, ↓jst_x6, ↓jst2_x6, ↓jIntg_7, ↓jLngg_7, ↓jRefg_7, ↓jAnyg_7, ↓jst_x7, ↓jst2_x7, ↓jIntg_8, ↓jLngg_8, ↓jRefg_8, ↓jAnyg_8, ↓jst_x8, ↓jst2_x8, ↓jIntg_9, ↓jLngg_9, ↓jRefg_9, ↓jAnyg_9, ↓jst_x9, ↓jst2_x9, ↓jIntg_10, ↓jLngg_10, ↓jRefg_10, ↓jAnyg_10, ↓jst_x10, ↓jst2_x10, ↓jIntg_11, ↓jLngg_11, ↓jRefg_11, ↓jAnyg_11, ↓jst_x11, ↓jst2_x11, ↓jIntg_12, ↓jLngg_12, ↓jRefg_12, ↓jAnyg_12, ↓jst_x12, ↓jst2_x12, ↓jIntg_13, ↓jLngg_13, ↓jRefg_13, ↓jAnyg_13, ↓jst_x13, ↓jst2_x13, ↓jIntg_14, ↓jLngg_14, ↓jRefg_14, ↓jAnyg_14, ↓jst_x14, ↓jst2_x14, ↓ex_some, jpv_some, jpv_none, jPls_pv, jisL_I, jisL_L, jisL_R, jisL_S, jisL_N, jisL_U, j_op0, j_op1, j_op2, j_c2, true_and, and_true, true_or, or_true, Int.toNat_natCast, nat1, ex_row, ex_row2, jwb1, jwb, jwb2, Classical.not_not, not_true_eq_false, false_implies, true_implies, ne_eq, not_false_eq_true, rV_inj, vI_inj, vL_inj, hi_tp, Nat.reduceEqDiff, Nat.reduceLeDiff, Nat.reduceAdd, Int.reduceLE, Int.reduceLT, Int.reduceEq, Int.reduceNeg, Int.reduceToNat, Int.reduceAdd, Int.reduceSub, Int.reduceMul, w_id, hsh_si, hp_si, hi_si_ne]
          have hF2 : Fr Srs τ (hsi τ 17 l.length m1) := (Fr.refl _ _).si (by unfold Srs; omega)
          refine hN ((m1, o, b, r) :: l, b, o + 1, s, n + 1) _ (by show m1 + fSum l + 21 * (200 - s.2.1) < m1 + 1 + fSum l + 21 * (200 - s.2.1); omega) ⟨a2, a4, rfl, ⟨⟨by omega, by omega⟩, a2, a3, a4, a5, a6, a7, a8, hi_si_eq _ _ _ _, a10, fOk_congr (fun j hj => hi_si_nk (by omega)) a11⟩, ?_, hsx, kT hTx hF2, kN hNx hF2, kK hKx hF2, ?_, ?_, ?_, hF.trans (hs hF2), ?_, ?_⟩
          · rw [← hrx]
            obtain ⟨m2, rfl⟩ : ∃ m2, m1 = m2 + 1 := ⟨m1 - 1, by omega⟩
            rfl
          · rw [hi_si_ne (by decide)]; exact h6
          · rw [hi_si_ne (by decide)]; exact h7
          · rw [hi_si_ne (by decide)]; exact h8
          · show l.length + 1 + dpt b ≤ 6
            omega
          · show n + 1 + (m1 + fSum l) + 21 * (200 - s.2.1) ≤ 4200
            omega
        · refine ⟨_, rfl, rfl, ?_⟩
          simp (disch := omega) only [↓x_eInt, ↓x_eLng, ↓x_eNul, ↓x_eStr, ↓x_eLoc, ↓x_eLol, ↓x_eLor, ↓x_eBin, ↓x_eDiv, ↓x_eRem, ↓x_eNeg, ↓x_eLbin, ↓x_eLdiv, ↓x_eLrem, ↓x_eLshl, ↓x_eLshr, ↓x_eI2l, ↓x_eL2i, ↓x_eFldI, ↓x_eFldL, ↓x_eFldP, ↓x_eAldI, ↓x_eAldS, ↓x_eAldL, ↓x_eAldP, ↓x_eLen, ↓x_eLenS, ↓x_eCall, ↓x_eCalv, ↓x_eMin, ↓x_eMax, ↓x_eLmin, ↓x_eAbs, ↓x_eSlen, ↓x_eSat, ↓x_eIte, ↓x_eNewa, ↓x_eNewo, ↓x_esN, ↓x_esC, ↓x_cCmp, ↓x_cCmpz, ↓x_cLcmp, ↓x_cIsn, ↓x_cNot, ↓x_cAnd, ↓x_cOr, ↓x_tSkip, ↓x_tSup, ↓x_tSeq, ↓x_tSetI, ↓x_tSetL, ↓x_tSetR, ↓x_tInc, ↓x_tPutI, ↓x_tPutL, ↓x_tPutP, ↓x_tPutc, ↓x_tAstI, ↓x_tAstL, ↓x_tAstP, ↓x_tAstcI, ↓x_tAstcL, ↓x_tAcpI, ↓x_tAcpL, ↓x_tExp, ↓x_tExv, ↓x_tExw, ↓x_tIte, ↓x_tSw, ↓x_tRet, ↓x_tRetB, ↓x_tRetL, ↓x_tRetv, ↓x_tBrk, ↓x_tCont, ↓x_tThr, ↓x_wD, ↓x_wK, ↓x_jIx, ↓x_jOb, ↓x_jInt_I, ↓x_jLng_L, ↓x_jRef_R, ↓x_jStr_S, ↓x_jPls_R, ↓x_jPls_N, ↓x_jAny_R, ↓x_jAny_S, ↓jIntg_0, ↓jLngg_0, ↓jRefg_0, ↓jAnyg_0, ↓jStrg_0, ↓jPlsg_0, ↓jst_x0, ↓jst2_x0, ↓jIntg_1, ↓jLngg_1, ↓jRefg_1, ↓jAnyg_1, ↓jst_x1, ↓jst2_x1, ↓jIntg_2, ↓jLngg_2, ↓jRefg_2, ↓jAnyg_2, ↓jst_x2, ↓jst2_x2, ↓jIntg_3, ↓jLngg_3, ↓jRefg_3, ↓jAnyg_3, ↓jst_x3, ↓jst2_x3, ↓jIntg_4, ↓jLngg_4, ↓jRefg_4, ↓jAnyg_4, ↓jst_x4, ↓jst2_x4, ↓jIntg_5, ↓jLngg_5, ↓jRefg_5, ↓jAnyg_5, ↓jst_x5, ↓jst2_x5, ↓jIntg_6, ↓jLngg_6, ↓jRefg_6, ↓jAnyg_6, ↓jst_x6, ↓jst2_x6, ↓jIntg_7, ↓jLngg_7, ↓jRefg_7, ↓jAnyg_7, ↓jst_x7, ↓jst2_x7, ↓jIntg_8, ↓jLngg_8, ↓jRefg_8, ↓jAnyg_8, ↓jst_x8, ↓jst2_x8, ↓jIntg_9, ↓jLngg_9, ↓jRefg_9, ↓jAnyg_9, ↓jst_x9, ↓jst2_x9, ↓jIntg_10, ↓jLngg_10, ↓jRefg_10, ↓jAnyg_10, ↓jst_x10, ↓jst2_x10, ↓jIntg_11, ↓jLngg_11, ↓jRefg_11, ↓jAnyg_11, ↓jst_x11, ↓jst2_x11, ↓jIntg_12, ↓jLngg_12, ↓jRefg_12, ↓jAnyg_12, ↓jst_x12, ↓jst2_x12, ↓jIntg_13, ↓jLngg_13, ↓jRefg_13, ↓jAnyg_13, ↓jst_x13, ↓jst2_x13, ↓jIntg_14, ↓jLngg_14, ↓jRefg_14, ↓jAnyg_14, ↓jst_x14, ↓jst2_x14, ↓ex_some, jpv_some, jpv_none, jPls_pv, jisL_I, jisL_L, jisL_R, jisL_S, jisL_N, jisL_U, j_op0, j_op1, j_op2, j_c2, true_and, and_true, true_or, or_true, Int.toNat_natCast, nat1, ex_row, ex_row2, jwb1, jwb, jwb2, Classical.not_not, not_true_eq_false, false_implies, true_implies, ne_eq, not_false_eq_true, rV_inj, vI_inj, vL_inj, hi_tp, Nat.reduceEqDiff, Nat.reduceLeDiff, Nat.reduceAdd, Int.reduceLE, Int.reduceLT, Int.reduceEq, Int.reduceNeg, Int.reduceToNat, Int.reduceAdd, Int.reduceSub, Int.reduceMul, w_id, hsh_si, hp_si, hi_si_ne]
          have hF2 : Fr Srs τ (hsi (hsi τ 17 l.length m1) 12 6 l.length) := ((Fr.refl _ _).si (by unfold Srs; omega)).si (by unfold Srs; omega)
          refine hN (l, r, o + 1 + clen b + 1, s, n + 1) _ (by show fSum l + 21 * (200 - s.2.1) < m1 + 1 + fSum l + 21 * (200 - s.2.1); omega) ⟨a3, by rw [show o + 1 + clen b + 1 = o + 2 + clen b by omega]; exact a7, by show o + 1 + clen b + 1 + clen r = fEnd (clen k) l; omega, (show fOk D _ _ _ (clen k) _ l from fOk_congr (fun j hj => by rw [hi_si_ne (by decide), hi_si_nk (by omega)]) a11), ?_, hsx, kT hTx hF2, kN hNx hF2, kK hKx hF2, hi_si_eq _ _ _ _, ?_, ?_, hF.trans (hs hF2), ?_, ?_⟩
          · rw [← hrx, g1]
            rfl
          · rw [hi_si_nk (by decide), hi_si_ne (by decide)]; exact h7
          · rw [hi_si_nk (by decide), hi_si_ne (by decide)]; exact h8
          · show l.length + dpt r ≤ 6
            omega
          · show n + 1 + fSum l + 21 * (200 - s.2.1) ≤ 4200
            omega
    · have e0 : clen (wOne y a c r) = 1 + clen r := rfl
      rw [e0] at hpx
      obtain ⟨x1, x2, x3, x4⟩ := id hx
      obtain ⟨c1, c2, c3, c4⟩ := id hCx
      rw [c1, w_id (by omega)]
      refine ⟨fun _ => ⟨fun _ => ⟨by omega, by omega, fun h => by omega, fun _ => ⟨fun h => ?_, fun h => ⟨by omega, by omega, fun h => by omega, fun _ => ?_⟩⟩⟩, fun h => by omega⟩, fun h => by omega⟩
      · rw [← hrx, run_stop hx (by omega), fGo_stop hfo (by omega)]
        exact ⟨hTx, hNx, hKx, h7, h8, hF⟩
      refine (c_61 (cd := cd) (k := y) (a := a) (x := c) (g := g) (i := p) hO2 hTx (CX_fr hX hF (fun r k a b => by unfold Srn Sgo Sh Sq; omega)) s1 hNx (LC_fr hC hF (fun k => by unfold Srn Sgo Sh Sq; omega) (fun k _ => by unfold Srn Sgo Sh Sq; omega)) hKx hV hD hF1 hg hq (by omega) x1 (by rw [e13]; exact c1) (by rw [e14]; omega) (fun z => ⟨by rw [e15]; exact c3 z, x3 z⟩)).cal (by omega) ?_
      rintro r' υ ⟨rfl, hT3, hN3, hK3, hF3⟩
      refine ⟨_, rfl, rfl, ?_⟩
      simp only [x_jInt_I]
      have hO3 := hF3.ok hO2
      have t6 : hi υ 12 6 = fs.length := by rw [hF3.i (by unfold Sgo Sh Sq; omega)]; exact h6
      have t7 : hi υ 12 7 = s.2.2.1 := by rw [hF3.i (by unfold Sgo Sh Sq; omega)]; exact h7
      have t8 : hi υ 12 8 = s.2.2.2 := by rw [hF3.i (by unfold Sgo Sh Sq; omega)]; exact h8
      have t17 : hi υ 17 = hi τ 17 := hF3.ir (fun k => by unfold Sgo Sh Sq; omega)
      have hFx : Fr (Srn q) σ υ := hF.trans (hF3.mono (fun r k h => Or.inl h))
      have hin := stp_in (cd := cd) (f := (g : Int)) hX.2.2 hsx (by omega) x2 x3
      have hrun : fGo D cd g fs (runW D cd g r (stpW D cd g y a c s)) = runW D cd g k (w, 0, 0, 0) := by rw [← hrx, run_one, if_neg (by omega)]
      have hpp : (p : Int) + 1 = ((p + 1 : Nat) : Int) := rfl
      by_cases hok : okG D cd s.1 g y a c = true
      · rw [if_pos hok, w_id (by omega)]
        refine ⟨fun _ => ?_, fun z => by omega⟩
        simp (disch := omega) only [↓x_eInt, ↓x_eLng, ↓x_eNul, ↓x_eStr, ↓x_eLoc, ↓x_eLol, ↓x_eLor, ↓x_eBin, ↓x_eDiv, ↓x_eRem, ↓x_eNeg, ↓x_eLbin, ↓x_eLdiv, ↓x_eLrem, ↓x_eLshl, ↓x_eLshr, ↓x_eI2l, ↓x_eL2i, ↓x_eFldI, ↓x_eFldL, ↓x_eFldP, ↓x_eAldI, ↓x_eAldS, ↓x_eAldL, ↓x_eAldP, ↓x_eLen, ↓x_eLenS, ↓x_eCall, ↓x_eCalv, ↓x_eMin, ↓x_eMax, ↓x_eLmin, ↓x_eAbs, ↓x_eSlen, ↓x_eSat, ↓x_eIte, ↓x_eNewa, ↓x_eNewo, ↓x_esN, ↓x_esC, ↓x_cCmp, ↓x_cCmpz, ↓x_cLcmp, ↓x_cIsn, ↓x_cNot, ↓x_cAnd, ↓x_cOr, ↓x_tSkip, ↓x_tSup, ↓x_tSeq, ↓x_tSetI, ↓x_tSetL, ↓x_tSetR, ↓x_tInc, ↓x_tPutI, ↓x_tPutL, ↓x_tPutP, ↓x_tPutc, ↓x_tAstI, ↓x_tAstL, ↓x_tAstP, ↓x_tAstcI, ↓x_tAstcL, ↓x_tAcpI, ↓x_tAcpL, ↓x_tExp, ↓x_tExv, ↓x_tExw, ↓x_tIte, ↓x_tSw, ↓x_tRet, ↓x_tRetB, ↓x_tRetL, ↓x_tRetv, ↓x_tBrk, ↓x_tCont, ↓x_tThr, ↓x_wD, ↓x_wK, ↓x_jIx, ↓x_jOb, ↓x_jInt_I, ↓x_jLng_L, ↓x_jRef_R, ↓x_jStr_S, ↓x_jPls_R, ↓x_jPls_N, ↓x_jAny_R, ↓x_jAny_S, ↓jIntg_0, ↓jLngg_0, ↓jRefg_0, ↓jAnyg_0, ↓jStrg_0, ↓jPlsg_0, ↓jst_x0, ↓jst2_x0, ↓jIntg_1, ↓jLngg_1, ↓jRefg_1, ↓jAnyg_1, ↓jst_x1, ↓jst2_x1, ↓jIntg_2, ↓jLngg_2, ↓jRefg_2, ↓jAnyg_2, ↓jst_x2, ↓jst2_x2, ↓jIntg_3, ↓jLngg_3, ↓jRefg_3, ↓jAnyg_3, ↓jst_x3, ↓jst2_x3, ↓jIntg_4, ↓jLngg_4, ↓jRefg_4, ↓jAnyg_4, ↓jst_x4, ↓jst2_x4, ↓jIntg_5, ↓jLngg_5, ↓jRefg_5, ↓jAnyg_5, ↓jst_x5, ↓jst2_x5, ↓jIntg_6, ↓jLngg_6, ↓jRefg_6, ↓jAnyg_6, ↓jst_x6, ↓jst2_x6, ↓jIntg_7, ↓jLngg_7, ↓jRefg_7, ↓jAnyg_7, ↓jst_x7, ↓jst2_x7, ↓jIntg_8, ↓jLngg_8, ↓jRefg_8, ↓jAnyg_8, ↓jst_x8, ↓jst2_x8, ↓jIntg_9, ↓jLngg_9, ↓jRefg_9, ↓jAnyg_9, ↓jst_x9, ↓jst2_x9, ↓jIntg_10, ↓jLngg_10, ↓jRefg_10, ↓jAnyg_10, ↓jst_x10, ↓jst2_x10, ↓jIntg_11, ↓jLngg_11, ↓jRefg_11, ↓jAnyg_11, ↓jst_x11, ↓jst2_x11, ↓jIntg_12, ↓jLngg_12, ↓jRefg_12, ↓jAnyg_12, ↓jst_x12, ↓jst2_x12, ↓jIntg_13, ↓jLngg_13, ↓jRefg_13, ↓jAnyg_13, ↓jst_x13, ↓jst2_x13, ↓jIntg_14, ↓jLngg_14, ↓jRefg_14, ↓jAnyg_14, ↓jst_x14, ↓jst2_x14, ↓ex_some, jpv_some, jpv_none, jPls_pv, jisL_I, jisL_L, jisL_R, jisL_S, jisL_N, jisL_U, j_op0, j_op1, j_op2, j_c2, true_and, and_true, true_or, or_true, Int.toNat_natCast, nat1, ex_row, ex_row2, jwb1, jwb, jwb2, Classical.not_not, not_true_eq_false, false_implies, true_implies, ne_eq, not_false_eq_true, rV_inj, vI_inj, vL_inj, hi_tp, Nat.reduceEqDiff, Nat.reduceLeDiff, Nat.reduceAdd, Int.reduceLE, Int.reduceLT, Int.reduceEq, Int.reduceNeg, Int.reduceToNat, Int.reduceAdd, Int.reduceSub, Int.reduceMul, w_id, hsh_si, hp_si, hi_si_ne, oS12 hO3, oS13 hO3, oS14 hO3, oS15 hO3, oS16 hO3, oS17 hO3, oP12_0 hO3, oP12_1 hO3, oP12_2 hO3, oP12_3 hO3, oP12_4 hO3, jf_7_5, jf_7_6, jf_7_7, jf_7_8]
        have hF2 : Fr Srs υ (hsi υ 12 7 (hi υ 12 7 + 1)) := (Fr.refl _ _).si (by unfold Srs; omega)
        refine hN (fs, r, p + 1, stpW D cd g y a c s, n + 1) _ (by show fSum fs + 21 * (200 - (s.2.1 + 1)) < fSum fs + 21 * (200 - s.2.1); omega) ⟨x4, c4, by show p + 1 + clen r = fEnd (clen k) fs; omega, fOk_congr (fun j hj => by rw [hi_si_ne (by decide), t17]) hfo, hrun, hin, kT hT3 hF2, kN hN3 hF2, kK hK3 hF2, ?_, ?_, ?_, hFx.trans (hs hF2), hdx, ?_⟩
        · rw [hi_si_nk (by decide)]; exact t6
        · rw [hi_si_eq, t7]; simp only [stpW]; rw [if_pos hok]; rfl
        · rw [hi_si_nk (by decide), t8]; simp only [stpW]; rw [if_pos hok]
        · show n + 1 + fSum fs + 21 * (200 - (s.2.1 + 1)) ≤ 4200
          omega
      · rw [if_neg hok, w_id (by omega)]
        refine ⟨fun z => (z rfl).elim, fun _ => ?_⟩
        simp (disch := omega) only [↓x_eInt, ↓x_eLng, ↓x_eNul, ↓x_eStr, ↓x_eLoc, ↓x_eLol, ↓x_eLor, ↓x_eBin, ↓x_eDiv, ↓x_eRem, ↓x_eNeg, ↓x_eLbin, ↓x_eLdiv, ↓x_eLrem, ↓x_eLshl, ↓x_eLshr, ↓x_eI2l, ↓x_eL2i, ↓x_eFldI, ↓x_eFldL, ↓x_eFldP, ↓x_eAldI, ↓x_eAldS, ↓x_eAldL, ↓x_eAldP, ↓x_eLen, ↓x_eLenS, ↓x_eCall, ↓x_eCalv, ↓x_eMin, ↓x_eMax, ↓x_eLmin, ↓x_eAbs, ↓x_eSlen, ↓x_eSat, ↓x_eIte, ↓x_eNewa, ↓x_eNewo, ↓x_esN, ↓x_esC, ↓x_cCmp, ↓x_cCmpz, ↓x_cLcmp, ↓x_cIsn, ↓x_cNot, ↓x_cAnd, ↓x_cOr, ↓x_tSkip, ↓x_tSup, ↓x_tSeq, ↓x_tSetI, ↓x_tSetL, ↓x_tSetR, ↓x_tInc, ↓x_tPutI, ↓x_tPutL, ↓x_tPutP, ↓x_tPutc, ↓x_tAstI, ↓x_tAstL, ↓x_tAstP, ↓x_tAstcI, ↓x_tAstcL, ↓x_tAcpI, ↓x_tAcpL, ↓x_tExp, ↓x_tExv, ↓x_tExw, ↓x_tIte, ↓x_tSw, ↓x_tRet, ↓x_tRetB, ↓x_tRetL, ↓x_tRetv, ↓x_tBrk, ↓x_tCont, ↓x_tThr, ↓x_wD, ↓x_wK, ↓x_jIx, ↓x_jOb, ↓x_jInt_I, ↓x_jLng_L, ↓x_jRef_R, ↓x_jStr_S, ↓x_jPls_R, ↓x_jPls_N, ↓x_jAny_R, ↓x_jAny_S, ↓jIntg_0, ↓jLngg_0, ↓jRefg_0, ↓jAnyg_0, ↓jStrg_0, ↓jPlsg_0, ↓jst_x0, ↓jst2_x0, ↓jIntg_1, ↓jLngg_1, ↓jRefg_1, ↓jAnyg_1, ↓jst_x1, ↓jst2_x1, ↓jIntg_2, ↓jLngg_2, ↓jRefg_2, ↓jAnyg_2, ↓jst_x2, ↓jst2_x2, ↓jIntg_3, ↓jLngg_3, ↓jRefg_3, ↓jAnyg_3, ↓jst_x3, ↓jst2_x3, ↓jIntg_4, ↓jLngg_4, ↓jRefg_4, ↓jAnyg_4, ↓jst_x4, ↓jst2_x4, ↓jIntg_5, ↓jLngg_5, ↓jRefg_5, ↓jAnyg_5, ↓jst_x5, ↓jst2_x5, ↓jIntg_6, ↓jLngg_6, ↓jRefg_6, ↓jAnyg_6, ↓jst_x6, ↓jst2_x6, ↓jIntg_7, ↓jLngg_7, ↓jRefg_7, ↓jAnyg_7, ↓jst_x7, ↓jst2_x7, ↓jIntg_8, ↓jLngg_8, ↓jRefg_8, ↓jAnyg_8, ↓jst_x8, ↓jst2_x8, ↓jIntg_9, ↓jLngg_9, ↓jRefg_9, ↓jAnyg_9, ↓jst_x9, ↓jst2_x9, ↓jIntg_10, ↓jLngg_10, ↓jRefg_10, ↓jAnyg_10, ↓jst_x10, ↓jst2_x10, ↓jIntg_11, ↓jLngg_11, ↓jRefg_11, ↓jAnyg_11, ↓jst_x11, ↓jst2_x11, ↓jIntg_12, ↓jLngg_12, ↓jRefg_12, ↓jAnyg_12, ↓jst_x12, ↓jst2_x12, ↓jIntg_13, ↓jLngg_13, ↓jRefg_13, ↓jAnyg_13, ↓jst_x13, ↓jst2_x13, ↓jIntg_14, ↓jLngg_14, ↓jRefg_14, ↓jAnyg_14, ↓jst_x14, ↓jst2_x14, ↓ex_some, jpv_some, jpv_none, jPls_pv, jisL_I, jisL_L, jisL_R, jisL_S, jisL_N, jisL_U, j_op0, j_op1, j_op2, j_c2, true_and, and_true, true_or, or_true, Int.toNat_natCast, nat1, ex_row, ex_row2, jwb1, jwb, jwb2, Classical.not_not, not_true_eq_false, false_implies, true_implies, ne_eq, not_false_eq_true, rV_inj, vI_inj, vL_inj, hi_tp, Nat.reduceEqDiff, Nat.reduceLeDiff, Nat.reduceAdd, Int.reduceLE, Int.reduceLT, Int.reduceEq, Int.reduceNeg, Int.reduceToNat, Int.reduceAdd, Int.reduceSub, Int.reduceMul, w_id, hsh_si, hp_si, hi_si_ne, oS12 hO3, oS13 hO3, oS14 hO3, oS15 hO3, oS16 hO3, oS17 hO3, oP12_0 hO3, oP12_1 hO3, oP12_2 hO3, oP12_3 hO3, oP12_4 hO3, jf_7_5, jf_7_6, jf_7_7, jf_7_8]
        have hF2 : Fr Srs υ (hsi υ 12 8 (hi υ 12 8 + 1)) := (Fr.refl _ _).si (by unfold Srs; omega)
        refine hN (fs, r, p + 1, stpW D cd g y a c s, n + 1) _ (by show fSum fs + 21 * (200 - (s.2.1 + 1)) < fSum fs + 21 * (200 - s.2.1); omega) ⟨x4, c4, by show p + 1 + clen r = fEnd (clen k) fs; omega, fOk_congr (fun j hj => by rw [hi_si_ne (by decide), t17]) hfo, hrun, hin, kT hT3 hF2, kN hN3 hF2, kK hK3 hF2, ?_, ?_, ?_, hFx.trans (hs hF2), hdx, ?_⟩
        · rw [hi_si_nk (by decide)]; exact t6
        · rw [hi_si_nk (by decide), t7]; simp only [stpW]; rw [if_neg hok]
        · rw [hi_si_eq, t8]; simp only [stpW]; rw [if_neg hok]; rfl
        · show n + 1 + fSum fs + 21 * (200 - (s.2.1 + 1)) ≤ 4200
          omega
    · have e0 : clen (wRep m b r) = 2 + clen b + clen r := rfl
      have e1 : dpt (wRep m b r) = max (dpt b + 1) (dpt r) := rfl
      rw [e0] at hpx
      rw [e1] at hdx
      obtain ⟨x1, x2, x3⟩ := id hx
      obtain ⟨c1, c2, c3, c4, c5, c6, c7⟩ := id hCx
      rw [c1, w_id (by omega)]
      refine ⟨fun _ => ⟨fun _ => ⟨by omega, by omega, fun h => by omega, fun _ => ⟨fun h => ?_, fun h => ⟨by omega, by omega, fun _ => ?_, fun h => (h rfl).elim⟩⟩⟩, fun h => by omega⟩, fun h => by omega⟩
      · rw [← hrx, run_stop hx (by omega), fGo_stop hfo (by omega)]
        exact ⟨hTx, hNx, hKx, h7, h8, hF⟩
      have hin1 : inW D (s.1, s.2.1 + 1, s.2.2.1, s.2.2.2) := ⟨s1, by show s.2.1 + 1 ≤ 200; omega, by show s.2.2.1 + s.2.2.2 ≤ s.2.1 + 1; omega⟩
      have hrun : fGo D cd g fs (runW D cd g r (itr (runW D cd g b) m (s.1, s.2.1 + 1, s.2.2.1, s.2.2.2))) = runW D cd g k (w, 0, 0, 0) := by rw [← hrx, run_rep, if_neg (by omega)]
      refine (c_59 (d := fs.length) (n := m) (e := ((p + 1 + clen b : Nat) : Int)) hO2 (by omega) (by rw [e14]; exact c2) x1 (by rw [e15]; exact c3) h6 (by omega)).cal (by omega) ?_
      rintro r' υ (⟨g1, rfl, rfl⟩ | ⟨g1, rfl, rfl⟩)
      · refine ⟨_, rfl, rfl, ?_⟩
        simp (disch := omega) only [↓x_eInt, ↓x_eLng, ↓x_eNul, ↓x_eStr, ↓x_eLoc, ↓x_eLol, ↓x_eLor, ↓x_eBin, ↓x_eDiv, ↓x_eRem, ↓x_eNeg, ↓x_eLbin, ↓x_eLdiv, ↓x_eLrem, ↓x_eLshl, ↓x_eLshr, ↓x_eI2l, ↓x_eL2i, ↓x_eFldI, ↓x_eFldL, ↓x_eFldP, ↓x_eAldI, ↓x_eAldS, ↓x_eAldL, ↓x_eAldP, ↓x_eLen, ↓x_eLenS, ↓x_eCall, ↓x_eCalv, ↓x_eMin, ↓x_eMax, ↓x_eLmin, ↓x_eAbs, ↓x_eSlen, ↓x_eSat, ↓x_eIte, ↓x_eNewa, ↓x_eNewo, ↓x_esN, ↓x_esC, ↓x_cCmp, ↓x_cCmpz, ↓x_cLcmp, ↓x_cIsn, ↓x_cNot, ↓x_cAnd, ↓x_cOr, ↓x_tSkip, ↓x_tSup, ↓x_tSeq, ↓x_tSetI, ↓x_tSetL, ↓x_tSetR, ↓x_tInc, ↓x_tPutI, ↓x_tPutL, ↓x_tPutP, ↓x_tPutc, ↓x_tAstI, ↓x_tAstL, ↓x_tAstP, ↓x_tAstcI, ↓x_tAstcL, ↓x_tAcpI, ↓x_tAcpL, ↓x_tExp, ↓x_tExv, ↓x_tExw, ↓x_tIte, ↓x_tSw, ↓x_tRet, ↓x_tRetB, ↓x_tRetL, ↓x_tRetv, ↓x_tBrk, ↓x_tCont, ↓x_tThr, ↓x_wD, ↓x_wK, ↓x_jIx, ↓x_jOb, ↓x_jInt_I, ↓x_jLng_L, ↓x_jRef_R, ↓x_jStr_S, ↓x_jPls_R, ↓x_jPls_N, ↓x_jAny_R, ↓x_jAny_S, ↓jIntg_0, ↓jLngg_0, ↓jRefg_0, ↓jAnyg_0, ↓jStrg_0, ↓jPlsg_0, ↓jst_x0, ↓jst2_x0, ↓jIntg_1, ↓jLngg_1, ↓jRefg_1, ↓jAnyg_1, ↓jst_x1, ↓jst2_x1, ↓jIntg_2, ↓jLngg_2, ↓jRefg_2, ↓jAnyg_2, ↓jst_x2, ↓jst2_x2, ↓jIntg_3, ↓jLngg_3, ↓jRefg_3, ↓jAnyg_3, ↓jst_x3, ↓jst2_x3, ↓jIntg_4, ↓jLngg_4, ↓jRefg_4, ↓jAnyg_4, ↓jst_x4, ↓jst2_x4, ↓jIntg_5, ↓jLngg_5, ↓jRefg_5, ↓jAnyg_5, ↓jst_x5, ↓jst2_x5, ↓jIntg_6, ↓jLngg_6, ↓jRefg_6, ↓jAnyg_6, ↓jst_x6, ↓jst2_x6, ↓jIntg_7, ↓jLngg_7, ↓jRefg_7, ↓jAnyg_7, ↓jst_x7, ↓jst2_x7, ↓jIntg_8, ↓jLngg_8, ↓jRefg_8, ↓jAnyg_8, ↓jst_x8, ↓jst2_x8, ↓jIntg_9, ↓jLngg_9, ↓jRefg_9, ↓jAnyg_9, ↓jst_x9, ↓jst2_x9, ↓jIntg_10, ↓jLngg_10, ↓jRefg_10, ↓jAnyg_10, ↓jst_x10, ↓jst2_x10, ↓jIntg_11, ↓jLngg_11, ↓jRefg_11, ↓jAnyg_11, ↓jst_x11, ↓jst2_x11, ↓jIntg_12, ↓jLngg_12, ↓jRefg_12, ↓jAnyg_12, ↓jst_x12, ↓jst2_x12, ↓jIntg_13, ↓jLngg_13, ↓jRefg_13, ↓jAnyg_13, ↓jst_x13, ↓jst2_x13, ↓jIntg_14, ↓jLngg_14, ↓jRefg_14, ↓jAnyg_14, ↓jst_x14, ↓jst2_x14, ↓ex_some, jpv_some, jpv_none, jPls_pv, jisL_I, jisL_L, jisL_R, jisL_S, jisL_N, jisL_U, j_op0, j_op1, j_op2, j_c2, true_and, and_true, true_or, or_true, Int.toNat_natCast, nat1, ex_row, ex_row2, jwb1, jwb, jwb2, Classical.not_not, not_true_eq_false, false_implies, true_implies, ne_eq, not_false_eq_true, rV_inj, vI_inj, vL_inj, hi_tp, Nat.reduceEqDiff, Nat.reduceLeDiff, Nat.reduceAdd, Int.reduceLE, Int.reduceLT, Int.reduceEq, Int.reduceNeg, Int.reduceToNat, Int.reduceAdd, Int.reduceSub, Int.reduceMul, w_id, hsh_si, hp_si, hi_si_ne]
        subst g1
        refine hN (fs, r, p + 1 + clen b + 1, (s.1, s.2.1 + 1, s.2.2.1, s.2.2.2), n + 1) _ (by show fSum fs + 21 * (200 - (s.2.1 + 1)) < fSum fs + 21 * (200 - s.2.1); omega) ⟨x3, by rw [show p + 1 + clen b + 1 = p + 2 + clen b by omega]; exact c7, by show p + 1 + clen b + 1 + clen r = fEnd (clen k) fs; omega, hfo, hrun, hin1, hTx, hNx, hKx, h6, h7, h8, hF, by show fs.length + dpt r ≤ 6; omega, by show n + 1 + fSum fs + 21 * (200 - (s.2.1 + 1)) ≤ 4200; omega⟩
      · refine ⟨_, rfl, rfl, ?_⟩
        simp (disch := omega) only [↓x_eInt, ↓x_eLng, ↓x_eNul, ↓x_eStr, ↓x_eLoc, ↓x_eLol, ↓x_eLor, ↓x_eBin, ↓x_eDiv, ↓x_eRem, ↓x_eNeg, ↓x_eLbin, ↓x_eLdiv, ↓x_eLrem, ↓x_eLshl, ↓x_eLshr, ↓x_eI2l, ↓x_eL2i, ↓x_eFldI, ↓x_eFldL, ↓x_eFldP, ↓x_eAldI, ↓x_eAldS, ↓x_eAldL, ↓x_eAldP, ↓x_eLen, ↓x_eLenS, ↓x_eCall, ↓x_eCalv, ↓x_eMin, ↓x_eMax, ↓x_eLmin, ↓x_eAbs, ↓x_eSlen, ↓x_eSat, ↓x_eIte, ↓x_eNewa, ↓x_eNewo, ↓x_esN, ↓x_esC, ↓x_cCmp, ↓x_cCmpz, ↓x_cLcmp, ↓x_cIsn, ↓x_cNot, ↓x_cAnd, ↓x_cOr, ↓x_tSkip, ↓x_tSup, ↓x_tSeq, ↓x_tSetI, ↓x_tSetL, ↓x_tSetR, ↓x_tInc, ↓x_tPutI, ↓x_tPutL, ↓x_tPutP, ↓x_tPutc, ↓x_tAstI, ↓x_tAstL, ↓x_tAstP, ↓x_tAstcI, ↓x_tAstcL, ↓x_tAcpI, ↓x_tAcpL, ↓x_tExp, ↓x_tExv, ↓x_tExw, ↓x_tIte, ↓x_tSw, ↓x_tRet, ↓x_tRetB, ↓x_tRetL, ↓x_tRetv, ↓x_tBrk, ↓x_tCont, ↓x_tThr, ↓x_wD, ↓x_wK, ↓x_jIx, ↓x_jOb, ↓x_jInt_I, ↓x_jLng_L, ↓x_jRef_R, ↓x_jStr_S, ↓x_jPls_R, ↓x_jPls_N, ↓x_jAny_R, ↓x_jAny_S, ↓jIntg_0, ↓jLngg_0, ↓jRefg_0, ↓jAnyg_0, ↓jStrg_0, ↓jPlsg_0, ↓jst_x0, ↓jst2_x0, ↓jIntg_1, ↓jLngg_1, ↓jRefg_1, ↓jAnyg_1, ↓jst_x1, ↓jst2_x1, ↓jIntg_2, ↓jLngg_2, ↓jRefg_2, ↓jAnyg_2, ↓jst_x2, ↓jst2_x2, ↓jIntg_3, ↓jLngg_3, ↓jRefg_3, ↓jAnyg_3, ↓jst_x3, ↓jst2_x3, ↓jIntg_4, ↓jLngg_4, ↓jRefg_4, ↓jAnyg_4, ↓jst_x4, ↓jst2_x4, ↓jIntg_5, ↓jLngg_5, ↓jRefg_5, ↓jAnyg_5, ↓jst_x5, ↓jst2_x5, ↓jIntg_6, ↓jLngg_6, ↓jRefg_6, ↓jAnyg_6, ↓jst_x6, ↓jst2_x6, ↓jIntg_7, ↓jLngg_7, ↓jRefg_7, ↓jAnyg_7, ↓jst_x7, ↓jst2_x7, ↓jIntg_8, ↓jLngg_8, ↓jRefg_8, ↓jAnyg_8, ↓jst_x8, ↓jst2_x8, ↓jIntg_9, ↓jLngg_9, ↓jRefg_9, ↓jAnyg_9, ↓jst_x9, ↓jst2_x9, ↓jIntg_10, ↓jLngg_10, ↓jRefg_10, ↓jAnyg_10, ↓jst_x10, ↓jst2_x10, ↓jIntg_11, ↓jLngg_11, ↓jRefg_11, ↓jAnyg_11, ↓jst_x11, ↓jst2_x11, ↓jIntg_12, ↓jLngg_12, ↓jRefg_12, ↓jAnyg_12, ↓jst_x12, ↓jst2_x12, ↓jIntg_13, ↓jLngg_13, ↓jRefg_13, ↓jAnyg_13, ↓jst_x13, ↓jst2_x13, ↓jIntg_14, ↓jLngg_14, ↓jRefg_14, ↓jAnyg_14, ↓jst_x14, ↓jst2_x14, ↓ex_some, jpv_some, jpv_none, jPls_pv, jisL_I, jisL_L, jisL_R, jisL_S, jisL_N, jisL_U, j_op0, j_op1, j_op2, j_c2, true_and, and_true, true_or, or_true, Int.toNat_natCast, nat1, ex_row, ex_row2, jwb1, jwb, jwb2, Classical.not_not, not_true_eq_false, false_implies, true_implies, ne_eq, not_false_eq_true, rV_inj, vI_inj, vL_inj, hi_tp, Nat.reduceEqDiff, Nat.reduceLeDiff, Nat.reduceAdd, Int.reduceLE, Int.reduceLT, Int.reduceEq, Int.reduceNeg, Int.reduceToNat, Int.reduceAdd, Int.reduceSub, Int.reduceMul, w_id, hsh_si, hp_si, hi_si_ne]
        have hF2 : Fr Srs τ (hsi (hsi τ 17 fs.length m) 12 6 (fs.length + 1 : Nat)) := ((Fr.refl _ _).si (by unfold Srs; omega)).si (by unfold Srs; omega)
        refine hN ((m, p, b, r) :: fs, b, p + 1, (s.1, s.2.1 + 1, s.2.2.1, s.2.2.2), n + 1) _ (by show m + fSum fs + 21 * (200 - (s.2.1 + 1)) < fSum fs + 21 * (200 - s.2.1); omega) ⟨x2, c4, rfl, ⟨⟨by omega, by omega⟩, x2, x3, c4, c5, c6, c7, by show p + 2 + clen b + clen r = fEnd (clen k) fs; omega, by rw [hi_si_ne (by decide), hi_si_eq], ⟨by show fs.length + dpt b + 1 ≤ 6; omega, by show fs.length + dpt r ≤ 6; omega⟩, fOk_congr (fun j hj => by rw [hi_si_ne (by decide), hi_si_nk (by omega)]) hfo⟩, ?_, hin1, kT hTx hF2, kN hNx hF2, kK hKx hF2, hi_si_eq _ _ _ _, ?_, ?_, hF.trans (hs hF2), ?_, ?_⟩
        · rw [← hrun]
          obtain ⟨m2, rfl⟩ : ∃ m2, m = m2 + 1 := ⟨m - 1, by omega⟩
          rfl
        · rw [hi_si_nk (by decide), hi_si_ne (by decide)]; exact h7
        · rw [hi_si_nk (by decide), hi_si_ne (by decide)]; exact h8
        · show fs.length + 1 + dpt b ≤ 6
          omega
        · show n + 1 + (m + fSum fs) + 21 * (200 - (s.2.1 + 1)) ≤ 4200
          omega
  · rintro ⟨fs, x, p, s, n⟩ τ h
    exact h
end CRUN
