/-! The class's hours, kept once found -/
section CHOURS
variable {sc : jSc} {σ : jH} {D : jD} {w : Nat → Int} {q t : Nat} {f : Int}
theorem jor8 {x c : Int} (hx : 0 ≤ x ∧ x < 4194304) (hc : 0 ≤ c ∧ c < 256) : j_op 4 (j_op 6 x 8) c = x * 256 + c := by
  obtain ⟨n, rfl⟩ := Int.eq_ofNat_of_zero_le hx.1
  obtain ⟨m, rfl⟩ := Int.eq_ofNat_of_zero_le hc.1
  have h1 := jop6 (x := n) (k := 8) (by decide) (by omega)
  rw [show ((8 : Nat) : Int) = 8 from rfl] at h1
  rw [h1, jop4 (by omega) (by omega), ← Nat.shiftLeft_eq, ← Nat.shiftLeft_add_eq_or_of_lt (by omega), Nat.shiftLeft_eq]
  omega
theorem jsr5 {x : Int} (hx : 0 ≤ x ∧ x < 2147483648) : j_op 7 x 5 = x / 32 := by
  obtain ⟨n, rfl⟩ := Int.eq_ofNat_of_zero_le hx.1
  have h1 := jop7 (x := n) (k := 5) (by decide) (by omega)
  rw [show ((5 : Nat) : Int) = 5 from rfl] at h1
  rw [h1]
  omega
theorem jan31 {x : Int} (hx : 0 ≤ x ∧ x < 2147483648) : j_op 3 x 31 = x % 32 := by
  obtain ⟨n, rfl⟩ := Int.eq_ofNat_of_zero_le hx.1
  have h1 := jop3 (x := n) (y := 31) (by omega) (by decide)
  rw [show ((31 : Nat) : Int) = 31 from rfl] at h1
  rw [h1, show (31 : Nat) = 2 ^ 5 - 1 from rfl, Nat.and_two_pow_sub_one_eq_mod]
  omega
/-- the facts, told -/
def fcl (D : jD) (a x : Nat) (d n f : Int) : Nat → Int := fun j => match j with
  | 0 => D 1 a
  | 1 => D 2 a
  | 2 => D 3 a
  | 3 => x
  | 4 => D 6 x
  | 5 => d
  | 6 => n
  | _ => f
def lsl (fa : Nat → Int) (l : lC) : Int := clp ((ev fa l []).getD 0 0)
theorem clp_rg (v : Int) : 1 ≤ clp v ∧ clp v ≤ 24 := by
  unfold clp
  split
  · omega
  · split <;> omega
theorem lsl_rg (fa : Nat → Int) (l : lC) : 1 ≤ lsl fa l ∧ lsl fa l ≤ 24 := clp_rg _
theorem ev_con5 {fa fb : Nat → Int} {c : Nat} (hf : ∀ w, w ≤ 7 → w ≠ c → fa w = fb w) : ∀ (l : lC) (st : List Int), (∀ x ∈ l, wlp x) → (1, c) ∉ l → ev fa l st = ev fb l st
  | [], _, _, _ => rfl
  | x :: l, st, h, hn => by
    have hx := h x (by simp)
    have hl : ∀ y ∈ l, wlp y := fun y hy => h y (by simp [hy])
    have hn' : (1, c) ∉ l := fun z => hn (by simp [z])
    simp only [ev]
    split
    · exact ev_con5 hf l _ hl hn'
    · split
      · rename_i h0 h1
        have h2 : x.2 ≠ c := fun z => hn (by
          have : x = (1, c) := by rw [← h1, ← z]
          rw [this]; simp)
        unfold wlp at hx
        rw [hf x.2 (by omega) h2]
        exact ev_con5 hf l _ hl hn'
      · split
        · exact ev_con5 hf l _ hl hn'
        · exact ev_con5 hf l _ hl hn'
/-- without the day among the facts, the day makes no odds -/
theorem lsl_day {a x : Nat} {d e n f : Int} {l : lC} (hw : ∀ x ∈ l, wlp x) (h : ¬ dyf l 5 l.length = 1) : lsl (fcl D a x d n f) l = lsl (fcl D a x e n f) l := by
  unfold lsl
  rw [ev_con5 (c := 5) (fb := fcl D a x e n f) ?_ l [] hw ?_]
  · intro w h7 h5
    have : w = 0 ∨ w = 1 ∨ w = 2 ∨ w = 3 ∨ w = 4 ∨ w = 6 ∨ w = 7 := by omega
    rcases this with rfl | rfl | rfl | rfl | rfl | rfl | rfl <;> rfl
  · intro z
    unfold dyf at h
    rw [List.take_length, if_pos z] at h
    exact h rfl
/-- what is kept is right, if its version and its day are -/
def KC (σ : jH) (D : jD) (l : lC) (V : Int) : Prop := ∀ i : Nat, i < 576 → 0 ≤ hi σ 8 i ∧ hi σ 8 i < 8192 * (V + 1) ∧ ∀ (a x n f : Nat) (d : Int), (a : Int) < D 0 0 → x < 12 → n ≤ 2 → f ≤ 1 → 0 ≤ d → d < 256 → i = ((a * 12 + x) * 3 + n) * 2 + f → hi σ 8 i / 32 = V * 256 + (if dyf l 5 l.length = 1 then d else 0) → hi σ 8 i % 32 = lsl (fcl D a x d n f) l
theorem KC_new {D' : jD} {l l' : lC} {V : Int} (h : KC σ D l V) : KC σ D' l' (V + 1) := fun i hi' => by
  obtain ⟨h1, h2, -⟩ := h i hi'
  refine ⟨h1, by omega, fun a x n f d _ _ _ _ _ _ _ h3 => ?_⟩
  split at h3 <;> omega
def Sh : Nat → Nat → Prop := fun r _ => r = 6 ∨ r = 7 ∨ r = 8
theorem LC_sh {τ : jH} {l : lC} {V : Int} (h : LC σ l V) (hF : Fr Sh σ τ) : LC τ l V := by
  unfold LC
  rw [hF.ir (r := 3) (fun k => by unfold Sh; omega), hF.ir (r := 4) (fun k => by unfold Sh; omega)]
  exact h
theorem CX_sh {τ : jH} (h : CX σ t D) (hF : Fr Sh σ τ) : CX τ t D := by
  have hg := h.1
  have ht : 34 ≤ t := hg.1.1
  refine ⟨?_, ?_, h.2.2⟩
  · unfold OT; rw [hF.sh, hF.hp]; exact hg
  · unfold RDc
    rw [hF.ir (r := t) (fun k => by unfold Sh; omega), hF.ir (r := t + 1) (fun k => by unfold Sh; omega), hF.ir (r := t + 2) (fun k => by unfold Sh; omega), hF.ir (r := t + 3) (fun k => by unfold Sh; omega), hF.ir (r := t + 4) (fun k => by unfold Sh; omega), hF.ir (r := t + 5) (fun k => by unfold Sh; omega), hF.ir (r := t + 6) (fun k => by unfold Sh; omega), hF.ir (r := t + 7) (fun k => by unfold Sh; omega), hF.ir (r := t + 8) (fun k => by unfold Sh; omega), hF.ir (r := t + 9) (fun k => by unfold Sh; omega), hF.ir (r := t + 10) (fun k => by unfold Sh; omega)]
    exact h.2.1
theorem TW_sh {τ : jH} (h : TW σ q D w f) (hF : Fr Sh σ τ) : TW τ q D w f := by
  have hl := OWl h.1
  refine ⟨OW_fr h.1 hF, ?_⟩
  rw [hF.ir (r := q) (fun k => by unfold Sh; omega), hF.ir (r := q + 1) (fun k => by unfold Sh; omega), hF.ir (r := q + 2) (fun k => by unfold Sh; omega), hF.ir (r := q + 3) (fun k => by unfold Sh; omega)]
  exact h.2
theorem c_81 {x : Int} (hT : TW σ q D w f) (hd8 : D 0 0 ≤ 8) (hx : -1 ≤ x ∧ x ≤ 12) : Ct sc 1 81 [vR q, vI x] σ (fun r τ => r = rV (vI (if 0 ≤ x ∧ x < 12 ∧ std w x (D 0 0).toNat ≠ -1 then 1 else 0)) ∧ τ = σ) := by
  obtain ⟨hQ, h1, h2, h3, -⟩ := id hT
  refine Ct.of (n := 0) (L := [vR q, vI x]) cov_81 rfl (Nat.le_of_ble_eq_true rfl) ?_
  unfold T_81
  simp only [↓x_eInt, ↓x_eLng, ↓x_eNul, ↓x_eStr, ↓x_eLoc, ↓x_eLol, ↓x_eLor, ↓x_eBin, ↓x_eDiv, ↓x_eRem, ↓x_eNeg, ↓x_eLbin, ↓x_eLdiv, ↓x_eLrem, ↓x_eLshl, ↓x_eLshr, ↓x_eI2l, ↓x_eL2i, ↓x_eFldI, ↓x_eFldL, ↓x_eFldP, ↓x_eAldI, ↓x_eAldS, ↓x_eAldL, ↓x_eAldP, ↓x_eLen, ↓x_eLenS, ↓x_eCall, ↓x_eCalv, ↓x_eMin, ↓x_eMax, ↓x_eLmin, ↓x_eAbs, ↓x_eSlen, ↓x_eSat, ↓x_eIte, ↓x_eNewa, ↓x_eNewo, ↓x_esN, ↓x_esC, ↓x_cCmp, ↓x_cCmpz, ↓x_cLcmp, ↓x_cIsn, ↓x_cNot, ↓x_cAnd, ↓x_cOr, ↓x_tSkip, ↓x_tSup, ↓x_tSeq, ↓x_tSetI, ↓x_tSetL, ↓x_tSetR, ↓x_tInc, ↓x_tPutI, ↓x_tPutL, ↓x_tPutP, ↓x_tPutc, ↓x_tAstI, ↓x_tAstL, ↓x_tAstP, ↓x_tAstcI, ↓x_tAstcL, ↓x_tAcpI, ↓x_tAcpL, ↓x_tExp, ↓x_tExv, ↓x_tExw, ↓x_tIte, ↓x_tSw, ↓x_tRet, ↓x_tRetB, ↓x_tRetL, ↓x_tRetv, ↓x_tBrk, ↓x_tCont, ↓x_tThr, ↓x_wD, ↓x_wK, ↓x_jIx, ↓x_jOb, ↓x_jInt_I, ↓x_jLng_L, ↓x_jRef_R, ↓x_jStr_S, ↓x_jPls_R, ↓x_jPls_N, ↓x_jAny_R, ↓x_jAny_S, ↓jIntg_0, ↓jLngg_0, ↓jRefg_0, ↓jAnyg_0, ↓jStrg_0, ↓jPlsg_0, ↓jst_x0, ↓jst2_x0, ↓jIntg_1, ↓jLngg_1, ↓jRefg_1, ↓jAnyg_1, ↓jst_x1, ↓jst2_x1, ↓jIntg_2, ↓jLngg_2, ↓jRefg_2, ↓jAnyg_2, ↓jst_x2, ↓jst2_x2, ↓jIntg_3, ↓jLngg_3, ↓jRefg_3, ↓jAnyg_3, ↓jst_x3, ↓jst2_x3, ↓jIntg_4, ↓jLngg_4, ↓jRefg_4, ↓jAnyg_4, ↓jst_x4, ↓jst2_x4, ↓jIntg_5, ↓jLngg_5, ↓jRefg_5, ↓jAnyg_5, ↓jst_x5, ↓jst2_x5, ↓jIntg_6, ↓jLngg_6, ↓jRefg_6, ↓jAnyg_6, ↓jst_x6, ↓jst2_x6, ↓jIntg_7, ↓jLngg_7, ↓jRefg_7, ↓jAnyg_7, ↓jst_x7, ↓jst2_x7, ↓jIntg_8, ↓jLngg_8, ↓jRefg_8, ↓jAnyg_8, ↓jst_x8, ↓jst2_x8, ↓jIntg_9, ↓jLngg_9, ↓jRefg_9, ↓jAnyg_9, ↓jst_x9, ↓jst2_x9, ↓jIntg_10, ↓jLngg_10, ↓jRefg_10, ↓jAnyg_10, ↓jst_x10, ↓jst2_x10, ↓jIntg_11, ↓jLngg_11, ↓jRefg_11, ↓jAnyg_11, ↓jst_x11, ↓jst2_x11, ↓jIntg_12, ↓jLngg_12, ↓jRefg_12, ↓jAnyg_12, ↓jst_x12, ↓jst2_x12, ↓jIntg_13, ↓jLngg_13, ↓jRefg_13, ↓jAnyg_13, ↓jst_x13, ↓jst2_x13, ↓jIntg_14, ↓jLngg_14, ↓jRefg_14, ↓jAnyg_14, ↓jst_x14, ↓jst2_x14, ↓ex_some, jpv_some, jpv_none, jPls_pv, jisL_I, jisL_L, jisL_R, jisL_S, jisL_N, jisL_U, j_op0, j_op1, j_op2, j_c2, true_and, and_true, true_or, or_true, Int.toNat_natCast, nat1, ex_row, ex_row2, jwb1, jwb, jwb2, Classical.not_not, not_true_eq_false, false_implies, true_implies, ne_eq, not_false_eq_true, rV_inj, vI_inj, vL_inj, hi_tp, Nat.reduceEqDiff, Nat.reduceLeDiff, Nat.reduceAdd, Int.reduceLE, Int.reduceLT, Int.reduceEq, Int.reduceNeg, Int.reduceToNat, Int.reduceAdd, Int.reduceSub, Int.reduceMul, OWs0 hQ, OWs1 hQ, OWs2 hQ, OWs3 hQ, OWs4 hQ, OWp0 hQ, OWp1 hQ, OWp2 hQ, OWp3 hQ, jf_9_4, jf_9_5, jf_9_6, jf_9_7, jf_9_8, jf_9_9]
  simp (disch := omega) only [↓x_eInt, ↓x_eLng, ↓x_eNul, ↓x_eStr, ↓x_eLoc, ↓x_eLol, ↓x_eLor, ↓x_eBin, ↓x_eDiv, ↓x_eRem, ↓x_eNeg, ↓x_eLbin, ↓x_eLdiv, ↓x_eLrem, ↓x_eLshl, ↓x_eLshr, ↓x_eI2l, ↓x_eL2i, ↓x_eFldI, ↓x_eFldL, ↓x_eFldP, ↓x_eAldI, ↓x_eAldS, ↓x_eAldL, ↓x_eAldP, ↓x_eLen, ↓x_eLenS, ↓x_eCall, ↓x_eCalv, ↓x_eMin, ↓x_eMax, ↓x_eLmin, ↓x_eAbs, ↓x_eSlen, ↓x_eSat, ↓x_eIte, ↓x_eNewa, ↓x_eNewo, ↓x_esN, ↓x_esC, ↓x_cCmp, ↓x_cCmpz, ↓x_cLcmp, ↓x_cIsn, ↓x_cNot, ↓x_cAnd, ↓x_cOr, ↓x_tSkip, ↓x_tSup, ↓x_tSeq, ↓x_tSetI, ↓x_tSetL, ↓x_tSetR, ↓x_tInc, ↓x_tPutI, ↓x_tPutL, ↓x_tPutP, ↓x_tPutc, ↓x_tAstI, ↓x_tAstL, ↓x_tAstP, ↓x_tAstcI, ↓x_tAstcL, ↓x_tAcpI, ↓x_tAcpL, ↓x_tExp, ↓x_tExv, ↓x_tExw, ↓x_tIte, ↓x_tSw, ↓x_tRet, ↓x_tRetB, ↓x_tRetL, ↓x_tRetv, ↓x_tBrk, ↓x_tCont, ↓x_tThr, ↓x_wD, ↓x_wK, ↓x_jIx, ↓x_jOb, ↓x_jInt_I, ↓x_jLng_L, ↓x_jRef_R, ↓x_jStr_S, ↓x_jPls_R, ↓x_jPls_N, ↓x_jAny_R, ↓x_jAny_S, ↓jIntg_0, ↓jLngg_0, ↓jRefg_0, ↓jAnyg_0, ↓jStrg_0, ↓jPlsg_0, ↓jst_x0, ↓jst2_x0, ↓jIntg_1, ↓jLngg_1, ↓jRefg_1, ↓jAnyg_1, ↓jst_x1, ↓jst2_x1, ↓jIntg_2, ↓jLngg_2, ↓jRefg_2, ↓jAnyg_2, ↓jst_x2, ↓jst2_x2, ↓jIntg_3, ↓jLngg_3, ↓jRefg_3, ↓jAnyg_3, ↓jst_x3, ↓jst2_x3, ↓jIntg_4, ↓jLngg_4, ↓jRefg_4, ↓jAnyg_4, ↓jst_x4, ↓jst2_x4, ↓jIntg_5, ↓jLngg_5, ↓jRefg_5, ↓jAnyg_5, ↓jst_x5, ↓jst2_x5, ↓jIntg_6, ↓jLngg_6, ↓jRefg_6, ↓jAnyg_6, ↓jst_x6, ↓jst2_x6, ↓jIntg_7, ↓jLngg_7, ↓jRefg_7, ↓jAnyg_7, ↓jst_x7, ↓jst2_x7, ↓jIntg_8, ↓jLngg_8, ↓jRefg_8, ↓jAnyg_8, ↓jst_x8, ↓jst2_x8, ↓jIntg_9, ↓jLngg_9, ↓jRefg_9, ↓jAnyg_9, ↓jst_x9, ↓jst2_x9, ↓jIntg_10, ↓jLngg_10, ↓jRefg_10, ↓jAnyg_10, ↓jst_x10, ↓jst2_x10, ↓jIntg_11, ↓jLngg_11, ↓jRefg_11, ↓jAnyg_11, ↓jst_x11, ↓jst2_x11, ↓jIntg_12, ↓jLngg_12, ↓jRefg_12, ↓jAnyg_12, ↓jst_x12, ↓jst2_x12, ↓jIntg_13, ↓jLngg_13, ↓jRefg_13, ↓jAnyg_13, ↓jst_x13, ↓jst2_x13, ↓jIntg_14, ↓jLngg_14, ↓jRefg_14, ↓jAnyg_14, ↓jst_x14, ↓jst2_x14, ↓ex_some, jpv_some, jpv_none, jPls_pv, jisL_I, jisL_L, jisL_R, jisL_S, jisL_N, jisL_U, j_op0, j_op1, j_op2, j_c2, true_and, and_true, true_or, or_true, Int.toNat_natCast, nat1, ex_row, ex_row2, jwb1, jwb, jwb2, Classical.not_not, not_true_eq_false, false_implies, true_implies, ne_eq, not_false_eq_true, rV_inj, vI_inj, vL_inj, hi_tp, Nat.reduceEqDiff, Nat.reduceLeDiff, Nat.reduceAdd, Int.reduceLE, Int.reduceLT, Int.reduceEq, Int.reduceNeg, Int.reduceToNat, Int.reduceAdd, Int.reduceSub, Int.reduceMul, w_id, hsh_si, hp_si, hi_si_ne, OWs0 hQ, OWs1 hQ, OWs2 hQ, OWs3 hQ, OWs4 hQ, OWp0 hQ, OWp1 hQ, OWp2 hQ, OWp3 hQ, jf_9_4, jf_9_5, jf_9_6, jf_9_7, jf_9_8, jf_9_9]
  have hs := std_rg w x (D 0 0).toNat
  refine ⟨fun g1 => ⟨fun g2 => ?_, fun g2 => by rw [if_neg (fun z => g2 z.2.1)]⟩, fun g1 => by rw [if_neg (fun z => g1 z.1)]⟩
  have h4 := h3 x.toNat (by omega)
  rw [show ((x.toNat : Nat) : Int) = x by omega] at h4
  rw [h4]
  simp (disch := omega) only [w_id]
  refine ⟨by omega, by omega, fun g3 => by rw [if_pos ⟨g1, g2, g3⟩], fun g3 => by rw [if_neg (fun z => z.2.2 g3)]⟩
end CHOURS
