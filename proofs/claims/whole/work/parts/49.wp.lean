/-! Laws by which simp walks a tree in one pass (each fires ahead of what stands behind it); frames; loops (written by wip/gen49.py) -/
section WP
theorem x_eInt (z : Int) (sc : jSc) (C : jCR) (L : List jV) (Q : jV → jH → Prop) (σ : jH) : eInt z sc C L Q σ = (Q (vI z) σ) := propext Iff.rfl
theorem x_eLng (z : Int) (sc : jSc) (C : jCR) (L : List jV) (Q : jV → jH → Prop) (σ : jH) : eLng z sc C L Q σ = (Q (vL z) σ) := propext Iff.rfl
theorem x_eNul (sc : jSc) (C : jCR) (L : List jV) (Q : jV → jH → Prop) (σ : jH) : eNul sc C L Q σ = (Q vN σ) := propext Iff.rfl
theorem x_eStr (q : Nat) (sc : jSc) (C : jCR) (L : List jV) (Q : jV → jH → Prop) (σ : jH) : eStr q sc C L Q σ = (Q (vS q) σ) := propext Iff.rfl
theorem x_eLoc (j : Nat) (sc : jSc) (C : jCR) (L : List jV) (Q : jV → jH → Prop) (σ : jH) : eLoc j sc C L Q σ = (jInt (jget L j) (fun z => Q (vI z) σ)) := propext Iff.rfl
theorem x_eLol (j : Nat) (sc : jSc) (C : jCR) (L : List jV) (Q : jV → jH → Prop) (σ : jH) : eLol j sc C L Q σ = (jLng (jget L j) (fun z => Q (vL z) σ)) := propext Iff.rfl
theorem x_eLor (j : Nat) (sc : jSc) (C : jCR) (L : List jV) (Q : jV → jH → Prop) (σ : jH) : eLor j sc C L Q σ = (jAny (jget L j) (fun z => Q z σ)) := propext Iff.rfl
theorem x_eBin (o : Nat) (a b : jE) (sc : jSc) (C : jCR) (L : List jV) (Q : jV → jH → Prop) (σ : jH) : eBin o a b sc C L Q σ = (a sc C L (fun x σ => b sc C L (fun y σ => jInt x (fun x => jInt y (fun y => Q (vI (j_op o x y)) σ))) σ) σ) := propext Iff.rfl
theorem x_eDiv (a b : jE) (sc : jSc) (C : jCR) (L : List jV) (Q : jV → jH → Prop) (σ : jH) : eDiv a b sc C L Q σ = (a sc C L (fun x σ => b sc C L (fun y σ => jInt x (fun x => jInt y (fun y => j_w y ≠ 0 ∧ Q (vI (j_div x y)) σ))) σ) σ) := propext Iff.rfl
theorem x_eRem (a b : jE) (sc : jSc) (C : jCR) (L : List jV) (Q : jV → jH → Prop) (σ : jH) : eRem a b sc C L Q σ = (a sc C L (fun x σ => b sc C L (fun y σ => jInt x (fun x => jInt y (fun y => j_w y ≠ 0 ∧ Q (vI (j_rem x y)) σ))) σ) σ) := propext Iff.rfl
theorem x_eNeg (a : jE) (sc : jSc) (C : jCR) (L : List jV) (Q : jV → jH → Prop) (σ : jH) : eNeg a sc C L Q σ = (a sc C L (fun x σ => jInt x (fun x => Q (vI (-x)) σ)) σ) := propext Iff.rfl
theorem x_eLbin (o : Nat) (a b : jE) (sc : jSc) (C : jCR) (L : List jV) (Q : jV → jH → Prop) (σ : jH) : eLbin o a b sc C L Q σ = (a sc C L (fun x σ => b sc C L (fun y σ => jLng x (fun x => jLng y (fun y => Q (vL (j_lop o x y)) σ))) σ) σ) := propext Iff.rfl
theorem x_eLdiv (a b : jE) (sc : jSc) (C : jCR) (L : List jV) (Q : jV → jH → Prop) (σ : jH) : eLdiv a b sc C L Q σ = (a sc C L (fun x σ => b sc C L (fun y σ => jLng x (fun x => jLng y (fun y => j_w64 y ≠ 0 ∧ Q (vL (j_ldiv x y)) σ))) σ) σ) := propext Iff.rfl
theorem x_eLrem (a b : jE) (sc : jSc) (C : jCR) (L : List jV) (Q : jV → jH → Prop) (σ : jH) : eLrem a b sc C L Q σ = (a sc C L (fun x σ => b sc C L (fun y σ => jLng x (fun x => jLng y (fun y => j_w64 y ≠ 0 ∧ Q (vL (j_lrem x y)) σ))) σ) σ) := propext Iff.rfl
theorem x_eLshl (a b : jE) (sc : jSc) (C : jCR) (L : List jV) (Q : jV → jH → Prop) (σ : jH) : eLshl a b sc C L Q σ = (a sc C L (fun x σ => b sc C L (fun y σ => jLng x (fun x => jInt y (fun y => Q (vL (j_lshl x y)) σ))) σ) σ) := propext Iff.rfl
theorem x_eLshr (a b : jE) (sc : jSc) (C : jCR) (L : List jV) (Q : jV → jH → Prop) (σ : jH) : eLshr a b sc C L Q σ = (a sc C L (fun x σ => b sc C L (fun y σ => jLng x (fun x => jInt y (fun y => Q (vL (j_lshr x y)) σ))) σ) σ) := propext Iff.rfl
theorem x_eI2l (a : jE) (sc : jSc) (C : jCR) (L : List jV) (Q : jV → jH → Prop) (σ : jH) : eI2l a sc C L Q σ = (a sc C L (fun x σ => jInt x (fun x => Q (vL (j_w x)) σ)) σ) := propext Iff.rfl
theorem x_eL2i (a : jE) (sc : jSc) (C : jCR) (L : List jV) (Q : jV → jH → Prop) (σ : jH) : eL2i a sc C L Q σ = (a sc C L (fun x σ => jLng x (fun x => Q (vI x) σ)) σ) := propext Iff.rfl
theorem x_eFldI (ci k : Nat) (a : jE) (sc : jSc) (C : jCR) (L : List jV) (Q : jV → jH → Prop) (σ : jH) : eFldI ci k a sc C L Q σ = (a sc C L (fun x σ => jRef x (fun r => jOb σ r ci (Q (vI (hi σ r k)) σ))) σ) := propext Iff.rfl
theorem x_eFldL (ci k : Nat) (a : jE) (sc : jSc) (C : jCR) (L : List jV) (Q : jV → jH → Prop) (σ : jH) : eFldL ci k a sc C L Q σ = (a sc C L (fun x σ => jRef x (fun r => jOb σ r ci (Q (vL (hl σ r k)) σ))) σ) := propext Iff.rfl
theorem x_eFldP (ci k : Nat) (a : jE) (sc : jSc) (C : jCR) (L : List jV) (Q : jV → jH → Prop) (σ : jH) : eFldP ci k a sc C L Q σ = (a sc C L (fun x σ => jRef x (fun r => jOb σ r ci (Q (jpv (hp σ r k)) σ))) σ) := propext Iff.rfl
theorem x_eAldI (a i : jE) (sc : jSc) (C : jCR) (L : List jV) (Q : jV → jH → Prop) (σ : jH) : eAldI a i sc C L Q σ = (a sc C L (fun x σ => i sc C L (fun y σ => jInt y (fun y => jRef x (fun r => jIx σ r 0 y (Q (vI (hi σ r y.toNat)) σ)))) σ) σ) := propext Iff.rfl
theorem x_eAldS (a i : jE) (sc : jSc) (C : jCR) (L : List jV) (Q : jV → jH → Prop) (σ : jH) : eAldS a i sc C L Q σ = (a sc C L (fun x σ => i sc C L (fun y σ => jInt y (fun y => jStr x (fun q => q = 1000 ∧ jScr sc y (fun z => Q (vI z) σ)))) σ) σ) := propext Iff.rfl
theorem x_eAldL (a i : jE) (sc : jSc) (C : jCR) (L : List jV) (Q : jV → jH → Prop) (σ : jH) : eAldL a i sc C L Q σ = (a sc C L (fun x σ => i sc C L (fun y σ => jInt y (fun y => jRef x (fun r => jIx σ r 1 y (Q (vL (hl σ r y.toNat)) σ)))) σ) σ) := propext Iff.rfl
theorem x_eAldP (a i : jE) (sc : jSc) (C : jCR) (L : List jV) (Q : jV → jH → Prop) (σ : jH) : eAldP a i sc C L Q σ = (a sc C L (fun x σ => i sc C L (fun y σ => jInt y (fun y => jRef x (fun r => jIx σ r 2 y (Q (jpv (hp σ r y.toNat)) σ)))) σ) σ) := propext Iff.rfl
theorem x_eLen (a : jE) (sc : jSc) (C : jCR) (L : List jV) (Q : jV → jH → Prop) (σ : jH) : eLen a sc C L Q σ = (a sc C L (fun x σ => jRef x (fun r => ∃ k n, (hsh σ)[r]? = some (k, n) ∧ k < 2 ∧ Q (vI n) σ)) σ) := propext Iff.rfl
theorem x_eLenS (a : jE) (sc : jSc) (C : jCR) (L : List jV) (Q : jV → jH → Prop) (σ : jH) : eLenS a sc C L Q σ = (a sc C L (fun x σ => jStr x (fun q => q = 1000 ∧ Q (vI sc.1) σ)) σ) := propext Iff.rfl
theorem x_eCall (w m : Nat) (as : jEs) (sc : jSc) (C : jCR) (L : List jV) (Q : jV → jH → Prop) (σ : jH) : eCall w m as sc C L Q σ = (as sc C L (fun vs σ => jcal C m w vs Q σ) σ) := propext Iff.rfl
theorem x_eCalv (w ci m : Nat) (as : jEs) (sc : jSc) (C : jCR) (L : List jV) (Q : jV → jH → Prop) (σ : jH) : eCalv w ci m as sc C L Q σ = (as sc C L (fun vs σ => jRef (jget vs 0) (fun r => jOb σ r ci (jcal C m w vs Q σ))) σ) := propext Iff.rfl
theorem x_eMin (a b : jE) (sc : jSc) (C : jCR) (L : List jV) (Q : jV → jH → Prop) (σ : jH) : eMin a b sc C L Q σ = (a sc C L (fun x σ => b sc C L (fun y σ => jInt x (fun x => jInt y (fun y => Q (vI (if j_w y < j_w x then y else x)) σ))) σ) σ) := propext Iff.rfl
theorem x_eMax (a b : jE) (sc : jSc) (C : jCR) (L : List jV) (Q : jV → jH → Prop) (σ : jH) : eMax a b sc C L Q σ = (a sc C L (fun x σ => b sc C L (fun y σ => jInt x (fun x => jInt y (fun y => Q (vI (if j_w x < j_w y then y else x)) σ))) σ) σ) := propext Iff.rfl
theorem x_eLmin (a b : jE) (sc : jSc) (C : jCR) (L : List jV) (Q : jV → jH → Prop) (σ : jH) : eLmin a b sc C L Q σ = (a sc C L (fun x σ => b sc C L (fun y σ => jLng x (fun x => jLng y (fun y => Q (vL (if j_w64 y < j_w64 x then y else x)) σ))) σ) σ) := propext Iff.rfl
theorem x_eAbs (a : jE) (sc : jSc) (C : jCR) (L : List jV) (Q : jV → jH → Prop) (σ : jH) : eAbs a sc C L Q σ = (a sc C L (fun x σ => jInt x (fun x => Q (vI (if 0 ≤ j_w x then x else 0 - x)) σ)) σ) := propext Iff.rfl
theorem x_eSlen (a : jE) (sc : jSc) (C : jCR) (L : List jV) (Q : jV → jH → Prop) (σ : jH) : eSlen a sc C L Q σ = (a sc C L (fun x σ => jStr x (fun q => q < 27 ∧ Q (vI (a_txt q).length) σ)) σ) := propext Iff.rfl
theorem x_eSat (a i : jE) (sc : jSc) (C : jCR) (L : List jV) (Q : jV → jH → Prop) (σ : jH) : eSat a i sc C L Q σ = (a sc C L (fun x σ => i sc C L (fun y σ => jStr x (fun q => jInt y (fun y => q < 27 ∧ 0 ≤ y ∧ y < (a_txt q).length ∧ Q (vI ((a_txt q).getD y.toNat 0 : Nat)) σ))) σ) σ) := propext Iff.rfl
theorem x_eIte (c : jC) (a b : jE) (sc : jSc) (C : jCR) (L : List jV) (Q : jV → jH → Prop) (σ : jH) : eIte c a b sc C L Q σ = (c sc C L (fun σ => a sc C L Q σ) (fun σ => b sc C L Q σ) σ) := propext Iff.rfl
theorem x_eNewa (t : Nat) (a : jE) (sc : jSc) (C : jCR) (L : List jV) (Q : jV → jH → Prop) (σ : jH) : eNewa t a sc C L Q σ = (a sc C L (fun x σ => jInt x (fun n => 0 ≤ n ∧ n ≤ 1000000 ∧ Q (vR (hsh σ).length) (hal σ t n.toNat))) σ) := propext Iff.rfl
theorem x_eNewo (ci m : Nat) (as : jEs) (sc : jSc) (C : jCR) (L : List jV) (Q : jV → jH → Prop) (σ : jH) : eNewo ci m as sc C L Q σ = (as sc C L (fun vs τ => ∃ τ', C m (vR (hsh σ).length :: vs) τ rN τ' ∧ Q (vR (hsh σ).length) τ') (hal σ (ci + 3) 0)) := propext Iff.rfl
theorem x_esN (sc : jSc) (C : jCR) (L : List jV) (Q : List jV → jH → Prop) (σ : jH) : esN sc C L Q σ = (Q [] σ) := propext Iff.rfl
theorem x_esC (e : jE) (t : jEs) (sc : jSc) (C : jCR) (L : List jV) (Q : List jV → jH → Prop) (σ : jH) : esC e t sc C L Q σ = (e sc C L (fun v σ => t sc C L (fun vs σ => Q (v :: vs) σ) σ) σ) := propext Iff.rfl
theorem x_cCmp (o : ClassFile.Cond) (a b : jE) (sc : jSc) (C : jCR) (L : List jV) (T F : jH → Prop) (σ : jH) : cCmp o a b sc C L T F σ = (a sc C L (fun x σ => b sc C L (fun y σ => jInt x (fun x => jInt y (fun y => (j_c2 o (j_w x) (j_w y) → T σ) ∧ (¬ j_c2 o (j_w x) (j_w y) → F σ)))) σ) σ) := propext Iff.rfl
theorem x_cCmpz (o : ClassFile.Cond) (a : jE) (sc : jSc) (C : jCR) (L : List jV) (T F : jH → Prop) (σ : jH) : cCmpz o a sc C L T F σ = (a sc C L (fun x σ => jInt x (fun x => (j_c2 o (j_w x) 0 → T σ) ∧ (¬ j_c2 o (j_w x) 0 → F σ))) σ) := propext Iff.rfl
theorem x_cLcmp (o : ClassFile.Cond) (a b : jE) (sc : jSc) (C : jCR) (L : List jV) (T F : jH → Prop) (σ : jH) : cLcmp o a b sc C L T F σ = (a sc C L (fun x σ => b sc C L (fun y σ => jLng x (fun x => jLng y (fun y => (j_c2 o (j_w64 x) (j_w64 y) → T σ) ∧ (¬ j_c2 o (j_w64 x) (j_w64 y) → F σ)))) σ) σ) := propext Iff.rfl
theorem x_cIsn (a : jE) (sc : jSc) (C : jCR) (L : List jV) (T F : jH → Prop) (σ : jH) : cIsn a sc C L T F σ = (a sc C L (fun x σ => jPls x (fun p => (p = none → T σ) ∧ (¬ p = none → F σ))) σ) := propext Iff.rfl
theorem x_cNot (c : jC) (sc : jSc) (C : jCR) (L : List jV) (T F : jH → Prop) (σ : jH) : cNot c sc C L T F σ = (c sc C L F T σ) := propext Iff.rfl
theorem x_cAnd (a b : jC) (sc : jSc) (C : jCR) (L : List jV) (T F : jH → Prop) (σ : jH) : cAnd a b sc C L T F σ = (a sc C L (fun σ => b sc C L T F σ) F σ) := propext Iff.rfl
theorem x_cOr (a b : jC) (sc : jSc) (C : jCR) (L : List jV) (T F : jH → Prop) (σ : jH) : cOr a b sc C L T F σ = (a sc C L T (fun σ => b sc C L T F σ) σ) := propext Iff.rfl
theorem x_tSkip (sc : jSc) (C : jCR) (N B K : jN) (R : jR → jH → Prop) (L : List jV) (σ : jH) : tSkip sc C N B K R L σ = (N L σ) := propext Iff.rfl
theorem x_tSup (sc : jSc) (C : jCR) (N B K : jN) (R : jR → jH → Prop) (L : List jV) (σ : jH) : tSup sc C N B K R L σ = (jRef (jget L 0) (fun _ => N L σ)) := propext Iff.rfl
theorem x_tSeq (a b : jS) (sc : jSc) (C : jCR) (N B K : jN) (R : jR → jH → Prop) (L : List jV) (σ : jH) : tSeq a b sc C N B K R L σ = (a sc C (fun L σ => b sc C N B K R L σ) B K R L σ) := propext Iff.rfl
theorem x_tSetI (j : Nat) (e : jE) (sc : jSc) (C : jCR) (N B K : jN) (R : jR → jH → Prop) (L : List jV) (σ : jH) : tSetI j e sc C N B K R L σ = (e sc C L (fun v σ => jInt v (fun z => ∃ M, jst L j (vI z) = some M ∧ N M σ)) σ) := propext Iff.rfl
theorem x_tSetL (j : Nat) (e : jE) (sc : jSc) (C : jCR) (N B K : jN) (R : jR → jH → Prop) (L : List jV) (σ : jH) : tSetL j e sc C N B K R L σ = (e sc C L (fun v σ => jLng v (fun z => ∃ M, jst2 L j (vL z) = some M ∧ N M σ)) σ) := propext Iff.rfl
theorem x_tSetR (j : Nat) (e : jE) (sc : jSc) (C : jCR) (N B K : jN) (R : jR → jH → Prop) (L : List jV) (σ : jH) : tSetR j e sc C N B K R L σ = (e sc C L (fun v σ => jAny v (fun z => ∃ M, jst L j z = some M ∧ N M σ)) σ) := propext Iff.rfl
theorem x_tInc (j : Nat) (z : Int) (sc : jSc) (C : jCR) (N B K : jN) (R : jR → jH → Prop) (L : List jV) (σ : jH) : tInc j z sc C N B K R L σ = (jInt (jget L j) (fun x => ∃ M, jst L j (vI (x + z)) = some M ∧ N M σ)) := propext Iff.rfl
theorem x_tPutI (ci k : Nat) (o e : jE) (sc : jSc) (C : jCR) (N B K : jN) (R : jR → jH → Prop) (L : List jV) (σ : jH) : tPutI ci k o e sc C N B K R L σ = (o sc C L (fun x σ => e sc C L (fun y σ => jRef x (fun r => jOb σ r ci (jInt y (fun z => jFit ci k z ∧ N L (hsi σ r k z))))) σ) σ) := propext Iff.rfl
theorem x_tPutL (ci k : Nat) (o e : jE) (sc : jSc) (C : jCR) (N B K : jN) (R : jR → jH → Prop) (L : List jV) (σ : jH) : tPutL ci k o e sc C N B K R L σ = (o sc C L (fun x σ => e sc C L (fun y σ => jRef x (fun r => jOb σ r ci (jLng y (fun z => N L (hsl σ r k z))))) σ) σ) := propext Iff.rfl
theorem x_tPutP (ci k : Nat) (o e : jE) (sc : jSc) (C : jCR) (N B K : jN) (R : jR → jH → Prop) (L : List jV) (σ : jH) : tPutP ci k o e sc C N B K R L σ = (o sc C L (fun x σ => e sc C L (fun y σ => jRef x (fun r => jOb σ r ci (jPls y (fun z => N L (hsp σ r k z))))) σ) σ) := propext Iff.rfl
theorem x_tPutc (ci k : Nat) (o : jE) (p : Nat) (e : jE) (sc : jSc) (C : jCR) (N B K : jN) (R : jR → jH → Prop) (L : List jV) (σ : jH) : tPutc ci k o p e sc C N B K R L σ = (o sc C L (fun x σ => jRef x (fun r => jOb σ r ci (e sc C L (fun y τ => jInt y (fun z => jOb τ r ci (jFit ci k (j_op p (hi σ r k) z) ∧ N L (hsi τ r k (j_op p (hi σ r k) z))))) σ))) σ) := propext Iff.rfl
theorem x_tAstI (a i e : jE) (sc : jSc) (C : jCR) (N B K : jN) (R : jR → jH → Prop) (L : List jV) (σ : jH) : tAstI a i e sc C N B K R L σ = (a sc C L (fun x σ => i sc C L (fun y σ => e sc C L (fun v σ => jRef x (fun r => jInt y (fun y => jIx σ r 0 y (jInt v (fun z => N L (hsi σ r y.toNat z)))))) σ) σ) σ) := propext Iff.rfl
theorem x_tAstL (a i e : jE) (sc : jSc) (C : jCR) (N B K : jN) (R : jR → jH → Prop) (L : List jV) (σ : jH) : tAstL a i e sc C N B K R L σ = (a sc C L (fun x σ => i sc C L (fun y σ => e sc C L (fun v σ => jRef x (fun r => jInt y (fun y => jIx σ r 1 y (jLng v (fun z => N L (hsl σ r y.toNat z)))))) σ) σ) σ) := propext Iff.rfl
theorem x_tAstP (a i e : jE) (sc : jSc) (C : jCR) (N B K : jN) (R : jR → jH → Prop) (L : List jV) (σ : jH) : tAstP a i e sc C N B K R L σ = (a sc C L (fun x σ => i sc C L (fun y σ => e sc C L (fun v σ => jRef x (fun r => jInt y (fun y => jIx σ r 2 y (jPls v (fun z => (∀ q, z = some q → jOb σ q 9 True) ∧ N L (hsp σ r y.toNat z)))))) σ) σ) σ) := propext Iff.rfl
theorem x_tAstcI (a i : jE) (p : Nat) (e : jE) (sc : jSc) (C : jCR) (N B K : jN) (R : jR → jH → Prop) (L : List jV) (σ : jH) : tAstcI a i p e sc C N B K R L σ = (a sc C L (fun x σ => i sc C L (fun y σ => jRef x (fun r => jInt y (fun y => jIx σ r 0 y (e sc C L (fun v τ => jInt v (fun z => jIx τ r 0 y (N L (hsi τ r y.toNat (j_op p (hi σ r y.toNat) z))))) σ)))) σ) σ) := propext Iff.rfl
theorem x_tAstcL (a i : jE) (p : Nat) (e : jE) (sc : jSc) (C : jCR) (N B K : jN) (R : jR → jH → Prop) (L : List jV) (σ : jH) : tAstcL a i p e sc C N B K R L σ = (a sc C L (fun x σ => i sc C L (fun y σ => jRef x (fun r => jInt y (fun y => jIx σ r 1 y (e sc C L (fun v τ => jLng v (fun z => jIx τ r 1 y (N L (hsl τ r y.toNat (j_lop p (hl σ r y.toNat) z))))) σ)))) σ) σ) := propext Iff.rfl
theorem x_tAcpI (a sp b dp n : jE) (sc : jSc) (C : jCR) (N B K : jN) (R : jR → jH → Prop) (L : List jV) (σ : jH) : tAcpI a sp b dp n sc C N B K R L σ = (a sc C L (fun va σ => sp sc C L (fun vs σ => b sc C L (fun vb σ => dp sc C L (fun vd σ => n sc C L (fun vn σ => jRef va (fun ra => jInt vs (fun s => jRef vb (fun rb => jInt vd (fun d => jInt vn (fun n => jcpy σ 0 ra rb s d n (N L (hci σ ra s.toNat rb d.toNat n.toNat)))))))) σ) σ) σ) σ) σ) := propext Iff.rfl
theorem x_tAcpL (a sp b dp n : jE) (sc : jSc) (C : jCR) (N B K : jN) (R : jR → jH → Prop) (L : List jV) (σ : jH) : tAcpL a sp b dp n sc C N B K R L σ = (a sc C L (fun va σ => sp sc C L (fun vs σ => b sc C L (fun vb σ => dp sc C L (fun vd σ => n sc C L (fun vn σ => jRef va (fun ra => jInt vs (fun s => jRef vb (fun rb => jInt vd (fun d => jInt vn (fun n => jcpy σ 1 ra rb s d n (N L (hcl σ ra s.toNat rb d.toNat n.toNat)))))))) σ) σ) σ) σ) σ) := propext Iff.rfl
theorem x_tExp (e : jE) (sc : jSc) (C : jCR) (N B K : jN) (R : jR → jH → Prop) (L : List jV) (σ : jH) : tExp e sc C N B K R L σ = (e sc C L (fun _ σ => N L σ) σ) := propext Iff.rfl
theorem x_tExv (m : Nat) (as : jEs) (sc : jSc) (C : jCR) (N B K : jN) (R : jR → jH → Prop) (L : List jV) (σ : jH) : tExv m as sc C N B K R L σ = (as sc C L (fun vs σ => jcav C m vs (N L) σ) σ) := propext Iff.rfl
theorem x_tExw (ci m : Nat) (as : jEs) (sc : jSc) (C : jCR) (N B K : jN) (R : jR → jH → Prop) (L : List jV) (σ : jH) : tExw ci m as sc C N B K R L σ = (as sc C L (fun vs σ => jRef (jget vs 0) (fun r => jOb σ r ci (jcat2 C m vs (N L) R σ))) σ) := propext Iff.rfl
theorem x_tIte (c : jC) (a b : jS) (sc : jSc) (C : jCR) (N B K : jN) (R : jR → jH → Prop) (L : List jV) (σ : jH) : tIte c a b sc C N B K R L σ = (c sc C L (fun σ => a sc C N B K R L σ) (fun σ => b sc C N B K R L σ) σ) := propext Iff.rfl
theorem x_tSw (e : jE) (w : jW) (sc : jSc) (C : jCR) (N B K : jN) (R : jR → jH → Prop) (L : List jV) (σ : jH) : tSw e w sc C N B K R L σ = (e sc C L (fun v σ => jInt v (fun z => w sc C (j_w z) N K R L σ)) σ) := propext Iff.rfl
theorem x_tRet (e : jE) (sc : jSc) (C : jCR) (N B K : jN) (R : jR → jH → Prop) (L : List jV) (σ : jH) : tRet e sc C N B K R L σ = (e sc C L (fun v σ => jInt v (fun z => R (rV (vI z)) σ)) σ) := propext Iff.rfl
theorem x_tRetB (e : jE) (sc : jSc) (C : jCR) (N B K : jN) (R : jR → jH → Prop) (L : List jV) (σ : jH) : tRetB e sc C N B K R L σ = (e sc C L (fun v σ => jInt v (fun z => (z = 0 ∨ z = 1) ∧ R (rV (vI z)) σ)) σ) := propext Iff.rfl
theorem x_tRetL (e : jE) (sc : jSc) (C : jCR) (N B K : jN) (R : jR → jH → Prop) (L : List jV) (σ : jH) : tRetL e sc C N B K R L σ = (e sc C L (fun v σ => jLng v (fun z => R (rV (vL z)) σ)) σ) := propext Iff.rfl
theorem x_tRetv (sc : jSc) (C : jCR) (N B K : jN) (R : jR → jH → Prop) (L : List jV) (σ : jH) : tRetv sc C N B K R L σ = (R rN σ) := propext Iff.rfl
theorem x_tBrk (sc : jSc) (C : jCR) (N B K : jN) (R : jR → jH → Prop) (L : List jV) (σ : jH) : tBrk sc C N B K R L σ = (B L σ) := propext Iff.rfl
theorem x_tCont (sc : jSc) (C : jCR) (N B K : jN) (R : jR → jH → Prop) (L : List jV) (σ : jH) : tCont sc C N B K R L σ = (K L σ) := propext Iff.rfl
theorem x_tThr (x : Nat) (sc : jSc) (C : jCR) (N B K : jN) (R : jR → jH → Prop) (L : List jV) (σ : jH) : tThr x sc C N B K R L σ = (R (rT x) (hal σ (x + 16) 0)) := propext Iff.rfl
theorem x_wD (s : jS) (sc : jSc) (C : jCR) (z : Int) (N K : jN) (R : jR → jH → Prop) (L : List jV) (σ : jH) : wD s sc C z N K R L σ = (s sc C N N K R L σ) := propext Iff.rfl
theorem x_wK (ks : List Int) (s : jS) (t : jW) (sc : jSc) (C : jCR) (z : Int) (N K : jN) (R : jR → jH → Prop) (L : List jV) (σ : jH) : wK ks s t sc C z N K R L σ = ((z ∈ ks → s sc C (fun _ _ => False) N K R L σ) ∧ (¬ z ∈ ks → t sc C z N K R L σ)) := propext Iff.rfl
theorem x_jIx (σ : jH) (r k : Nat) (x : Int) (P : Prop) : jIx σ r k x P = (∃ n, (hsh σ)[r]? = some (k, n) ∧ n ≤ 1000000 ∧ 0 ≤ x ∧ x < n ∧ P) := propext Iff.rfl
theorem x_jOb (σ : jH) (r ci : Nat) (P : Prop) : jOb σ r ci P = ((hsh σ)[r]? = some (ci + 3, 0) ∧ P) := propext Iff.rfl
theorem x_jInt_I (z : Int) (P : Int → Prop) : jInt (vI z) P = P z := propext Iff.rfl
theorem x_jLng_L (z : Int) (P : Int → Prop) : jLng (vL z) P = P z := propext Iff.rfl
theorem x_jRef_R (z : Nat) (P : Nat → Prop) : jRef (vR z) P = P z := propext Iff.rfl
theorem x_jStr_S (z : Nat) (P : Nat → Prop) : jStr (vS z) P = P z := propext Iff.rfl
theorem x_jPls_R (z : Nat) (P : Option Nat → Prop) : jPls (vR z) P = P (some z) := propext Iff.rfl
theorem x_jPls_N (P : Option Nat → Prop) : jPls vN P = P none := propext Iff.rfl
theorem x_jAny_R (z : Nat) (P : jV → Prop) : jAny (vR z) P = P (vR z) := propext Iff.rfl
theorem x_jAny_S (z : Nat) (P : jV → Prop) : jAny (vS z) P = P (vS z) := propext Iff.rfl
theorem jIntg_0 (a0 : jV) (t : List jV) (P : Int → Prop) : jInt (jget (a0 :: t) 0) P = jInt a0 P := propext Iff.rfl
theorem jLngg_0 (a0 : jV) (t : List jV) (P : Int → Prop) : jLng (jget (a0 :: t) 0) P = jLng a0 P := propext Iff.rfl
theorem jRefg_0 (a0 : jV) (t : List jV) (P : Nat → Prop) : jRef (jget (a0 :: t) 0) P = jRef a0 P := propext Iff.rfl
theorem jAnyg_0 (a0 : jV) (t : List jV) (P : jV → Prop) : jAny (jget (a0 :: t) 0) P = jAny a0 P := propext Iff.rfl
theorem jStrg_0 (a0 : jV) (t : List jV) (P : Nat → Prop) : jStr (jget (a0 :: t) 0) P = jStr a0 P := propext Iff.rfl
theorem jPlsg_0 (a0 : jV) (t : List jV) (P : Option Nat → Prop) : jPls (jget (a0 :: t) 0) P = jPls a0 P := propext Iff.rfl
theorem jst_x0 (a0 v : jV) (t : List jV) (P : List jV → Prop) : (∃ M, jst (a0 :: t) 0 v = some M ∧ P M) = P (v :: t) := propext ⟨fun ⟨_, h, p⟩ => (by cases h; exact p), fun p => ⟨_, rfl, p⟩⟩
theorem jst2_x0 (a0 a1 v : jV) (t : List jV) (P : List jV → Prop) : (∃ M, jst2 (a0 :: a1 :: t) 0 v = some M ∧ P M) = P (v :: vU :: t) := propext ⟨fun ⟨_, h, p⟩ => (by rw [jst2_eq, if_pos (by simp only [List.length_cons]; omega)] at h; cases h; exact p), fun p => ⟨_, by rw [jst2_eq, if_pos (by simp only [List.length_cons]; omega)]; rfl, p⟩⟩
theorem jIntg_1 (a0 a1 : jV) (t : List jV) (P : Int → Prop) : jInt (jget (a0 :: a1 :: t) 1) P = jInt a1 P := propext Iff.rfl
theorem jLngg_1 (a0 a1 : jV) (t : List jV) (P : Int → Prop) : jLng (jget (a0 :: a1 :: t) 1) P = jLng a1 P := propext Iff.rfl
theorem jRefg_1 (a0 a1 : jV) (t : List jV) (P : Nat → Prop) : jRef (jget (a0 :: a1 :: t) 1) P = jRef a1 P := propext Iff.rfl
theorem jAnyg_1 (a0 a1 : jV) (t : List jV) (P : jV → Prop) : jAny (jget (a0 :: a1 :: t) 1) P = jAny a1 P := propext Iff.rfl
theorem jst_y1 (a0 a1 v : jV) (t : List jV) : jst (a0 :: a1 :: t) 1 v = if jisL a0 = true then none else some (a0 :: v :: t) := by
  rw [jst_1, jst_0]; rfl
theorem jst_x1 (a0 a1 v : jV) (t : List jV) (P : List jV → Prop) : (∃ M, jst (a0 :: a1 :: t) 1 v = some M ∧ P M) = (jisL a0 = false ∧ P (a0 :: v :: t)) := by
  rw [jst_y1]; cases jisL a0 with
  | true => exact propext ⟨fun ⟨_, h, _⟩ => (by cases h), fun ⟨h, _⟩ => (by cases h)⟩
  | false => exact propext ⟨fun ⟨_, h, p⟩ => (by cases h; exact ⟨rfl, p⟩), fun ⟨_, p⟩ => ⟨_, rfl, p⟩⟩
theorem jst2_x1 (a0 a1 w v : jV) (t : List jV) (P : List jV → Prop) : (∃ M, jst2 (a0 :: a1 :: w :: t) 1 v = some M ∧ P M) = (jisL a0 = false ∧ P (a0 :: v :: vU :: t)) := by
  rw [jst2_eq, if_pos (by simp only [List.length_cons]; omega), jst_y1]; cases jisL a0 with
  | true => exact propext ⟨fun ⟨_, h, _⟩ => (by cases h), fun ⟨h, _⟩ => (by cases h)⟩
  | false => exact propext ⟨fun ⟨_, h, p⟩ => (by cases h; exact ⟨rfl, p⟩), fun ⟨_, p⟩ => ⟨_, rfl, p⟩⟩
theorem jIntg_2 (a0 a1 a2 : jV) (t : List jV) (P : Int → Prop) : jInt (jget (a0 :: a1 :: a2 :: t) 2) P = jInt a2 P := propext Iff.rfl
theorem jLngg_2 (a0 a1 a2 : jV) (t : List jV) (P : Int → Prop) : jLng (jget (a0 :: a1 :: a2 :: t) 2) P = jLng a2 P := propext Iff.rfl
theorem jRefg_2 (a0 a1 a2 : jV) (t : List jV) (P : Nat → Prop) : jRef (jget (a0 :: a1 :: a2 :: t) 2) P = jRef a2 P := propext Iff.rfl
theorem jAnyg_2 (a0 a1 a2 : jV) (t : List jV) (P : jV → Prop) : jAny (jget (a0 :: a1 :: a2 :: t) 2) P = jAny a2 P := propext Iff.rfl
theorem jst_y2 (a0 a1 a2 v : jV) (t : List jV) : jst (a0 :: a1 :: a2 :: t) 2 v = if jisL a1 = true then none else some (a0 :: a1 :: v :: t) := by
  rw [jst_s, jst_1, jst_0]; cases jisL a1 <;> rfl
theorem jst_x2 (a0 a1 a2 v : jV) (t : List jV) (P : List jV → Prop) : (∃ M, jst (a0 :: a1 :: a2 :: t) 2 v = some M ∧ P M) = (jisL a1 = false ∧ P (a0 :: a1 :: v :: t)) := by
  rw [jst_y2]; cases jisL a1 with
  | true => exact propext ⟨fun ⟨_, h, _⟩ => (by cases h), fun ⟨h, _⟩ => (by cases h)⟩
  | false => exact propext ⟨fun ⟨_, h, p⟩ => (by cases h; exact ⟨rfl, p⟩), fun ⟨_, p⟩ => ⟨_, rfl, p⟩⟩
theorem jst2_x2 (a0 a1 a2 w v : jV) (t : List jV) (P : List jV → Prop) : (∃ M, jst2 (a0 :: a1 :: a2 :: w :: t) 2 v = some M ∧ P M) = (jisL a1 = false ∧ P (a0 :: a1 :: v :: vU :: t)) := by
  rw [jst2_eq, if_pos (by simp only [List.length_cons]; omega), jst_y2]; cases jisL a1 with
  | true => exact propext ⟨fun ⟨_, h, _⟩ => (by cases h), fun ⟨h, _⟩ => (by cases h)⟩
  | false => exact propext ⟨fun ⟨_, h, p⟩ => (by cases h; exact ⟨rfl, p⟩), fun ⟨_, p⟩ => ⟨_, rfl, p⟩⟩
theorem jIntg_3 (a0 a1 a2 a3 : jV) (t : List jV) (P : Int → Prop) : jInt (jget (a0 :: a1 :: a2 :: a3 :: t) 3) P = jInt a3 P := propext Iff.rfl
theorem jLngg_3 (a0 a1 a2 a3 : jV) (t : List jV) (P : Int → Prop) : jLng (jget (a0 :: a1 :: a2 :: a3 :: t) 3) P = jLng a3 P := propext Iff.rfl
theorem jRefg_3 (a0 a1 a2 a3 : jV) (t : List jV) (P : Nat → Prop) : jRef (jget (a0 :: a1 :: a2 :: a3 :: t) 3) P = jRef a3 P := propext Iff.rfl
theorem jAnyg_3 (a0 a1 a2 a3 : jV) (t : List jV) (P : jV → Prop) : jAny (jget (a0 :: a1 :: a2 :: a3 :: t) 3) P = jAny a3 P := propext Iff.rfl
theorem jst_y3 (a0 a1 a2 a3 v : jV) (t : List jV) : jst (a0 :: a1 :: a2 :: a3 :: t) 3 v = if jisL a2 = true then none else some (a0 :: a1 :: a2 :: v :: t) := by
  rw [jst_s, jst_s, jst_1, jst_0]; cases jisL a2 <;> rfl
theorem jst_x3 (a0 a1 a2 a3 v : jV) (t : List jV) (P : List jV → Prop) : (∃ M, jst (a0 :: a1 :: a2 :: a3 :: t) 3 v = some M ∧ P M) = (jisL a2 = false ∧ P (a0 :: a1 :: a2 :: v :: t)) := by
  rw [jst_y3]; cases jisL a2 with
  | true => exact propext ⟨fun ⟨_, h, _⟩ => (by cases h), fun ⟨h, _⟩ => (by cases h)⟩
  | false => exact propext ⟨fun ⟨_, h, p⟩ => (by cases h; exact ⟨rfl, p⟩), fun ⟨_, p⟩ => ⟨_, rfl, p⟩⟩
theorem jst2_x3 (a0 a1 a2 a3 w v : jV) (t : List jV) (P : List jV → Prop) : (∃ M, jst2 (a0 :: a1 :: a2 :: a3 :: w :: t) 3 v = some M ∧ P M) = (jisL a2 = false ∧ P (a0 :: a1 :: a2 :: v :: vU :: t)) := by
  rw [jst2_eq, if_pos (by simp only [List.length_cons]; omega), jst_y3]; cases jisL a2 with
  | true => exact propext ⟨fun ⟨_, h, _⟩ => (by cases h), fun ⟨h, _⟩ => (by cases h)⟩
  | false => exact propext ⟨fun ⟨_, h, p⟩ => (by cases h; exact ⟨rfl, p⟩), fun ⟨_, p⟩ => ⟨_, rfl, p⟩⟩
theorem jIntg_4 (a0 a1 a2 a3 a4 : jV) (t : List jV) (P : Int → Prop) : jInt (jget (a0 :: a1 :: a2 :: a3 :: a4 :: t) 4) P = jInt a4 P := propext Iff.rfl
theorem jLngg_4 (a0 a1 a2 a3 a4 : jV) (t : List jV) (P : Int → Prop) : jLng (jget (a0 :: a1 :: a2 :: a3 :: a4 :: t) 4) P = jLng a4 P := propext Iff.rfl
theorem jRefg_4 (a0 a1 a2 a3 a4 : jV) (t : List jV) (P : Nat → Prop) : jRef (jget (a0 :: a1 :: a2 :: a3 :: a4 :: t) 4) P = jRef a4 P := propext Iff.rfl
theorem jAnyg_4 (a0 a1 a2 a3 a4 : jV) (t : List jV) (P : jV → Prop) : jAny (jget (a0 :: a1 :: a2 :: a3 :: a4 :: t) 4) P = jAny a4 P := propext Iff.rfl
theorem jst_y4 (a0 a1 a2 a3 a4 v : jV) (t : List jV) : jst (a0 :: a1 :: a2 :: a3 :: a4 :: t) 4 v = if jisL a3 = true then none else some (a0 :: a1 :: a2 :: a3 :: v :: t) := by
  rw [jst_s, jst_s, jst_s, jst_1, jst_0]; cases jisL a3 <;> rfl
theorem jst_x4 (a0 a1 a2 a3 a4 v : jV) (t : List jV) (P : List jV → Prop) : (∃ M, jst (a0 :: a1 :: a2 :: a3 :: a4 :: t) 4 v = some M ∧ P M) = (jisL a3 = false ∧ P (a0 :: a1 :: a2 :: a3 :: v :: t)) := by
  rw [jst_y4]; cases jisL a3 with
  | true => exact propext ⟨fun ⟨_, h, _⟩ => (by cases h), fun ⟨h, _⟩ => (by cases h)⟩
  | false => exact propext ⟨fun ⟨_, h, p⟩ => (by cases h; exact ⟨rfl, p⟩), fun ⟨_, p⟩ => ⟨_, rfl, p⟩⟩
theorem jst2_x4 (a0 a1 a2 a3 a4 w v : jV) (t : List jV) (P : List jV → Prop) : (∃ M, jst2 (a0 :: a1 :: a2 :: a3 :: a4 :: w :: t) 4 v = some M ∧ P M) = (jisL a3 = false ∧ P (a0 :: a1 :: a2 :: a3 :: v :: vU :: t)) := by
  rw [jst2_eq, if_pos (by simp only [List.length_cons]; omega), jst_y4]; cases jisL a3 with
  | true => exact propext ⟨fun ⟨_, h, _⟩ => (by cases h), fun ⟨h, _⟩ => (by cases h)⟩
  | false => exact propext ⟨fun ⟨_, h, p⟩ => (by cases h; exact ⟨rfl, p⟩), fun ⟨_, p⟩ => ⟨_, rfl, p⟩⟩
theorem jIntg_5 (a0 a1 a2 a3 a4 a5 : jV) (t : List jV) (P : Int → Prop) : jInt (jget (a0 :: a1 :: a2 :: a3 :: a4 :: a5 :: t) 5) P = jInt a5 P := propext Iff.rfl
theorem jLngg_5 (a0 a1 a2 a3 a4 a5 : jV) (t : List jV) (P : Int → Prop) : jLng (jget (a0 :: a1 :: a2 :: a3 :: a4 :: a5 :: t) 5) P = jLng a5 P := propext Iff.rfl
theorem jRefg_5 (a0 a1 a2 a3 a4 a5 : jV) (t : List jV) (P : Nat → Prop) : jRef (jget (a0 :: a1 :: a2 :: a3 :: a4 :: a5 :: t) 5) P = jRef a5 P := propext Iff.rfl
theorem jAnyg_5 (a0 a1 a2 a3 a4 a5 : jV) (t : List jV) (P : jV → Prop) : jAny (jget (a0 :: a1 :: a2 :: a3 :: a4 :: a5 :: t) 5) P = jAny a5 P := propext Iff.rfl
theorem jst_y5 (a0 a1 a2 a3 a4 a5 v : jV) (t : List jV) : jst (a0 :: a1 :: a2 :: a3 :: a4 :: a5 :: t) 5 v = if jisL a4 = true then none else some (a0 :: a1 :: a2 :: a3 :: a4 :: v :: t) := by
  rw [jst_s, jst_s, jst_s, jst_s, jst_1, jst_0]; cases jisL a4 <;> rfl
theorem jst_x5 (a0 a1 a2 a3 a4 a5 v : jV) (t : List jV) (P : List jV → Prop) : (∃ M, jst (a0 :: a1 :: a2 :: a3 :: a4 :: a5 :: t) 5 v = some M ∧ P M) = (jisL a4 = false ∧ P (a0 :: a1 :: a2 :: a3 :: a4 :: v :: t)) := by
  rw [jst_y5]; cases jisL a4 with
  | true => exact propext ⟨fun ⟨_, h, _⟩ => (by cases h), fun ⟨h, _⟩ => (by cases h)⟩
  | false => exact propext ⟨fun ⟨_, h, p⟩ => (by cases h; exact ⟨rfl, p⟩), fun ⟨_, p⟩ => ⟨_, rfl, p⟩⟩
theorem jst2_x5 (a0 a1 a2 a3 a4 a5 w v : jV) (t : List jV) (P : List jV → Prop) : (∃ M, jst2 (a0 :: a1 :: a2 :: a3 :: a4 :: a5 :: w :: t) 5 v = some M ∧ P M) = (jisL a4 = false ∧ P (a0 :: a1 :: a2 :: a3 :: a4 :: v :: vU :: t)) := by
  rw [jst2_eq, if_pos (by simp only [List.length_cons]; omega), jst_y5]; cases jisL a4 with
  | true => exact propext ⟨fun ⟨_, h, _⟩ => (by cases h), fun ⟨h, _⟩ => (by cases h)⟩
  | false => exact propext ⟨fun ⟨_, h, p⟩ => (by cases h; exact ⟨rfl, p⟩), fun ⟨_, p⟩ => ⟨_, rfl, p⟩⟩
theorem jIntg_6 (a0 a1 a2 a3 a4 a5 a6 : jV) (t : List jV) (P : Int → Prop) : jInt (jget (a0 :: a1 :: a2 :: a3 :: a4 :: a5 :: a6 :: t) 6) P = jInt a6 P := propext Iff.rfl
theorem jLngg_6 (a0 a1 a2 a3 a4 a5 a6 : jV) (t : List jV) (P : Int → Prop) : jLng (jget (a0 :: a1 :: a2 :: a3 :: a4 :: a5 :: a6 :: t) 6) P = jLng a6 P := propext Iff.rfl
theorem jRefg_6 (a0 a1 a2 a3 a4 a5 a6 : jV) (t : List jV) (P : Nat → Prop) : jRef (jget (a0 :: a1 :: a2 :: a3 :: a4 :: a5 :: a6 :: t) 6) P = jRef a6 P := propext Iff.rfl
theorem jAnyg_6 (a0 a1 a2 a3 a4 a5 a6 : jV) (t : List jV) (P : jV → Prop) : jAny (jget (a0 :: a1 :: a2 :: a3 :: a4 :: a5 :: a6 :: t) 6) P = jAny a6 P := propext Iff.rfl
theorem jst_y6 (a0 a1 a2 a3 a4 a5 a6 v : jV) (t : List jV) : jst (a0 :: a1 :: a2 :: a3 :: a4 :: a5 :: a6 :: t) 6 v = if jisL a5 = true then none else some (a0 :: a1 :: a2 :: a3 :: a4 :: a5 :: v :: t) := by
  rw [jst_s, jst_s, jst_s, jst_s, jst_s, jst_1, jst_0]; cases jisL a5 <;> rfl
theorem jst_x6 (a0 a1 a2 a3 a4 a5 a6 v : jV) (t : List jV) (P : List jV → Prop) : (∃ M, jst (a0 :: a1 :: a2 :: a3 :: a4 :: a5 :: a6 :: t) 6 v = some M ∧ P M) = (jisL a5 = false ∧ P (a0 :: a1 :: a2 :: a3 :: a4 :: a5 :: v :: t)) := by
  rw [jst_y6]; cases jisL a5 with
  | true => exact propext ⟨fun ⟨_, h, _⟩ => (by cases h), fun ⟨h, _⟩ => (by cases h)⟩
  | false => exact propext ⟨fun ⟨_, h, p⟩ => (by cases h; exact ⟨rfl, p⟩), fun ⟨_, p⟩ => ⟨_, rfl, p⟩⟩
theorem jst2_x6 (a0 a1 a2 a3 a4 a5 a6 w v : jV) (t : List jV) (P : List jV → Prop) : (∃ M, jst2 (a0 :: a1 :: a2 :: a3 :: a4 :: a5 :: a6 :: w :: t) 6 v = some M ∧ P M) = (jisL a5 = false ∧ P (a0 :: a1 :: a2 :: a3 :: a4 :: a5 :: v :: vU :: t)) := by
  rw [jst2_eq, if_pos (by simp only [List.length_cons]; omega), jst_y6]; cases jisL a5 with
  | true => exact propext ⟨fun ⟨_, h, _⟩ => (by cases h), fun ⟨h, _⟩ => (by cases h)⟩
  | false => exact propext ⟨fun ⟨_, h, p⟩ => (by cases h; exact ⟨rfl, p⟩), fun ⟨_, p⟩ => ⟨_, rfl, p⟩⟩
theorem jIntg_7 (a0 a1 a2 a3 a4 a5 a6 a7 : jV) (t : List jV) (P : Int → Prop) : jInt (jget (a0 :: a1 :: a2 :: a3 :: a4 :: a5 :: a6 :: a7 :: t) 7) P = jInt a7 P := propext Iff.rfl
theorem jLngg_7 (a0 a1 a2 a3 a4 a5 a6 a7 : jV) (t : List jV) (P : Int → Prop) : jLng (jget (a0 :: a1 :: a2 :: a3 :: a4 :: a5 :: a6 :: a7 :: t) 7) P = jLng a7 P := propext Iff.rfl
theorem jRefg_7 (a0 a1 a2 a3 a4 a5 a6 a7 : jV) (t : List jV) (P : Nat → Prop) : jRef (jget (a0 :: a1 :: a2 :: a3 :: a4 :: a5 :: a6 :: a7 :: t) 7) P = jRef a7 P := propext Iff.rfl
theorem jAnyg_7 (a0 a1 a2 a3 a4 a5 a6 a7 : jV) (t : List jV) (P : jV → Prop) : jAny (jget (a0 :: a1 :: a2 :: a3 :: a4 :: a5 :: a6 :: a7 :: t) 7) P = jAny a7 P := propext Iff.rfl
theorem jst_y7 (a0 a1 a2 a3 a4 a5 a6 a7 v : jV) (t : List jV) : jst (a0 :: a1 :: a2 :: a3 :: a4 :: a5 :: a6 :: a7 :: t) 7 v = if jisL a6 = true then none else some (a0 :: a1 :: a2 :: a3 :: a4 :: a5 :: a6 :: v :: t) := by
  rw [jst_s, jst_s, jst_s, jst_s, jst_s, jst_s, jst_1, jst_0]; cases jisL a6 <;> rfl
theorem jst_x7 (a0 a1 a2 a3 a4 a5 a6 a7 v : jV) (t : List jV) (P : List jV → Prop) : (∃ M, jst (a0 :: a1 :: a2 :: a3 :: a4 :: a5 :: a6 :: a7 :: t) 7 v = some M ∧ P M) = (jisL a6 = false ∧ P (a0 :: a1 :: a2 :: a3 :: a4 :: a5 :: a6 :: v :: t)) := by
  rw [jst_y7]; cases jisL a6 with
  | true => exact propext ⟨fun ⟨_, h, _⟩ => (by cases h), fun ⟨h, _⟩ => (by cases h)⟩
  | false => exact propext ⟨fun ⟨_, h, p⟩ => (by cases h; exact ⟨rfl, p⟩), fun ⟨_, p⟩ => ⟨_, rfl, p⟩⟩
theorem jst2_x7 (a0 a1 a2 a3 a4 a5 a6 a7 w v : jV) (t : List jV) (P : List jV → Prop) : (∃ M, jst2 (a0 :: a1 :: a2 :: a3 :: a4 :: a5 :: a6 :: a7 :: w :: t) 7 v = some M ∧ P M) = (jisL a6 = false ∧ P (a0 :: a1 :: a2 :: a3 :: a4 :: a5 :: a6 :: v :: vU :: t)) := by
  rw [jst2_eq, if_pos (by simp only [List.length_cons]; omega), jst_y7]; cases jisL a6 with
  | true => exact propext ⟨fun ⟨_, h, _⟩ => (by cases h), fun ⟨h, _⟩ => (by cases h)⟩
  | false => exact propext ⟨fun ⟨_, h, p⟩ => (by cases h; exact ⟨rfl, p⟩), fun ⟨_, p⟩ => ⟨_, rfl, p⟩⟩
theorem jIntg_8 (a0 a1 a2 a3 a4 a5 a6 a7 a8 : jV) (t : List jV) (P : Int → Prop) : jInt (jget (a0 :: a1 :: a2 :: a3 :: a4 :: a5 :: a6 :: a7 :: a8 :: t) 8) P = jInt a8 P := propext Iff.rfl
theorem jLngg_8 (a0 a1 a2 a3 a4 a5 a6 a7 a8 : jV) (t : List jV) (P : Int → Prop) : jLng (jget (a0 :: a1 :: a2 :: a3 :: a4 :: a5 :: a6 :: a7 :: a8 :: t) 8) P = jLng a8 P := propext Iff.rfl
theorem jRefg_8 (a0 a1 a2 a3 a4 a5 a6 a7 a8 : jV) (t : List jV) (P : Nat → Prop) : jRef (jget (a0 :: a1 :: a2 :: a3 :: a4 :: a5 :: a6 :: a7 :: a8 :: t) 8) P = jRef a8 P := propext Iff.rfl
theorem jAnyg_8 (a0 a1 a2 a3 a4 a5 a6 a7 a8 : jV) (t : List jV) (P : jV → Prop) : jAny (jget (a0 :: a1 :: a2 :: a3 :: a4 :: a5 :: a6 :: a7 :: a8 :: t) 8) P = jAny a8 P := propext Iff.rfl
theorem jst_y8 (a0 a1 a2 a3 a4 a5 a6 a7 a8 v : jV) (t : List jV) : jst (a0 :: a1 :: a2 :: a3 :: a4 :: a5 :: a6 :: a7 :: a8 :: t) 8 v = if jisL a7 = true then none else some (a0 :: a1 :: a2 :: a3 :: a4 :: a5 :: a6 :: a7 :: v :: t) := by
  rw [jst_s, jst_s, jst_s, jst_s, jst_s, jst_s, jst_s, jst_1, jst_0]; cases jisL a7 <;> rfl
theorem jst_x8 (a0 a1 a2 a3 a4 a5 a6 a7 a8 v : jV) (t : List jV) (P : List jV → Prop) : (∃ M, jst (a0 :: a1 :: a2 :: a3 :: a4 :: a5 :: a6 :: a7 :: a8 :: t) 8 v = some M ∧ P M) = (jisL a7 = false ∧ P (a0 :: a1 :: a2 :: a3 :: a4 :: a5 :: a6 :: a7 :: v :: t)) := by
  rw [jst_y8]; cases jisL a7 with
  | true => exact propext ⟨fun ⟨_, h, _⟩ => (by cases h), fun ⟨h, _⟩ => (by cases h)⟩
  | false => exact propext ⟨fun ⟨_, h, p⟩ => (by cases h; exact ⟨rfl, p⟩), fun ⟨_, p⟩ => ⟨_, rfl, p⟩⟩
theorem jst2_x8 (a0 a1 a2 a3 a4 a5 a6 a7 a8 w v : jV) (t : List jV) (P : List jV → Prop) : (∃ M, jst2 (a0 :: a1 :: a2 :: a3 :: a4 :: a5 :: a6 :: a7 :: a8 :: w :: t) 8 v = some M ∧ P M) = (jisL a7 = false ∧ P (a0 :: a1 :: a2 :: a3 :: a4 :: a5 :: a6 :: a7 :: v :: vU :: t)) := by
  rw [jst2_eq, if_pos (by simp only [List.length_cons]; omega), jst_y8]; cases jisL a7 with
  | true => exact propext ⟨fun ⟨_, h, _⟩ => (by cases h), fun ⟨h, _⟩ => (by cases h)⟩
  | false => exact propext ⟨fun ⟨_, h, p⟩ => (by cases h; exact ⟨rfl, p⟩), fun ⟨_, p⟩ => ⟨_, rfl, p⟩⟩
theorem jIntg_9 (a0 a1 a2 a3 a4 a5 a6 a7 a8 a9 : jV) (t : List jV) (P : Int → Prop) : jInt (jget (a0 :: a1 :: a2 :: a3 :: a4 :: a5 :: a6 :: a7 :: a8 :: a9 :: t) 9) P = jInt a9 P := propext Iff.rfl
theorem jLngg_9 (a0 a1 a2 a3 a4 a5 a6 a7 a8 a9 : jV) (t : List jV) (P : Int → Prop) : jLng (jget (a0 :: a1 :: a2 :: a3 :: a4 :: a5 :: a6 :: a7 :: a8 :: a9 :: t) 9) P = jLng a9 P := propext Iff.rfl
theorem jRefg_9 (a0 a1 a2 a3 a4 a5 a6 a7 a8 a9 : jV) (t : List jV) (P : Nat → Prop) : jRef (jget (a0 :: a1 :: a2 :: a3 :: a4 :: a5 :: a6 :: a7 :: a8 :: a9 :: t) 9) P = jRef a9 P := propext Iff.rfl
theorem jAnyg_9 (a0 a1 a2 a3 a4 a5 a6 a7 a8 a9 : jV) (t : List jV) (P : jV → Prop) : jAny (jget (a0 :: a1 :: a2 :: a3 :: a4 :: a5 :: a6 :: a7 :: a8 :: a9 :: t) 9) P = jAny a9 P := propext Iff.rfl
theorem jst_y9 (a0 a1 a2 a3 a4 a5 a6 a7 a8 a9 v : jV) (t : List jV) : jst (a0 :: a1 :: a2 :: a3 :: a4 :: a5 :: a6 :: a7 :: a8 :: a9 :: t) 9 v = if jisL a8 = true then none else some (a0 :: a1 :: a2 :: a3 :: a4 :: a5 :: a6 :: a7 :: a8 :: v :: t) := by
  rw [jst_s, jst_s, jst_s, jst_s, jst_s, jst_s, jst_s, jst_s, jst_1, jst_0]; cases jisL a8 <;> rfl
theorem jst_x9 (a0 a1 a2 a3 a4 a5 a6 a7 a8 a9 v : jV) (t : List jV) (P : List jV → Prop) : (∃ M, jst (a0 :: a1 :: a2 :: a3 :: a4 :: a5 :: a6 :: a7 :: a8 :: a9 :: t) 9 v = some M ∧ P M) = (jisL a8 = false ∧ P (a0 :: a1 :: a2 :: a3 :: a4 :: a5 :: a6 :: a7 :: a8 :: v :: t)) := by
  rw [jst_y9]; cases jisL a8 with
  | true => exact propext ⟨fun ⟨_, h, _⟩ => (by cases h), fun ⟨h, _⟩ => (by cases h)⟩
  | false => exact propext ⟨fun ⟨_, h, p⟩ => (by cases h; exact ⟨rfl, p⟩), fun ⟨_, p⟩ => ⟨_, rfl, p⟩⟩
theorem jst2_x9 (a0 a1 a2 a3 a4 a5 a6 a7 a8 a9 w v : jV) (t : List jV) (P : List jV → Prop) : (∃ M, jst2 (a0 :: a1 :: a2 :: a3 :: a4 :: a5 :: a6 :: a7 :: a8 :: a9 :: w :: t) 9 v = some M ∧ P M) = (jisL a8 = false ∧ P (a0 :: a1 :: a2 :: a3 :: a4 :: a5 :: a6 :: a7 :: a8 :: v :: vU :: t)) := by
  rw [jst2_eq, if_pos (by simp only [List.length_cons]; omega), jst_y9]; cases jisL a8 with
  | true => exact propext ⟨fun ⟨_, h, _⟩ => (by cases h), fun ⟨h, _⟩ => (by cases h)⟩
  | false => exact propext ⟨fun ⟨_, h, p⟩ => (by cases h; exact ⟨rfl, p⟩), fun ⟨_, p⟩ => ⟨_, rfl, p⟩⟩
theorem jIntg_10 (a0 a1 a2 a3 a4 a5 a6 a7 a8 a9 a10 : jV) (t : List jV) (P : Int → Prop) : jInt (jget (a0 :: a1 :: a2 :: a3 :: a4 :: a5 :: a6 :: a7 :: a8 :: a9 :: a10 :: t) 10) P = jInt a10 P := propext Iff.rfl
theorem jLngg_10 (a0 a1 a2 a3 a4 a5 a6 a7 a8 a9 a10 : jV) (t : List jV) (P : Int → Prop) : jLng (jget (a0 :: a1 :: a2 :: a3 :: a4 :: a5 :: a6 :: a7 :: a8 :: a9 :: a10 :: t) 10) P = jLng a10 P := propext Iff.rfl
theorem jRefg_10 (a0 a1 a2 a3 a4 a5 a6 a7 a8 a9 a10 : jV) (t : List jV) (P : Nat → Prop) : jRef (jget (a0 :: a1 :: a2 :: a3 :: a4 :: a5 :: a6 :: a7 :: a8 :: a9 :: a10 :: t) 10) P = jRef a10 P := propext Iff.rfl
theorem jAnyg_10 (a0 a1 a2 a3 a4 a5 a6 a7 a8 a9 a10 : jV) (t : List jV) (P : jV → Prop) : jAny (jget (a0 :: a1 :: a2 :: a3 :: a4 :: a5 :: a6 :: a7 :: a8 :: a9 :: a10 :: t) 10) P = jAny a10 P := propext Iff.rfl
theorem jst_y10 (a0 a1 a2 a3 a4 a5 a6 a7 a8 a9 a10 v : jV) (t : List jV) : jst (a0 :: a1 :: a2 :: a3 :: a4 :: a5 :: a6 :: a7 :: a8 :: a9 :: a10 :: t) 10 v = if jisL a9 = true then none else some (a0 :: a1 :: a2 :: a3 :: a4 :: a5 :: a6 :: a7 :: a8 :: a9 :: v :: t) := by
  rw [jst_s, jst_s, jst_s, jst_s, jst_s, jst_s, jst_s, jst_s, jst_s, jst_1, jst_0]; cases jisL a9 <;> rfl
theorem jst_x10 (a0 a1 a2 a3 a4 a5 a6 a7 a8 a9 a10 v : jV) (t : List jV) (P : List jV → Prop) : (∃ M, jst (a0 :: a1 :: a2 :: a3 :: a4 :: a5 :: a6 :: a7 :: a8 :: a9 :: a10 :: t) 10 v = some M ∧ P M) = (jisL a9 = false ∧ P (a0 :: a1 :: a2 :: a3 :: a4 :: a5 :: a6 :: a7 :: a8 :: a9 :: v :: t)) := by
  rw [jst_y10]; cases jisL a9 with
  | true => exact propext ⟨fun ⟨_, h, _⟩ => (by cases h), fun ⟨h, _⟩ => (by cases h)⟩
  | false => exact propext ⟨fun ⟨_, h, p⟩ => (by cases h; exact ⟨rfl, p⟩), fun ⟨_, p⟩ => ⟨_, rfl, p⟩⟩
theorem jst2_x10 (a0 a1 a2 a3 a4 a5 a6 a7 a8 a9 a10 w v : jV) (t : List jV) (P : List jV → Prop) : (∃ M, jst2 (a0 :: a1 :: a2 :: a3 :: a4 :: a5 :: a6 :: a7 :: a8 :: a9 :: a10 :: w :: t) 10 v = some M ∧ P M) = (jisL a9 = false ∧ P (a0 :: a1 :: a2 :: a3 :: a4 :: a5 :: a6 :: a7 :: a8 :: a9 :: v :: vU :: t)) := by
  rw [jst2_eq, if_pos (by simp only [List.length_cons]; omega), jst_y10]; cases jisL a9 with
  | true => exact propext ⟨fun ⟨_, h, _⟩ => (by cases h), fun ⟨h, _⟩ => (by cases h)⟩
  | false => exact propext ⟨fun ⟨_, h, p⟩ => (by cases h; exact ⟨rfl, p⟩), fun ⟨_, p⟩ => ⟨_, rfl, p⟩⟩
theorem jIntg_11 (a0 a1 a2 a3 a4 a5 a6 a7 a8 a9 a10 a11 : jV) (t : List jV) (P : Int → Prop) : jInt (jget (a0 :: a1 :: a2 :: a3 :: a4 :: a5 :: a6 :: a7 :: a8 :: a9 :: a10 :: a11 :: t) 11) P = jInt a11 P := propext Iff.rfl
theorem jLngg_11 (a0 a1 a2 a3 a4 a5 a6 a7 a8 a9 a10 a11 : jV) (t : List jV) (P : Int → Prop) : jLng (jget (a0 :: a1 :: a2 :: a3 :: a4 :: a5 :: a6 :: a7 :: a8 :: a9 :: a10 :: a11 :: t) 11) P = jLng a11 P := propext Iff.rfl
theorem jRefg_11 (a0 a1 a2 a3 a4 a5 a6 a7 a8 a9 a10 a11 : jV) (t : List jV) (P : Nat → Prop) : jRef (jget (a0 :: a1 :: a2 :: a3 :: a4 :: a5 :: a6 :: a7 :: a8 :: a9 :: a10 :: a11 :: t) 11) P = jRef a11 P := propext Iff.rfl
theorem jAnyg_11 (a0 a1 a2 a3 a4 a5 a6 a7 a8 a9 a10 a11 : jV) (t : List jV) (P : jV → Prop) : jAny (jget (a0 :: a1 :: a2 :: a3 :: a4 :: a5 :: a6 :: a7 :: a8 :: a9 :: a10 :: a11 :: t) 11) P = jAny a11 P := propext Iff.rfl
theorem jst_y11 (a0 a1 a2 a3 a4 a5 a6 a7 a8 a9 a10 a11 v : jV) (t : List jV) : jst (a0 :: a1 :: a2 :: a3 :: a4 :: a5 :: a6 :: a7 :: a8 :: a9 :: a10 :: a11 :: t) 11 v = if jisL a10 = true then none else some (a0 :: a1 :: a2 :: a3 :: a4 :: a5 :: a6 :: a7 :: a8 :: a9 :: a10 :: v :: t) := by
  rw [jst_s, jst_s, jst_s, jst_s, jst_s, jst_s, jst_s, jst_s, jst_s, jst_s, jst_1, jst_0]; cases jisL a10 <;> rfl
theorem jst_x11 (a0 a1 a2 a3 a4 a5 a6 a7 a8 a9 a10 a11 v : jV) (t : List jV) (P : List jV → Prop) : (∃ M, jst (a0 :: a1 :: a2 :: a3 :: a4 :: a5 :: a6 :: a7 :: a8 :: a9 :: a10 :: a11 :: t) 11 v = some M ∧ P M) = (jisL a10 = false ∧ P (a0 :: a1 :: a2 :: a3 :: a4 :: a5 :: a6 :: a7 :: a8 :: a9 :: a10 :: v :: t)) := by
  rw [jst_y11]; cases jisL a10 with
  | true => exact propext ⟨fun ⟨_, h, _⟩ => (by cases h), fun ⟨h, _⟩ => (by cases h)⟩
  | false => exact propext ⟨fun ⟨_, h, p⟩ => (by cases h; exact ⟨rfl, p⟩), fun ⟨_, p⟩ => ⟨_, rfl, p⟩⟩
theorem jst2_x11 (a0 a1 a2 a3 a4 a5 a6 a7 a8 a9 a10 a11 w v : jV) (t : List jV) (P : List jV → Prop) : (∃ M, jst2 (a0 :: a1 :: a2 :: a3 :: a4 :: a5 :: a6 :: a7 :: a8 :: a9 :: a10 :: a11 :: w :: t) 11 v = some M ∧ P M) = (jisL a10 = false ∧ P (a0 :: a1 :: a2 :: a3 :: a4 :: a5 :: a6 :: a7 :: a8 :: a9 :: a10 :: v :: vU :: t)) := by
  rw [jst2_eq, if_pos (by simp only [List.length_cons]; omega), jst_y11]; cases jisL a10 with
  | true => exact propext ⟨fun ⟨_, h, _⟩ => (by cases h), fun ⟨h, _⟩ => (by cases h)⟩
  | false => exact propext ⟨fun ⟨_, h, p⟩ => (by cases h; exact ⟨rfl, p⟩), fun ⟨_, p⟩ => ⟨_, rfl, p⟩⟩
theorem jIntg_12 (a0 a1 a2 a3 a4 a5 a6 a7 a8 a9 a10 a11 a12 : jV) (t : List jV) (P : Int → Prop) : jInt (jget (a0 :: a1 :: a2 :: a3 :: a4 :: a5 :: a6 :: a7 :: a8 :: a9 :: a10 :: a11 :: a12 :: t) 12) P = jInt a12 P := propext Iff.rfl
theorem jLngg_12 (a0 a1 a2 a3 a4 a5 a6 a7 a8 a9 a10 a11 a12 : jV) (t : List jV) (P : Int → Prop) : jLng (jget (a0 :: a1 :: a2 :: a3 :: a4 :: a5 :: a6 :: a7 :: a8 :: a9 :: a10 :: a11 :: a12 :: t) 12) P = jLng a12 P := propext Iff.rfl
theorem jRefg_12 (a0 a1 a2 a3 a4 a5 a6 a7 a8 a9 a10 a11 a12 : jV) (t : List jV) (P : Nat → Prop) : jRef (jget (a0 :: a1 :: a2 :: a3 :: a4 :: a5 :: a6 :: a7 :: a8 :: a9 :: a10 :: a11 :: a12 :: t) 12) P = jRef a12 P := propext Iff.rfl
theorem jAnyg_12 (a0 a1 a2 a3 a4 a5 a6 a7 a8 a9 a10 a11 a12 : jV) (t : List jV) (P : jV → Prop) : jAny (jget (a0 :: a1 :: a2 :: a3 :: a4 :: a5 :: a6 :: a7 :: a8 :: a9 :: a10 :: a11 :: a12 :: t) 12) P = jAny a12 P := propext Iff.rfl
theorem jst_y12 (a0 a1 a2 a3 a4 a5 a6 a7 a8 a9 a10 a11 a12 v : jV) (t : List jV) : jst (a0 :: a1 :: a2 :: a3 :: a4 :: a5 :: a6 :: a7 :: a8 :: a9 :: a10 :: a11 :: a12 :: t) 12 v = if jisL a11 = true then none else some (a0 :: a1 :: a2 :: a3 :: a4 :: a5 :: a6 :: a7 :: a8 :: a9 :: a10 :: a11 :: v :: t) := by
  rw [jst_s, jst_s, jst_s, jst_s, jst_s, jst_s, jst_s, jst_s, jst_s, jst_s, jst_s, jst_1, jst_0]; cases jisL a11 <;> rfl
theorem jst_x12 (a0 a1 a2 a3 a4 a5 a6 a7 a8 a9 a10 a11 a12 v : jV) (t : List jV) (P : List jV → Prop) : (∃ M, jst (a0 :: a1 :: a2 :: a3 :: a4 :: a5 :: a6 :: a7 :: a8 :: a9 :: a10 :: a11 :: a12 :: t) 12 v = some M ∧ P M) = (jisL a11 = false ∧ P (a0 :: a1 :: a2 :: a3 :: a4 :: a5 :: a6 :: a7 :: a8 :: a9 :: a10 :: a11 :: v :: t)) := by
  rw [jst_y12]; cases jisL a11 with
  | true => exact propext ⟨fun ⟨_, h, _⟩ => (by cases h), fun ⟨h, _⟩ => (by cases h)⟩
  | false => exact propext ⟨fun ⟨_, h, p⟩ => (by cases h; exact ⟨rfl, p⟩), fun ⟨_, p⟩ => ⟨_, rfl, p⟩⟩
theorem jst2_x12 (a0 a1 a2 a3 a4 a5 a6 a7 a8 a9 a10 a11 a12 w v : jV) (t : List jV) (P : List jV → Prop) : (∃ M, jst2 (a0 :: a1 :: a2 :: a3 :: a4 :: a5 :: a6 :: a7 :: a8 :: a9 :: a10 :: a11 :: a12 :: w :: t) 12 v = some M ∧ P M) = (jisL a11 = false ∧ P (a0 :: a1 :: a2 :: a3 :: a4 :: a5 :: a6 :: a7 :: a8 :: a9 :: a10 :: a11 :: v :: vU :: t)) := by
  rw [jst2_eq, if_pos (by simp only [List.length_cons]; omega), jst_y12]; cases jisL a11 with
  | true => exact propext ⟨fun ⟨_, h, _⟩ => (by cases h), fun ⟨h, _⟩ => (by cases h)⟩
  | false => exact propext ⟨fun ⟨_, h, p⟩ => (by cases h; exact ⟨rfl, p⟩), fun ⟨_, p⟩ => ⟨_, rfl, p⟩⟩
theorem jIntg_13 (a0 a1 a2 a3 a4 a5 a6 a7 a8 a9 a10 a11 a12 a13 : jV) (t : List jV) (P : Int → Prop) : jInt (jget (a0 :: a1 :: a2 :: a3 :: a4 :: a5 :: a6 :: a7 :: a8 :: a9 :: a10 :: a11 :: a12 :: a13 :: t) 13) P = jInt a13 P := propext Iff.rfl
theorem jLngg_13 (a0 a1 a2 a3 a4 a5 a6 a7 a8 a9 a10 a11 a12 a13 : jV) (t : List jV) (P : Int → Prop) : jLng (jget (a0 :: a1 :: a2 :: a3 :: a4 :: a5 :: a6 :: a7 :: a8 :: a9 :: a10 :: a11 :: a12 :: a13 :: t) 13) P = jLng a13 P := propext Iff.rfl
theorem jRefg_13 (a0 a1 a2 a3 a4 a5 a6 a7 a8 a9 a10 a11 a12 a13 : jV) (t : List jV) (P : Nat → Prop) : jRef (jget (a0 :: a1 :: a2 :: a3 :: a4 :: a5 :: a6 :: a7 :: a8 :: a9 :: a10 :: a11 :: a12 :: a13 :: t) 13) P = jRef a13 P := propext Iff.rfl
theorem jAnyg_13 (a0 a1 a2 a3 a4 a5 a6 a7 a8 a9 a10 a11 a12 a13 : jV) (t : List jV) (P : jV → Prop) : jAny (jget (a0 :: a1 :: a2 :: a3 :: a4 :: a5 :: a6 :: a7 :: a8 :: a9 :: a10 :: a11 :: a12 :: a13 :: t) 13) P = jAny a13 P := propext Iff.rfl
theorem jst_y13 (a0 a1 a2 a3 a4 a5 a6 a7 a8 a9 a10 a11 a12 a13 v : jV) (t : List jV) : jst (a0 :: a1 :: a2 :: a3 :: a4 :: a5 :: a6 :: a7 :: a8 :: a9 :: a10 :: a11 :: a12 :: a13 :: t) 13 v = if jisL a12 = true then none else some (a0 :: a1 :: a2 :: a3 :: a4 :: a5 :: a6 :: a7 :: a8 :: a9 :: a10 :: a11 :: a12 :: v :: t) := by
  rw [jst_s, jst_s, jst_s, jst_s, jst_s, jst_s, jst_s, jst_s, jst_s, jst_s, jst_s, jst_s, jst_1, jst_0]; cases jisL a12 <;> rfl
theorem jst_x13 (a0 a1 a2 a3 a4 a5 a6 a7 a8 a9 a10 a11 a12 a13 v : jV) (t : List jV) (P : List jV → Prop) : (∃ M, jst (a0 :: a1 :: a2 :: a3 :: a4 :: a5 :: a6 :: a7 :: a8 :: a9 :: a10 :: a11 :: a12 :: a13 :: t) 13 v = some M ∧ P M) = (jisL a12 = false ∧ P (a0 :: a1 :: a2 :: a3 :: a4 :: a5 :: a6 :: a7 :: a8 :: a9 :: a10 :: a11 :: a12 :: v :: t)) := by
  rw [jst_y13]; cases jisL a12 with
  | true => exact propext ⟨fun ⟨_, h, _⟩ => (by cases h), fun ⟨h, _⟩ => (by cases h)⟩
  | false => exact propext ⟨fun ⟨_, h, p⟩ => (by cases h; exact ⟨rfl, p⟩), fun ⟨_, p⟩ => ⟨_, rfl, p⟩⟩
theorem jst2_x13 (a0 a1 a2 a3 a4 a5 a6 a7 a8 a9 a10 a11 a12 a13 w v : jV) (t : List jV) (P : List jV → Prop) : (∃ M, jst2 (a0 :: a1 :: a2 :: a3 :: a4 :: a5 :: a6 :: a7 :: a8 :: a9 :: a10 :: a11 :: a12 :: a13 :: w :: t) 13 v = some M ∧ P M) = (jisL a12 = false ∧ P (a0 :: a1 :: a2 :: a3 :: a4 :: a5 :: a6 :: a7 :: a8 :: a9 :: a10 :: a11 :: a12 :: v :: vU :: t)) := by
  rw [jst2_eq, if_pos (by simp only [List.length_cons]; omega), jst_y13]; cases jisL a12 with
  | true => exact propext ⟨fun ⟨_, h, _⟩ => (by cases h), fun ⟨h, _⟩ => (by cases h)⟩
  | false => exact propext ⟨fun ⟨_, h, p⟩ => (by cases h; exact ⟨rfl, p⟩), fun ⟨_, p⟩ => ⟨_, rfl, p⟩⟩
theorem jIntg_14 (a0 a1 a2 a3 a4 a5 a6 a7 a8 a9 a10 a11 a12 a13 a14 : jV) (t : List jV) (P : Int → Prop) : jInt (jget (a0 :: a1 :: a2 :: a3 :: a4 :: a5 :: a6 :: a7 :: a8 :: a9 :: a10 :: a11 :: a12 :: a13 :: a14 :: t) 14) P = jInt a14 P := propext Iff.rfl
theorem jLngg_14 (a0 a1 a2 a3 a4 a5 a6 a7 a8 a9 a10 a11 a12 a13 a14 : jV) (t : List jV) (P : Int → Prop) : jLng (jget (a0 :: a1 :: a2 :: a3 :: a4 :: a5 :: a6 :: a7 :: a8 :: a9 :: a10 :: a11 :: a12 :: a13 :: a14 :: t) 14) P = jLng a14 P := propext Iff.rfl
theorem jRefg_14 (a0 a1 a2 a3 a4 a5 a6 a7 a8 a9 a10 a11 a12 a13 a14 : jV) (t : List jV) (P : Nat → Prop) : jRef (jget (a0 :: a1 :: a2 :: a3 :: a4 :: a5 :: a6 :: a7 :: a8 :: a9 :: a10 :: a11 :: a12 :: a13 :: a14 :: t) 14) P = jRef a14 P := propext Iff.rfl
theorem jAnyg_14 (a0 a1 a2 a3 a4 a5 a6 a7 a8 a9 a10 a11 a12 a13 a14 : jV) (t : List jV) (P : jV → Prop) : jAny (jget (a0 :: a1 :: a2 :: a3 :: a4 :: a5 :: a6 :: a7 :: a8 :: a9 :: a10 :: a11 :: a12 :: a13 :: a14 :: t) 14) P = jAny a14 P := propext Iff.rfl
theorem jst_y14 (a0 a1 a2 a3 a4 a5 a6 a7 a8 a9 a10 a11 a12 a13 a14 v : jV) (t : List jV) : jst (a0 :: a1 :: a2 :: a3 :: a4 :: a5 :: a6 :: a7 :: a8 :: a9 :: a10 :: a11 :: a12 :: a13 :: a14 :: t) 14 v = if jisL a13 = true then none else some (a0 :: a1 :: a2 :: a3 :: a4 :: a5 :: a6 :: a7 :: a8 :: a9 :: a10 :: a11 :: a12 :: a13 :: v :: t) := by
  rw [jst_s, jst_s, jst_s, jst_s, jst_s, jst_s, jst_s, jst_s, jst_s, jst_s, jst_s, jst_s, jst_s, jst_1, jst_0]; cases jisL a13 <;> rfl
theorem jst_x14 (a0 a1 a2 a3 a4 a5 a6 a7 a8 a9 a10 a11 a12 a13 a14 v : jV) (t : List jV) (P : List jV → Prop) : (∃ M, jst (a0 :: a1 :: a2 :: a3 :: a4 :: a5 :: a6 :: a7 :: a8 :: a9 :: a10 :: a11 :: a12 :: a13 :: a14 :: t) 14 v = some M ∧ P M) = (jisL a13 = false ∧ P (a0 :: a1 :: a2 :: a3 :: a4 :: a5 :: a6 :: a7 :: a8 :: a9 :: a10 :: a11 :: a12 :: a13 :: v :: t)) := by
  rw [jst_y14]; cases jisL a13 with
  | true => exact propext ⟨fun ⟨_, h, _⟩ => (by cases h), fun ⟨h, _⟩ => (by cases h)⟩
  | false => exact propext ⟨fun ⟨_, h, p⟩ => (by cases h; exact ⟨rfl, p⟩), fun ⟨_, p⟩ => ⟨_, rfl, p⟩⟩
theorem jst2_x14 (a0 a1 a2 a3 a4 a5 a6 a7 a8 a9 a10 a11 a12 a13 a14 w v : jV) (t : List jV) (P : List jV → Prop) : (∃ M, jst2 (a0 :: a1 :: a2 :: a3 :: a4 :: a5 :: a6 :: a7 :: a8 :: a9 :: a10 :: a11 :: a12 :: a13 :: a14 :: w :: t) 14 v = some M ∧ P M) = (jisL a13 = false ∧ P (a0 :: a1 :: a2 :: a3 :: a4 :: a5 :: a6 :: a7 :: a8 :: a9 :: a10 :: a11 :: a12 :: a13 :: v :: vU :: t)) := by
  rw [jst2_eq, if_pos (by simp only [List.length_cons]; omega), jst_y14]; cases jisL a13 with
  | true => exact propext ⟨fun ⟨_, h, _⟩ => (by cases h), fun ⟨h, _⟩ => (by cases h)⟩
  | false => exact propext ⟨fun ⟨_, h, p⟩ => (by cases h; exact ⟨rfl, p⟩), fun ⟨_, p⟩ => ⟨_, rfl, p⟩⟩
theorem jPls_pv (x : Option Nat) (P : Option Nat → Prop) : jPls (jpv x) P = P x := by cases x <;> rfl
theorem nat1 (i : Nat) : (i : Int) + 1 = ((i + 1 : Nat) : Int) := rfl
theorem rV_inj (a b : jV) : (rV a = rV b) = (a = b) := propext ⟨fun h => by cases h; rfl, fun h => by rw [h]⟩
theorem vI_inj (a b : Int) : (vI a = vI b) = (a = b) := propext ⟨fun h => by cases h; rfl, fun h => by rw [h]⟩
theorem vL_inj (a b : Int) : (vL a = vL b) = (a = b) := propext ⟨fun h => by cases h; rfl, fun h => by rw [h]⟩
theorem jwb (c : Prop) [Decidable c] : (j_w (if c then 1 else 0) = 0) = ¬ c := by
  by_cases h : c
  · rw [if_pos h]; exact propext ⟨fun q => absurd q (by decide), fun q => (q h).elim⟩
  · rw [if_neg h]; exact propext ⟨fun _ => h, fun _ => rfl⟩
theorem jwb1 (c : Prop) [Decidable c] : (¬ j_w (if c then 1 else 0) = 0) = c := by rw [jwb]; exact propext Classical.not_not
theorem jwb2 (c : Prop) [Decidable c] : ((if c then (1 : Int) else 0) = 0) = ¬ c := by
  by_cases h : c
  · rw [if_pos h]; exact propext ⟨fun q => absurd q (by decide), fun q => (q h).elim⟩
  · rw [if_neg h]; exact propext ⟨fun _ => h, fun _ => rfl⟩
theorem nat0 : ((0 : Nat) : Int) = 0 := rfl
/-- a loop: its state is an x, whose locals are L x, of which P x holds; each turn makes μ less -/
theorem tLoop_by {α : Type} (μ : α → Nat) (Lf : α → List jV) (P : α → jH → Prop) {c : jC} {b u : jS} {sc : jSc} {C : jCR} {N B K : jN} {R : jR → jH → Prop} {σ : jH} (x : α) (hP : P x σ)
    (hs : ∀ x σ (N' : jN), P x σ → (∀ y τ, μ y < μ x → P y τ → N' (Lf y) τ) → c sc C (Lf x) (fun σ => b sc C (fun L σ => u sc C N' (fun _ _ => False) (fun _ _ => False) R L σ) N (fun L σ => u sc C N' (fun _ _ => False) (fun _ _ => False) R L σ) R (Lf x) σ) (fun σ => N (Lf x) σ) σ) : tLoop c b u sc C N B K R (Lf x) σ := by
  refine tLoop_run (fun n L τ => ∃ y, L = Lf y ∧ P y τ ∧ μ y < n) (μ x + 1) ⟨x, rfl, hP, Nat.lt_succ_self _⟩ (fun L τ h => by obtain ⟨y, _, _, h⟩ := h; omega) ?_
  rintro n N' L τ hN ⟨y, rfl, hy, hm⟩
  exact hs y τ N' hy (fun z υ hz hp => hN _ _ ⟨z, rfl, hp, by omega⟩)
/-- the same, with the locals given apart -/
theorem tLoop_at {α : Type} (μ : α → Nat) (Lf : α → List jV) (P : α → jH → Prop) {c : jC} {b u : jS} {sc : jSc} {C : jCR} {N B K : jN} {R : jR → jH → Prop} {L : List jV} {σ : jH} (x : α) (hL : Lf x = L) (hP : P x σ)
    (hs : ∀ x σ (N' : jN), P x σ → (∀ y τ, μ y < μ x → P y τ → N' (Lf y) τ) → c sc C (Lf x) (fun σ => b sc C (fun L σ => u sc C N' (fun _ _ => False) (fun _ _ => False) R L σ) N (fun L σ => u sc C N' (fun _ _ => False) (fun _ _ => False) R L σ) R (Lf x) σ) (fun σ => N (Lf x) σ) σ) : tLoop c b u sc C N B K R L σ := by
  subst hL
  exact tLoop_by μ Lf P x hP hs
/-- the same; what stands behind the loop is shown once, from the states E in which it is left -/
theorem tLoop_go {α : Type} (μ : α → Nat) (Lf : α → List jV) (P E : α → jH → Prop) {c : jC} {b u : jS} {sc : jSc} {C : jCR} {N B K : jN} {R : jR → jH → Prop} {L : List jV} {σ : jH} (x : α) (hL : Lf x = L) (hP : P x σ)
    (hs : ∀ x σ (N' N : jN), P x σ → (∀ y τ, μ y < μ x → P y τ → N' (Lf y) τ) → (∀ y τ, E y τ → N (Lf y) τ) → c sc C (Lf x) (fun σ => b sc C (fun L σ => u sc C N' (fun _ _ => False) (fun _ _ => False) R L σ) N (fun L σ => u sc C N' (fun _ _ => False) (fun _ _ => False) R L σ) R (Lf x) σ) (fun σ => N (Lf x) σ) σ)
    (hE : ∀ x τ, E x τ → N (Lf x) τ) : tLoop c b u sc C N B K R L σ := by
  subst hL
  exact tLoop_by μ Lf P x hP (fun x σ N' hp hn => hs x σ N' N hp hn hE)
theorem jlp_s (wc : List jV → (jH → Prop) → (jH → Prop) → jH → Prop) (wb : jN → jN → jN → List jV → jH → Prop) (wu : jN → List jV → jH → Prop) (N : jN) (n : Nat) (L : List jV) (σ : jH) : jlp wc wb wu N (n + 1) L σ = wc L (fun σ => wb (wu (jlp wc wb wu N n)) N (wu (jlp wc wb wu N n)) L σ) (fun σ => N L σ) σ := propext Iff.rfl
/-- nothing but what S names is changed -/
def Fr (S : Nat → Nat → Prop) (σ τ : jH) : Prop := hsh τ = hsh σ ∧ hp τ = hp σ ∧ (∀ r k, ¬ S r k → hi τ r k = hi σ r k) ∧ (∀ r k, ¬ S r k → hl τ r k = hl σ r k)
section
variable {S S' : Nat → Nat → Prop} {σ τ υ : jH}
theorem Fr.sh (h : Fr S σ τ) : hsh τ = hsh σ := h.1
theorem Fr.hp (h : Fr S σ τ) : hp τ = hp σ := h.2.1
theorem Fr.i (h : Fr S σ τ) {r k : Nat} (hk : ¬ S r k) : hi τ r k = hi σ r k := h.2.2.1 r k hk
theorem Fr.l (h : Fr S σ τ) {r k : Nat} (hk : ¬ S r k) : hl τ r k = hl σ r k := h.2.2.2 r k hk
theorem Fr.ir (h : Fr S σ τ) {r : Nat} (hk : ∀ k, ¬ S r k) : hi τ r = hi σ r := funext (fun k => h.2.2.1 r k (hk k))
theorem Fr.lr (h : Fr S σ τ) {r : Nat} (hk : ∀ k, ¬ S r k) : hl τ r = hl σ r := funext (fun k => h.2.2.2 r k (hk k))
theorem Fr.refl (S : Nat → Nat → Prop) (σ : jH) : Fr S σ σ := ⟨rfl, rfl, fun _ _ _ => rfl, fun _ _ _ => rfl⟩
theorem Fr.trans (h : Fr S σ τ) (h' : Fr S τ υ) : Fr S σ υ := ⟨h'.1.trans h.1, h'.2.1.trans h.2.1, fun r k hk => (h'.2.2.1 r k hk).trans (h.2.2.1 r k hk), fun r k hk => (h'.2.2.2 r k hk).trans (h.2.2.2 r k hk)⟩
theorem Fr.mono (h : Fr S σ τ) (hs : ∀ r k, S r k → S' r k) : Fr S' σ τ := ⟨h.1, h.2.1, fun r k hk => h.2.2.1 r k (fun q => hk (hs r k q)), fun r k hk => h.2.2.2 r k (fun q => hk (hs r k q))⟩
theorem Fr.si (h : Fr S σ τ) {r k : Nat} {z : Int} (hk : S r k) : Fr S σ (hsi τ r k z) := ⟨h.1, h.2.1, fun a b hb => by
  rw [hi_si, if_neg (fun q => hb (by rw [q.1, q.2]; exact hk))]; exact h.2.2.1 a b hb, fun a b hb => by rw [hl_si]; exact h.2.2.2 a b hb⟩
theorem Fr.sl (h : Fr S σ τ) {r k : Nat} {z : Int} (hk : S r k) : Fr S σ (hsl τ r k z) := ⟨h.1, h.2.1, fun a b hb => by rw [hi_sl]; exact h.2.2.1 a b hb, fun a b hb => by
  rw [hl_sl, if_neg (fun q => hb (by rw [q.1, q.2]; exact hk))]; exact h.2.2.2 a b hb⟩
theorem Fr.sr (h : Fr S σ τ) {r : Nat} {f : Nat → Int} (hk : ∀ k, S r k) : Fr S σ (hsr τ r f) := ⟨h.1, h.2.1, fun a b hb => by
  rw [hi_sr, if_neg (fun q => hb (by rw [q]; exact hk b))]; exact h.2.2.1 a b hb, fun a b hb => by rw [hl_sr]; exact h.2.2.2 a b hb⟩
theorem Fr.ci (h : Fr S σ τ) {a sp b dp n : Nat} (hk : ∀ k, dp ≤ k → k < dp + n → S b k) : Fr S σ (hci τ a sp b dp n) := ⟨h.1, h.2.1, fun r k hb => by
  rw [hi_ci, if_neg (fun q => hb (by rw [q.1]; exact hk k q.2.1 q.2.2))]; exact h.2.2.1 r k hb, fun r k hb => by rw [hl_ci]; exact h.2.2.2 r k hb⟩
theorem Fr.cl (h : Fr S σ τ) {a sp b dp n : Nat} (hk : ∀ k, dp ≤ k → k < dp + n → S b k) : Fr S σ (hcl τ a sp b dp n) := ⟨h.1, h.2.1, fun r k hb => by rw [hi_cl]; exact h.2.2.1 r k hb, fun r k hb => by
  rw [hl_cl, if_neg (fun q => hb (by rw [q.1]; exact hk k q.2.1 q.2.2))]; exact h.2.2.2 r k hb⟩
theorem Fr.ok (h : Fr S σ τ) (hO : Ok σ) : Ok τ := by
  unfold Ok
  rw [h.1, h.2.1]
  exact hO
end
end WP
