/-! The code at these places holds the piece: conditions, statements -/
section STMT
def j_neg : ClassFile.Cond → ClassFile.Cond
  | .eq => .ne
  | .ne => .eq
  | .lt => .ge
  | .ge => .lt
  | .gt => .le
  | .le => .gt
theorem j_c2_c (k : ClassFile.Cond) (x y : Int) : a_c2 k (Int32.ofInt x) (Int32.ofInt y) = true ↔ j_c2 k (j_w x) (j_w y) := by
  have e : (Int32.ofInt x = Int32.ofInt y) ↔ j_w x = j_w y := Int32.toInt_inj.symm
  cases k <;> simp [a_c2, j_c2, e, j_lt_c, j_le_c]
theorem j_c1_c (k : ClassFile.Cond) (x : Int) : a_c1 k (Int32.ofInt x) = true ↔ j_c2 k (j_w x) 0 := by
  have e := j_c2_c k x 0
  rw [show j_w 0 = 0 from rfl] at e
  rw [← e]
  cases k <;> rfl
theorem a_c2_neg (k : ClassFile.Cond) (x y : Int32) : a_c2 (j_neg k) x y = !a_c2 k x y := by
  cases k
  · exact decide_not
  · show decide _ = !decide _
    simp
  · exact (decide_eq_decide.mpr Int32.not_lt.symm).trans decide_not
  · exact (decide_eq_decide.mpr Int32.not_le.symm).trans decide_not
  · exact (decide_eq_decide.mpr Int32.not_lt.symm).trans decide_not
  · exact (decide_eq_decide.mpr Int32.not_le.symm).trans decide_not
theorem a_c1_neg (k : ClassFile.Cond) (x : Int32) : a_c1 (j_neg k) x = !a_c1 k x := by
  cases k
  · exact decide_not
  · show decide _ = !decide _
    simp
  · exact (decide_eq_decide.mpr Int32.not_lt.symm).trans decide_not
  · exact (decide_eq_decide.mpr Int32.not_le.symm).trans decide_not
  · exact (decide_eq_decide.mpr Int32.not_lt.symm).trans decide_not
  · exact (decide_eq_decide.mpr Int32.not_le.symm).trans decide_not
theorem jc_toInt (x : Int32) : jc (vI x.toInt) = .int x := by
  show Value.int (Int32.ofInt x.toInt) = _
  rw [Int32.ofInt_toInt]
theorem j_lc_c (k : ClassFile.Cond) (x y : Int) : a_c1 k (lg_cmp (Int64.ofInt x) (Int64.ofInt y)) = true ↔ j_c2 k (j_w64 x) (j_w64 y) := by
  have e : (Int64.ofInt x = Int64.ofInt y) ↔ j_w64 x = j_w64 y := Int64.toInt_inj.symm
  unfold lg_cmp
  by_cases h1 : Int64.ofInt x > Int64.ofInt y
  · rw [if_pos h1]
    have h1' : j_w64 y < j_w64 x := (j_lt64_c y x).mp h1
    cases k <;> simp [a_c1, j_c2] <;> omega
  · rw [if_neg h1]
    have h1' : ¬ j_w64 y < j_w64 x := fun h => h1 ((j_lt64_c y x).mpr h)
    by_cases h2 : Int64.ofInt x = Int64.ofInt y
    · rw [if_pos h2]
      have h2' := e.mp h2
      cases k <;> simp [a_c1, j_c2] <;> omega
    · rw [if_neg h2]
      have h2' : ¬ j_w64 x = j_w64 y := fun h => h2 (e.mpr h)
      cases k <;> simp [a_c1, j_c2] <;> omega
/-- where a jump goes: it jumps if the condition holds, or if it doesn't -/
def jto (cd : List AI) (c k : ClassFile.Cond) (t o T F : Nat) : Prop := (c = k ∧ jeq cd t T ∧ jeq cd (o + 1) F) ∨ (c = j_neg k ∧ jeq cd t F ∧ jeq cd (o + 1) T)
section
variable {mi : Nat} {cd : List AI} {o d o1 o2 o3 o4 o5 w w1 w2 w3 w4 w5 n e1 e2 : Nat} {a b e e' e3 e4 e5 : jE} {x : Instr} {ps p1 p2 p3 p4 : List Nat} {c c1 c2 : jC} {T F m : Nat}
theorem j_jump {sc : jSc} {k : Nat} {Q : jR → jH → Prop} {L st st' : List jV} {τ : jH} {T' F' : jH → Prop} {t : Nat} {P : Prop} {kc kk : ClassFile.Cond} {f : ClassFile.Cond → Bool} (h : ji (a_code mi) o = some (x, ps)) (hs : a_step sc o x ps (L.map jc) (st'.map jc) (j_h τ) = a_br (f kc) o t (L.map jc) (st.map jc) (j_h τ)) (hf : f kk = true ↔ P) (hn : f (j_neg kk) = !f kk) (hj : jto (a_code mi) kc kk t o T F) (hq : (P → T' τ) ∧ (¬ P → F' τ)) (hT : ∀ τ, T' τ → Zt sc (k + 1) mi T L st τ Q) (hF : ∀ τ, F' τ → Zt sc (k + 1) mi F L st τ Q) : Zt sc (k + 1) mi o L st' τ Q := by
  by_cases hP : P
  · have hz := hT τ (hq.1 hP)
    have hft := hf.mpr hP
    rcases hj with ⟨rfl, h1, h2⟩ | ⟨rfl, h1, h2⟩
    · exact Zt_at h (L' := L) (st' := st) (σ' := τ) (by rw [hs, hft]; rfl) (Zt_eq h1 hz)
    · exact Zt_at h (L' := L) (st' := st) (σ' := τ) (by rw [hs, hn, hft]; rfl) (Zt_eq h2 hz)
  · have hz := hF τ (hq.2 hP)
    have hft : f kk = false := by
      cases hfk : f kk with
      | false => rfl
      | true => exact absurd (hf.mp hfk) hP
    rcases hj with ⟨rfl, h1, h2⟩ | ⟨rfl, h1, h2⟩
    · exact Zt_at h (L' := L) (st' := st) (σ' := τ) (by rw [hs, hft]; rfl) (Zt_eq h2 hz)
    · exact Zt_at h (L' := L) (st' := st) (σ' := τ) (by rw [hs, hn, hft]; rfl) (Zt_eq h1 hz)
theorem CC_cmp {kc kk : ClassFile.Cond} {z : Int} {t : Nat} (A : CE mi cd o d a o1 w1) (B : CE mi cd o1 (d + w1) b o2 w2) (h : ji cd o2 = some (.if_icmp kc z, [t])) (hj : jto cd kc kk t o2 T F) : CC mi cd o d (cCmp kk a b) T F := by
  intro hcd sc k Q L st σ T' F' hd he hT hF
  unfold cCmp at he
  refine A hcd sc k Q L st σ _ hd he (fun v τ hv hb => ?_)
  refine B hcd sc k Q L (v :: st) τ _ (by rw [a_cat_c]; omega) hb (fun v2 τ2 hv2 hq => ?_)
  obtain ⟨x, rfl, hq1⟩ := jInt_iff.mp hq
  obtain ⟨y, rfl, hq2⟩ := jInt_iff.mp hq1
  subst hcd
  exact j_jump (f := fun c => a_c2 c (Int32.ofInt x) (Int32.ofInt y)) h rfl (j_c2_c kk x y) (a_c2_neg kk _ _) hj hq2 hT hF
theorem CC_cmpz {kc kk : ClassFile.Cond} {z : Int} {t : Nat} (A : CE mi cd o d a o1 w1) (h : ji cd o1 = some (.ifCond kc z, [t])) (hj : jto cd kc kk t o1 T F) : CC mi cd o d (cCmpz kk a) T F := by
  intro hcd sc k Q L st σ T' F' hd he hT hF
  unfold cCmpz at he
  refine A hcd sc k Q L st σ _ hd he (fun v τ hv hq => ?_)
  obtain ⟨x, rfl, hq1⟩ := jInt_iff.mp hq
  subst hcd
  exact j_jump (f := fun c => a_c1 c (Int32.ofInt x)) h rfl (j_c1_c kk x) (a_c1_neg kk _) hj hq1 hT hF
theorem CC_lcmp {kc kk : ClassFile.Cond} {z : Int} {t : Nat} (A : CE mi cd o d a o1 w1) (B : CE mi cd o1 (d + w1) b o2 w2) (h0 : ji cd o2 = some (.lcmp, ps)) (h : ji cd (o2 + 1) = some (.ifCond kc z, [t])) (hj : jto cd kc kk t (o2 + 1) T F) : CC mi cd o d (cLcmp kk a b) T F := by
  intro hcd sc k Q L st σ T' F' hd he hT hF
  unfold cLcmp at he
  refine A hcd sc k Q L st σ _ hd he (fun v τ hv hb => ?_)
  refine B hcd sc k Q L (v :: st) τ _ (by rw [a_cat_c]; omega) hb (fun v2 τ2 hv2 hq => ?_)
  obtain ⟨x, rfl, hq1⟩ := jLng_iff.mp hq
  obtain ⟨y, rfl, hq2⟩ := jLng_iff.mp hq1
  subst hcd
  refine Zt_at h0 (L' := L) (st' := vI (lg_cmp (Int64.ofInt x) (Int64.ofInt y)).toInt :: st) (σ' := τ2) (by rw [List.map_cons, List.map_cons, List.map_cons, jc_toInt]; rfl) ?_
  exact j_jump (f := fun c => a_c1 c (lg_cmp (Int64.ofInt x) (Int64.ofInt y))) h (by rw [List.map_cons, jc_toInt]; rfl) (j_lc_c kk x y) (a_c1_neg kk _) hj hq2 hT hF
theorem CC_isn {z : Int} {t : Nat} (A : CE mi cd o d a o1 w1) (h : ji cd o1 = some (x, [t])) (hj : (x = .ifnull z ∧ jeq cd t T ∧ jeq cd (o1 + 1) F) ∨ (x = .ifnonnull z ∧ jeq cd t F ∧ jeq cd (o1 + 1) T)) : CC mi cd o d (cIsn a) T F := by
  intro hcd sc k Q L st σ T' F' hd he hT hF
  unfold cIsn at he
  refine A hcd sc k Q L st σ _ hd he (fun v τ hv hq => ?_)
  obtain ⟨p, rfl, hq1⟩ := jPls_iff.mp hq
  subst hcd
  cases p with
  | none =>
    have hz := hT τ (hq1.1 rfl)
    rcases hj with ⟨rfl, h1, h2⟩ | ⟨rfl, h1, h2⟩
    · exact Zt_at h (L' := L) (st' := st) (σ' := τ) rfl (Zt_eq h1 hz)
    · exact Zt_at h (L' := L) (st' := st) (σ' := τ) rfl (Zt_eq h2 hz)
  | some q =>
    have hz := hF τ (hq1.2 (by simp))
    rcases hj with ⟨rfl, h1, h2⟩ | ⟨rfl, h1, h2⟩
    · exact Zt_at h (L' := L) (st' := st) (σ' := τ) rfl (Zt_eq h2 hz)
    · exact Zt_at h (L' := L) (st' := st) (σ' := τ) rfl (Zt_eq h1 hz)
theorem CC_not (A : CC mi cd o d c F T) : CC mi cd o d (cNot c) T F := by
  intro hcd sc k Q L st σ T' F' hd he hT hF
  exact A hcd sc k Q L st σ F' T' hd he hF hT
theorem CC_and (A : CC mi cd o d c1 m F) (B : CC mi cd m d c2 T F) : CC mi cd o d (cAnd c1 c2) T F := by
  intro hcd sc k Q L st σ T' F' hd he hT hF
  exact A hcd sc k Q L st σ _ F' hd he (fun τ h => B hcd sc k Q L st τ T' F' hd h hT hF) hF
theorem CC_or (A : CC mi cd o d c1 T m) (B : CC mi cd m d c2 T F) : CC mi cd o d (cOr c1 c2) T F := by
  intro hcd sc k Q L st σ T' F' hd he hT hF
  exact A hcd sc k Q L st σ T' _ hd he hT (fun τ h => B hcd sc k Q L st τ T' F' hd h hT hF)
end
def CS (mi : Nat) (cd : List AI) (o B K : Nat) (s : jS) (e : Nat) : Prop := a_code mi = cd → a_hand mi = [] → ∀ (sc : jSc) (k : Nat) (Q : jR → jH → Prop) (N B' K' : jN) (R : jR → jH → Prop) (L : List jV) (σ : jH), s sc (Cd sc k) N B' K' R L σ → (∀ L τ, N L τ → Zt sc (k + 1) mi e L [] τ Q) → (∀ L τ, B' L τ → Zt sc (k + 1) mi B L [] τ Q) → (∀ L τ, K' L τ → Zt sc (k + 1) mi K L [] τ Q) → (∀ r τ, R r τ → Q r τ) → Zt sc (k + 1) mi o L [] σ Q
/-- the piece never ends at its end -/
def NS (s : jS) : Prop := ∀ (sc : jSc) (C : jCR) (N N' B K : jN) (R : jR → jH → Prop), s sc C N B K R = s sc C N' B K R
theorem NS_ret {e : jE} : NS (tRet e) := fun _ _ _ _ _ _ _ => rfl
theorem NS_retB {e : jE} : NS (tRetB e) := fun _ _ _ _ _ _ _ => rfl
theorem NS_retL {e : jE} : NS (tRetL e) := fun _ _ _ _ _ _ _ => rfl
theorem NS_retv : NS tRetv := fun _ _ _ _ _ _ _ => rfl
theorem NS_brk : NS tBrk := fun _ _ _ _ _ _ _ => rfl
theorem NS_cont : NS tCont := fun _ _ _ _ _ _ _ => rfl
theorem NS_thr {x : Nat} : NS (tThr x) := fun _ _ _ _ _ _ _ => rfl
theorem NS_seq {a b : jS} (h : NS b) : NS (tSeq a b) := fun sc C N N' B K R => by
  funext L σ
  unfold tSeq
  rw [h sc C N N' B K R]
theorem NS_seql {a b : jS} (h : NS a) : NS (tSeq a b) := fun sc C N N' B K R => by
  funext L σ
  unfold tSeq
  rw [h sc C _ (fun L σ => b sc C N' B K R L σ) B K R]
theorem NS_ite {c : jC} {a b : jS} (h : NS a) (h2 : NS b) : NS (tIte c a b) := fun sc C N N' B K R => by
  funext L σ
  unfold tIte
  rw [h sc C N N' B K R, h2 sc C N N' B K R]
section
variable {mi : Nat} {cd : List AI} {o d o1 o2 o3 o4 o5 w w1 w2 w3 w4 w5 n e1 e2 B K : Nat} {a b e ea ei e' e3 e4 e5 : jE} {x : Instr} {ps p1 p2 p3 p4 : List Nat} {c : jC} {T F m : Nat} {s s1 s2 : jS}
theorem CS_skip : CS mi cd o B K tSkip o := fun _ _ _ _ _ _ _ _ _ _ _ he hN _ _ _ => hN _ _ he
theorem CS_seq (A : CS mi cd o B K s1 o1) (A2 : CS mi cd o1 B K s2 o2) : CS mi cd o B K (tSeq s1 s2) o2 := by
  intro hcd hh sc k Q N B' K' R L σ he hN hB hK hR
  exact A hcd hh sc k Q _ B' K' R L σ he (fun L τ h => A2 hcd hh sc k Q N B' K' R L τ h hN hB hK hR) hB hK hR
theorem CS_sup {q : Nat} {t : List Nat} (h0 : ji cd o = some (.aload_n 0, ps)) (h : ji cd (o + 1) = some (.invokespecial q, 2 :: t)) : CS mi cd o B K tSup (o + 2) := by
  intro hcd hh sc k Q N B' K' R L σ he hN hB hK hR
  obtain ⟨r, hr, hq1⟩ := jRef_iff.mp he
  subst hcd
  have hg := jget_at hr (by simp)
  refine Zt_at h0 (L' := L) (st' := [vR r]) (σ' := σ) ?_ (Zt_at h (L' := L) (st' := []) (σ' := σ) rfl (hN _ _ hq1))
  have hg' : (L.map jc)[0]? = some (jc (vR r)) := hg
  have hld : a_ldA (L.map jc) 0 = some (.ref r) := by
    unfold a_ldA
    rw [hg']
    rfl
  show a_ld o (a_ldA (L.map jc) 0) (L.map jc) [] (j_h σ) = _
  rw [hld]
  rfl
def j_sI (x : Instr) (j : Nat) : Prop := match x with
  | .istore_n k => k.val = j
  | .istore k => k = j
  | _ => False
def j_sL (x : Instr) (j : Nat) : Prop := match x with
  | .lstore_n k => k.val = j
  | .lstore k => k = j
  | _ => False
def j_sA (x : Instr) (j : Nat) : Prop := match x with
  | .astore_n k => k.val = j
  | .astore k => k = j
  | _ => False
theorem CS_setI {j : Nat} (A : CE mi cd o 0 e o1 w1) (h : ji cd o1 = some (x, ps)) (hx : j_sI x j) : CS mi cd o B K (tSetI j e) (o1 + 1) := by
  intro hcd hh sc k Q N B' K' R L σ he hN hB hK hR
  unfold tSetI at he
  refine A hcd sc k Q L [] σ _ (by simp [a_cat]) he (fun v τ hv hq => ?_)
  obtain ⟨z, rfl, M, hM, hq1⟩ := jInt_iff.mp hq
  subst hcd
  refine Zt_at h (L' := M) (st' := []) (σ' := τ) ?_ (hN _ _ hq1)
  have hc := jst_c hM
  unfold j_sI at hx
  split at hx
  · subst hx
    simp only [a_step, a_stI, List.map_cons, List.map_nil, jc] at hc ⊢
    simp only [hc, a_sto, a_go]
  · subst hx
    simp only [a_step, a_stI, List.map_cons, List.map_nil, jc] at hc ⊢
    simp only [hc, a_sto, a_go]
  · cases hx
theorem CS_setL {j : Nat} (A : CE mi cd o 0 e o1 w1) (h : ji cd o1 = some (x, ps)) (hx : j_sL x j) : CS mi cd o B K (tSetL j e) (o1 + 1) := by
  intro hcd hh sc k Q N B' K' R L σ he hN hB hK hR
  unfold tSetL at he
  refine A hcd sc k Q L [] σ _ (by simp [a_cat]) he (fun v τ hv hq => ?_)
  obtain ⟨z, rfl, M, hM, hq1⟩ := jLng_iff.mp hq
  subst hcd
  refine Zt_at h (L' := M) (st' := []) (σ' := τ) ?_ (hN _ _ hq1)
  have hc := jst2_c hM
  unfold j_sL at hx
  split at hx
  · subst hx
    simp only [a_step, a_stL, List.map_cons, List.map_nil, jc] at hc ⊢
    simp only [hc, a_sto, a_go]
  · subst hx
    simp only [a_step, a_stL, List.map_cons, List.map_nil, jc] at hc ⊢
    simp only [hc, a_sto, a_go]
  · cases hx
theorem CS_setR {j : Nat} (A : CE mi cd o 0 e o1 w1) (h : ji cd o1 = some (x, ps)) (hx : j_sA x j) : CS mi cd o B K (tSetR j e) (o1 + 1) := by
  intro hcd hh sc k Q N B' K' R L σ he hN hB hK hR
  unfold tSetR at he
  refine A hcd sc k Q L [] σ _ (by simp [a_cat]) he (fun v τ hv hq => ?_)
  have hv2 : ∃ M, jst L j v = some M ∧ N M τ ∧ ((∃ q, v = vR q) ∨ ∃ q, v = vS q) := by
    match v, hq with
    | .inr (.inr (.inl q)), ⟨M, h1, h2⟩ => exact ⟨M, h1, h2, Or.inl ⟨q, rfl⟩⟩
    | .inr (.inr (.inr (.inl q))), ⟨M, h1, h2⟩ => exact ⟨M, h1, h2, Or.inr ⟨q, rfl⟩⟩
  obtain ⟨M, hM, hq, hv2⟩ := hv2
  subst hcd
  refine Zt_at h (L' := M) (st' := []) (σ' := τ) ?_ (hN _ _ hq)
  have hc := jst_c hM
  unfold j_sA at hx
  rcases hv2 with ⟨q, rfl⟩ | ⟨q, rfl⟩
  · split at hx
    · subst hx
      simp only [a_step, a_stA, List.map_cons, List.map_nil, jc] at hc ⊢
      simp only [hc, a_sto, a_go]
    · subst hx
      simp only [a_step, a_stA, List.map_cons, List.map_nil, jc] at hc ⊢
      simp only [hc, a_sto, a_go]
    · cases hx
  · split at hx
    · subst hx
      simp only [a_step, a_stA, List.map_cons, List.map_nil, jc] at hc ⊢
      simp only [hc, a_sto, a_go]
    · subst hx
      simp only [a_step, a_stA, List.map_cons, List.map_nil, jc] at hc ⊢
      simp only [hc, a_sto, a_go]
    · cases hx
theorem CS_inc {j : Nat} {z : Int} (h : ji cd o = some (.iinc j z, ps)) : CS mi cd o B K (tInc j z) (o + 1) := by
  intro hcd hh sc k Q N B' K' R L σ he hN hB hK hR
  unfold tInc at he
  obtain ⟨y, hy, M, hM, hq1⟩ := jInt_iff.mp he
  subst hcd
  refine Zt_at h (L' := M) (st' := []) (σ' := σ) ?_ (hN _ _ hq1)
  have hc := jst_c hM
  have hg := jget_at hy (by simp)
  simp only [jc, Int32.ofInt_add] at hc
  simp only [a_step, a_ldI, hg, jc, hc, a_sto, a_go, List.map_nil]
theorem j_fit_i {ci f : Nat} {z : Int} (ht : a_ty ci f = .int ∨ a_ty ci f = .boolean) (hz : jFit ci f z) : a_fit (a_ty ci f) (.int (Int32.ofInt z)) = true := by
  rcases ht with ht | ht
  · rw [ht]
    simp [a_fit, narrow, fits]
  · rcases hz ht with rfl | rfl <;> rw [ht] <;> decide
theorem j_put_i {σ : jH} {r ci f : Nat} {z : Int} (hs : (hsh σ)[r]? = some (ci + 3, 0)) (ht : j_ft (a_ty ci f) = 0) : (j_h σ).set r (.inr (ci, ((List.range (j_nf ci)).map (j_fv σ r ci)).set f (.int (Int32.ofInt z)))) = j_h (hsi σ r f z) := by
  refine j_put hs rfl ?_ (fun j hj => ?_) (fun r' q' hr => j_cell_o q' (fun j => by rw [hi_si, if_neg (fun h => hr h.1)]) (fun _ => rfl) (fun _ => rfl))
  · simp only [j_fv, ht, hi_si, and_self, if_true]
  · unfold j_fv
    split
    · rw [hi_si, if_neg (fun h => hj h.2)]
    · rfl
    · rfl
theorem CS_putI {ci f u v z : Nat} (A : CE mi cd o 0 ea o1 w1) (E : CE mi cd o1 w1 e o2 w2) (h : ji cd o2 = some (.putfield z, [u, ci, f, v])) (ht : a_ty ci f = .int ∨ a_ty ci f = .boolean) (hf : f < j_nf ci) : CS mi cd o B K (tPutI ci f ea e) (o2 + 1) := by
  intro hcd hh sc k Q N B' K' R L σ he hN hB hK hR
  unfold tPutI at he
  refine A hcd sc k Q L [] σ _ (by simp [a_cat]) he (fun v τ hv hb => ?_)
  refine E hcd sc k Q L [v] τ _ (by rw [a_cat_c]; simp [a_cat, hv]) hb (fun v2 τ2 hv2 hq => ?_)
  obtain ⟨r, rfl, hs, hq1⟩ := jRef_iff.mp hq
  obtain ⟨y, rfl, hy, hq2⟩ := jInt_iff.mp hq1
  subst hcd
  refine Zt_at h (L' := L) (st' := []) (σ' := hsi τ2 r f y) ?_ (hN _ _ hq2)
  have ht0 : j_ft (a_ty ci f) = 0 := by rcases ht with ht | ht <;> rw [ht] <;> rfl
  simp only [a_step, a_putf, List.map_cons, List.map_nil, jc, j_ob hs]
  rw [if_pos ⟨trivial, by simpa using hf, rfl, j_fit_i ht hy⟩, j_put_i hs ht0]
  rfl
theorem CS_putL {ci f u v z : Nat} (A : CE mi cd o 0 ea o1 w1) (E : CE mi cd o1 w1 e o2 w2) (h : ji cd o2 = some (.putfield z, [u, ci, f, v])) (ht : a_ty ci f = .long) (hf : f < j_nf ci) : CS mi cd o B K (tPutL ci f ea e) (o2 + 1) := by
  intro hcd hh sc k Q N B' K' R L σ he hN hB hK hR
  unfold tPutL at he
  refine A hcd sc k Q L [] σ _ (by simp [a_cat]) he (fun v τ hv hb => ?_)
  refine E hcd sc k Q L [v] τ _ (by rw [a_cat_c]; simp [a_cat, hv]) hb (fun v2 τ2 hv2 hq => ?_)
  obtain ⟨r, rfl, hs, hq1⟩ := jRef_iff.mp hq
  obtain ⟨y, rfl, hq2⟩ := jLng_iff.mp hq1
  subst hcd
  refine Zt_at h (L' := L) (st' := []) (σ' := hsl τ2 r f y) ?_ (hN _ _ hq2)
  have hfit : a_fit (a_ty ci f) (.long (Int64.ofInt y)) = true := by
    rw [ht]
    simp [a_fit, narrow, fits]
  simp only [a_step, a_putf, List.map_cons, List.map_nil, jc, j_ob hs]
  rw [if_pos ⟨trivial, by simpa using hf, rfl, hfit⟩]
  rw [j_put (τ := hsl τ2 r f y) hs rfl ?_ (fun j hj => ?_) (fun r' q' hr => j_cell_o q' (fun _ => rfl) (fun j => by rw [hl_sl, if_neg (fun h => hr h.1)]) (fun _ => rfl))]
  · rfl
  · simp only [j_fv, ht, j_ft, hl_sl, and_self, if_true]
  · unfold j_fv
    split
    · rfl
    · rw [hl_sl, if_neg (fun h => hj h.2)]
    · rfl
theorem CS_putP {ci f u v z : Nat} (A : CE mi cd o 0 ea o1 w1) (E : CE mi cd o1 w1 e o2 w2) (h : ji cd o2 = some (.putfield z, [u, ci, f, v])) (ht : (∃ y, a_ty ci f = .object y) ∨ ∃ y, a_ty ci f = .array y) (hf : f < j_nf ci) : CS mi cd o B K (tPutP ci f ea e) (o2 + 1) := by
  intro hcd hh sc k Q N B' K' R L σ he hN hB hK hR
  unfold tPutP at he
  refine A hcd sc k Q L [] σ _ (by simp [a_cat]) he (fun v τ hv hb => ?_)
  refine E hcd sc k Q L [v] τ _ (by rw [a_cat_c]; simp [a_cat, hv]) hb (fun v2 τ2 hv2 hq => ?_)
  obtain ⟨r, rfl, hs, hq1⟩ := jRef_iff.mp hq
  obtain ⟨y, rfl, hq2⟩ := jPls_iff.mp hq1
  subst hcd
  refine Zt_at h (L' := L) (st' := []) (σ' := hsp τ2 r f y) ?_ (hN _ _ hq2)
  have hfit : a_fit (a_ty ci f) (va_rf y) = true := by
    rcases ht with ⟨t, ht⟩ | ⟨t, ht⟩ <;> rw [ht] <;> cases y <;> simp [a_fit, narrow, fits, va_rf]
  have hisF : a_isF (va_rf y) = false := by cases y <;> rfl
  have ht2 : j_ft (a_ty ci f) = 2 := by rcases ht with ⟨t, ht⟩ | ⟨t, ht⟩ <;> rw [ht] <;> rfl
  simp only [a_step, a_putf, List.map_cons, List.map_nil, jpv_c]
  simp only [jc, j_ob hs]
  rw [if_pos ⟨trivial, by simpa using hf, hisF, hfit⟩]
  rw [j_put (τ := hsp τ2 r f y) hs rfl ?_ (fun j hj => ?_) (fun r' q' hr => j_cell_o q' (fun _ => rfl) (fun _ => rfl) (fun j => by rw [hp_sp, if_neg (fun h => hr h.1)]))]
  · rfl
  · simp only [j_fv, ht2, hp_sp, and_self, if_true]
  · unfold j_fv
    split
    · rfl
    · rfl
    · rw [hp_sp, if_neg (fun h => hj h.2)]
theorem CS_putc {p ci f u v z u2 v2 z2 : Nat} (A : CE mi cd o 0 ea o1 w1) (h1 : ji cd o1 = some (.dup, p1)) (h2 : ji cd (o1 + 1) = some (.getfield z, [u, ci, f, v])) (E : CE mi cd (o1 + 2) 2 e o2 w2) (h3 : ji cd o2 = some (j_oi p, p2)) (h : ji cd (o2 + 1) = some (.putfield z2, [u2, ci, f, v2])) (ht : a_ty ci f = .int ∨ a_ty ci f = .boolean) (hf : f < j_nf ci) : CS mi cd o B K (tPutc ci f ea p e) (o2 + 2) := by
  intro hcd hh sc k Q N B' K' R L σ he hN hB hK hR
  unfold tPutc at he
  refine A hcd sc k Q L [] σ _ (by simp [a_cat]) he (fun v τ hv hq => ?_)
  obtain ⟨r, rfl, hs, hq1⟩ := jRef_iff.mp hq
  have ht0 : j_ft (a_ty ci f) = 0 := by rcases ht with ht | ht <;> rw [ht] <;> rfl
  subst hcd
  refine Zt_at h1 (L' := L) (st' := [vR r, vR r]) (σ' := τ) rfl ?_
  refine Zt_at h2 (o' := o1 + 1 + 1) (L' := L) (st' := [vI (hi τ r f), vR r]) (σ' := τ) (by simp only [a_step, a_getf, List.map_cons, List.map_nil, jc, j_ob hs, if_true, j_fget hf, a_ld, a_go, j_fv, ht0]) ?_
  refine E rfl sc k Q L [vI (hi τ r f), vR r] τ _ (by simp [a_cat, jc_cat, jcat]) hq1 (fun v2 τ2 hv2 hq => ?_)
  obtain ⟨y, rfl, hs2, hy, hq2⟩ := jInt_iff.mp hq
  refine Zt_at h3 (L' := L) (st' := [vI (j_op p (hi τ r f) y), vR r]) (σ' := τ2) (j_op_s p _ y sc o2 p2 _ _ _) ?_
  refine Zt_at h (L' := L) (st' := []) (σ' := hsi τ2 r f (j_op p (hi τ r f) y)) ?_ (hN _ _ hq2)
  simp only [a_step, a_putf, List.map_cons, List.map_nil, jc, j_ob hs2]
  rw [if_pos ⟨trivial, by simpa using hf, rfl, j_fit_i ht hy⟩, j_put_i hs2 ht0]
  rfl
theorem CS_astI (A : CE mi cd o 0 ea o1 w1) (I : CE mi cd o1 w1 ei o2 w2) (E : CE mi cd o2 (w1 + w2) e o3 w3) (h : ji cd o3 = some (.iastore, ps)) : CS mi cd o B K (tAstI ea ei e) (o3 + 1) := by
  intro hcd hh sc k Q N B' K' R L σ he hN hB hK hR
  unfold tAstI at he
  refine A hcd sc k Q L [] σ _ (by simp [a_cat]) he (fun v τ hv hb => ?_)
  refine I hcd sc k Q L [v] τ _ (by simp [a_cat, jc_cat, hv]) hb (fun v2 τ2 hv2 hq => ?_)
  refine E hcd sc k Q L [v2, v] τ2 _ (by simp [a_cat, jc_cat, hv, hv2, Nat.add_comm]) hq (fun v3 τ3 hv3 hq => ?_)
  obtain ⟨r, rfl, hq1⟩ := jRef_iff.mp hq
  obtain ⟨y, rfl, n, hs, hn, h1, h2, hq2⟩ := jInt_iff.mp hq1
  obtain ⟨z, rfl, hq3⟩ := jInt_iff.mp hq2
  subst hcd
  refine Zt_at h (L' := L) (st' := []) (σ' := hsi τ3 r y.toNat z) ?_ (hN _ _ hq3)
  simp only [a_step, a_iast, List.map_cons, List.map_nil, jc, j_ar hs, j_in h1 h2 hn, if_true, a_go, j_toN h1 (show y ≤ 2147483647 by omega), j_set_i hs]
theorem CS_astL (A : CE mi cd o 0 ea o1 w1) (I : CE mi cd o1 w1 ei o2 w2) (E : CE mi cd o2 (w1 + w2) e o3 w3) (h : ji cd o3 = some (.lastore, ps)) : CS mi cd o B K (tAstL ea ei e) (o3 + 1) := by
  intro hcd hh sc k Q N B' K' R L σ he hN hB hK hR
  unfold tAstL at he
  refine A hcd sc k Q L [] σ _ (by simp [a_cat]) he (fun v τ hv hb => ?_)
  refine I hcd sc k Q L [v] τ _ (by simp [a_cat, jc_cat, hv]) hb (fun v2 τ2 hv2 hq => ?_)
  refine E hcd sc k Q L [v2, v] τ2 _ (by simp [a_cat, jc_cat, hv, hv2, Nat.add_comm]) hq (fun v3 τ3 hv3 hq => ?_)
  obtain ⟨r, rfl, hq1⟩ := jRef_iff.mp hq
  obtain ⟨y, rfl, n, hs, hn, h1, h2, hq2⟩ := jInt_iff.mp hq1
  obtain ⟨z, rfl, hq3⟩ := jLng_iff.mp hq2
  subst hcd
  refine Zt_at h (L' := L) (st' := []) (σ' := hsl τ3 r y.toNat z) ?_ (hN _ _ hq3)
  simp only [a_step, a_last, List.map_cons, List.map_nil, jc, j_arl hs, j_in h1 h2 hn, if_true, a_go, j_toN h1 (show y ≤ 2147483647 by omega), j_set_l hs]
theorem CS_astP (A : CE mi cd o 0 ea o1 w1) (I : CE mi cd o1 w1 ei o2 w2) (E : CE mi cd o2 (w1 + w2) e o3 w3) (h : ji cd o3 = some (.aastore, ps)) : CS mi cd o B K (tAstP ea ei e) (o3 + 1) := by
  intro hcd hh sc k Q N B' K' R L σ he hN hB hK hR
  unfold tAstP at he
  refine A hcd sc k Q L [] σ _ (by simp [a_cat]) he (fun v τ hv hb => ?_)
  refine I hcd sc k Q L [v] τ _ (by simp [a_cat, jc_cat, hv]) hb (fun v2 τ2 hv2 hq => ?_)
  refine E hcd sc k Q L [v2, v] τ2 _ (by simp [a_cat, jc_cat, hv, hv2, Nat.add_comm]) hq (fun v3 τ3 hv3 hq => ?_)
  obtain ⟨r, rfl, hq1⟩ := jRef_iff.mp hq
  obtain ⟨y, rfl, n, hs, hn, h1, h2, hq2⟩ := jInt_iff.mp hq1
  obtain ⟨z, rfl, hz, hq3⟩ := jPls_iff.mp hq2
  subst hcd
  refine Zt_at h (L' := L) (st' := []) (σ' := hsp τ3 r y.toNat z) ?_ (hN _ _ hq3)
  cases z with
  | none => simp only [a_step, a_aast, List.map_cons, List.map_nil, jpv, jc, j_arp hs, j_in h1 h2 hn, if_true, a_go, j_toN h1 (show y ≤ 2147483647 by omega), j_set_p hs]
  | some q =>
    have hq9 := j_is (hz q rfl).1
    simp only [a_step, a_aast, List.map_cons, List.map_nil, jpv, jc, j_arp hs, j_in h1 h2 hn, hq9, and_self, if_true, a_go, j_toN h1 (show y ≤ 2147483647 by omega), j_set_p hs]
theorem CS_astcI {p : Nat} (A : CE mi cd o 0 ea o1 1) (I : CE mi cd o1 1 ei o2 1) (h1 : ji cd o2 = some (.dup2, p1)) (h2 : ji cd (o2 + 1) = some (.iaload, p2)) (E : CE mi cd (o2 + 2) 3 e o3 w3) (h3 : ji cd o3 = some (j_oi p, p3)) (h : ji cd (o3 + 1) = some (.iastore, p4)) : CS mi cd o B K (tAstcI ea ei p e) (o3 + 2) := by
  intro hcd hh sc k Q N B' K' R L σ he hN hB hK hR
  unfold tAstcI at he
  refine A hcd sc k Q L [] σ _ (by simp [a_cat]) he (fun v τ hv hb => ?_)
  refine I hcd sc k Q L [v] τ _ (by simp [a_cat, jc_cat, hv]) hb (fun v2 τ2 hv2 hq => ?_)
  obtain ⟨r, rfl, hq1⟩ := jRef_iff.mp hq
  obtain ⟨y, rfl, n, hs, hn, b1, b2, hq2⟩ := jInt_iff.mp hq1
  subst hcd
  refine Zt_at h1 (L' := L) (st' := [vI y, vR r, vI y, vR r]) (σ' := τ2) rfl ?_
  refine Zt_at h2 (o' := o2 + 1 + 1) (L' := L) (st' := [vI (hi τ2 r y.toNat), vI y, vR r]) (σ' := τ2) (by simp only [a_step, a_iald, List.map_cons, List.map_nil, jc, j_ar hs, j_in b1 b2 hn, if_true, a_go, j_toN b1 (show y ≤ 2147483647 by omega)]) ?_
  refine E rfl sc k Q L _ τ2 _ (by simp [a_cat, jc_cat, jcat]) hq2 (fun v3 τ3 hv3 hq => ?_)
  obtain ⟨z, rfl, n', hs', hn', b1', b2', hq3⟩ := jInt_iff.mp hq
  refine Zt_at h3 (L' := L) (st' := [vI (j_op p (hi τ2 r y.toNat) z), vI y, vR r]) (σ' := τ3) (j_op_s p _ z sc o3 p3 _ _ _) ?_
  refine Zt_at h (L' := L) (st' := []) (σ' := hsi τ3 r y.toNat (j_op p (hi τ2 r y.toNat) z)) ?_ (hN _ _ hq3)
  simp only [a_step, a_iast, List.map_cons, List.map_nil, jc, j_ar hs', j_in b1' b2' hn', if_true, a_go, j_toN b1 (show y ≤ 2147483647 by omega), j_set_i hs']
theorem CS_astcL {p : Nat} (A : CE mi cd o 0 ea o1 1) (I : CE mi cd o1 1 ei o2 1) (h1 : ji cd o2 = some (.dup2, p1)) (h2 : ji cd (o2 + 1) = some (.laload, p2)) (E : CE mi cd (o2 + 2) 4 e o3 w3) (h3 : ji cd o3 = some (j_loi p, p3)) (h : ji cd (o3 + 1) = some (.lastore, p4)) : CS mi cd o B K (tAstcL ea ei p e) (o3 + 2) := by
  intro hcd hh sc k Q N B' K' R L σ he hN hB hK hR
  unfold tAstcL at he
  refine A hcd sc k Q L [] σ _ (by simp [a_cat]) he (fun v τ hv hb => ?_)
  refine I hcd sc k Q L [v] τ _ (by simp [a_cat, jc_cat, hv]) hb (fun v2 τ2 hv2 hq => ?_)
  obtain ⟨r, rfl, hq1⟩ := jRef_iff.mp hq
  obtain ⟨y, rfl, n, hs, hn, b1, b2, hq2⟩ := jInt_iff.mp hq1
  subst hcd
  refine Zt_at h1 (L' := L) (st' := [vI y, vR r, vI y, vR r]) (σ' := τ2) rfl ?_
  refine Zt_at h2 (o' := o2 + 1 + 1) (L' := L) (st' := [vL (hl τ2 r y.toNat), vI y, vR r]) (σ' := τ2) (by simp only [a_step, a_lald, List.map_cons, List.map_nil, jc, j_arl hs, j_in b1 b2 hn, if_true, a_go, j_toN b1 (show y ≤ 2147483647 by omega)]) ?_
  refine E rfl sc k Q L _ τ2 _ (by simp [a_cat, jc_cat, jcat]) hq2 (fun v3 τ3 hv3 hq => ?_)
  obtain ⟨z, rfl, n', hs', hn', b1', b2', hq3⟩ := jLng_iff.mp hq
  refine Zt_at h3 (L' := L) (st' := [vL (j_lop p (hl τ2 r y.toNat) z), vI y, vR r]) (σ' := τ3) (j_lop_s p _ z sc o3 p3 _ _ _) ?_
  refine Zt_at h (L' := L) (st' := []) (σ' := hsl τ3 r y.toNat (j_lop p (hl τ2 r y.toNat) z)) ?_ (hN _ _ hq3)
  simp only [a_step, a_last, List.map_cons, List.map_nil, jc, j_arl hs', j_in b1' b2' hn', if_true, a_go, j_toN b1 (show y ≤ 2147483647 by omega), j_set_l hs']
theorem j_nlt {z : Int} (h1 : 0 ≤ z) (h2 : z ≤ 2147483647) : ¬ Int32.ofInt z < 0 := by
  rw [show (0 : Int32) = Int32.ofInt 0 from rfl, j_lt_c, j_w_id (by omega) h2, show j_w 0 = 0 from rfl]
  omega
theorem CS_acpI {q : Nat} {tl : List Nat} (E1 : CE mi cd o 0 a o1 w1) (E2 : CE mi cd o1 w1 b o2 w2) (E3 : CE mi cd o2 (w1 + w2) e3 o3 w3) (E4 : CE mi cd o3 (w1 + w2 + w3) e4 o4 w4) (E5 : CE mi cd o4 (w1 + w2 + w3 + w4) e5 o5 w5) (h : ji cd o5 = some (.invokestatic q, 1 :: tl)) : CS mi cd o B K (tAcpI a b e3 e4 e5) (o5 + 1) := by
  intro hcd hh sc k Q N B' K' R L σ he hN hB hK hR
  unfold tAcpI at he
  refine E1 hcd sc k Q L [] σ _ (by simp [a_cat]) he (fun v1 τ1 hv1 he => ?_)
  refine E2 hcd sc k Q L [v1] τ1 _ (by simp [a_cat, jc_cat, hv1]) he (fun v2 τ2 hv2 he => ?_)
  refine E3 hcd sc k Q L [v2, v1] τ2 _ (by simp [a_cat, jc_cat, hv1, hv2]; omega) he (fun v3 τ3 hv3 he => ?_)
  refine E4 hcd sc k Q L [v3, v2, v1] τ3 _ (by simp [a_cat, jc_cat, hv1, hv2, hv3]; omega) he (fun v4 τ4 hv4 he => ?_)
  refine E5 hcd sc k Q L [v4, v3, v2, v1] τ4 _ (by simp [a_cat, jc_cat, hv1, hv2, hv3, hv4]; omega) he (fun v5 τ5 hv5 hq => ?_)
  obtain ⟨ra, rfl, hq1⟩ := jRef_iff.mp hq
  obtain ⟨s, rfl, hq2⟩ := jInt_iff.mp hq1
  obtain ⟨rb, rfl, hq3⟩ := jRef_iff.mp hq2
  obtain ⟨d, rfl, hq4⟩ := jInt_iff.mp hq3
  obtain ⟨n, rfl, na, nb, ha, hb, g1, g2, g3, g4, g5, g6, g7, hq5⟩ := jInt_iff.mp hq4
  subst hcd
  refine Zt_at h (L' := L) (st' := []) (σ' := hci τ5 ra s.toNat rb d.toNat n.toNat) ?_ (hN _ _ hq5)
  simp only [a_step, a_cpi, List.map_cons, List.map_nil, jc, j_ar ha, j_ar hb, j_toN g1 (show s ≤ 2147483647 by omega), j_toN g2 (show d ≤ 2147483647 by omega), j_toN g3 (show n ≤ 2147483647 by omega)]
  rw [if_pos ⟨j_nlt g1 (by omega), j_nlt g2 (by omega), j_nlt g3 (by omega), by omega, by omega, by simp [a_cat]⟩]
  have e : (j_h τ5).set rb (.inl (0, nb, .inl (va_cpy (fun j => Int32.ofInt (hi τ5 ra j)) (fun j => Int32.ofInt (hi τ5 rb j)) s.toNat d.toNat n.toNat))) = j_h (hci τ5 ra s.toNat rb d.toNat n.toNat) := by
    refine j_h_set hb rfl ?_ (fun r' q' hr => j_cell_o q' (fun j => ?_) (fun _ => rfl) (fun _ => rfl))
    · show Sum.inl (0, nb, Sum.inl _) = _
      congr 4
      funext j
      simp only [hi_ci, va_cpy, true_and]
      split <;> rfl
    · rw [hi_ci, if_neg (fun h => hr h.1)]
  rw [e]
  rfl
theorem CS_acpL {q : Nat} {tl : List Nat} (E1 : CE mi cd o 0 a o1 w1) (E2 : CE mi cd o1 w1 b o2 w2) (E3 : CE mi cd o2 (w1 + w2) e3 o3 w3) (E4 : CE mi cd o3 (w1 + w2 + w3) e4 o4 w4) (E5 : CE mi cd o4 (w1 + w2 + w3 + w4) e5 o5 w5) (h : ji cd o5 = some (.invokestatic q, 2 :: tl)) : CS mi cd o B K (tAcpL a b e3 e4 e5) (o5 + 1) := by
  intro hcd hh sc k Q N B' K' R L σ he hN hB hK hR
  unfold tAcpL at he
  refine E1 hcd sc k Q L [] σ _ (by simp [a_cat]) he (fun v1 τ1 hv1 he => ?_)
  refine E2 hcd sc k Q L [v1] τ1 _ (by simp [a_cat, jc_cat, hv1]) he (fun v2 τ2 hv2 he => ?_)
  refine E3 hcd sc k Q L [v2, v1] τ2 _ (by simp [a_cat, jc_cat, hv1, hv2]; omega) he (fun v3 τ3 hv3 he => ?_)
  refine E4 hcd sc k Q L [v3, v2, v1] τ3 _ (by simp [a_cat, jc_cat, hv1, hv2, hv3]; omega) he (fun v4 τ4 hv4 he => ?_)
  refine E5 hcd sc k Q L [v4, v3, v2, v1] τ4 _ (by simp [a_cat, jc_cat, hv1, hv2, hv3, hv4]; omega) he (fun v5 τ5 hv5 hq => ?_)
  obtain ⟨ra, rfl, hq1⟩ := jRef_iff.mp hq
  obtain ⟨s, rfl, hq2⟩ := jInt_iff.mp hq1
  obtain ⟨rb, rfl, hq3⟩ := jRef_iff.mp hq2
  obtain ⟨d, rfl, hq4⟩ := jInt_iff.mp hq3
  obtain ⟨n, rfl, na, nb, ha, hb, g1, g2, g3, g4, g5, g6, g7, hq5⟩ := jInt_iff.mp hq4
  subst hcd
  refine Zt_at h (L' := L) (st' := []) (σ' := hcl τ5 ra s.toNat rb d.toNat n.toNat) ?_ (hN _ _ hq5)
  simp only [a_step, a_cpl, List.map_cons, List.map_nil, jc, j_arl ha, j_arl hb, j_toN g1 (show s ≤ 2147483647 by omega), j_toN g2 (show d ≤ 2147483647 by omega), j_toN g3 (show n ≤ 2147483647 by omega)]
  rw [if_pos ⟨j_nlt g1 (by omega), j_nlt g2 (by omega), j_nlt g3 (by omega), by omega, by omega, by simp [a_cat]⟩]
  have e : (j_h τ5).set rb (.inl (1, nb, .inr (.inl (va_cpy (fun j => Int64.ofInt (hl τ5 ra j)) (fun j => Int64.ofInt (hl τ5 rb j)) s.toNat d.toNat n.toNat)))) = j_h (hcl τ5 ra s.toNat rb d.toNat n.toNat) := by
    refine j_h_set hb rfl ?_ (fun r' q' hr => j_cell_o q' (fun _ => rfl) (fun j => ?_) (fun _ => rfl))
    · show Sum.inl (1, nb, Sum.inr (Sum.inl _)) = _
      congr 5
      funext j
      simp only [hl_cl, va_cpy, true_and]
      split <;> rfl
    · rw [hl_cl, if_neg (fun h => hr h.1)]
  rw [e]
  rfl
theorem CS_exp (A : CE mi cd o 0 e o1 1) (h : ji cd o1 = some (.pop, ps)) : CS mi cd o B K (tExp e) (o1 + 1) := by
  intro hcd hh sc k Q N B' K' R L σ he hN hB hK hR
  unfold tExp at he
  refine A hcd sc k Q L [] σ _ (by simp [a_cat]) he (fun v τ hv hq => ?_)
  subst hcd
  refine Zt_at h (L' := L) (st' := []) (σ' := τ) ?_ (hN _ _ hq)
  simp only [a_step, List.map_cons, List.map_nil, jc_cat, hv, if_true, a_go]
theorem CS_exv {t : jEs} {q y : Nat} {tl : List Nat} (A : CEs mi cd o 0 t o1 n) (h : ji cd o1 = some (.invokestatic q, y :: m :: n :: tl)) (hy : y = 0 ∨ y = 3) : CS mi cd o B K (tExv m t) (o1 + 1) := by
  intro hcd hh sc k Q N B' K' R L σ he hN hB hK hR
  unfold tExv at he
  refine A hcd sc k Q L [] σ _ (by simp [a_cat]) he (fun vs τ hv hq => ?_)
  obtain ⟨τ', hc, hq⟩ := hq
  subst hcd
  refine Zt_call (st := []) (v := none) h ?_ hc (hN _ _ hq)
  rcases hy with rfl | rfl <;> exact j_call_s hv (by simp [a_cat])
theorem CS_exw {t : jEs} {q ci : Nat} {tl : List Nat} (A : CEs mi cd o 0 t o1 (n + 1)) (h : ji cd o1 = some (.invokevirtual q, 0 :: m :: n :: ci :: tl)) : CS mi cd o B K (tExw ci m t) (o1 + 1) := by
  intro hcd hh sc k Q N B' K' R L σ he hN hB hK hR
  unfold tExw at he
  refine A hcd sc k Q L [] σ _ (by simp [a_cat]) he (fun vs τ hv hq => ?_)
  obtain ⟨r, hr, hs, y, τ', hc, hq1⟩ := jRef_iff.mp hq
  subst hcd
  rcases hq1 with ⟨rfl, hq1⟩ | ⟨z, rfl, hq1⟩
  · exact Zt_call (st := []) (v := none) h (j_calv_s hr hs hv (by simp [a_cat])) hc (hN _ _ hq1)
  · exact Zt_throw rfl h (j_calv_s (st := []) hr hs hv (by simp [a_cat])) hh hc (hR _ _ hq1)
theorem CS_ite {m1 m2 : Nat} (C : CC mi cd o 0 c m1 m2) (A : CS mi cd m1 B K s1 e1) (A2 : CS mi cd m2 B K s2 e2) (h : jeq cd e1 e2 ∨ NS s1) : CS mi cd o B K (tIte c s1 s2) e2 := by
  intro hcd hh sc k Q N B' K' R L σ he hN hB hK hR
  unfold tIte at he
  refine C hcd sc k Q L [] σ _ _ (by simp [a_cat]) he (fun τ hT => ?_) (fun τ hF => A2 hcd hh sc k Q N B' K' R L τ hF hN hB hK hR)
  rcases h with h | h
  · subst hcd
    exact A rfl hh sc k Q N B' K' R L τ hT (fun L τ' hn => Zt_eq h (hN L τ' hn)) hB hK hR
  · rw [h sc _ N (fun _ _ => False) B' K' R] at hT
    exact A hcd hh sc k Q _ B' K' R L τ hT (fun _ _ hn => hn.elim) hB hK hR
theorem CS_loop {mb mu me : Nat} (C : CC mi cd o 0 c mb me) (A : CS mi cd mb me mu s1 e1) (h1 : jeq cd e1 mu ∨ NS s1) (U : CS mi cd mu 0 0 s2 e2) (h2 : jeq cd e2 o) : CS mi cd o B K (tLoop c s1 s2) me := by
  intro hcd hh sc k Q N B' K' R L σ he hN hB hK hR
  obtain ⟨n, hn⟩ := he
  induction n generalizing L σ with
  | zero => exact hn.elim
  | succ n ih =>
    have hU : ∀ L τ, s2 sc (Cd sc k) (jlp (fun L => c sc (Cd sc k) L) (fun N B K => s1 sc (Cd sc k) N B K R) (fun N => s2 sc (Cd sc k) N (fun _ _ => False) (fun _ _ => False) R) N n) (fun _ _ => False) (fun _ _ => False) R L τ → Zt sc (k + 1) mi mu L [] τ Q := fun L τ hu =>
      U hcd hh sc k Q _ _ _ R L τ hu (fun L τ' hl => by subst hcd; exact Zt_eq h2 (ih L τ' hl)) (fun _ _ h => h.elim) (fun _ _ h => h.elim) hR
    refine C hcd sc k Q L [] σ _ _ (by simp [a_cat]) hn (fun τ hT => ?_) (fun τ hF => hN _ _ hF)
    rcases h1 with h1 | h1
    · exact A hcd hh sc k Q _ _ _ R L τ hT (fun L τ' hu => by subst hcd; exact Zt_eq h1 (hU L τ' hu)) hN hU hR
    · simp only at hT
      rw [h1 sc _ _ (fun _ _ => False) _ _ R] at hT
      exact A hcd hh sc k Q _ _ _ R L τ hT (fun _ _ hn => hn.elim) hN hU hR
theorem CS_ret (A : CE mi cd o 0 e o1 w1) (h : ji cd o1 = some (.ireturn, [0])) : CS mi cd o B K (tRet e) (o1 + 1) := by
  intro hcd hh sc k Q N B' K' R L σ he hN hB hK hR
  unfold tRet at he
  refine A hcd sc k Q L [] σ _ (by simp [a_cat]) he (fun v τ hv hq => ?_)
  obtain ⟨z, rfl, hq1⟩ := jInt_iff.mp hq
  subst hcd
  exact Zt_end (r := rV (vI z)) h rfl (hR _ _ hq1)
theorem CS_retB (A : CE mi cd o 0 e o1 w1) (h : ji cd o1 = some (.ireturn, [1])) : CS mi cd o B K (tRetB e) (o1 + 1) := by
  intro hcd hh sc k Q N B' K' R L σ he hN hB hK hR
  unfold tRetB at he
  refine A hcd sc k Q L [] σ _ (by simp [a_cat]) he (fun v τ hv hq => ?_)
  obtain ⟨z, rfl, hz, hq1⟩ := jInt_iff.mp hq
  subst hcd
  refine Zt_end (r := rV (vI z)) (τ := τ) h ?_ (hR _ _ hq1)
  have e : narrow .boolean (.int (Int32.ofInt z)) = .int (Int32.ofInt z) := by rcases hz with rfl | rfl <;> decide
  simp only [a_step, List.map_cons, List.map_nil, jc, e, if_true, jcR]
theorem CS_retL (A : CE mi cd o 0 e o1 w1) (h : ji cd o1 = some (.lreturn, ps)) : CS mi cd o B K (tRetL e) (o1 + 1) := by
  intro hcd hh sc k Q N B' K' R L σ he hN hB hK hR
  unfold tRetL at he
  refine A hcd sc k Q L [] σ _ (by simp [a_cat]) he (fun v τ hv hq => ?_)
  obtain ⟨z, rfl, hq1⟩ := jLng_iff.mp hq
  subst hcd
  exact Zt_end (r := rV (vL z)) h rfl (hR _ _ hq1)
theorem CS_retv (h : ji cd o = some (.return_, ps)) : CS mi cd o B K tRetv (o + 1) := by
  intro hcd hh sc k Q N B' K' R L σ he hN hB hK hR
  subst hcd
  exact Zt_end (r := rN) h rfl (hR _ _ he)
theorem CS_brk (h : jeq cd o B) : CS mi cd o B K tBrk e1 := by
  intro hcd hh sc k Q N B' K' R L σ he hN hB hK hR
  subst hcd
  exact Zt_eq h (hB _ _ he)
theorem CS_cont (h : jeq cd o K) : CS mi cd o B K tCont e1 := by
  intro hcd hh sc k Q N B' K' R L σ he hN hB hK hR
  subst hcd
  exact Zt_eq h (hK _ _ he)
theorem CS_thr {y q : Nat} {tl : List Nat} (h : ji cd o = some (.new q, 1 :: y :: tl)) (hy : j_nf (13 + y) = 0) : CS mi cd o B K (tThr y) e1 := by
  intro hcd hh sc k Q N B' K' R L σ he hN hB hK hR
  subst hcd
  refine Zt_end (r := rT y) (τ := hal σ (y + 16) 0) h ?_ (hR _ _ he)
  have e : j_cell (hal σ (y + 16) 0) (hsh σ).length (y + 16, 0) = .inr (13 + y, []) := by
    have e1 : y + 16 = (13 + y) + 3 := by omega
    show j_cell (hal σ (y + 16) 0) (hsh σ).length (y + 16, 0) = _
    rw [e1]
    show Sum.inr (13 + y, (List.range (j_nf (13 + y))).map _) = _
    rw [hy]
    rfl
  simp only [a_step, List.map_nil, a_cat, Nat.zero_le, if_true, jcR]
  rw [j_al e]
/-- the cases of a switch: the places they begin at, the keys that there are, the place of all others -/
def CW (mi : Nat) (cd : List AI) (X K : Nat) (w : jW) (ks : List Int) (p : Nat) (f : Int → Nat) : Prop := (∀ z, ¬ z ∈ ks → f z = p) ∧ (a_code mi = cd → a_hand mi = [] → ∀ (sc : jSc) (k : Nat) (Q : jR → jH → Prop) (N K' : jN) (R : jR → jH → Prop) (z : Int) (L : List jV) (σ : jH), w sc (Cd sc k) z N K' R L σ → (∀ L τ, N L τ → Zt sc (k + 1) mi X L [] τ Q) → (∀ L τ, K' L τ → Zt sc (k + 1) mi K L [] τ Q) → (∀ r τ, R r τ → Q r τ) → Zt sc (k + 1) mi (f z) L [] σ Q)
theorem CW_dflt {X p : Nat} (A : CS mi cd p X K s e1) (h : jeq cd e1 X ∨ NS s) : CW mi cd X K (wD s) [] p (fun _ => p) := by
  refine ⟨fun _ _ => rfl, ?_⟩
  intro hcd hh sc k Q N K' R z L σ he hN hK hR
  unfold wD at he
  rcases h with h | h
  · exact A hcd hh sc k Q N N K' R L σ he (fun L τ hn => by subst hcd; exact Zt_eq h (hN L τ hn)) hN hK hR
  · rw [h sc _ N (fun _ _ => False) N K' R] at he
    exact A hcd hh sc k Q _ N K' R L σ he (fun _ _ hn => hn.elim) hN hK hR
theorem CW_case {X p p0 : Nat} {ks ks' : List Int} {f : Int → Nat} {w : jW} (A : CS mi cd p X K s e1) (A2 : CW mi cd X K w ks' p0 f) : CW mi cd X K (wK ks s w) (ks ++ ks') p0 (fun z => if z ∈ ks then p else f z) := by
  refine ⟨fun z hz => ?_, ?_⟩
  · show (if z ∈ ks then p else f z) = p0
    rw [if_neg (fun h => hz (List.mem_append_left _ h))]
    exact A2.1 z (fun h => hz (List.mem_append_right _ h))
  intro hcd hh sc k Q N K' R z L σ he hN hK hR
  unfold wK at he
  by_cases hz : z ∈ ks
  · simp only [hz, if_true]
    exact A hcd hh sc k Q _ N K' R L σ (he.1 hz) (fun _ _ hn => hn.elim) hN hK hR
  · simp only [hz, if_false]
    exact A2.2 hcd hh sc k Q N K' R z L σ (he.2 hz) hN hK hR
def j_tab (f : Int → Nat) : Int → List Nat → Bool
  | _, [] => true
  | k, t :: ts => decide (t = f k) && j_tab f (k + 1) ts
theorem j_tab_at {f : Int → Nat} : ∀ {ts : List Nat} {k : Int} {j t : Nat}, j_tab f k ts = true → ts[j]? = some t → t = f (k + j)
  | [], k, j, t, _, h => by simp at h
  | t0 :: ts, k, 0, t, hh, h => by
    simp only [j_tab, Bool.and_eq_true, decide_eq_true_eq] at hh
    simp at h
    subst h
    simpa using hh.1
  | t0 :: ts, k, j + 1, t, hh, h => by
    simp only [j_tab, Bool.and_eq_true, decide_eq_true_eq] at hh
    have h' : ts[j]? = some t := by simpa using h
    have := j_tab_at hh.2 h'
    rw [this]
    congr 1
    omega
theorem CS_swt {X p : Nat} {ks : List Int} {f : Int → Nat} {wd : jW} {q lo hi' : Int} {arr : Array Int} {ts : List Nat} (A : CE mi cd o 0 e o1 w1) (h : ji cd o1 = some (.tableswitch q lo hi' arr, p :: ts)) (W : CW mi cd X K wd ks p f) (ht : j_tab f lo ts = true) (hn : lo + ts.length = hi' + 1) (hk : ks.all (fun z => decide (lo ≤ z ∧ z ≤ hi')) = true) : CS mi cd o B K (tSw e wd) X := by
  intro hcd hh sc k Q N B' K' R L σ he hN hB hK hR
  unfold tSw at he
  refine A hcd sc k Q L [] σ _ (by simp [a_cat]) he (fun v τ hv hq => ?_)
  obtain ⟨z, rfl, hq1⟩ := jInt_iff.mp hq
  have hz := W.2 hcd hh sc k Q N K' R (j_w z) L τ hq1 hN hK hR
  subst hcd
  by_cases hr : j_w z < lo ∨ hi' < j_w z
  · have hf : f (j_w z) = p := W.1 _ (fun hm => by
      have := List.all_eq_true.mp hk _ hm
      simp only [decide_eq_true_eq] at this
      omega)
    rw [hf] at hz
    refine Zt_at h (L' := L) (st' := []) (σ' := τ) ?_ hz
    have hr' : (Int32.ofInt z).toInt < lo ∨ hi' < (Int32.ofInt z).toInt := hr
    simp only [a_step, List.map_cons, List.map_nil, jc, if_pos hr', a_to]
  · have hlt : (j_w z - lo).toNat < ts.length := by omega
    have hg : ts[(j_w z - lo).toNat]? = some ts[(j_w z - lo).toNat] := List.getElem?_eq_getElem hlt
    have hf := j_tab_at ht hg
    have e : lo + ((j_w z - lo).toNat : Int) = j_w z := by omega
    rw [e] at hf
    rw [← hf] at hz
    refine Zt_at h (L' := L) (st' := []) (σ' := τ) ?_ hz
    have hr' : ¬ ((Int32.ofInt z).toInt < lo ∨ hi' < (Int32.ofInt z).toInt) := hr
    have hg' : ts[((Int32.ofInt z).toInt - lo).toNat]? = some ts[(j_w z - lo).toNat] := hg
    simp only [a_step, List.map_cons, List.map_nil, jc, if_neg hr', hg', a_to]
def j_look (f : Int → Nat) : List (Int × Int) → List Nat → Bool
  | [], [] => true
  | (k, _) :: t, g :: gs => decide (g = f k) && j_look f t gs
  | _, _ => false
theorem j_look_at {f : Int → Nat} {d : Nat} {z : Int} : ∀ {prs : List (Int × Int)} {ts : List Nat}, j_look f prs ts = true → a_look z prs ts d = if z ∈ prs.map Prod.fst then f z else d
  | [], [], _ => by simp [a_look]
  | (k, y) :: t, g :: gs, h => by
    simp only [j_look, Bool.and_eq_true, decide_eq_true_eq] at h
    simp only [a_look, List.map_cons, List.mem_cons]
    by_cases hz : z = k
    · simp [hz, h.1]
    · simp only [hz, if_false, false_or]
      exact j_look_at h.2
  | [], _ :: _, h => by simp [j_look] at h
  | _ :: _, [], h => by simp [j_look] at h
theorem CS_swl {X p : Nat} {ks : List Int} {f : Int → Nat} {wd : jW} {q : Int} {prs : Array (Int × Int)} {ts : List Nat} (A : CE mi cd o 0 e o1 w1) (h : ji cd o1 = some (.lookupswitch q prs, p :: ts)) (W : CW mi cd X K wd ks p f) (ht : j_look f prs.toList ts = true) (hk : ks.all (fun z => decide (z ∈ prs.toList.map Prod.fst)) = true) : CS mi cd o B K (tSw e wd) X := by
  intro hcd hh sc k Q N B' K' R L σ he hN hB hK hR
  unfold tSw at he
  refine A hcd sc k Q L [] σ _ (by simp [a_cat]) he (fun v τ hv hq => ?_)
  obtain ⟨z, rfl, hq1⟩ := jInt_iff.mp hq
  have hz := W.2 hcd hh sc k Q N K' R (j_w z) L τ hq1 hN hK hR
  subst hcd
  refine Zt_at h (L' := L) (st' := []) (σ' := τ) (o' := f (j_w z)) ?_ hz
  have e : a_look (j_w z) prs.toList ts p = f (j_w z) := by
    rw [j_look_at ht]
    split
    · rfl
    · rename_i hn
      exact (W.1 _ (fun hm => by
        have := List.all_eq_true.mp hk _ hm
        simp only [decide_eq_true_eq] at this
        exact hn this)).symm
  have e' : a_look (Int32.ofInt z).toInt prs.toList ts p = f (j_w z) := e
  simp only [a_step, List.map_cons, List.map_nil, jc, a_to, e']
end
/-- the arguments as locals -/
def jlay : List jV → List jV
  | [] => []
  | v :: t => if jisL v = true then v :: vU :: jlay t else v :: jlay t
theorem jlay_c : ∀ vs : List jV, a_lay (vs.map jc) = (jlay vs).map jc
  | [] => rfl
  | v :: t => by
    simp only [List.map_cons, a_lay, jlay, jc_cat]
    rw [jlay_c t]
    match v with
    | .inl _ => rfl
    | .inr (.inl _) => rfl
    | .inr (.inr (.inl _)) => rfl
    | .inr (.inr (.inr (.inl _))) => rfl
    | .inr (.inr (.inr (.inr _))) => rfl
def jent (n : Nat) (vs : List jV) : List jV := jlay vs ++ List.replicate (n - (jlay vs).length) vU
theorem jent_c (n : Nat) (vs : List jV) : a_enter n (vs.map jc) = (jent n vs).map jc := by
  unfold a_enter jent
  rw [jlay_c, List.map_append, List.map_replicate, List.length_map]
  rfl
/-- a method's whole code -/
def CM (mi : Nat) (s : jS) : Prop := ∀ (sc : jSc) (k : Nat) (Q : jR → jH → Prop) (L : List jV) (σ : jH), s sc (Cd sc k) (fun _ _ => False) (fun _ _ => False) (fun _ _ => False) Q L σ → Zt sc (k + 1) mi 0 L [] σ Q
theorem CM_of {mi : Nat} {cd : List AI} {s : jS} {e : Nat} (hcd : a_code mi = cd) (hh : a_hand mi = []) (h : CS mi cd 0 0 0 s e) : CM mi s := fun sc k Q L σ hs => h hcd hh sc k Q _ _ _ Q L σ hs (fun _ _ h => h.elim) (fun _ _ h => h.elim) (fun _ _ h => h.elim) (fun _ _ h => h)
/-- a call ends as its body says -/
theorem CM_call {mi : Nat} {s : jS} (h : CM mi s) {sc : jSc} {k : Nat} {vs L : List jV} {σ : jH} {P : jR → jH → Prop} (hL : jent (a_maxL mi) vs = L) (hn : (jlay vs).length ≤ a_maxL mi) (hs : s sc (Cd sc k) (fun _ _ => False) (fun _ _ => False) (fun _ _ => False) P L σ) : ∃ r τ, Cd sc (k + 1) mi vs σ r τ ∧ P r τ := by
  obtain ⟨n, r, τ, hr, hp⟩ := h sc k P L σ hs
  refine ⟨r, τ, ⟨?_, n, ?_⟩, hp⟩
  · rw [jlay_c, List.length_map]
    exact hn
  · rw [jent_c, hL]
    exact hr
end STMT
