/-! The code at these places holds the piece: expressions and conditions -/
section COVER
def CE (mi : Nat) (cd : List AI) (o d : Nat) (e : jE) (o' w : Nat) : Prop := a_code mi = cd → ∀ (sc : jSc) (k : Nat) (Q : jR → jH → Prop) (L st : List jV) (σ : jH) (Q' : jV → jH → Prop), a_cat (st.map jc) ≤ d → e sc (Cd sc k) L Q' σ → (∀ v τ, jcat v = w → Q' v τ → Zt sc (k + 1) mi o' L (v :: st) τ Q) → Zt sc (k + 1) mi o L st σ Q
def CEs (mi : Nat) (cd : List AI) (o d : Nat) (e : jEs) (o' n : Nat) : Prop := a_code mi = cd → ∀ (sc : jSc) (k : Nat) (Q : jR → jH → Prop) (L st : List jV) (σ : jH) (Q' : List jV → jH → Prop), a_cat (st.map jc) ≤ d → e sc (Cd sc k) L Q' σ → (∀ vs τ, vs.length = n → Q' vs τ → Zt sc (k + 1) mi o' L (vs.reverse ++ st) τ Q) → Zt sc (k + 1) mi o L st σ Q
def CC (mi : Nat) (cd : List AI) (o d : Nat) (c : jC) (T F : Nat) : Prop := a_code mi = cd → ∀ (sc : jSc) (k : Nat) (Q : jR → jH → Prop) (L st : List jV) (σ : jH) (T' F' : jH → Prop), a_cat (st.map jc) ≤ d → c sc (Cd sc k) L T' F' σ → (∀ τ, T' τ → Zt sc (k + 1) mi T L st τ Q) → (∀ τ, F' τ → Zt sc (k + 1) mi F L st τ Q) → Zt sc (k + 1) mi o L st σ Q
def j_cst (x : Instr) (ps : List Nat) (z : Int) : Prop := match x, ps with
  | .iconst y, _ => Int32.ofInt y = Int32.ofInt z
  | .bipush y, _ => (Int8.ofInt y).toInt32 = Int32.ofInt z
  | .sipush y, _ => (Int16.ofInt y).toInt32 = Int32.ofInt z
  | .ldc _, [0, v, _] => Int32.ofNat v = Int32.ofInt z
  | .ldc_w _, [0, v, _] => Int32.ofNat v = Int32.ofInt z
  | _, _ => False
def j_lcst (x : Instr) (ps : List Nat) (z : Int) : Prop := match x, ps with
  | .lconst k, _ => Int64.ofNat k.val = Int64.ofInt z
  | .ldc2_w _, [v, _] => Int64.ofNat v = Int64.ofInt z
  | _, _ => False
def j_strc (x : Instr) (ps : List Nat) (q : Nat) : Prop := match x, ps with
  | .ldc _, [1, v] => v = q
  | .ldc_w _, [1, v] => v = q
  | _, _ => False
def j_ldI (x : Instr) (j : Nat) : Prop := match x with
  | .iload_n k => k.val = j
  | .iload k => k = j
  | _ => False
def j_ldL (x : Instr) (j : Nat) : Prop := match x with
  | .lload_n k => k.val = j
  | .lload k => k = j
  | _ => False
def j_ldA (x : Instr) (j : Nat) : Prop := match x with
  | .aload_n k => k.val = j
  | .aload k => k = j
  | _ => False
section
variable {mi : Nat} {cd : List AI} {o d o1 o2 w w1 w2 n : Nat} {a b : jE} {x : Instr} {ps : List Nat} {c c1 c2 : jC} {T F m : Nat}
theorem CE_int {z : Int} (h : ji cd o = some (x, ps)) (hx : j_cst x ps z) : CE mi cd o d (eInt z) (o + 1) 1 := by
  intro hcd sc k Q L st σ Q' hd he hk
  subst hcd
  refine Zt_at h (L' := L) (st' := vI z :: st) (σ' := σ) ?_ (hk _ _ rfl he)
  unfold j_cst at hx
  split at hx
  · simp only [a_step, a_go, List.map_cons, jc, hx]
  · simp only [a_step, a_go, List.map_cons, jc, hx]
  · simp only [a_step, a_go, List.map_cons, jc, hx]
  · simp only [a_step, a_go, List.map_cons, jc, hx]
  · simp only [a_step, a_go, List.map_cons, jc, hx]
  · cases hx
theorem CE_lng {z : Int} (h : ji cd o = some (x, ps)) (hx : j_lcst x ps z) : CE mi cd o d (eLng z) (o + 1) 2 := by
  intro hcd sc k Q L st σ Q' hd he hk
  subst hcd
  refine Zt_at h (L' := L) (st' := vL z :: st) (σ' := σ) ?_ (hk _ _ rfl he)
  unfold j_lcst at hx
  split at hx
  · simp only [a_step, a_go, List.map_cons, jc, hx]
  · simp only [a_step, a_go, List.map_cons, jc, hx]
  · cases hx
theorem CE_nul (h : ji cd o = some (.aconst_null, ps)) : CE mi cd o d eNul (o + 1) 1 := by
  intro hcd sc k Q L st σ Q' hd he hk
  subst hcd
  exact Zt_at h (L' := L) (st' := vN :: st) (σ' := σ) rfl (hk _ _ rfl he)
theorem CE_str {q : Nat} (h : ji cd o = some (x, ps)) (hx : j_strc x ps q) : CE mi cd o d (eStr q) (o + 1) 1 := by
  intro hcd sc k Q L st σ Q' hd he hk
  subst hcd
  refine Zt_at h (L' := L) (st' := vS q :: st) (σ' := σ) ?_ (hk _ _ rfl he)
  unfold j_strc at hx
  split at hx
  · subst hx
    simp only [a_step, a_go, List.map_cons, jc]
  · subst hx
    simp only [a_step, a_go, List.map_cons, jc]
  · cases hx
theorem CE_loc {j : Nat} (h : ji cd o = some (x, ps)) (hx : j_ldI x j) : CE mi cd o d (eLoc j) (o + 1) 1 := by
  intro hcd sc k Q L st σ Q' hd he hk
  subst hcd
  obtain ⟨z, hz, hq1⟩ := jInt_iff.mp he
  refine Zt_at h (L' := L) (st' := vI z :: st) (σ' := σ) ?_ (hk _ _ rfl hq1)
  have hg := jget_at hz (by simp)
  unfold j_ldI at hx
  split at hx
  · subst hx
    simp only [a_step, a_ld, a_ldI, hg, jc, a_go, List.map_cons]
  · subst hx
    simp only [a_step, a_ld, a_ldI, hg, jc, a_go, List.map_cons]
  · cases hx
theorem CE_lol {j : Nat} (h : ji cd o = some (x, ps)) (hx : j_ldL x j) : CE mi cd o d (eLol j) (o + 1) 2 := by
  intro hcd sc k Q L st σ Q' hd he hk
  subst hcd
  obtain ⟨z, hz, hq1⟩ := jLng_iff.mp he
  refine Zt_at h (L' := L) (st' := vL z :: st) (σ' := σ) ?_ (hk _ _ rfl hq1)
  have hg := jget_at hz (by simp)
  unfold j_ldL at hx
  split at hx
  · subst hx
    simp only [a_step, a_ld, a_ldL, hg, jc, a_go, List.map_cons]
  · subst hx
    simp only [a_step, a_ld, a_ldL, hg, jc, a_go, List.map_cons]
  · cases hx
theorem CE_lor {j : Nat} (h : ji cd o = some (x, ps)) (hx : j_ldA x j) : CE mi cd o d (eLor j) (o + 1) 1 := by
  intro hcd sc k Q L st σ Q' hd he hk
  subst hcd
  have hv : ∃ v, jget L j = v ∧ Q' v σ ∧ ((∃ q, v = vR q) ∨ ∃ q, v = vS q) := by
    unfold eLor at he
    match hv : jget L j, he with
    | .inr (.inr (.inl q)), he => exact ⟨_, rfl, he, Or.inl ⟨q, rfl⟩⟩
    | .inr (.inr (.inr (.inl q))), he => exact ⟨_, rfl, he, Or.inr ⟨q, rfl⟩⟩
  obtain ⟨v, hv, hq, hv2⟩ := hv
  refine Zt_at h (L' := L) (st' := v :: st) (σ' := σ) ?_ (hk _ _ (by rcases hv2 with ⟨q, rfl⟩ | ⟨q, rfl⟩ <;> rfl) hq)
  have hg := jget_at hv (by rcases hv2 with ⟨q, rfl⟩ | ⟨q, rfl⟩ <;> simp)
  rcases hv2 with ⟨q, rfl⟩ | ⟨q, rfl⟩
  · unfold j_ldA at hx
    split at hx
    · subst hx
      simp only [a_step, a_ld, a_ldA, hg, jc, a_go, List.map_cons]
    · subst hx
      simp only [a_step, a_ld, a_ldA, hg, jc, a_go, List.map_cons]
    · cases hx
  · unfold j_ldA at hx
    split at hx
    · subst hx
      simp only [a_step, a_ld, a_ldA, hg, jc, a_go, List.map_cons]
    · subst hx
      simp only [a_step, a_ld, a_ldA, hg, jc, a_go, List.map_cons]
    · cases hx
theorem j_op_c (p : Nat) (x y : Int) : ∃ f : Int32 → Int32 → Int32, (∀ sc o ps L st h, a_step sc o (j_oi p) ps L st h = a_i2 f o L st h) ∧ f (Int32.ofInt x) (Int32.ofInt y) = Int32.ofInt (j_op p x y) := by
  match p with
  | 0 => exact ⟨_, fun _ _ _ _ _ _ => rfl, by simp [j_op, Int32.ofInt_add]⟩
  | 1 => exact ⟨_, fun _ _ _ _ _ _ => rfl, by simp [j_op, Int32.ofInt_sub]⟩
  | 2 => exact ⟨_, fun _ _ _ _ _ _ => rfl, by simp [j_op, Int32.ofInt_mul]⟩
  | 3 => exact ⟨_, fun _ _ _ _ _ _ => rfl, by simp only [j_op, Int32.ofInt_toInt]⟩
  | 4 => exact ⟨_, fun _ _ _ _ _ _ => rfl, by simp only [j_op, Int32.ofInt_toInt]⟩
  | 5 => exact ⟨_, fun _ _ _ _ _ _ => rfl, by simp only [j_op, Int32.ofInt_toInt]⟩
  | 6 => exact ⟨_, fun _ _ _ _ _ _ => rfl, by simp only [j_op, Int32.ofInt_toInt]⟩
  | 7 => exact ⟨_, fun _ _ _ _ _ _ => rfl, by simp only [j_op, Int32.ofInt_toInt]⟩
  | n + 8 => exact ⟨_, fun _ _ _ _ _ _ => rfl, by simp only [j_op, Int32.ofInt_toInt]⟩
theorem j_op_s (p : Nat) (x y : Int) (sc : jSc) (o : Nat) (ps : List Nat) (L : List Value) (st : List Value) (h : AH) : a_step sc o (j_oi p) ps L (.int (Int32.ofInt y) :: .int (Int32.ofInt x) :: st) h = some (.inl (o + 1, L, .int (Int32.ofInt (j_op p x y)) :: st, h)) := by
  obtain ⟨f, h1, h2⟩ := j_op_c p x y
  rw [h1, ← h2]
  rfl
theorem j_lop_s (p : Nat) (x y : Int) (sc : jSc) (o : Nat) (ps : List Nat) (L : List Value) (st : List Value) (h : AH) : a_step sc o (j_loi p) ps L (.long (Int64.ofInt y) :: .long (Int64.ofInt x) :: st) h = some (.inl (o + 1, L, .long (Int64.ofInt (j_lop p x y)) :: st, h)) := by
  have : ∃ f : Int64 → Int64 → Int64, (∀ sc o ps L st h, a_step sc o (j_loi p) ps L st h = a_l2 f o L st h) ∧ f (Int64.ofInt x) (Int64.ofInt y) = Int64.ofInt (j_lop p x y) := by
    match p with
    | 0 => exact ⟨_, fun _ _ _ _ _ _ => rfl, by simp [j_lop, Int64.ofInt_add]⟩
    | 1 => exact ⟨_, fun _ _ _ _ _ _ => rfl, by simp only [j_lop, Int64.ofInt_toInt]⟩
    | 2 => exact ⟨_, fun _ _ _ _ _ _ => rfl, by simp [j_lop, Int64.ofInt_mul]⟩
    | 3 => exact ⟨_, fun _ _ _ _ _ _ => rfl, by simp only [j_lop, Int64.ofInt_toInt]⟩
    | n + 4 => exact ⟨_, fun _ _ _ _ _ _ => rfl, by simp only [j_lop, Int64.ofInt_toInt]⟩
  obtain ⟨f, h1, h2⟩ := this
  rw [h1, ← h2]
  rfl
theorem CE_bin {p : Nat} (A : CE mi cd o d a o1 w1) (B : CE mi cd o1 (d + w1) b o2 w2) (h : ji cd o2 = some (j_oi p, ps)) : CE mi cd o d (eBin p a b) (o2 + 1) 1 := by
  intro hcd sc k Q L st σ Q' hd he hk
  unfold eBin at he
  refine A hcd sc k Q L st σ _ hd he (fun v τ hv hb => ?_)
  refine B hcd sc k Q L (v :: st) τ _ (by rw [a_cat_c]; omega) hb (fun v2 τ2 hv2 hq => ?_)
  obtain ⟨x, rfl, hq1⟩ := jInt_iff.mp hq
  obtain ⟨y, rfl, hq2⟩ := jInt_iff.mp hq1
  subst hcd
  exact Zt_at h (L' := L) (st' := vI _ :: st) (σ' := τ2) (j_op_s p x y sc o2 ps _ _ _) (hk _ _ rfl hq2)
theorem CE_lbin {p : Nat} (A : CE mi cd o d a o1 w1) (B : CE mi cd o1 (d + w1) b o2 w2) (h : ji cd o2 = some (j_loi p, ps)) : CE mi cd o d (eLbin p a b) (o2 + 1) 2 := by
  intro hcd sc k Q L st σ Q' hd he hk
  unfold eLbin at he
  refine A hcd sc k Q L st σ _ hd he (fun v τ hv hb => ?_)
  refine B hcd sc k Q L (v :: st) τ _ (by rw [a_cat_c]; omega) hb (fun v2 τ2 hv2 hq => ?_)
  obtain ⟨x, rfl, hq1⟩ := jLng_iff.mp hq
  obtain ⟨y, rfl, hq2⟩ := jLng_iff.mp hq1
  subst hcd
  exact Zt_at h (L' := L) (st' := vL _ :: st) (σ' := τ2) (j_lop_s p x y sc o2 ps _ _ _) (hk _ _ rfl hq2)
theorem j_w_zero {y : Int} (h : j_w y ≠ 0) : ¬ Int32.ofInt y = 0 := by
  intro h2
  apply h
  unfold j_w
  rw [h2]
  rfl
theorem j_w64_zero {y : Int} (h : j_w64 y ≠ 0) : ¬ Int64.ofInt y = 0 := by
  intro h2
  apply h
  unfold j_w64
  rw [h2]
  rfl
theorem CE_div (A : CE mi cd o d a o1 w1) (B : CE mi cd o1 (d + w1) b o2 w2) (h : ji cd o2 = some (.idiv, ps)) : CE mi cd o d (eDiv a b) (o2 + 1) 1 := by
  intro hcd sc k Q L st σ Q' hd he hk
  unfold eDiv at he
  refine A hcd sc k Q L st σ _ hd he (fun v τ hv hb => ?_)
  refine B hcd sc k Q L (v :: st) τ _ (by rw [a_cat_c]; omega) hb (fun v2 τ2 hv2 hq => ?_)
  obtain ⟨x, rfl, hq1⟩ := jInt_iff.mp hq
  obtain ⟨y, rfl, hy, hq2⟩ := jInt_iff.mp hq1
  subst hcd
  refine Zt_at h (L' := L) (st' := vI _ :: st) (σ' := τ2) ?_ (hk _ _ rfl hq2)
  simp only [a_step, a_i2d, List.map_cons, jc, if_neg (j_w_zero hy), a_go, j_div, Int32.ofInt_toInt]
theorem CE_rem (A : CE mi cd o d a o1 w1) (B : CE mi cd o1 (d + w1) b o2 w2) (h : ji cd o2 = some (.irem, ps)) : CE mi cd o d (eRem a b) (o2 + 1) 1 := by
  intro hcd sc k Q L st σ Q' hd he hk
  unfold eRem at he
  refine A hcd sc k Q L st σ _ hd he (fun v τ hv hb => ?_)
  refine B hcd sc k Q L (v :: st) τ _ (by rw [a_cat_c]; omega) hb (fun v2 τ2 hv2 hq => ?_)
  obtain ⟨x, rfl, hq1⟩ := jInt_iff.mp hq
  obtain ⟨y, rfl, hy, hq2⟩ := jInt_iff.mp hq1
  subst hcd
  refine Zt_at h (L' := L) (st' := vI _ :: st) (σ' := τ2) ?_ (hk _ _ rfl hq2)
  simp only [a_step, a_i2d, List.map_cons, jc, if_neg (j_w_zero hy), a_go, j_rem, Int32.ofInt_toInt]
theorem CE_ldiv (A : CE mi cd o d a o1 w1) (B : CE mi cd o1 (d + w1) b o2 w2) (h : ji cd o2 = some (.ldiv, ps)) : CE mi cd o d (eLdiv a b) (o2 + 1) 2 := by
  intro hcd sc k Q L st σ Q' hd he hk
  unfold eLdiv at he
  refine A hcd sc k Q L st σ _ hd he (fun v τ hv hb => ?_)
  refine B hcd sc k Q L (v :: st) τ _ (by rw [a_cat_c]; omega) hb (fun v2 τ2 hv2 hq => ?_)
  obtain ⟨x, rfl, hq1⟩ := jLng_iff.mp hq
  obtain ⟨y, rfl, hy, hq2⟩ := jLng_iff.mp hq1
  subst hcd
  refine Zt_at h (L' := L) (st' := vL _ :: st) (σ' := τ2) ?_ (hk _ _ rfl hq2)
  simp only [a_step, a_l2d, List.map_cons, jc, if_neg (j_w64_zero hy), a_go, j_ldiv, Int64.ofInt_toInt]
theorem CE_lrem (A : CE mi cd o d a o1 w1) (B : CE mi cd o1 (d + w1) b o2 w2) (h : ji cd o2 = some (.lrem, ps)) : CE mi cd o d (eLrem a b) (o2 + 1) 2 := by
  intro hcd sc k Q L st σ Q' hd he hk
  unfold eLrem at he
  refine A hcd sc k Q L st σ _ hd he (fun v τ hv hb => ?_)
  refine B hcd sc k Q L (v :: st) τ _ (by rw [a_cat_c]; omega) hb (fun v2 τ2 hv2 hq => ?_)
  obtain ⟨x, rfl, hq1⟩ := jLng_iff.mp hq
  obtain ⟨y, rfl, hy, hq2⟩ := jLng_iff.mp hq1
  subst hcd
  refine Zt_at h (L' := L) (st' := vL _ :: st) (σ' := τ2) ?_ (hk _ _ rfl hq2)
  simp only [a_step, a_l2d, List.map_cons, jc, if_neg (j_w64_zero hy), a_go, j_lrem, Int64.ofInt_toInt]
theorem CE_lshl (A : CE mi cd o d a o1 w1) (B : CE mi cd o1 (d + w1) b o2 w2) (h : ji cd o2 = some (.lshl, ps)) : CE mi cd o d (eLshl a b) (o2 + 1) 2 := by
  intro hcd sc k Q L st σ Q' hd he hk
  unfold eLshl at he
  refine A hcd sc k Q L st σ _ hd he (fun v τ hv hb => ?_)
  refine B hcd sc k Q L (v :: st) τ _ (by rw [a_cat_c]; omega) hb (fun v2 τ2 hv2 hq => ?_)
  obtain ⟨x, rfl, hq1⟩ := jLng_iff.mp hq
  obtain ⟨y, rfl, hq2⟩ := jInt_iff.mp hq1
  subst hcd
  refine Zt_at h (L' := L) (st' := vL _ :: st) (σ' := τ2) ?_ (hk _ _ rfl hq2)
  simp only [a_step, a_lsh, List.map_cons, jc, a_go, j_lshl, Int64.ofInt_toInt]
theorem CE_lshr (A : CE mi cd o d a o1 w1) (B : CE mi cd o1 (d + w1) b o2 w2) (h : ji cd o2 = some (.lshr, ps)) : CE mi cd o d (eLshr a b) (o2 + 1) 2 := by
  intro hcd sc k Q L st σ Q' hd he hk
  unfold eLshr at he
  refine A hcd sc k Q L st σ _ hd he (fun v τ hv hb => ?_)
  refine B hcd sc k Q L (v :: st) τ _ (by rw [a_cat_c]; omega) hb (fun v2 τ2 hv2 hq => ?_)
  obtain ⟨x, rfl, hq1⟩ := jLng_iff.mp hq
  obtain ⟨y, rfl, hq2⟩ := jInt_iff.mp hq1
  subst hcd
  refine Zt_at h (L' := L) (st' := vL _ :: st) (σ' := τ2) ?_ (hk _ _ rfl hq2)
  simp only [a_step, a_lsh, List.map_cons, jc, a_go, j_lshr, Int64.ofInt_toInt]
theorem CE_neg (A : CE mi cd o d a o1 w1) (h : ji cd o1 = some (.ineg, ps)) : CE mi cd o d (eNeg a) (o1 + 1) 1 := by
  intro hcd sc k Q L st σ Q' hd he hk
  unfold eNeg at he
  refine A hcd sc k Q L st σ _ hd he (fun v τ hv hq => ?_)
  obtain ⟨x, rfl, hq1⟩ := jInt_iff.mp hq
  subst hcd
  refine Zt_at h (L' := L) (st' := vI _ :: st) (σ' := τ) ?_ (hk _ _ rfl hq1)
  simp only [a_step, List.map_cons, jc, a_go, Int32.ofInt_neg]
theorem CE_i2l (A : CE mi cd o d a o1 w1) (h : ji cd o1 = some (.i2l, ps)) : CE mi cd o d (eI2l a) (o1 + 1) 2 := by
  intro hcd sc k Q L st σ Q' hd he hk
  unfold eI2l at he
  refine A hcd sc k Q L st σ _ hd he (fun v τ hv hq => ?_)
  obtain ⟨x, rfl, hq1⟩ := jInt_iff.mp hq
  subst hcd
  refine Zt_at h (L' := L) (st' := vL _ :: st) (σ' := τ) ?_ (hk _ _ rfl hq1)
  simp only [a_step, List.map_cons, jc, a_go]
  have : Int64.ofInt (j_w x) = (Int32.ofInt x).toInt64 := Int64.toInt_inj.mp (by
    have hr := j_w_rg x
    rw [Int32.toInt_toInt64]
    exact j_w64_id (by omega) (by omega))
  rw [this]
theorem CE_l2i (A : CE mi cd o d a o1 w1) (h : ji cd o1 = some (.l2i, ps)) : CE mi cd o d (eL2i a) (o1 + 1) 1 := by
  intro hcd sc k Q L st σ Q' hd he hk
  unfold eL2i at he
  refine A hcd sc k Q L st σ _ hd he (fun v τ hv hq => ?_)
  obtain ⟨x, rfl, hq1⟩ := jLng_iff.mp hq
  subst hcd
  refine Zt_at h (L' := L) (st' := vI _ :: st) (σ' := τ) ?_ (hk _ _ rfl hq1)
  simp only [a_step, List.map_cons, jc, a_go]
  have : (Int64.ofInt x).toInt32 = Int32.ofInt x := by simp
  rw [this]
theorem CE_fldI {ci f u v : Nat} {z : Nat} (A : CE mi cd o d a o1 w1) (h : ji cd o1 = some (.getfield z, [u, ci, f, v])) (ht : j_ft (a_ty ci f) = 0) (hf : f < j_nf ci) : CE mi cd o d (eFldI ci f a) (o1 + 1) 1 := by
  intro hcd sc k Q L st σ Q' hd he hk
  unfold eFldI at he
  refine A hcd sc k Q L st σ _ hd he (fun v τ hv hq => ?_)
  obtain ⟨r, rfl, hs, hq1⟩ := jRef_iff.mp hq
  subst hcd
  refine Zt_at h (L' := L) (st' := vI _ :: st) (σ' := τ) ?_ (hk _ _ rfl hq1)
  simp only [a_step, a_getf, List.map_cons, jc, j_ob hs, if_true, j_fget hf, a_ld, a_go, j_fv, ht]
theorem CE_fldL {ci f u v : Nat} {z : Nat} (A : CE mi cd o d a o1 w1) (h : ji cd o1 = some (.getfield z, [u, ci, f, v])) (ht : j_ft (a_ty ci f) = 1) (hf : f < j_nf ci) : CE mi cd o d (eFldL ci f a) (o1 + 1) 2 := by
  intro hcd sc k Q L st σ Q' hd he hk
  unfold eFldL at he
  refine A hcd sc k Q L st σ _ hd he (fun v τ hv hq => ?_)
  obtain ⟨r, rfl, hs, hq1⟩ := jRef_iff.mp hq
  subst hcd
  refine Zt_at h (L' := L) (st' := vL _ :: st) (σ' := τ) ?_ (hk _ _ rfl hq1)
  simp only [a_step, a_getf, List.map_cons, jc, j_ob hs, if_true, j_fget hf, a_ld, a_go, j_fv, ht]
theorem CE_fldP {ci f u v : Nat} {z : Nat} (A : CE mi cd o d a o1 w1) (h : ji cd o1 = some (.getfield z, [u, ci, f, v])) (ht : j_ft (a_ty ci f) = 2) (hf : f < j_nf ci) : CE mi cd o d (eFldP ci f a) (o1 + 1) 1 := by
  intro hcd sc k Q L st σ Q' hd he hk
  unfold eFldP at he
  refine A hcd sc k Q L st σ _ hd he (fun v τ hv hq => ?_)
  obtain ⟨r, rfl, hs, hq1⟩ := jRef_iff.mp hq
  subst hcd
  refine Zt_at h (L' := L) (st' := jpv (hp τ r f) :: st) (σ' := τ) ?_ (hk _ _ (jcat_pv _) hq1)
  simp only [List.map_cons, jpv_c]
  simp only [a_step, a_getf, jc, j_ob hs, if_true, j_fget hf, a_ld, a_go, j_fv, ht]
theorem CE_aldI (A : CE mi cd o d a o1 w1) (B : CE mi cd o1 (d + w1) b o2 w2) (h : ji cd o2 = some (.iaload, ps)) : CE mi cd o d (eAldI a b) (o2 + 1) 1 := by
  intro hcd sc k Q L st σ Q' hd he hk
  unfold eAldI at he
  refine A hcd sc k Q L st σ _ hd he (fun v τ hv hb => ?_)
  refine B hcd sc k Q L (v :: st) τ _ (by rw [a_cat_c]; omega) hb (fun v2 τ2 hv2 hq => ?_)
  obtain ⟨y, rfl, hq1⟩ := jInt_iff.mp hq
  obtain ⟨r, rfl, n, hs, hn, h1, h2, hq2⟩ := jRef_iff.mp hq1
  subst hcd
  refine Zt_at h (L' := L) (st' := vI _ :: st) (σ' := τ2) ?_ (hk _ _ rfl hq2)
  simp only [a_step, a_iald, List.map_cons, jc, j_ar hs, j_in h1 h2 hn, if_true, a_go, j_toN h1 (show y ≤ 2147483647 by omega)]
theorem CE_aldS (A : CE mi cd o d a o1 w1) (B : CE mi cd o1 (d + w1) b o2 w2) (h : ji cd o2 = some (.iaload, ps)) : CE mi cd o d (eAldS a b) (o2 + 1) 1 := by
  intro hcd sc k Q L st σ Q' hd he hk
  unfold eAldS at he
  refine A hcd sc k Q L st σ _ hd he (fun v τ hv hb => ?_)
  refine B hcd sc k Q L (v :: st) τ _ (by rw [a_cat_c]; omega) hb (fun v2 τ2 hv2 hq => ?_)
  obtain ⟨y, rfl, hq1⟩ := jInt_iff.mp hq
  obtain ⟨q, rfl, rfl, hn, h1, h2, hq2⟩ := jStr_iff.mp hq1
  subst hcd
  refine Zt_at h (L' := L) (st' := vI _ :: st) (σ' := τ2) ?_ (hk _ _ rfl hq2)
  have e1 : UInt32.ofNat 1000 = 1000 := rfl
  simp only [a_step, a_iald, List.map_cons, jc, e1, j_in h1 h2 hn, and_self, if_true, a_go, j_toN h1 (show y ≤ 2147483647 by omega), Int32.ofInt_toInt]
theorem CE_aldL (A : CE mi cd o d a o1 w1) (B : CE mi cd o1 (d + w1) b o2 w2) (h : ji cd o2 = some (.laload, ps)) : CE mi cd o d (eAldL a b) (o2 + 1) 2 := by
  intro hcd sc k Q L st σ Q' hd he hk
  unfold eAldL at he
  refine A hcd sc k Q L st σ _ hd he (fun v τ hv hb => ?_)
  refine B hcd sc k Q L (v :: st) τ _ (by rw [a_cat_c]; omega) hb (fun v2 τ2 hv2 hq => ?_)
  obtain ⟨y, rfl, hq1⟩ := jInt_iff.mp hq
  obtain ⟨r, rfl, n, hs, hn, h1, h2, hq2⟩ := jRef_iff.mp hq1
  subst hcd
  refine Zt_at h (L' := L) (st' := vL _ :: st) (σ' := τ2) ?_ (hk _ _ rfl hq2)
  simp only [a_step, a_lald, List.map_cons, jc, j_arl hs, j_in h1 h2 hn, if_true, a_go, j_toN h1 (show y ≤ 2147483647 by omega)]
theorem CE_aldP (A : CE mi cd o d a o1 w1) (B : CE mi cd o1 (d + w1) b o2 w2) (h : ji cd o2 = some (.aaload, ps)) : CE mi cd o d (eAldP a b) (o2 + 1) 1 := by
  intro hcd sc k Q L st σ Q' hd he hk
  unfold eAldP at he
  refine A hcd sc k Q L st σ _ hd he (fun v τ hv hb => ?_)
  refine B hcd sc k Q L (v :: st) τ _ (by rw [a_cat_c]; omega) hb (fun v2 τ2 hv2 hq => ?_)
  obtain ⟨y, rfl, hq1⟩ := jInt_iff.mp hq
  obtain ⟨r, rfl, n, hs, hn, h1, h2, hq2⟩ := jRef_iff.mp hq1
  subst hcd
  refine Zt_at h (L' := L) (st' := jpv (hp τ2 r y.toNat) :: st) (σ' := τ2) ?_ (hk _ _ (jcat_pv _) hq2)
  simp only [List.map_cons, jpv_c]
  simp only [a_step, a_aald, jc, j_arp hs, j_in h1 h2 hn, if_true, a_go, j_toN h1 (show y ≤ 2147483647 by omega)]
theorem CE_len (A : CE mi cd o d a o1 w1) (h : ji cd o1 = some (.arraylength, ps)) : CE mi cd o d (eLen a) (o1 + 1) 1 := by
  intro hcd sc k Q L st σ Q' hd he hk
  unfold eLen at he
  refine A hcd sc k Q L st σ _ hd he (fun v τ hv hq => ?_)
  obtain ⟨r, rfl, kd, n, hs, hkd, hq1⟩ := jRef_iff.mp hq
  subst hcd
  refine Zt_at h (L' := L) (st' := vI _ :: st) (σ' := τ) ?_ (hk _ _ rfl hq1)
  have e1 : Int32.ofInt (n : Int) = Int32.ofNat n := rfl
  match kd, hkd, hs with
  | 0, _, hs => simp only [a_step, a_alen, List.map_cons, jc, j_ar hs, a_go, e1]
  | 1, _, hs => simp only [a_step, a_alen, List.map_cons, jc, j_arl hs, a_go, e1]
theorem CE_lenS (A : CE mi cd o d a o1 w1) (h : ji cd o1 = some (.arraylength, ps)) : CE mi cd o d (eLenS a) (o1 + 1) 1 := by
  intro hcd sc k Q L st σ Q' hd he hk
  unfold eLenS at he
  refine A hcd sc k Q L st σ _ hd he (fun v τ hv hq => ?_)
  obtain ⟨q, rfl, rfl, hq1⟩ := jStr_iff.mp hq
  subst hcd
  refine Zt_at h (L' := L) (st' := vI _ :: st) (σ' := τ) ?_ (hk _ _ rfl hq1)
  have e1 : UInt32.ofNat 1000 = 1000 := rfl
  have e2 : Int32.ofInt (sc.1 : Int) = Int32.ofNat sc.1 := rfl
  simp only [a_step, a_alen, List.map_cons, jc, e1, if_true, a_go, e2]
theorem j_lt_c (x y : Int) : (Int32.ofInt x < Int32.ofInt y) ↔ j_w x < j_w y := Int32.lt_iff_toInt_lt
theorem j_le_c (x y : Int) : (Int32.ofInt x ≤ Int32.ofInt y) ↔ j_w x ≤ j_w y := Int32.le_iff_toInt_le
theorem j_lt64_c (x y : Int) : (Int64.ofInt x < Int64.ofInt y) ↔ j_w64 x < j_w64 y := Int64.lt_iff_toInt_lt
theorem j_le64_c (x y : Int) : (Int64.ofInt x ≤ Int64.ofInt y) ↔ j_w64 x ≤ j_w64 y := Int64.le_iff_toInt_le
theorem CE_min {q : Nat} {t : List Nat} (A : CE mi cd o d a o1 w1) (B : CE mi cd o1 (d + w1) b o2 w2) (h : ji cd o2 = some (.invokestatic q, 4 :: t)) (h8 : d ≤ 8) : CE mi cd o d (eMin a b) (o2 + 1) 1 := by
  intro hcd sc k Q L st σ Q' hd he hk
  unfold eMin at he
  refine A hcd sc k Q L st σ _ hd he (fun v τ hv hb => ?_)
  refine B hcd sc k Q L (v :: st) τ _ (by rw [a_cat_c]; omega) hb (fun v2 τ2 hv2 hq => ?_)
  obtain ⟨x, rfl, hq1⟩ := jInt_iff.mp hq
  obtain ⟨y, rfl, hq2⟩ := jInt_iff.mp hq1
  subst hcd
  refine Zt_at h (L' := L) (st' := vI _ :: st) (σ' := τ2) ?_ (hk _ _ rfl hq2)
  simp only [a_step, a_m2, List.map_cons, jc, if_pos (Nat.le_trans hd h8), a_go, j_lt_c]
  split <;> rfl
theorem CE_max {q : Nat} {t : List Nat} (A : CE mi cd o d a o1 w1) (B : CE mi cd o1 (d + w1) b o2 w2) (h : ji cd o2 = some (.invokestatic q, 5 :: t)) (h8 : d ≤ 8) : CE mi cd o d (eMax a b) (o2 + 1) 1 := by
  intro hcd sc k Q L st σ Q' hd he hk
  unfold eMax at he
  refine A hcd sc k Q L st σ _ hd he (fun v τ hv hb => ?_)
  refine B hcd sc k Q L (v :: st) τ _ (by rw [a_cat_c]; omega) hb (fun v2 τ2 hv2 hq => ?_)
  obtain ⟨x, rfl, hq1⟩ := jInt_iff.mp hq
  obtain ⟨y, rfl, hq2⟩ := jInt_iff.mp hq1
  subst hcd
  refine Zt_at h (L' := L) (st' := vI _ :: st) (σ' := τ2) ?_ (hk _ _ rfl hq2)
  simp only [a_step, a_m2, List.map_cons, jc, if_pos (Nat.le_trans hd h8), a_go, j_lt_c]
  split <;> rfl
theorem CE_lmin {q : Nat} {t : List Nat} (A : CE mi cd o d a o1 w1) (B : CE mi cd o1 (d + w1) b o2 w2) (h : ji cd o2 = some (.invokestatic q, 7 :: t)) (h8 : d ≤ 8) : CE mi cd o d (eLmin a b) (o2 + 1) 2 := by
  intro hcd sc k Q L st σ Q' hd he hk
  unfold eLmin at he
  refine A hcd sc k Q L st σ _ hd he (fun v τ hv hb => ?_)
  refine B hcd sc k Q L (v :: st) τ _ (by rw [a_cat_c]; omega) hb (fun v2 τ2 hv2 hq => ?_)
  obtain ⟨x, rfl, hq1⟩ := jLng_iff.mp hq
  obtain ⟨y, rfl, hq2⟩ := jLng_iff.mp hq1
  subst hcd
  refine Zt_at h (L' := L) (st' := vL _ :: st) (σ' := τ2) ?_ (hk _ _ rfl hq2)
  simp only [a_step, List.map_cons, jc, if_pos (Nat.le_trans hd h8), a_go, j_lt64_c]
  split <;> rfl
theorem CE_abs {q : Nat} {t : List Nat} (A : CE mi cd o d a o1 w1) (h : ji cd o1 = some (.invokestatic q, 6 :: t)) (h8 : d ≤ 8) : CE mi cd o d (eAbs a) (o1 + 1) 1 := by
  intro hcd sc k Q L st σ Q' hd he hk
  unfold eAbs at he
  refine A hcd sc k Q L st σ _ hd he (fun v τ hv hq => ?_)
  obtain ⟨x, rfl, hq1⟩ := jInt_iff.mp hq
  subst hcd
  refine Zt_at h (L' := L) (st' := vI _ :: st) (σ' := τ) ?_ (hk _ _ rfl hq1)
  have e0 : (0 : Int32) = Int32.ofInt 0 := rfl
  have e1 : j_w 0 = 0 := rfl
  simp only [a_step, List.map_cons, jc, if_pos (Nat.le_trans hd h8), a_go]
  rw [e0]
  simp only [j_le_c, e1]
  split
  · rfl
  · rw [Int32.ofInt_sub]
theorem CE_slen {q : Nat} {t : List Nat} (A : CE mi cd o d a o1 w1) (h : ji cd o1 = some (.invokevirtual q, 1 :: t)) (h8 : d ≤ 8) : CE mi cd o d (eSlen a) (o1 + 1) 1 := by
  intro hcd sc k Q L st σ Q' hd he hk
  unfold eSlen at he
  refine A hcd sc k Q L st σ _ hd he (fun v τ hv hq => ?_)
  obtain ⟨y, rfl, hy, hq1⟩ := jStr_iff.mp hq
  subst hcd
  refine Zt_at h (L' := L) (st' := vI _ :: st) (σ' := τ) ?_ (hk _ _ rfl hq1)
  have e1 : (UInt32.ofNat y).toNat = y := by simp; omega
  have e2 : Int32.ofInt ((a_txt y).length : Int) = Int32.ofNat (a_txt y).length := rfl
  simp only [a_step, a_slen, List.map_cons, jc, e1, hy, Nat.le_trans hd h8, and_self, if_true, a_go, e2]
theorem CE_sat {q : Nat} {t : List Nat} (A : CE mi cd o d a o1 w1) (B : CE mi cd o1 (d + w1) b o2 w2) (h : ji cd o2 = some (.invokevirtual q, 2 :: t)) (h8 : d ≤ 8) : CE mi cd o d (eSat a b) (o2 + 1) 1 := by
  intro hcd sc k Q L st σ Q' hd he hk
  unfold eSat at he
  refine A hcd sc k Q L st σ _ hd he (fun v τ hv hb => ?_)
  refine B hcd sc k Q L (v :: st) τ _ (by rw [a_cat_c]; omega) hb (fun v2 τ2 hv2 hq => ?_)
  obtain ⟨y, rfl, hq1⟩ := jStr_iff.mp hq
  obtain ⟨i, rfl, hy, h1, h2, hq2⟩ := jInt_iff.mp hq1
  subst hcd
  refine Zt_at h (L' := L) (st' := vI _ :: st) (σ' := τ2) ?_ (hk _ _ rfl hq2)
  have e1 : (UInt32.ofNat y).toNat = y := by simp; omega
  have hl : (a_txt y).length ≤ 1000000 := by
    have : ∀ y < 27, (a_txt y).length ≤ 1000000 := by decide
    exact this y hy
  have e2 : Int32.ofInt (((a_txt y).getD i.toNat 0 : Nat) : Int) = Int32.ofNat ((a_txt y).getD i.toNat 0) := rfl
  simp only [a_step, a_sat, List.map_cons, jc, e1, hy, Nat.le_trans hd h8, j_in h1 h2 hl, and_self, if_true, a_go, j_toN h1 (show i ≤ 2147483647 by omega), e2]
theorem CE_ite {e1 e2 m1 m2 : Nat} (C : CC mi cd o d c m1 m2) (A : CE mi cd m1 d a e1 w) (B : CE mi cd m2 d b e2 w) (h : jeq cd e1 e2) : CE mi cd o d (eIte c a b) e2 w := by
  intro hcd sc k Q L st σ Q' hd he hk
  unfold eIte at he
  refine C hcd sc k Q L st σ _ _ hd he (fun τ hT => ?_) (fun τ hF => ?_)
  · refine A hcd sc k Q L st τ _ hd hT (fun v τ' hv hq => ?_)
    subst hcd
    exact Zt_eq h (hk v τ' hv hq)
  · exact B hcd sc k Q L st τ _ hd hF hk
theorem CE_newa {t : Nat} (A : CE mi cd o d a o1 w1) (h : ji cd o1 = some (x, ps)) (hx : (∃ z y, x = .newarray z ∧ ps = [t, y] ∧ t < 2) ∨ (∃ z y y', x = .anewarray z ∧ ps = [y, y'] ∧ t = 2)) : CE mi cd o d (eNewa t a) (o1 + 1) 1 := by
  intro hcd sc k Q L st σ Q' hd he hk
  unfold eNewa at he
  refine A hcd sc k Q L st σ _ hd he (fun v τ hv hq => ?_)
  obtain ⟨n, rfl, h1, h2, hq1⟩ := jInt_iff.mp hq
  subst hcd
  refine Zt_at h (L' := L) (st' := vR (hsh τ).length :: st) (σ' := hal τ t n.toNat) ?_ (hk _ _ rfl hq1)
  have e1 : ¬ (Int32.ofInt n < 0 ∨ 67108864 < n.toNat) := by
    intro hor
    rcases hor with hor | hor
    · rw [show (0 : Int32) = Int32.ofInt 0 from rfl, j_lt_c, j_w_id (by omega) (by omega), show j_w 0 = 0 from rfl] at hor
      omega
    · omega
  have key : ∀ t, t < 3 → a_newa t o1 (L.map jc) (.int (Int32.ofInt n) :: st.map jc) (j_h τ) = some (.inl (o1 + 1, L.map jc, .ref (hsh τ).length :: st.map jc, j_h (hal τ t n.toNat))) := by
    intro t ht
    match t, ht with
    | 0, _ =>
      simp only [a_newa, j_toN h1 (show n ≤ 2147483647 by omega), if_neg e1, a_go, j_h_len]
      rw [← j_al (σ := τ) (k := 0) (n := n.toNat) (c := .inl (0, n.toNat, .inl (fun _ => 0)))]
      show Sum.inl (0, n.toNat, Sum.inl _) = _
      congr 4
      funext j
      simp only [hi_al, if_true]
      rfl
    | 1, _ =>
      simp only [a_newa, j_toN h1 (show n ≤ 2147483647 by omega), if_neg e1, a_go, j_h_len]
      rw [← j_al (σ := τ) (k := 1) (n := n.toNat) (c := .inl (1, n.toNat, .inr (.inl (fun _ => 0))))]
      show Sum.inl (1, n.toNat, Sum.inr (Sum.inl _)) = _
      congr 5
      funext j
      simp only [hl_al, if_true]
      rfl
    | 2, _ =>
      simp only [a_newa, j_toN h1 (show n ≤ 2147483647 by omega), if_neg e1, a_go, j_h_len]
      rw [← j_al (σ := τ) (k := 2) (n := n.toNat) (c := .inl (2, n.toNat, .inr (.inr (.inr (.inr (fun _ => none))))))]
      show Sum.inl (2, n.toNat, Sum.inr (Sum.inr (Sum.inr (Sum.inr _)))) = _
      congr 7
      funext j
      simp only [hp_al, if_true]
  rcases hx with ⟨z, y, rfl, rfl, ht⟩ | ⟨z, y, y', rfl, rfl, rfl⟩
  · exact key t (by omega)
  · exact key 2 (by omega)
theorem CEs_nil : CEs mi cd o d esN o 0 := by
  intro hcd sc k Q L st σ Q' hd he hk
  exact hk [] σ rfl he
theorem CEs_cons {t : jEs} (A : CE mi cd o d a o1 w1) (B : CEs mi cd o1 (d + w1) t o2 n) : CEs mi cd o d (esC a t) o2 (n + 1) := by
  intro hcd sc k Q L st σ Q' hd he hk
  unfold esC at he
  refine A hcd sc k Q L st σ _ hd he (fun v τ hv hb => ?_)
  refine B hcd sc k Q L (v :: st) τ _ (by rw [a_cat_c]; omega) hb (fun vs τ2 hv2 hq => ?_)
  have := hk (v :: vs) τ2 (by simp [hv2]) hq
  simpa using this
theorem j_call_s {m n : Nat} {vs st : List jV} (hn : vs.length = n) (h8 : a_cat (st.map jc) ≤ 8) : a_call m n ((vs.reverse ++ st).map jc) = some (.inr (.inr (m, vs.map jc, st.map jc))) := by
  subst hn
  unfold a_call
  have e1 : ((vs.reverse ++ st).map jc).drop vs.length = st.map jc := by
    rw [List.map_append]
    exact List.drop_left' (by simp)
  have e2 : ((vs.reverse ++ st).map jc).take vs.length = (vs.map jc).reverse := by
    rw [List.map_append, ← List.map_reverse]
    exact List.take_left' (by simp)
  rw [e1, e2, List.reverse_reverse, if_pos ⟨by simp, h8⟩]
theorem CE_call {t : jEs} {q : Nat} {tl : List Nat} {y : Nat} (A : CEs mi cd o d t o1 n) (h : ji cd o1 = some (.invokestatic q, y :: m :: n :: tl)) (hy : y = 0 ∨ y = 3) (h8 : d ≤ 8) : CE mi cd o d (eCall w m t) (o1 + 1) w := by
  intro hcd sc k Q L st σ Q' hd he hk
  unfold eCall at he
  refine A hcd sc k Q L st σ _ hd he (fun vs τ hv hq => ?_)
  obtain ⟨v, τ', hc, hw, hq⟩ := hq
  subst hcd
  refine Zt_call (st := st) (v := some v) h ?_ hc (hk v τ' hw hq)
  rcases hy with rfl | rfl <;> exact j_call_s hv (Nat.le_trans hd h8)
theorem j_calv_s {m n ci r : Nat} {vs st : List jV} {σ : jH} (hr : jget vs 0 = vR r) (hs : (hsh σ)[r]? = some (ci + 3, 0)) (hn : vs.length = n + 1) (h8 : a_cat (st.map jc) ≤ 8) : a_callV m n ci ((vs.reverse ++ st).map jc) (j_h σ) = some (.inr (.inr (m, vs.map jc, st.map jc))) := by
  unfold a_callV
  have e1 : ((vs.reverse ++ st).map jc)[n]? = some (.ref r) := by
    match vs, hr, hn with
    | v :: t, hr, hn =>
      have hv : v = vR r := hr
      subst hv
      have hl : t.length = n := by simpa using hn
      subst hl
      simp [jc]
  rw [e1]
  simp only [j_is hs, if_true]
  exact j_call_s hn h8
theorem CE_calv {t : jEs} {q ci : Nat} {tl : List Nat} (A : CEs mi cd o d t o1 (n + 1)) (h : ji cd o1 = some (.invokevirtual q, 0 :: m :: n :: ci :: tl)) (h8 : d ≤ 8) : CE mi cd o d (eCalv w ci m t) (o1 + 1) w := by
  intro hcd sc k Q L st σ Q' hd he hk
  unfold eCalv at he
  refine A hcd sc k Q L st σ _ hd he (fun vs τ hv hq => ?_)
  obtain ⟨r, hr, hs, v, τ', hc, hw, hq1⟩ := jRef_iff.mp hq
  subst hcd
  exact Zt_call (st := st) (v := some v) h (j_calv_s hr hs hv (Nat.le_trans hd h8)) hc (hk v τ' hw hq1)
theorem CE_newo {t : jEs} {q z ci y : Nat} {tl tl2 p1 : List Nat} (h0 : ji cd o = some (.new q, 0 :: ci :: tl)) (hd0 : ji cd (o + 1) = some (.dup, p1)) (A : CEs mi cd (o + 2) (d + 2) t o1 n) (h : ji cd o1 = some (.invokespecial z, y :: m :: n :: tl2)) (hy : y = 0 ∨ y = 1) (hnew : a_new ci = (List.range (j_nf ci)).map (fun k => match j_ft (a_ty ci k) with
    | 0 => .int 0
    | 1 => .long 0
    | _ => .null)) (h8 : d + 1 ≤ 8) : CE mi cd o d (eNewo ci m t) (o1 + 1) 1 := by
  intro hcd sc k Q L st σ Q' hd he hk
  unfold eNewo at he
  subst hcd
  refine Zt_at h0 (o' := o + 1) (L' := L) (st' := vR (hsh σ).length :: st) (σ' := hal σ (ci + 3) 0) ?_ ?_
  · have e : j_cell (hal σ (ci + 3) 0) (hsh σ).length (ci + 3, 0) = .inr (ci, a_new ci) := by
      show Sum.inr (ci, _) = _
      rw [hnew]
      congr 2
      apply List.map_congr_left
      intro j _
      unfold j_fv
      generalize j_ft (a_ty ci j) = g
      match g with
      | 0 =>
        simp only [hi_al, if_true]
        rfl
      | 1 =>
        simp only [hl_al, if_true]
        rfl
      | g + 2 =>
        simp only [hp_al, if_true]
        rfl
    show some (Sum.inl (o + 1, L.map jc, Value.ref (j_h σ).length :: st.map jc, j_h σ ++ [Sum.inr (ci, a_new ci)])) = _
    rw [j_al e, j_h_len]
    rfl
  refine Zt_at hd0 (L' := L) (st' := vR (hsh σ).length :: vR (hsh σ).length :: st) (σ' := hal σ (ci + 3) 0) rfl ?_
  refine A rfl sc k Q L _ _ _ (by rw [a_cat_c, a_cat_c]; simp only [jcat]; omega) he (fun vs τ hv hq => ?_)
  obtain ⟨τ', hc, hq⟩ := hq
  refine Zt_call (st := vR (hsh σ).length :: st) (v := none) h ?_ hc (hk _ _ rfl hq)
  have key : a_callI m n ((vs.reverse ++ vR (hsh σ).length :: vR (hsh σ).length :: st).map jc) = some (.inr (.inr (m, (vR (hsh σ).length :: vs).map jc, (vR (hsh σ).length :: st).map jc))) := by
    unfold a_callI
    have e1 : ((vs.reverse ++ vR (hsh σ).length :: vR (hsh σ).length :: st).map jc)[n]? = some (.ref (hsh σ).length) := by
      subst hv
      simp [jc]
    rw [e1]
    simp only
    have e2 : vs.reverse ++ vR (hsh σ).length :: vR (hsh σ).length :: st = (vR (hsh σ).length :: vs).reverse ++ (vR (hsh σ).length :: st) := by simp
    rw [e2]
    exact j_call_s (by simp [hv]) (by rw [a_cat_c]; simp only [jcat]; omega)
  rcases hy with rfl | rfl <;> exact key
end
end COVER
