/-! The law's wrappers: a call of the class, its answer or its exception's number -/
section WRAP
variable {sc : jSc} {σ τ : jH}
/-- a call that throws, where a handler stands -/
theorem Zt_catch {k mi o : Nat} {L st' : List jV} {Q : jR → jH → Prop} {x : Instr} {ps : List Nat} {m y g j : Nat} {vs : List jV} {st0 : List Value} {z : Nat} (hx : x = .invokevirtual z) (h : ji (a_code mi) o = some (x, ps)) (hs : a_step sc o x ps (L.map jc) (st'.map jc) (j_h σ) = some (.inr (.inr (m, vs.map jc, st0)))) (hf : a_find o y (a_hand mi) = some (g, j)) (hj : a_pl (L.map jc) j = false ∧ j < L.length) (hc : Cd sc k m vs σ (.inr y) τ) (hk : Zt sc (k + 1) mi g (L.set j vU) [] τ Q) : Zt sc (k + 1) mi o L st' σ Q := by
  subst hx
  obtain ⟨pc, len, hcd⟩ := ji_at h
  obtain ⟨hl, n1, h1⟩ := hc
  obtain ⟨n2, r, τ2, h2, q⟩ := hk
  refine ⟨max n1 n2 + 1, r, τ2, ?_, q⟩
  rw [a_run, hcd]
  simp only [hs]
  rw [if_pos hl, a_run_le (Nat.le_max_left n1 n2) h1]
  simp only [jcR, hf]
  rw [if_pos ⟨hj.1, by rw [List.length_map]; exact hj.2⟩]
  have e : (L.map jc).set j a_un = (L.set j vU).map jc := by rw [List.map_set]; rfl
  rw [e]
  exact a_run_le (Nat.le_max_right n1 n2) h2
theorem Zt_ret {d mi o : Nat} {L : List jV} {Q : jR → jH → Prop} {c : Int} {p1 : List Nat} (h1 : ji (a_code mi) o = some (.iconst c, p1)) (h2 : ji (a_code mi) (o + 1) = some (.ireturn, [0])) (hq : Q (rV (vI c)) σ) : Zt sc d mi o L [] σ Q := by
  refine Zt_at h1 (L' := L) (st' := [vI c]) (σ' := σ) rfl ?_
  exact Zt_end h2 (r := rV (vI c)) rfl hq
theorem Ct.zt {mi k : Nat} {vs L : List jV} {P : jR → jH → Prop} (hL : jent (a_maxL mi) vs = L) (hn : (jlay vs).length ≤ a_maxL mi) (h : Zt sc (k + 1) mi 0 L [] σ P) : Ct sc (k + 1) mi vs σ P := by
  obtain ⟨n, r, τ, h1, h2⟩ := h
  refine ⟨r, τ, ⟨by rw [jlay_c, List.length_map]; exact hn, n, ?_⟩, h2⟩
  rw [jent_c, hL]
  exact h1
/-- how a wrapper ends -/
def Qw (P : jR → jH → Prop) (hc : Nat → Int) (r : jR) (τ : jH) : Prop := (∃ z τ0, P (rV (vI z)) τ0 ∧ r = rV (vI 0) ∧ τ = hsl τ0 102 0 (j_w z)) ∨ (∃ x τ0, P (rT x) τ0 ∧ r = rV (vI (hc x)) ∧ τ = τ0)
theorem wr_s {k mi o1 e : Nat} {cd : List AI} {p2 p4 : List Nat} {y : Int} {L : List jV} {P : jR → jH → Prop} {hc : Nat → Int} {z z0 : Int} (hcd : a_code mi = cd) (hS : (hsh τ)[102]? = some (1, 1)) (h2 : ji cd o1 = some (.lastore, p2)) (h3 : ji cd (o1 + 1) = some (.goto y, [e])) (h4 : ji cd e = some (.iconst 0, p4)) (h5 : ji cd (e + 1) = some (.ireturn, [0])) (hP : P (rV (vI z0)) τ) (hz : z = j_w z0) : Zt sc (k + 1) mi o1 L [vL z, vI 0, vR 102] τ (Qw P hc) := by
  subst hcd
  refine Zt_at h2 (o' := o1 + 1) (L' := L) (st' := []) (σ' := hsl τ 102 0 z) ?_ ?_
  · have h0 : a_in (Int32.ofInt 0) 1 = true := j_in (by omega) (by omega) (by omega)
    have h1 : (Int32.ofInt 0).toNatClampNeg = 0 := rfl
    simp only [a_step, a_last, List.map_cons, List.map_nil, jc, j_arl hS, h0, if_true, a_go, h1, j_set_l hS]
  · refine Zt_at h3 (L' := L) (st' := []) (σ' := hsl τ 102 0 z) rfl ?_
    exact Zt_ret h4 h5 (Or.inl ⟨z0, τ, hP, rfl, by rw [hz]⟩)
theorem wr_I {k mi m n o1 q e : Nat} {cd : List AI} {tl p1 p2 p4 : List Nat} {y : Int} {L vs : List jV} {t : jEs} {P : jR → jH → Prop} {hc : Nat → Int} (hcd : a_code mi = cd) (hE : CEs mi cd 0 0 t o1 (n + 3)) (hargs : ∀ Q' : List jV → jH → Prop, Q' (vR 102 :: vI 0 :: vs) σ → t sc (Cd sc k) L Q' σ) (hvs : vs.length = n + 1) (hv0 : jget vs 0 = vR 0) (hO : (hsh σ)[0]? = some (14, 0))
    (h0 : ji cd o1 = some (.invokevirtual q, 0 :: m :: n :: 11 :: tl)) (h1 : ji cd (o1 + 1) = some (.i2l, p1)) (h2 : ji cd (o1 + 2) = some (.lastore, p2)) (h3 : ji cd (o1 + 3) = some (.goto y, [e])) (h4 : ji cd e = some (.iconst 0, p4)) (h5 : ji cd (e + 1) = some (.ireturn, [0]))
    (hC : Ct sc k m vs σ P) (hP : ∀ r τ, P r τ → ((∃ z, r = rV (vI z)) ∨ ∃ x, r = rT x) ∧ (hsh τ)[102]? = some (1, 1)) (hh : ∀ x τ, P (rT x) τ → ∃ g j p6, a_find o1 x (a_hand mi) = some (g, j) ∧ a_pl (L.map jc) j = false ∧ j < L.length ∧ ji cd g = some (.iconst (hc x), p6) ∧ ji cd (g + 1) = some (.ireturn, [0])) : Zt sc (k + 1) mi 0 L [] σ (Qw P hc) := by
  refine hE hcd sc k (Qw P hc) L [] σ (fun ws τ => ws = vR 102 :: vI 0 :: vs ∧ τ = σ) (by simp [a_cat]) (hargs _ ⟨rfl, rfl⟩) ?_
  rintro ws τ hw ⟨rfl, rfl⟩
  obtain ⟨r, υ, hcd1, hp⟩ := hC
  have hstep := j_calv_s (m := m) (n := n) (ci := 11) (r := 0) (vs := vs) (st := [vI 0, vR 102]) (σ := τ) hv0 hO hvs (by simp [a_cat, jc_cat, jcat])
  have est : (vR 102 :: vI 0 :: vs).reverse ++ [] = vs.reverse ++ [vI 0, vR 102] := by simp
  rw [est]
  obtain ⟨ho, hS⟩ := hP r υ hp
  subst hcd
  rcases ho with ⟨z, rfl⟩ | ⟨x, rfl⟩
  · refine Zt_call (v := some (vI z)) (st := [vI 0, vR 102]) h0 hstep hcd1 ?_
    refine Zt_at h1 (o' := o1 + 2) (L' := L) (st' := [vL (j_w z), vI 0, vR 102]) (σ' := υ) ?_ (wr_s rfl hS h2 h3 h4 h5 hp rfl)
    have : Int64.ofInt (j_w z) = (Int32.ofInt z).toInt64 := Int64.toInt_inj.mp (by
      have hr := j_w_rg z
      rw [Int32.toInt_toInt64]
      exact j_w64_id (by omega) (by omega))
    simp only [a_step, List.map_cons, jc, a_go, Option.toList, List.cons_append, List.nil_append, this]
  · obtain ⟨g, j, p6, f1, f2, f3, f4, f5⟩ := hh x υ hp
    exact Zt_catch rfl h0 hstep f1 ⟨f2, f3⟩ hcd1 (Zt_ret f4 f5 (Or.inr ⟨x, υ, hp, rfl, rfl⟩))
/-- the same, where a boolean is answered -/
theorem wr_B {k mi m n o1 q e : Nat} {cd : List AI} {tl p0 p1 p2 p4 : List Nat} {y y0 y1 : Int} {L vs : List jV} {t : jEs} {P : jR → jH → Prop} {hc : Nat → Int} (hcd : a_code mi = cd) (hE : CEs mi cd 0 0 t o1 (n + 3)) (hargs : ∀ Q' : List jV → jH → Prop, Q' (vR 102 :: vI 0 :: vs) σ → t sc (Cd sc k) L Q' σ) (hvs : vs.length = n + 1) (hv0 : jget vs 0 = vR 0) (hO : (hsh σ)[0]? = some (14, 0))
    (h0 : ji cd o1 = some (.invokevirtual q, 0 :: m :: n :: 11 :: tl)) (h1 : ji cd (o1 + 1) = some (.ifCond .eq y0, [o1 + 4])) (h6 : ji cd (o1 + 2) = some (.lconst 1, p0)) (h7 : ji cd (o1 + 3) = some (.goto y1, [o1 + 5])) (h8 : ji cd (o1 + 4) = some (.lconst 0, p1)) (h2 : ji cd (o1 + 5) = some (.lastore, p2)) (h3 : ji cd (o1 + 6) = some (.goto y, [e])) (h4 : ji cd e = some (.iconst 0, p4)) (h5 : ji cd (e + 1) = some (.ireturn, [0]))
    (hC : Ct sc k m vs σ P) (hP : ∀ r τ, P r τ → ((∃ z, r = rV (vI z) ∧ (z = 0 ∨ z = 1)) ∨ ∃ x, r = rT x) ∧ (hsh τ)[102]? = some (1, 1)) (hh : ∀ x τ, P (rT x) τ → ∃ g j p6, a_find o1 x (a_hand mi) = some (g, j) ∧ a_pl (L.map jc) j = false ∧ j < L.length ∧ ji cd g = some (.iconst (hc x), p6) ∧ ji cd (g + 1) = some (.ireturn, [0])) : Zt sc (k + 1) mi 0 L [] σ (Qw P hc) := by
  refine hE hcd sc k (Qw P hc) L [] σ (fun ws τ => ws = vR 102 :: vI 0 :: vs ∧ τ = σ) (by simp [a_cat]) (hargs _ ⟨rfl, rfl⟩) ?_
  rintro ws τ hw ⟨rfl, rfl⟩
  obtain ⟨r, υ, hcd1, hp⟩ := hC
  have hstep := j_calv_s (m := m) (n := n) (ci := 11) (r := 0) (vs := vs) (st := [vI 0, vR 102]) (σ := τ) hv0 hO hvs (by simp [a_cat, jc_cat, jcat])
  have est : (vR 102 :: vI 0 :: vs).reverse ++ [] = vs.reverse ++ [vI 0, vR 102] := by simp
  rw [est]
  obtain ⟨ho, hS⟩ := hP r υ hp
  subst hcd
  rcases ho with ⟨z, rfl, rfl | rfl⟩ | ⟨x, rfl⟩
  · refine Zt_call (v := some (vI 0)) (st := [vI 0, vR 102]) h0 hstep hcd1 ?_
    refine Zt_at h1 (o' := o1 + 4) (L' := L) (st' := [vI 0, vR 102]) (σ' := υ) rfl ?_
    exact Zt_at h8 (o' := o1 + 5) (L' := L) (st' := [vL 0, vI 0, vR 102]) (σ' := υ) rfl (wr_s rfl hS h2 h3 h4 h5 hp rfl)
  · refine Zt_call (v := some (vI 1)) (st := [vI 0, vR 102]) h0 hstep hcd1 ?_
    refine Zt_at h1 (o' := o1 + 2) (L' := L) (st' := [vI 0, vR 102]) (σ' := υ) rfl ?_
    refine Zt_at h6 (o' := o1 + 3) (L' := L) (st' := [vL 1, vI 0, vR 102]) (σ' := υ) rfl ?_
    exact Zt_at h7 (o' := o1 + 5) (L' := L) (st' := [vL 1, vI 0, vR 102]) (σ' := υ) rfl (wr_s rfl hS h2 h3 h4 h5 hp rfl)
  · obtain ⟨g, j, p6, f1, f2, f3, f4, f5⟩ := hh x υ hp
    exact Zt_catch rfl h0 hstep f1 ⟨f2, f3⟩ hcd1 (Zt_ret f4 f5 (Or.inr ⟨x, υ, hp, rfl, rfl⟩))
/-- the same, where a long is answered -/
def QwL (P : jR → jH → Prop) (hc : Nat → Int) (r : jR) (τ : jH) : Prop := (∃ z τ0, P (rV (vL z)) τ0 ∧ r = rV (vI 0) ∧ τ = hsl τ0 102 0 z) ∨ (∃ x τ0, P (rT x) τ0 ∧ r = rV (vI (hc x)) ∧ τ = τ0)
theorem wr_L {k mi m n o1 q e : Nat} {cd : List AI} {tl p2 p4 : List Nat} {y : Int} {L vs : List jV} {t : jEs} {P : jR → jH → Prop} {hc : Nat → Int} (hcd : a_code mi = cd) (hE : CEs mi cd 0 0 t o1 (n + 3)) (hargs : ∀ Q' : List jV → jH → Prop, Q' (vR 102 :: vI 0 :: vs) σ → t sc (Cd sc k) L Q' σ) (hvs : vs.length = n + 1) (hv0 : jget vs 0 = vR 0) (hO : (hsh σ)[0]? = some (14, 0))
    (h0 : ji cd o1 = some (.invokevirtual q, 0 :: m :: n :: 11 :: tl)) (h2 : ji cd (o1 + 1) = some (.lastore, p2)) (h3 : ji cd (o1 + 2) = some (.goto y, [e])) (h4 : ji cd e = some (.iconst 0, p4)) (h5 : ji cd (e + 1) = some (.ireturn, [0]))
    (hC : Ct sc k m vs σ P) (hP : ∀ r τ, P r τ → ((∃ z, r = rV (vL z)) ∨ ∃ x, r = rT x) ∧ (hsh τ)[102]? = some (1, 1)) (hh : ∀ x τ, P (rT x) τ → ∃ g j p6, a_find o1 x (a_hand mi) = some (g, j) ∧ a_pl (L.map jc) j = false ∧ j < L.length ∧ ji cd g = some (.iconst (hc x), p6) ∧ ji cd (g + 1) = some (.ireturn, [0])) : Zt sc (k + 1) mi 0 L [] σ (QwL P hc) := by
  refine hE hcd sc k (QwL P hc) L [] σ (fun ws τ => ws = vR 102 :: vI 0 :: vs ∧ τ = σ) (by simp [a_cat]) (hargs _ ⟨rfl, rfl⟩) ?_
  rintro ws τ hw ⟨rfl, rfl⟩
  obtain ⟨r, υ, hcd1, hp⟩ := hC
  have hstep := j_calv_s (m := m) (n := n) (ci := 11) (r := 0) (vs := vs) (st := [vI 0, vR 102]) (σ := τ) hv0 hO hvs (by simp [a_cat, jc_cat, jcat])
  have est : (vR 102 :: vI 0 :: vs).reverse ++ [] = vs.reverse ++ [vI 0, vR 102] := by simp
  rw [est]
  obtain ⟨ho, hS⟩ := hP r υ hp
  subst hcd
  rcases ho with ⟨z, rfl⟩ | ⟨x, rfl⟩
  · refine Zt_call (v := some (vL z)) (st := [vI 0, vR 102]) h0 hstep hcd1 ?_
    refine Zt_at h2 (o' := o1 + 2) (L' := L) (st' := []) (σ' := hsl υ 102 0 z) ?_ ?_
    · have h0 : a_in (Int32.ofInt 0) 1 = true := j_in (by omega) (by omega) (by omega)
      have h1 : (Int32.ofInt 0).toNatClampNeg = 0 := rfl
      simp only [a_step, a_last, List.map_cons, List.map_nil, jc, j_arl hS, h0, if_true, a_go, h1, j_set_l hS, Option.toList, List.cons_append, List.nil_append]
    · refine Zt_at h3 (L' := L) (st' := []) (σ' := hsl υ 102 0 z) rfl ?_
      exact Zt_ret h4 h5 (Or.inl ⟨z, υ, hp, rfl, rfl⟩)
  · obtain ⟨g, j, p6, f1, f2, f3, f4, f5⟩ := hh x υ hp
    exact Zt_catch rfl h0 hstep f1 ⟨f2, f3⟩ hcd1 (Zt_ret f4 f5 (Or.inr ⟨x, υ, hp, rfl, rfl⟩))
end WRAP
