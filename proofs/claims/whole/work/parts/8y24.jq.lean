/-! Questions, asked of both -/
section JQ
variable {sc : jSc} {σ τ υ μ : jH} {D : jD} {b : Nat → Int} {N n : Nat} {F e0 e1 R V L : Int} {cd : lC} {u w : Nat → Int} {T : List (Nat → Int)} {im : List (List (Nat → Int))}
def Jd (σ : jH) (n : Nat) (b : Nat → Int) (N : Nat) (F e0 e1 R : Int) (D : jD) (cd : lC) (V : Int) (u : Nat → Int) (L : Int) (w : Nat → Int) (T : List (Nat → Int)) (im : List (List (Nat → Int))) : Prop := CI σ σ b N F e0 e1 R D cd V u L (w :: T) im ∧ MI σ b N F e0 e1 R D cd u L w T im ∧ w = cpf (hi σ 86) (hi σ 87) 171 ∧ V ≤ n ∧ ShB n (hsh σ)
theorem Jd.of (h : Jn n σ) : ∃ (b : Nat → Int) (N : Nat) (F e0 e1 R : Int) (D : jD) (cd : lC) (V : Int) (u : Nat → Int) (L : Int) (w : Nat → Int) (T : List (Nat → Int)) (im : List (List (Nat → Int))), Jd σ n b N F e0 e1 R D cd V u L w T im := h.nm
theorem Jd.W (h : Jd σ n b N F e0 e1 R D cd V u L w T im) : WW D w := by
  obtain ⟨q, _, _, _, hW, _⟩ := h.1.tw
  exact hW
theorem Jd.D8 (h : Jd σ n b N F e0 e1 R D cd V u L w T im) : 0 ≤ D 0 0 ∧ D 0 0 ≤ 8 := by
  obtain ⟨t, _, _, _, hX⟩ := h.1.2.2.2.1
  have := hX.2.2.1
  omega
theorem Jd.WDD (h : Jd σ n b N F e0 e1 R D cd V u L w T im) : WD D 61 := by
  obtain ⟨t, _, _, _, hX⟩ := h.1.2.2.2.1
  exact hX.2.2
/-- behind an answer -/
theorem Jd.ans (h : Jd σ n b N F e0 e1 R D cd V u L w T im) (hc : CI τ σ b N F e0 e1 R D cd V u L (w :: T) im) (z : Int) : Ok τ ∧ MI (hsl τ 102 0 z) b N F e0 e1 R D cd u L w T im ∧ w = cpf (hi (hsl τ 102 0 z) 86) (hi (hsl τ 102 0 z) 87) 171 ∧ ∀ υ, Fr Mz (hsl τ 102 0 z) υ → Jn (n + 1) υ ∧ hl υ 102 0 = z := by
  obtain ⟨h1, h2, h3, h4, h5⟩ := h
  have hk := hc.2.2.2.2.2.2.2.2.2.1.2
  have hF1 : Fr (fun r _ => r = 102) τ (hsl τ 102 0 z) := (Fr.refl _ _).sl rfl
  have hO1 := hF1.ok hc.1
  have e : ∀ r, 63 ≤ r → r ≤ 101 → hi (hsl τ 102 0 z) r = hi σ r := fun r a c => by rw [hi_sl]; exact (hk.2 r a (by omega)).1
  have hM := h2.cl hO1 e
  refine ⟨hc.1, hM, by rw [e 86 (by omega) (by omega), e 87 (by omega) (by omega)]; exact h3, fun υ hF => ⟨⟨b, N, F, e0, e1, R, D, cd, V, u, L, w, T, im, ?_, hM.fr hF, by omega, ?_⟩, ?_⟩⟩
  · have hF2 : Fr (fun r k => r = 102 ∨ Mz r k) τ υ := (hF1.mono (fun r k z => Or.inl z)).trans (hF.mono (fun r k z => Or.inr z))
    exact hc.far hF2 (fun r k z => by unfold Mz at z; omega)
  · rw [hF.sh, hsh_sl, hk.1]; exact h5.up
  · rw [hF.l (by unfold Mz; omega), hl_sl, if_pos ⟨rfl, rfl⟩]
theorem Jd.ans0 (h : Jd σ n b N F e0 e1 R D cd V u L w T im) (hc : CI τ σ b N F e0 e1 R D cd V u L (w :: T) im) : Ok τ ∧ MI τ b N F e0 e1 R D cd u L w T im ∧ w = cpf (hi τ 86) (hi τ 87) 171 ∧ ∀ υ, Fr Mz τ υ → Jn (n + 1) υ := by
  obtain ⟨h1, h2, h3, h4, h5⟩ := h
  have hk := hc.2.2.2.2.2.2.2.2.2.1.2
  have e : ∀ r, 63 ≤ r → r ≤ 101 → hi τ r = hi σ r := fun r a c => (hk.2 r a (by omega)).1
  have hM := h2.cl hc.1 e
  refine ⟨hc.1, hM, by rw [e 86 (by omega) (by omega), e 87 (by omega) (by omega)]; exact h3, fun υ hF => ⟨b, N, F, e0, e1, R, D, cd, V, u, L, w, T, im, hc.far hF (fun r k z => by unfold Mz at z; omega), hM.fr hF, by omega, ?_⟩⟩
  rw [hF.sh, hk.1]; exact h5.up
theorem rfC_i {x : Nat} (hO : Ok σ) (hx : x ≤ 1) {r : Nat} (h1 : r ≠ 0) (h2 : r ≤ 102) : hi (rfC σ x) r = hi σ r := by
  have hln := hO.len
  unfold rfC
  have := (Xt_al (hsi σ 0 (15 - x) (hi σ 0 (15 - x) + 1)) (x + 16) 0).2 r (by rw [hsh_si]; omega)
  rw [this.1, hi_si_ne h1]
theorem rfC_s (x : Nat) : hsh (rfC σ x) = hsh σ ++ [(x + 16, 0)] := rfl
theorem ShB.rf {l : List (Nat × Nat)} {x : Nat} (hx : x ≤ 1) (h : ShB n l) : ShB (n + 1) (l ++ [(x + 16, 0)]) := by
  unfold ShB at *
  rw [List.length_append, szH_app]
  have : szH [(x + 16, 0)] = 6 := by
    have : x = 0 ∨ x = 1 := by omega
    rcases this with rfl | rfl <;> rfl
  simp only [List.length_singleton]
  omega
/-- behind a refusal -/
theorem Jd.no (h : Jd σ n b N F e0 e1 R D cd V u L w T im) {x : Nat} (hx : x ≤ 1) (c : Int) : Ok (rfC σ x) ∧ MI (rfC σ x) b N F e0 e1 R D cd u L w T im ∧ w = cpf (hi (rfC σ x) 86) (hi (rfC σ x) 87) 171 ∧ Jn (n + 1) (rfM (hsi (rfC σ x) 63 0 0) c (1 - x)) := by
  obtain ⟨h1, h2, h3, h4, h5⟩ := h
  have hO := h1.1
  have hx' : x = 0 ∨ x = 1 := by omega
  have e : ∀ r, 63 ≤ r → r ≤ 101 → hi (rfC σ x) r = hi σ r := fun r a c => rfC_i hO hx (by omega) (by omega)
  have hC : CI (rfC σ x) (rfC σ x) b N F (if x = 1 then e0 + 1 else e0) (if x = 0 then e1 + 1 else e1) R D cd V u L (w :: T) im := by
    rcases hx' with rfl | rfl
    · exact h1.no0
    · exact h1.no1
  have hM := h2.cl hC.1 e
  refine ⟨hC.1, hM, by rw [e 86 (by omega) (by omega), e 87 (by omega) (by omega)]; exact h3, b, N, F, _, _, R, D, cd, V, u, L, w, T, im, hC.far (S := fun r _ => 63 ≤ r ∧ r ≤ 102) ((((Fr.refl _ _).si (by omega)).si (by omega)).si (by omega)) (fun r k z => z), ?_, by omega, ?_⟩
  · have := hM.rf (c := c) (k := 1 - x) (by omega)
    rcases hx' with rfl | rfl <;> exact this
  · show ShB (n + 1) (hsh (rfC σ x))
    rw [rfC_s]
    exact h5.rf hx
theorem jq0 {P : Prop} {A : Int → Prop} {G : jR → Prop} {kc c km m : Nat} {vs ms : List jV} (h : Jd σ n b N F e0 e1 R D cd V u L w T im) (hc : Ct sc kc c vs σ (fun r τ => (P ∧ (∃ z, r = rV (vI z) ∧ A z) ∧ CI τ σ b N F e0 e1 R D cd V u L (w :: T) im) ∨ (¬ P ∧ r = rT 0 ∧ τ = rfC σ 0))) (hm : ∀ τ, MI τ b N F e0 e1 R D cd u L w T im → w = cpf (hi τ 86) (hi τ 87) 171 → Ct sc km m ms τ (Qm τ P 1 1 G)) (hG : ∀ r, G r → ∀ z, A z → r = rV (vI z)) : Ct sc kc c vs σ (Kp sc km m ms n (fun x => x = 0) (fun _ => 1)) := by
  refine hc.mono ?_
  rintro r τ (⟨p, ⟨z, rfl, a⟩, hC⟩ | ⟨p, rfl, rfl⟩)
  · obtain ⟨k1, k2, k3, k4⟩ := h.ans hC (j_w z)
    refine ⟨Or.inl ⟨z, rfl, (hm _ k2 k3).mono ?_⟩, k1⟩
    rintro r υ (⟨-, g, t0, hF⟩ | ⟨p', -⟩)
    · obtain ⟨q1, q2⟩ := k4 υ hF
      exact ⟨hG _ g z a, t0, q2, q1⟩
    · exact absurd p p'
  · obtain ⟨k1, k2, k3, k4⟩ := h.no (x := 0) (by omega) 1
    refine ⟨Or.inr ⟨0, rfl, rfl, (hm _ k2 k3).mono ?_⟩, k1⟩
    rintro r υ (⟨p', -⟩ | ⟨-, g, t0, rfl⟩)
    · exact absurd p' p
    · exact ⟨⟨0, g⟩, t0, k4⟩
theorem jq1 {P : Prop} {A : Int → Prop} {G : jR → Prop} {kc c km m : Nat} {vs ms : List jV} (h : Jd σ n b N F e0 e1 R D cd V u L w T im) (hc : Ct sc kc c vs σ (fun r τ => (P ∧ (∃ z, r = rV (vI z) ∧ A z) ∧ CI τ σ b N F e0 e1 R D cd V u L (w :: T) im) ∨ (¬ P ∧ r = rT 1 ∧ τ = rfC σ 1))) (hm : ∀ τ, MI τ b N F e0 e1 R D cd u L w T im → w = cpf (hi τ 86) (hi τ 87) 171 → Ct sc km m ms τ (Qm τ P 1 0 G)) (hG : ∀ r, G r → ∀ z, A z → r = rV (vI z)) : Ct sc kc c vs σ (Kp sc km m ms n (fun x => x = 1) (fun _ => 1)) := by
  refine hc.mono ?_
  rintro r τ (⟨p, ⟨z, rfl, a⟩, hC⟩ | ⟨p, rfl, rfl⟩)
  · obtain ⟨k1, k2, k3, k4⟩ := h.ans hC (j_w z)
    refine ⟨Or.inl ⟨z, rfl, (hm _ k2 k3).mono ?_⟩, k1⟩
    rintro r υ (⟨-, g, t0, hF⟩ | ⟨p', -⟩)
    · obtain ⟨q1, q2⟩ := k4 υ hF
      exact ⟨hG _ g z a, t0, q2, q1⟩
    · exact absurd p p'
  · obtain ⟨k1, k2, k3, k4⟩ := h.no (x := 1) (by omega) 1
    refine ⟨Or.inr ⟨1, rfl, rfl, (hm _ k2 k3).mono ?_⟩, k1⟩
    rintro r υ (⟨p', -⟩ | ⟨-, g, t0, rfl⟩)
    · exact absurd p' p
    · exact ⟨⟨0, g⟩, t0, k4⟩
theorem jq2p {P P' : Prop} {A : Int → Prop} {G : jR → Prop} {km m : Nat} {ms : List jV} (h : Jd σ n b N F e0 e1 R D cd V u L w T im) (hm : ∀ τ, MI τ b N F e0 e1 R D cd u L w T im → w = cpf (hi τ 86) (hi τ 87) 171 → Ct sc km m ms τ (Qm2 τ P P' G)) (hG : ∀ r, G r → ∀ z, A z → r = rV (vI z)) : ∀ r τ, ((P ∧ P' ∧ (∃ z, r = rV (vI z) ∧ A z) ∧ CI τ σ b N F e0 e1 R D cd V u L (w :: T) im) ∨ (P ∧ ¬ P' ∧ r = rT 0 ∧ τ = rfC σ 0) ∨ (¬ P ∧ r = rT 1 ∧ τ = rfC σ 1)) → Kp sc km m ms n (fun x => x = 0 ∨ x = 1) (fun x => if x = 1 then 1 else 2) r τ := by
  rintro r τ (⟨p, p2, ⟨z, rfl, a⟩, hC⟩ | ⟨p, p2, rfl, rfl⟩ | ⟨p, rfl, rfl⟩)
  · obtain ⟨k1, k2, k3, k4⟩ := h.ans hC (j_w z)
    refine ⟨Or.inl ⟨z, rfl, (hm _ k2 k3).mono ?_⟩, k1⟩
    rintro r υ (⟨-, -, g, t0, hF⟩ | ⟨-, p', -⟩ | ⟨p', -⟩)
    · obtain ⟨q1, q2⟩ := k4 υ hF
      exact ⟨hG _ g z a, t0, q2, q1⟩
    · exact absurd p2 p'
    · exact absurd p p'
  · obtain ⟨k1, k2, k3, k4⟩ := h.no (x := 0) (by omega) 2
    refine ⟨Or.inr ⟨0, Or.inl rfl, rfl, (hm _ k2 k3).mono ?_⟩, k1⟩
    rintro r υ (⟨-, p', -⟩ | ⟨-, -, g, t0, rfl⟩ | ⟨p', -⟩)
    · exact absurd p' p2
    · exact ⟨⟨0, g⟩, t0, k4⟩
    · exact absurd p p'
  · obtain ⟨k1, k2, k3, k4⟩ := h.no (x := 1) (by omega) 1
    refine ⟨Or.inr ⟨1, Or.inr rfl, rfl, (hm _ k2 k3).mono ?_⟩, k1⟩
    rintro r υ (⟨p', -⟩ | ⟨p', -⟩ | ⟨-, g, t0, rfl⟩)
    · exact absurd p' p
    · exact absurd p' p
    · exact ⟨⟨0, g⟩, t0, k4⟩
theorem jq2 {P P' : Prop} {A : Int → Prop} {G : jR → Prop} {kc c km m : Nat} {vs ms : List jV} (h : Jd σ n b N F e0 e1 R D cd V u L w T im) (hc : Ct sc kc c vs σ (fun r τ => (P ∧ P' ∧ (∃ z, r = rV (vI z) ∧ A z) ∧ CI τ σ b N F e0 e1 R D cd V u L (w :: T) im) ∨ (P ∧ ¬ P' ∧ r = rT 0 ∧ τ = rfC σ 0) ∨ (¬ P ∧ r = rT 1 ∧ τ = rfC σ 1))) (hm : ∀ τ, MI τ b N F e0 e1 R D cd u L w T im → w = cpf (hi τ 86) (hi τ 87) 171 → Ct sc km m ms τ (Qm2 τ P P' G)) (hG : ∀ r, G r → ∀ z, A z → r = rV (vI z)) : Ct sc kc c vs σ (Kp sc km m ms n (fun x => x = 0 ∨ x = 1) (fun x => if x = 1 then 1 else 2)) := hc.mono (jq2p h hm hG)
theorem jqL {P : Prop} {A : Int → Prop} {G : jR → Prop} {kc c km m : Nat} {vs ms : List jV} (h : Jd σ n b N F e0 e1 R D cd V u L w T im) (hc : Ct sc kc c vs σ (fun r τ => (P ∧ (∃ z, r = rV (vL z) ∧ A z) ∧ CI τ σ b N F e0 e1 R D cd V u L (w :: T) im) ∨ (¬ P ∧ r = rT 0 ∧ τ = rfC σ 0))) (hm : ∀ τ, MI τ b N F e0 e1 R D cd u L w T im → w = cpf (hi τ 86) (hi τ 87) 171 → Ct sc km m ms τ (QmL τ P 1 1 G)) (hG : ∀ r, G r → ∀ z, A z → r = rV (vL z)) : Ct sc kc c vs σ (KpL sc km m ms n (fun x => x = 0) (fun _ => 1)) := by
  refine hc.mono ?_
  rintro r τ (⟨p, ⟨z, rfl, a⟩, hC⟩ | ⟨p, rfl, rfl⟩)
  · obtain ⟨k1, k2, k3, k4⟩ := h.ans hC z
    refine ⟨Or.inl ⟨z, rfl, (hm _ k2 k3).mono ?_⟩, k1⟩
    rintro r υ (⟨-, g, t0, hF⟩ | ⟨p', -⟩)
    · obtain ⟨q1, q2⟩ := k4 υ hF
      exact ⟨hG _ g z a, t0, q2, q1⟩
    · exact absurd p p'
  · obtain ⟨k1, k2, k3, k4⟩ := h.no (x := 0) (by omega) 1
    refine ⟨Or.inr ⟨0, rfl, rfl, (hm _ k2 k3).mono ?_⟩, k1⟩
    rintro r υ (⟨p', -⟩ | ⟨-, g, t0, rfl⟩)
    · exact absurd p' p
    · exact ⟨⟨0, g⟩, t0, k4⟩
theorem jqP {A : Int → Prop} {G : jR → Prop} {kc c km m : Nat} {vs ms : List jV} (h : Jd σ n b N F e0 e1 R D cd V u L w T im) (hc : Ct sc kc c vs σ (fun r τ => (∃ z, r = rV (vI z) ∧ A z) ∧ CI τ σ b N F e0 e1 R D cd V u L (w :: T) im)) (hm : ∀ τ, MI τ b N F e0 e1 R D cd u L w T im → w = cpf (hi τ 86) (hi τ 87) 171 → Ct sc km m ms τ (Qm τ True 1 1 G)) (hG : ∀ r, G r → ∀ z, A z → r = rV (vI z)) : Ct sc kc c vs σ (fun r τ0 => ∃ z, r = rV (vI z) ∧ Ok τ0 ∧ Ct sc km m ms τ0 (fun r υ => r = rV (vI z) ∧ Jn (n + 1) υ)) := by
  refine hc.mono ?_
  rintro r τ ⟨⟨z, rfl, a⟩, hC⟩
  obtain ⟨k1, k2, k3, k4⟩ := h.ans0 hC
  refine ⟨z, rfl, k1, (hm _ k2 k3).mono ?_⟩
  rintro r υ (⟨-, g, t0, hF⟩ | ⟨p', -⟩)
  · exact ⟨hG _ g z a, k4 υ hF⟩
  · exact absurd trivial p'
end JQ
