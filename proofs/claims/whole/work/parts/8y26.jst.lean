/-! Each call that changes something, done to both -/
section JST
variable {sc : jSc} {σ τ μ : jH} {D : jD} {b : Nat → Int} {N n : Nat} {F e0 e1 R V L : Int} {cd : lC} {u w : Nat → Int} {T : List (Nat → Int)} {im : List (List (Nat → Int))}
theorem ite01 {P : Prop} [Decidable P] : (if P then (0 : Int) else 1) = 0 ∨ (if P then (0 : Int) else 1) = 1 := by split <;> simp
theorem j_303 {x y : Int} (h : Jd σ n b N F e0 e1 R D cd V u L w T im) (h0 : -2147483648 ≤ x ∧ x ≤ 2147483647) (h1 : -2147483648 ≤ y ∧ y ≤ 2147483647) : Ct sc 7 303 [vR 0, vI x, vI y, vR 102] σ (Qw (fun r τ => Kp sc 6 233 [vR 63, vI x, vI y] n (fun x => x = 0 ∨ x = 1) (fun x => if x = 1 then 1 else 2) r τ ∧ ∀ z, r = rV (vI z) → z = 0 ∨ z = 1) (fun x => if x = 1 then 1 else 2)) := by
  have hp := jq2p (sc := sc) (km := 6) (m := 233) (ms := [vR 63, vI x, vI y]) h (A := fun z => z = (if (if w x.toNat = 0 ∧ std w y.toNat (D 0 0).toNat = -1 ∧ ndW D w x.toNat = true ∧ lsl (fcW D w 0 x.toNat y.toNat) (lX cd) ≤ w 169 then lsl (fcW D w 0 x.toNat y.toNat) (lX cd) else -1) = -1 then 0 else 1)) (fun τ hM hw => m_233 hM hw h.W h0 h1) (fun r g z hz => by rw [g, hz])
  refine w_303 h.1.1 ((c_126 h.1 h0 h1).mono ?_) (fun r τ hk => ⟨hk.1.w2.1.imp (fun ⟨z, hz⟩ => ⟨z, hz, hk.2 z hz⟩) (fun z => z), hk.1.2⟩)
  rintro r τ (⟨p, p2, rfl, hC⟩ | ⟨p, p2, rfl, rfl⟩ | ⟨p, rfl, rfl⟩)
  · refine ⟨hp _ _ (Or.inl ⟨p, p2, ⟨_, rfl, rfl⟩, hC⟩), fun z hz => ?_⟩
    cases hz
    exact ite01
  · exact ⟨hp _ _ (Or.inr (Or.inl ⟨p, p2, rfl, rfl⟩)), fun z hz => by cases hz⟩
  · exact ⟨hp _ _ (Or.inr (Or.inr ⟨p, rfl, rfl⟩)), fun z hz => by cases hz⟩
/-- behind a change: the class's cells -/
theorem Jd.out {N' : Nat} {b' : Nat → Int} {F' R' V' L' : Int} {D' : jD} {cd' : lC} {u' w' : Nat → Int} {T' : List (Nat → Int)} {im' : List (List (Nat → Int))} {υ : jH} (z : Int) (hC : CI τ μ b' N' F' e0 e1 R' D' cd' V' u' L' (w' :: T') im') (hF : Fr Fz (hsl τ 102 0 z) υ) (hM : MI υ b' N' F' e0 e1 R' D' cd' u' L' w' T' im') (hV : V' ≤ n + 1) (hS : ShB (n + 1) (hsh τ)) : Jn (n + 1) υ ∧ hl υ 102 0 = z := by
  have hF1 : Fr (fun r _ => r = 102) τ (hsl τ 102 0 z) := (Fr.refl _ _).sl rfl
  have hF2 : Fr (fun r k => r = 102 ∨ Fz r k) τ υ := (hF1.mono (fun r k z => Or.inl z)).trans (hF.mono (fun r k z => Or.inr z))
  refine ⟨⟨b', N', F', e0, e1, R', D', cd', V', u', L', w', T', im', hC.far hF2 (fun r k z => by unfold Fz at z; omega), hM, by omega, ?_⟩, ?_⟩
  · rw [hF.sh, hsh_sl]; exact hS
  · rw [hF.l (by unfold Fz; omega), hl_sl, if_pos ⟨rfl, rfl⟩]
theorem Jd.out0 {N' : Nat} {b' : Nat → Int} {F' R' V' L' : Int} {D' : jD} {cd' : lC} {u' w' : Nat → Int} {T' : List (Nat → Int)} {im' : List (List (Nat → Int))} {υ : jH} (hC : CI τ μ b' N' F' e0 e1 R' D' cd' V' u' L' (w' :: T') im') (hF : Fr Fz τ υ) (hM : MI υ b' N' F' e0 e1 R' D' cd' u' L' w' T' im') (hV : V' ≤ n + 1) (hS : ShB (n + 1) (hsh τ)) : Jn (n + 1) υ :=
  ⟨b', N', F', e0, e1, R', D', cd', V', u', L', w', T', im', hC.far hF (fun r k z => by unfold Fz at z; omega), hM, by omega, by rw [hF.sh]; exact hS⟩
/-- the reference's cells are as they were -/
theorem Jd.rows (h : Jd σ n b N F e0 e1 R D cd V u L w T im) (hO : Ok τ) (hk : ∀ r, 63 ≤ r → r ≤ 102 → hi τ r = hi σ r ∧ hl τ r = hl σ r ∧ hp τ r = hp σ r) : MI τ b N F e0 e1 R D cd u L w T im ∧ w = cpf (hi τ 86) (hi τ 87) 171 := by
  have e : ∀ r, 63 ≤ r → r ≤ 101 → hi τ r = hi σ r := fun r a c => (hk r a (by omega)).1
  exact ⟨h.2.1.cl hO e, by rw [e 86 (by omega) (by omega), e 87 (by omega) (by omega)]; exact h.2.2.1⟩
theorem hk_sl {z : Int} (hk : ∀ r, 63 ≤ r → r ≤ 102 → hi τ r = hi σ r ∧ hl τ r = hl σ r ∧ hp τ r = hp σ r) : ∀ r, 63 ≤ r → r ≤ 101 → hi (hsl τ 102 0 z) r = hi σ r := fun r a c => by rw [hi_sl]; exact (hk r a (by omega)).1
theorem Jd.rows1 (h : Jd σ n b N F e0 e1 R D cd V u L w T im) (hO : Ok τ) (hk : ∀ r, 63 ≤ r → r ≤ 102 → hi τ r = hi σ r ∧ hl τ r = hl σ r ∧ hp τ r = hp σ r) (z : Int) : MI (hsl τ 102 0 z) b N F e0 e1 R D cd u L w T im ∧ w = cpf (hi (hsl τ 102 0 z) 86) (hi (hsl τ 102 0 z) 87) 171 := by
  have e := hk_sl (z := z) hk
  have hO1 : Ok (hsl τ 102 0 z) := hO
  exact ⟨h.2.1.cl hO1 e, by rw [e 86 (by omega) (by omega), e 87 (by omega) (by omega)]; exact h.2.2.1⟩
theorem Jd.N6 (h : Jd σ n b N F e0 e1 R D cd V u L w T im) : N ≤ 600 ∧ By b ∧ T.length ≤ 16 ∧ im.length ≤ 3 := by
  have h1 := h.1.2.1
  have h2 := h.1.2.2.2.2.2.2.2.1.2.1
  have h3 := h.1.ims.2.1
  refine ⟨h1.2.1, by rw [← h1.2.2.2.1]; exact h1.2.2.1, ?_, h3⟩
  simp at h2
  exact h2
/-- behind a refused text -/
theorem Jd.nt (h : Jd σ n b N F e0 e1 R D cd V u L w T im) {υ : jH} (hF : Fr Fz (rfC σ 0) υ) (hM : MI υ b N F e0 (e1 + 1) R D cd u L w T im) : Jn (n + 1) υ := by
  have hC := h.1.no0
  exact Jd.out0 hC hF hM (by have := h.2.2.2.1; omega) (by rw [rfC_s]; exact h.2.2.2.2.rf (by omega))
theorem ShB.mg {l l' : List (Nat × Nat)} (h : ShB n l) (e : l' = l ++ [(12, 0), (0, 8), (0, 8), (0, 12), (1, 12)]) : ShB (n + 1) l' := by
  rw [e]
  unfold ShB at *
  rw [List.length_append, szH_app]
  have : szH [(12, 0), (0, 8), (0, 8), (0, 12), (1, 12)] = 51 := rfl
  simp only [List.length_cons, List.length_nil]
  omega
theorem j_295 {x : Int} (h : Jd σ n b N F e0 e1 R D cd V u L w T im) (h0 : -2147483648 ≤ x ∧ x ≤ 2147483647) : Ct sc 7 295 [vR 0, vI x, vR 102] σ (Qw (Kp sc 5 222 [vR 63, vI x] n (fun x => x = 0) (fun _ => 1)) (fun _ => 1)) := by
  obtain ⟨n6, nB, nT, nI⟩ := h.N6
  refine w_295 h.1.1 ((c_116 h.1 h0).mono ?_) (fun r τ hk => Kp.w0 hk)
  rintro r τ (⟨p, ⟨kd, pl, p1, rfl, hC⟩ | ⟨u', c, p1, rfl, hC⟩⟩ | ⟨p, rfl, rfl⟩)
  · have hk := hC.2.2.2.2.2.2.2.2.2.1.2
    obtain ⟨k1, k2⟩ := h.rows1 hC.1 hk.2 (j_w (kd - 10))
    refine ⟨Or.inl ⟨_, rfl, (m_222k k1 n6 nB h0).mono ?_⟩, hC.1⟩
    rintro r υ ⟨hF, ⟨-, t0, ⟨kd', pl', p2, rfl, hM⟩ | ⟨u', c, p2, -⟩⟩ | ⟨p', -⟩⟩
    · rw [p1] at p2
      cases p2
      obtain ⟨q1, q2⟩ := Jd.out (n := n) _ hC hF hM (by have := h.2.2.2.1; omega) (by rw [hk.1]; exact h.2.2.2.2.up)
      exact ⟨rfl, t0, q2, q1⟩
    · rw [p1] at p2; cases p2
    · exact absurd p p'
  · have hk := hC.2.2.2.2.2.2.2.2.2.1.2
    obtain ⟨k1, k2⟩ := h.rows1 hC.1 hk.2 (j_w (c : Nat))
    refine ⟨Or.inl ⟨_, rfl, (m_222k k1 n6 nB h0).mono ?_⟩, hC.1⟩
    rintro r υ ⟨hF, ⟨-, t0, ⟨kd', pl', p2, -⟩ | ⟨u2, c2, p2, rfl, hM⟩⟩ | ⟨p', -⟩⟩
    · rw [p1] at p2; cases p2
    · rw [p1] at p2
      cases p2
      obtain ⟨q1, q2⟩ := Jd.out (n := n) _ hC hF (hM (fun x hx => (hC.2.2.2.2.2.1.1 x hx).2)) (by have := h.2.2.2.1; omega) (by rw [hk.1]; exact h.2.2.2.2.up)
      exact ⟨rfl, t0, q2, q1⟩
    · exact absurd p p'
  · obtain ⟨k1, k2, k3, -⟩ := h.no (x := 0) (by omega) 1
    refine ⟨Or.inr ⟨0, rfl, rfl, (m_222k k2 n6 nB h0).mono ?_⟩, k1⟩
    rintro r υ ⟨hF, ⟨p', -⟩ | ⟨-, g, t0, hM⟩⟩
    · exact absurd p' p
    · exact ⟨⟨0, g⟩, t0, h.nt hF hM⟩
theorem j_293 {x : Int} (h : Jd σ n b N F e0 e1 R D cd V u L w T im) (hn : n < 9000) (h0 : -2147483648 ≤ x ∧ x ≤ 2147483647) : Ct sc 27 293 [vR 0, vI x, vR 102] σ (Qw (Kp sc 40 202 [vR 63, vI x] n (fun x => x = 0) (fun _ => 1)) (fun _ => 1)) := by
  obtain ⟨n6, nB, nT, nI⟩ := h.N6
  have hVn := h.2.2.2.1
  refine w_293 h.1.1 ((c_114 h.1 (by omega) h0).mono ?_) (fun r τ hk => Kp.w0 hk)
  rintro r τ (⟨p, ⟨kd, pl, p1, rfl, hC⟩ | ⟨l, p1, rfl, hC⟩⟩ | ⟨p, rfl, rfl⟩)
  · have hk := hC.2.2.2.2.2.2.2.2.2.1.2
    obtain ⟨k1, k2⟩ := h.rows1 hC.1 hk.2 (j_w (kd - 10))
    refine ⟨Or.inl ⟨_, rfl, (m_202k k1 n6 nB h0).mono ?_⟩, hC.1⟩
    rintro r υ ⟨hF, ⟨-, t0, ⟨kd', pl', p2, rfl, hM⟩ | ⟨l, p2, -⟩⟩ | ⟨p', -⟩⟩
    · rw [p1] at p2
      cases p2
      obtain ⟨q1, q2⟩ := Jd.out (n := n) _ hC hF hM (by omega) (by rw [hk.1]; exact h.2.2.2.2.up)
      exact ⟨rfl, t0, q2, q1⟩
    · rw [p1] at p2; cases p2
    · exact absurd p p'
  · have hk := hC.2.2.2.2.2.2.2.2.2.1.2
    obtain ⟨k1, k2⟩ := h.rows1 hC.1 hk.2 (j_w 1)
    refine ⟨Or.inl ⟨_, rfl, (m_202k k1 n6 nB h0).mono ?_⟩, hC.1⟩
    rintro r υ ⟨hF, ⟨-, t0, ⟨kd', pl', p2, -⟩ | ⟨l2, p2, rfl, hM⟩⟩ | ⟨p', -⟩⟩
    · rw [p1] at p2; cases p2
    · rw [p1] at p2
      cases p2
      obtain ⟨q1, q2⟩ := Jd.out (n := n) _ hC hF hM (by omega) (by rw [hk.1]; exact h.2.2.2.2.up)
      exact ⟨rfl, t0, q2, q1⟩
    · exact absurd p p'
  · obtain ⟨k1, k2, k3, -⟩ := h.no (x := 0) (by omega) 1
    refine ⟨Or.inr ⟨0, rfl, rfl, (m_202k k2 n6 nB h0).mono ?_⟩, k1⟩
    rintro r υ ⟨hF, ⟨p', -⟩ | ⟨-, g, t0, hM⟩⟩
    · exact absurd p' p
    · exact ⟨⟨0, g⟩, t0, h.nt hF hM⟩
theorem j_292 {x : Int} (h : Jd σ n b N F e0 e1 R D cd V u L w T im) (hn : n < 9000) (h0 : -2147483648 ≤ x ∧ x ≤ 2147483647) : Ct sc 8 292 [vR 0, vI x, vR 102] σ (Qw (Kp sc 8 194 [vR 63, vI x] n (fun x => x = 0) (fun _ => 1)) (fun _ => 1)) := by
  obtain ⟨n6, nB, nT, nI⟩ := h.N6
  have hVn := h.2.2.2.1
  refine w_292 h.1.1 ((c_113 h.1 (by omega) h0).mono ?_) (fun r τ hk => Kp.w0 hk)
  rintro r τ (⟨p, ⟨kd, pl, p1, rfl, hC⟩ | ⟨D', p1, rfl, hC, hg⟩⟩ | ⟨p, rfl, rfl⟩)
  · have hk := hC.2.2.2.2.2.2.2.2.2.1.2
    obtain ⟨k1, k2⟩ := h.rows1 hC.1 hk.2 (j_w (kd - 10))
    refine ⟨Or.inl ⟨_, rfl, (m_194k k1 n6 nB h0).mono ?_⟩, hC.1⟩
    rintro r υ ⟨hF, ⟨-, t0, ⟨kd', pl', p2, rfl, hM⟩ | ⟨l, p2, -⟩⟩ | ⟨p', -⟩⟩
    · rw [p1] at p2
      cases p2
      obtain ⟨q1, q2⟩ := Jd.out (n := n) _ hC hF hM (by omega) (by rw [hk.1]; exact h.2.2.2.2.up)
      exact ⟨rfl, t0, q2, q1⟩
    · rw [p1] at p2; cases p2
    · exact absurd p p'
  · obtain ⟨k1, k2⟩ := h.rows1 hC.1 hg.2 (j_w (D' 0 0))
    refine ⟨Or.inl ⟨_, rfl, (m_194k k1 n6 nB h0).mono ?_⟩, hC.1⟩
    rintro r υ ⟨hF, ⟨-, t0, ⟨kd', pl', p2, -⟩ | ⟨D2, p2, rfl, hM⟩⟩ | ⟨p', -⟩⟩
    · rw [p1] at p2; cases p2
    · rw [p1] at p2
      cases p2
      obtain ⟨q1, q2⟩ := Jd.out (n := n) _ hC hF hM (by omega) (h.2.2.2.2.mg hg.1)
      exact ⟨rfl, t0, q2, q1⟩
    · exact absurd p p'
  · obtain ⟨k1, k2, k3, -⟩ := h.no (x := 0) (by omega) 1
    refine ⟨Or.inr ⟨0, rfl, rfl, (m_194k k2 n6 nB h0).mono ?_⟩, k1⟩
    rintro r υ ⟨hF, ⟨p', -⟩ | ⟨-, g, t0, hM⟩⟩
    · exact absurd p' p
    · exact ⟨⟨0, g⟩, t0, h.nt hF hM⟩
theorem j_294 {x : Int} (h : Jd σ n b N F e0 e1 R D cd V u L w T im) (h0 : -2147483648 ≤ x ∧ x ≤ 2147483647) : Ct sc 9 294 [vR 0, vI x, vR 102] σ (Qw (Kp sc 20 209 [vR 63, vI x] n (fun x => x = 0) (fun _ => 1)) (fun _ => 1)) := by
  obtain ⟨n6, nB, nT, nI⟩ := h.N6
  have hVn := h.2.2.2.1
  refine w_294 h.1.1 ((c_115 h.1 h0).mono ?_) (fun r τ hk => Kp.w0 hk)
  rintro r τ (⟨p, ⟨l16, rfl, hC⟩ | ⟨l16, ⟨kd, pl, p1, rfl, hC⟩ | ⟨k, a, p1, rfl, hC, hg⟩⟩⟩ | ⟨p, rfl, rfl⟩)
  · have hk := hC.2.2.2.2.2.2.2.2.2.1.2
    obtain ⟨k1, k2⟩ := h.rows1 hC.1 hk.2 (j_w (-20))
    refine ⟨Or.inl ⟨_, rfl, (m_209 k1 k2 h.W n6 nB nT h0).mono ?_⟩, hC.1⟩
    rintro r υ ⟨hF, ⟨-, t0, ⟨l2, rfl, hM⟩ | ⟨l2, -⟩⟩ | ⟨p', -⟩⟩
    · obtain ⟨q1, q2⟩ := Jd.out (n := n) _ hC hF hM (by omega) (by rw [hk.1]; exact h.2.2.2.2.up)
      exact ⟨rfl, t0, q2, q1⟩
    · omega
    · exact absurd p p'
  · have hk := hC.2.2.2.2.2.2.2.2.2.1.2
    obtain ⟨k1, k2⟩ := h.rows1 hC.1 hk.2 (j_w (kd - 10))
    refine ⟨Or.inl ⟨_, rfl, (m_209 k1 k2 h.W n6 nB nT h0).mono ?_⟩, hC.1⟩
    rintro r υ ⟨hF, ⟨-, t0, ⟨l2, -⟩ | ⟨l2, ⟨kd', pl', p2, rfl, hM⟩ | ⟨k, a, p2, -⟩⟩⟩ | ⟨p', -⟩⟩
    · omega
    · rw [p1] at p2
      cases p2
      obtain ⟨q1, q2⟩ := Jd.out (n := n) _ hC hF hM (by omega) (by rw [hk.1]; exact h.2.2.2.2.up)
      exact ⟨rfl, t0, q2, q1⟩
    · rw [p1] at p2; cases p2
    · exact absurd p p'
  · obtain ⟨k1, k2⟩ := h.rows1 hC.1 hg.2 (j_w ((runW D cd 0 k (w, 0, 0, 0)).2.2.1 : Nat))
    refine ⟨Or.inl ⟨_, rfl, (m_209 k1 k2 h.W n6 nB nT h0).mono ?_⟩, hC.1⟩
    rintro r υ ⟨hF, ⟨-, t0, ⟨l2, -⟩ | ⟨l2, ⟨kd', pl', p2, -⟩ | ⟨k', a', p2, rfl, hM⟩⟩⟩ | ⟨p', -⟩⟩
    · omega
    · rw [p1] at p2; cases p2
    · rw [p1] at p2
      cases p2
      obtain ⟨q1, q2⟩ := Jd.out (n := n) _ hC hF hM (by omega) (h.2.2.2.2.mg hg.1)
      exact ⟨rfl, t0, q2, q1⟩
    · exact absurd p p'
  · obtain ⟨k1, k2, k3, -⟩ := h.no (x := 0) (by omega) 1
    refine ⟨Or.inr ⟨0, rfl, rfl, (m_209 k2 k3 h.W n6 nB nT h0).mono ?_⟩, k1⟩
    rintro r υ ⟨hF, ⟨p', -⟩ | ⟨-, g, t0, hM⟩⟩
    · exact absurd p' p
    · exact ⟨⟨0, g⟩, t0, h.nt hF hM⟩
theorem j_112 {va vb vc vd ve : Int} (h : Jd σ n b N F e0 e1 R D cd V u L w T im) : Ct sc 2 112 [vR 0, vI va, vI vb, vI vc, vI vd, vI ve] σ (fun r τ0 => ∃ z, r = rV (vI z) ∧ Ok τ0 ∧ Ct sc 1 170 [vR 63, vI va, vI vb, vI vc, vI vd, vI ve] τ0 (fun r υ => r = rV (vI z) ∧ Jn (n + 1) υ)) := by
  obtain ⟨n6, nB, nT, nI⟩ := h.N6
  have hVn := h.2.2.2.1
  refine (c_112 h.1).mono ?_
  rintro r τ (⟨p, rfl, hC⟩ | ⟨p, rfl, rfl⟩)
  · have hk := hC.2.2.2.2.2.2.2.2.2.1.2
    obtain ⟨k1, k2⟩ := h.rows hC.1 hk.2
    refine ⟨_, rfl, hC.1, (m_170 k1 n6).mono ?_⟩
    rintro r υ ⟨hF, ⟨-, rfl, hM⟩ | ⟨p', -⟩⟩
    · exact ⟨rfl, Jd.out0 hC hF hM (by omega) (by rw [hk.1]; exact h.2.2.2.2.up)⟩
    · exact absurd p p'
  · refine ⟨_, rfl, h.1.1, (m_170 h.2.1 n6).mono ?_⟩
    rintro r υ ⟨hF, ⟨p', -⟩ | ⟨-, rfl, hM⟩⟩
    · exact absurd p' p
    · exact ⟨rfl, Jd.out0 h.1 hF hM (by omega) h.2.2.2.2.up⟩
theorem j_118 (h : Jd σ n b N F e0 e1 R D cd V u L w T im) : Ct sc 1 118 [vR 0] σ (fun r τ0 => ∃ z, r = rV (vI z) ∧ Ok τ0 ∧ Ct sc 1 223 [vR 63] τ0 (fun r υ => r = rV (vI z) ∧ Jn (n + 1) υ)) := by
  obtain ⟨n6, nB, nT, nI⟩ := h.N6
  have hVn := h.2.2.2.1
  refine (c_118 h.1).mono ?_
  rintro r τ (⟨p, rfl, rfl⟩ | ⟨p, rfl, hC⟩)
  · refine ⟨_, rfl, h.1.1, (m_223 h.2.1 nT).mono ?_⟩
    rintro r υ ⟨hF, ⟨-, rfl, hM⟩ | ⟨w', st, p', -⟩⟩
    · exact ⟨rfl, Jd.out0 h.1 hF hM (by omega) h.2.2.2.2.up⟩
    · rw [p] at p'; cases p'
  · have hk := hC.2.2.2.2.2.2.2.2.2.1.2
    obtain ⟨k1, k2⟩ := h.rows hC.1 hk.2
    refine ⟨_, rfl, hC.1, (m_223 k1 nT).mono ?_⟩
    rintro r υ ⟨hF, ⟨p', -⟩ | ⟨w', st, rfl, rfl, hM⟩⟩
    · exact absurd p' p
    · exact ⟨rfl, Jd.out0 hC hF hM (by omega) (by rw [hk.1]; exact h.2.2.2.2.up)⟩
theorem j_152 (h : Jd σ n b N F e0 e1 R D cd V u L w T im) : Ct sc 1 152 [vR 0] σ (fun r τ0 => ∃ z, r = rV (vI z) ∧ Ok τ0 ∧ Ct sc 3 285 [vR 63] τ0 (fun r υ => r = rV (vI z) ∧ Jn (n + 1) υ)) := by
  obtain ⟨n6, nB, nT, nI⟩ := h.N6
  have hVn := h.2.2.2.1
  refine (c_152 h.1).mono ?_
  rintro r τ (⟨p, rfl, rfl⟩ | ⟨p, rfl, hC⟩)
  · refine ⟨_, rfl, h.1.1, (m_285 h.2.1 nT nI).mono ?_⟩
    rintro r υ ⟨hF, ⟨-, rfl, hM⟩ | ⟨p', -⟩⟩
    · exact ⟨rfl, Jd.out0 h.1 hF hM (by omega) h.2.2.2.2.up⟩
    · omega
  · have hk := hC.2.2.2.2.2.2.2.2.2.1.2
    obtain ⟨k1, k2⟩ := h.rows hC.1 hk.2
    refine ⟨_, rfl, hC.1, (m_285 k1 nT nI).mono ?_⟩
    rintro r υ ⟨hF, ⟨p', -⟩ | ⟨-, rfl, hM⟩⟩
    · omega
    · exact ⟨rfl, Jd.out0 hC hF hM (by omega) (by rw [hk.1]; exact h.2.2.2.2.up)⟩
theorem j_153 (h : Jd σ n b N F e0 e1 R D cd V u L w T im) : Ct sc 1 153 [vR 0] σ (fun r τ0 => ∃ z, r = rV (vI z) ∧ Ok τ0 ∧ Ct sc 3 286 [vR 63] τ0 (fun r υ => r = rV (vI z) ∧ Jn (n + 1) υ)) := by
  obtain ⟨n6, nB, nT, nI⟩ := h.N6
  have hVn := h.2.2.2.1
  refine (c_153 h.1).mono ?_
  rintro r τ (⟨p, rfl, rfl⟩ | ⟨im', T', p, rfl, hC⟩)
  · refine ⟨_, rfl, h.1.1, (m_286 h.2.1 nI).mono ?_⟩
    rintro r υ ⟨hF, ⟨-, rfl, hM⟩ | ⟨im', w', st, p', -⟩⟩
    · exact ⟨rfl, Jd.out0 h.1 hF hM (by omega) h.2.2.2.2.up⟩
    · rw [p] at p'
      have := congrArg List.length p'
      simp at this
  · have hk := hC.2.2.2.2.2.2.2.2.2.1.2
    obtain ⟨k1, k2⟩ := h.rows hC.1 hk.2
    refine ⟨_, rfl, hC.1, (m_286 k1 nI).mono ?_⟩
    rintro r υ ⟨hF, ⟨p', -⟩ | ⟨im2, w', st, p2, rfl, hM⟩⟩
    · rw [p'] at p
      have := congrArg List.length p
      simp at this
    · rw [p] at p2
      have h3 := List.append_inj' p2 rfl
      obtain ⟨rfl, h4⟩ := h3
      have h5 : T' = w' :: st := by simpa using h4
      subst h5
      exact ⟨rfl, Jd.out0 hC hF hM (by omega) (by rw [hk.1]; exact h.2.2.2.2.up)⟩
end JST
