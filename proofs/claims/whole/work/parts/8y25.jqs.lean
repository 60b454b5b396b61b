/-! Each question, asked of both (written by wip/gen8y25.py) -/
section JQS
variable {sc : jSc} {σ : jH} {D : jD} {b : Nat → Int} {N n : Nat} {F e0 e1 R V L : Int} {cd : lC} {u w : Nat → Int} {T : List (Nat → Int)} {im : List (List (Nat → Int))}
theorem Kp.w0 {km m : Nat} {ms : List jV} {hc : Nat → Int} {r : jR} {τ : jH} (h : Kp sc km m ms n (fun x => x = 0) hc r τ) : ((∃ z, r = rV (vI z)) ∨ r = rT 0) ∧ Ok τ := ⟨h.w.1.imp (fun z => z) (fun ⟨x, a, c⟩ => by rw [c, a]), h.w.2⟩
theorem Kp.w1 {km m : Nat} {ms : List jV} {hc : Nat → Int} {r : jR} {τ : jH} (h : Kp sc km m ms n (fun x => x = 1) hc r τ) : ((∃ z, r = rV (vI z)) ∨ r = rT 1) ∧ Ok τ := ⟨h.w.1.imp (fun z => z) (fun ⟨x, a, c⟩ => by rw [c, a]), h.w.2⟩
theorem Kp.w2 {km m : Nat} {ms : List jV} {hc : Nat → Int} {r : jR} {τ : jH} (h : Kp sc km m ms n (fun x => x = 0 ∨ x = 1) hc r τ) : ((∃ z, r = rV (vI z)) ∨ (r = rT 0 ∨ r = rT 1)) ∧ Ok τ := ⟨h.w.1.imp (fun z => z) (fun ⟨x, a, c⟩ => a.imp (fun a => by rw [c, a]) (fun a => by rw [c, a])), h.w.2⟩
theorem KpL.w0 {km m : Nat} {ms : List jV} {hc : Nat → Int} {r : jR} {τ : jH} (h : KpL sc km m ms n (fun x => x = 0) hc r τ) : ((∃ z, r = rV (vL z)) ∨ r = rT 0) ∧ Ok τ := ⟨h.w.1.imp (fun z => z) (fun ⟨x, a, c⟩ => by rw [c, a]), h.w.2⟩
theorem j_296 {x : Int} (h : Jd σ n b N F e0 e1 R D cd V u L w T im) (h0 : -2147483648 ≤ x ∧ x ≤ 2147483647) : Ct sc 4 296 [vR 0, vI x, vR 102] σ (Qw (Kp sc 3 224 [vR 63, vI x] n (fun x => x = 0) (fun _ => 1)) (fun _ => 1)) := by
  refine w_296 h.1.1 (jq0 h (A := fun z => z = (if x = 0 then D 0 0 else if x = 1 then D 0 1 else if x = 2 then D 0 2 else if x = 3 then w 168 else if x = 4 then w 170 else if x = 5 then w 169 else if x = 6 then (cntW w 1 8 : Nat) else if x = 7 then (cntW w 2 8 : Nat) else if x = 8 then L else R)) ((c_119 h.1 h0).mono ?_) (fun τ hM hw => m_224 hM hw h.W h0) (fun r g z hz => by rw [g, hz])) (fun r τ hk => Kp.w0 hk)
  · rintro r τ (⟨p, rfl, rfl⟩ | ⟨p, rfl, rfl⟩)
    · exact Or.inl ⟨p, ⟨_, rfl, rfl⟩, h.1⟩
    · exact Or.inr ⟨p, rfl, rfl⟩
theorem j_297 {x y : Int} (h : Jd σ n b N F e0 e1 R D cd V u L w T im) (h0 : -2147483648 ≤ x ∧ x ≤ 2147483647) (h1 : -2147483648 ≤ y ∧ y ≤ 2147483647) : Ct sc 4 297 [vR 0, vI x, vI y, vR 102] σ (Qw (Kp sc 3 227 [vR 63, vI x, vI y] n (fun x => x = 0 ∨ x = 1) (fun x => if x = 1 then 1 else 2)) (fun x => if x = 1 then 1 else 2)) := by
  refine w_297 h.1.1 (jq2 h (A := fun z => z = wgV D w x.toNat y) ((c_120 h.1 h0 h1).mono ?_) (fun τ hM hw => m_227 hM hw h.W h0 h1) (fun r g z hz => by rw [g, hz])) (fun r τ hk => Kp.w2 hk)
  · rintro r τ (⟨p, p2, rfl, rfl⟩ | ⟨p, p2, rfl, rfl⟩ | ⟨p, rfl, rfl⟩)
    · exact Or.inl ⟨p, p2, ⟨_, rfl, rfl⟩, h.1⟩
    · exact Or.inr (Or.inl ⟨p, p2, rfl, rfl⟩)
    · exact Or.inr (Or.inr ⟨p, rfl, rfl⟩)
theorem j_298 {x : Int} (h : Jd σ n b N F e0 e1 R D cd V u L w T im) (h0 : -2147483648 ≤ x ∧ x ≤ 2147483647) : Ct sc 4 298 [vR 0, vI x, vR 102] σ (Qw (Kp sc 3 228 [vR 63, vI x] n (fun x => x = 0) (fun _ => 1)) (fun _ => 1)) := by
  refine w_298 h.1.1 (jq0 h (A := fun z => z = std w x.toNat (D 0 0).toNat) ((c_121 h.1 h0).mono ?_) (fun τ hM hw => m_228 hM hw h.W h0) (fun r g z hz => by rw [g, hz])) (fun r τ hk => Kp.w0 hk)
  · rintro r τ (⟨p, rfl, rfl⟩ | ⟨p, rfl, rfl⟩)
    · exact Or.inl ⟨p, ⟨_, rfl, rfl⟩, h.1⟩
    · exact Or.inr ⟨p, rfl, rfl⟩
theorem j_299 {x : Int} (h : Jd σ n b N F e0 e1 R D cd V u L w T im) (h0 : -2147483648 ≤ x ∧ x ≤ 2147483647) : Ct sc 4 299 [vR 0, vI x, vR 102] σ (Qw (Kp sc 3 229 [vR 63, vI x] n (fun x => x = 0) (fun _ => 1)) (fun _ => 1)) := by
  refine w_299 h.1.1 (jq0 h (A := fun z => z = D 6 x.toNat) ((c_122 h.1 h0).mono ?_) (fun τ hM hw => m_229 hM hw h0) (fun r g z hz => by rw [g, hz])) (fun r τ hk => Kp.w0 hk)
  · rintro r τ (⟨p, rfl, rfl⟩ | ⟨p, rfl, rfl⟩)
    · exact Or.inl ⟨p, ⟨_, rfl, rfl⟩, h.1⟩
    · exact Or.inr ⟨p, rfl, rfl⟩
theorem j_300 {x y : Int} (h : Jd σ n b N F e0 e1 R D cd V u L w T im) (h0 : -2147483648 ≤ x ∧ x ≤ 2147483647) (h1 : -2147483648 ≤ y ∧ y ≤ 2147483647) : Ct sc 4 300 [vR 0, vI x, vI y, vR 102] σ (Qw (Kp sc 3 230 [vR 63, vI x, vI y] n (fun x => x = 1) (fun _ => 1)) (fun _ => 1)) := by
  refine w_300 h.1.1 (jq1 h (A := fun z => z = D 5 (8 * x.toNat + y.toNat)) ((c_123 h.1 h0 h1).mono ?_) (fun τ hM hw => m_230 hM hw h0 h1) (fun r g z hz => by rw [g, hz])) (fun r τ hk => Kp.w1 hk)
  · rintro r τ (⟨p, rfl, rfl⟩ | ⟨p, rfl, rfl⟩)
    · exact Or.inl ⟨p, ⟨_, rfl, rfl⟩, h.1⟩
    · exact Or.inr ⟨p, rfl, rfl⟩
theorem j_301 {x y : Int} (h : Jd σ n b N F e0 e1 R D cd V u L w T im) (h0 : -2147483648 ≤ x ∧ x ≤ 2147483647) (h1 : -2147483648 ≤ y ∧ y ≤ 2147483647) : Ct sc 6 301 [vR 0, vI x, vI y, vR 102] σ (Qw (Kp sc 5 231 [vR 63, vI x, vI y] n (fun x => x = 0 ∨ x = 1) (fun x => if x = 1 then 1 else 2)) (fun x => if x = 1 then 1 else 2)) := by
  refine w_301 h.1.1 (jq2 h (A := fun z => z = lsl (fcW D w 0 x.toNat y.toNat) (lX cd)) ((c_124 h.1 h0 h1).mono ?_) (fun τ hM hw => m_231 hM hw h.W h0 h1) (fun r g z hz => by rw [g, hz])) (fun r τ hk => Kp.w2 hk)
  · rintro r τ (⟨p, p2, rfl, hC⟩ | ⟨p, p2, rfl, rfl⟩ | ⟨p, rfl, rfl⟩)
    · exact Or.inl ⟨p, p2, ⟨_, rfl, rfl⟩, hC⟩
    · exact Or.inr (Or.inl ⟨p, p2, rfl, rfl⟩)
    · exact Or.inr (Or.inr ⟨p, rfl, rfl⟩)
theorem j_302 {va vb vc vd ve vf : Int} (h : Jd σ n b N F e0 e1 R D cd V u L w T im) (h0 : -2147483648 ≤ va ∧ va ≤ 2147483647) (h1 : -2147483648 ≤ vb ∧ vb ≤ 2147483647) (h2 : -2147483648 ≤ vc ∧ vc ≤ 2147483647) (h3 : -2147483648 ≤ vd ∧ vd ≤ 2147483647) (h4 : -2147483648 ≤ ve ∧ ve ≤ 2147483647) (h5 : -2147483648 ≤ vf ∧ vf ≤ 2147483647) : Ct sc 4 302 [vR 0, vI va, vI vb, vI vc, vI vd, vI ve, vI vf, vR 102] σ (Qw (Kp sc 4 232 [vR 63, vI va, vI vb, vI vc, vI vd, vI ve, vI vf] n (fun x => x = 0) (fun _ => 1)) (fun _ => 1)) := by
  refine w_302 h.1.1 (jq0 h (A := fun z => z = lsl (fcv va vb vc vd ve vf) (lX cd)) ((c_125 h.1 h0 h1 h2 h3 h4 h5).mono ?_) (fun τ hM hw => m_232 hM hw h0 h1 h2 h3 h4 h5) (fun r g z hz => by rw [g, hz])) (fun r τ hk => Kp.w0 hk)
  · rintro r τ (⟨p, rfl, hC⟩ | ⟨p, rfl, rfl⟩)
    · exact Or.inl ⟨p, ⟨_, rfl, rfl⟩, hC⟩
    · exact Or.inr ⟨p, rfl, rfl⟩
theorem j_304 {x : Int} (h : Jd σ n b N F e0 e1 R D cd V u L w T im) (h0 : -2147483648 ≤ x ∧ x ≤ 2147483647) : Ct sc 4 304 [vR 0, vI x, vR 102] σ (Qw (Kp sc 3 238 [vR 63, vI x] n (fun x => x = 1) (fun _ => 1)) (fun _ => 1)) := by
  refine w_304 h.1.1 (jq1 h (A := fun z => z = smI (ttC D (fun b => w (8 + b)) x.toNat) (D 0 0).toNat) ((c_128 h.1 h0).mono ?_) (fun τ hM hw => m_238 hM hw h.W h0) (fun r g z hz => by rw [g, hz])) (fun r τ hk => Kp.w1 hk)
  · rintro r τ (⟨p, rfl, rfl⟩ | ⟨p, rfl, rfl⟩)
    · exact Or.inl ⟨p, ⟨_, rfl, tiS_is h.WDD h.W (by have := h.D8; omega) (by have := h.D8; omega)⟩, h.1⟩
    · exact Or.inr ⟨p, rfl, rfl⟩
theorem j_305 {x : Int} (h : Jd σ n b N F e0 e1 R D cd V u L w T im) (h0 : -2147483648 ≤ x ∧ x ≤ 2147483647) : Ct sc 5 305 [vR 0, vI x, vR 102] σ (Qw (Kp sc 13 241 [vR 63, vI x] n (fun x => x = 0) (fun _ => 1)) (fun _ => 1)) := by
  obtain ⟨k, hn⟩ := Int.eq_ofNat_of_zero_le h.D8.1
  refine w_305 h.1.1 (jq0 h (A := fun z => ∃ d, BsO D k x.toNat d ∧ z = FCb D x.toNat d k) ((c_129 h.1 hn h0).mono ?_) (fun τ hM hw => m_241 hM hw hn h0) (fun r g z hz => by obtain ⟨d, d1, rfl⟩ := hz; exact g d d1)) (fun r τ hk => Kp.w0 hk)
  · rintro r τ (⟨p, ⟨d, d1, rfl⟩, hC⟩ | ⟨p, rfl, rfl⟩)
    · exact Or.inl ⟨p, ⟨_, rfl, d, d1, rfl⟩, hC⟩
    · exact Or.inr ⟨p, rfl, rfl⟩
theorem j_306 {x y : Int} (h : Jd σ n b N F e0 e1 R D cd V u L w T im) (h0 : -2147483648 ≤ x ∧ x ≤ 2147483647) (h1 : -2147483648 ≤ y ∧ y ≤ 2147483647) : Ct sc 5 306 [vR 0, vI x, vI y, vR 102] σ (Qw (Kp sc 13 242 [vR 63, vI x, vI y] n (fun x => x = 0 ∨ x = 1) (fun x => if x = 1 then 1 else 2)) (fun x => if x = 1 then 1 else 2)) := by
  obtain ⟨k, hn⟩ := Int.eq_ofNat_of_zero_le h.D8.1
  refine w_306 h.1.1 (jq2 h (A := fun z => ∃ d, BsO D k x.toNat d ∧ z = d y.toNat) ((c_130 h.1 hn h0 h1).mono ?_) (fun τ hM hw => m_242 hM hw hn h0 h1) (fun r g z hz => by obtain ⟨d, d1, rfl⟩ := hz; exact g d d1)) (fun r τ hk => Kp.w2 hk)
  · rintro r τ (⟨p, p2, ⟨d, d1, rfl⟩, hC⟩ | ⟨p, p2, rfl, rfl⟩ | ⟨p, rfl, rfl⟩)
    · exact Or.inl ⟨p, p2, ⟨_, rfl, d, d1, rfl⟩, hC⟩
    · exact Or.inr (Or.inl ⟨p, p2, rfl, rfl⟩)
    · exact Or.inr (Or.inr ⟨p, rfl, rfl⟩)
theorem j_307 {x : Int} (h : Jd σ n b N F e0 e1 R D cd V u L w T im) (h0 : -2147483648 ≤ x ∧ x ≤ 2147483647) : Ct sc 4 307 [vR 0, vI x, vR 102] σ (Qw (Kp sc 4 243 [vR 63, vI x] n (fun x => x = 1) (fun _ => 1)) (fun _ => 1)) := by
  obtain ⟨k, hn⟩ := Int.eq_ofNat_of_zero_le h.D8.1
  refine w_307 h.1.1 (jq1 h (A := fun z => z = raV D w k x.toNat) ((c_131 h.1 hn h0).mono ?_) (fun τ hM hw => m_243 hM hw h.W hn h0) (fun r g z hz => by rw [g, hz])) (fun r τ hk => Kp.w1 hk)
  · rintro r τ (⟨p, rfl, rfl⟩ | ⟨p, rfl, rfl⟩)
    · exact Or.inl ⟨p, ⟨_, rfl, rfl⟩, h.1⟩
    · exact Or.inr ⟨p, rfl, rfl⟩
theorem j_308 {x : Int} (h : Jd σ n b N F e0 e1 R D cd V u L w T im) (h0 : -2147483648 ≤ x ∧ x ≤ 2147483647) : Ct sc 5 308 [vR 0, vI x, vR 102] σ (Qw (Kp sc 3 248 [vR 63, vI x] n (fun x => x = 0) (fun _ => 1)) (fun _ => 1)) := by
  obtain ⟨k, hn⟩ := Int.eq_ofNat_of_zero_le h.D8.1
  refine w_308 h.1.1 (jq0 h (A := fun z => z = ((ldR D k).getD x.toNat 0 : Nat)) ((c_133 h.1 hn h0).mono ?_) (fun τ hM hw => m_248 hM hw hn h0) (fun r g z hz => by rw [g, hz])) (fun r τ hk => Kp.w0 hk)
  · rintro r τ (⟨p, rfl, hC⟩ | ⟨p, rfl, rfl⟩)
    · exact Or.inl ⟨p, ⟨_, rfl, rfl⟩, hC⟩
    · exact Or.inr ⟨p, rfl, rfl⟩
theorem j_309 {x : Int} (h : Jd σ n b N F e0 e1 R D cd V u L w T im) (h0 : -2147483648 ≤ x ∧ x ≤ 2147483647) : Ct sc 14 309 [vR 0, vI x, vR 102] σ (Qw (Kp sc 13 252 [vR 63, vI x] n (fun x => x = 0) (fun _ => 1)) (fun _ => 1)) := by
  obtain ⟨k, hn⟩ := Int.eq_ofNat_of_zero_le h.D8.1
  refine w_309 h.1.1 (jq0 h (A := fun z => ∃ t d, CrOk D k (D 0 1).toNat x.toNat t d ∧ z = t) ((c_135 h.1 hn h0).mono ?_) (fun τ hM hw => m_252 hM hw hn h0) (fun r g z hz => by obtain ⟨t, d, d1, rfl⟩ := hz; exact g _ d d1)) (fun r τ hk => Kp.w0 hk)
  · rintro r τ (⟨p, ⟨t, d, d1, rfl⟩, hC⟩ | ⟨p, rfl, rfl⟩)
    · exact Or.inl ⟨p, ⟨_, rfl, t, d, d1, rfl⟩, hC⟩
    · exact Or.inr ⟨p, rfl, rfl⟩
theorem j_310 {x y : Int} (h : Jd σ n b N F e0 e1 R D cd V u L w T im) (h0 : -2147483648 ≤ x ∧ x ≤ 2147483647) (h1 : -2147483648 ≤ y ∧ y ≤ 2147483647) : Ct sc 14 310 [vR 0, vI x, vI y, vR 102] σ (Qw (Kp sc 13 253 [vR 63, vI x, vI y] n (fun x => x = 0 ∨ x = 1) (fun x => if x = 1 then 1 else 2)) (fun x => if x = 1 then 1 else 2)) := by
  obtain ⟨k, hn⟩ := Int.eq_ofNat_of_zero_le h.D8.1
  refine w_310 h.1.1 (jq2 h (A := fun z => ∃ t d, CrOk D k (D 0 1).toNat x.toNat t d ∧ z = d y.toNat) ((c_136 h.1 hn h0 h1).mono ?_) (fun τ hM hw => m_253 hM hw hn h0 h1) (fun r g z hz => by obtain ⟨t, d, d1, rfl⟩ := hz; exact g _ d d1)) (fun r τ hk => Kp.w2 hk)
  · rintro r τ (⟨p, p2, ⟨t, d, d1, rfl⟩, hC⟩ | ⟨p, p2, rfl, rfl⟩ | ⟨p, rfl, rfl⟩)
    · exact Or.inl ⟨p, p2, ⟨_, rfl, t, d, d1, rfl⟩, hC⟩
    · exact Or.inr (Or.inl ⟨p, p2, rfl, rfl⟩)
    · exact Or.inr (Or.inr ⟨p, rfl, rfl⟩)
theorem j_311 {x : Int} (h : Jd σ n b N F e0 e1 R D cd V u L w T im) (h0 : -2147483648 ≤ x ∧ x ≤ 2147483647) : Ct sc 4 311 [vR 0, vI x, vR 102] σ (Qw (Kp sc 3 254 [vR 63, vI x] n (fun x => x = 1) (fun _ => 1)) (fun _ => 1)) := by
  refine w_311 h.1.1 (jq1 h (A := fun z => z = bhW w x.toNat) ((c_137 h.1 h0).mono ?_) (fun τ hM hw => m_254 hM hw h.W h0) (fun r g z hz => by rw [g, hz])) (fun r τ hk => Kp.w1 hk)
  · rintro r τ (⟨p, rfl, rfl⟩ | ⟨p, rfl, rfl⟩)
    · exact Or.inl ⟨p, ⟨_, rfl, rfl⟩, h.1⟩
    · exact Or.inr ⟨p, rfl, rfl⟩
theorem j_312 {x y v : Int} (h : Jd σ n b N F e0 e1 R D cd V u L w T im) (h0 : -2147483648 ≤ x ∧ x ≤ 2147483647) (h1 : -2147483648 ≤ y ∧ y ≤ 2147483647) (h2 : -2147483648 ≤ v ∧ v ≤ 2147483647) : Ct sc 3 312 [vR 0, vI x, vI y, vI v, vR 102] σ (Qw (Kp sc 2 255 [vR 63, vI x, vI y, vI v] n (fun x => x = 0) (fun _ => 1)) (fun _ => 1)) := by
  refine w_312 h.1.1 (jq0 h (A := fun z => z = ovR (D 0 5).toNat x.toNat y.toNat v.toNat) ((c_138 h.1 h0 h1 h2).mono ?_) (fun τ hM hw => m_255 hM hw h0 h1 h2) (fun r g z hz => by rw [g, hz])) (fun r τ hk => Kp.w0 hk)
  · rintro r τ (⟨p, rfl, rfl⟩ | ⟨p, rfl, rfl⟩)
    · exact Or.inl ⟨p, ⟨_, rfl, rfl⟩, h.1⟩
    · exact Or.inr ⟨p, rfl, rfl⟩
theorem j_313 {x y : Int} (h : Jd σ n b N F e0 e1 R D cd V u L w T im) (h0 : -2147483648 ≤ x ∧ x ≤ 2147483647) (h1 : -2147483648 ≤ y ∧ y ≤ 2147483647) : Ct sc 5 313 [vR 0, vI x, vI y, vR 102] σ (Qw (Kp sc 3 258 [vR 63, vI x, vI y] n (fun x => x = 0) (fun _ => 1)) (fun _ => 1)) := by
  refine w_313 h.1.1 (jq0 h (A := fun z => WyO D x.toNat y.toNat z) ((c_139 h.1 h0 h1).mono ?_) (fun τ hM hw => m_258 hM hw h.1.wy h0 h1) (fun r g z hz => g z hz)) (fun r τ hk => Kp.w0 hk)
  · rintro r τ (⟨p, ⟨Y, d1, rfl⟩, hC⟩ | ⟨p, rfl, rfl⟩)
    · exact Or.inl ⟨p, ⟨_, rfl, d1⟩, hC⟩
    · exact Or.inr ⟨p, rfl, rfl⟩
theorem j_314 {x : Int} (h : Jd σ n b N F e0 e1 R D cd V u L w T im) (h0 : -2147483648 ≤ x ∧ x ≤ 2147483647) : Ct sc 5 314 [vR 0, vI x, vR 102] σ (Qw (Kp sc 3 259 [vR 63, vI x] n (fun x => x = 0) (fun _ => 1)) (fun _ => 1)) := by
  refine w_314 h.1.1 (jq0 h (A := fun z => z = waK D x.toNat) ((c_140 h.1 h0).mono ?_) (fun τ hM hw => m_259 hM hw h.1.wy h0) (fun r g z hz => by rw [g, hz])) (fun r τ hk => Kp.w0 hk)
  · rintro r τ (⟨p, rfl, hC⟩ | ⟨p, rfl, rfl⟩)
    · exact Or.inl ⟨p, ⟨_, rfl, rfl⟩, hC⟩
    · exact Or.inr ⟨p, rfl, rfl⟩
theorem j_315 {x y : Int} (h : Jd σ n b N F e0 e1 R D cd V u L w T im) (h0 : -2147483648 ≤ x ∧ x ≤ 2147483647) (h1 : -2147483648 ≤ y ∧ y ≤ 2147483647) : Ct sc 4 315 [vR 0, vI x, vI y, vR 102] σ (Qw (Kp sc 3 265 [vR 63, vI x, vI y] n (fun x => x = 0) (fun _ => 1)) (fun _ => 1)) := by
  refine w_315 h.1.1 (jq0 h (A := fun z => z = (lkN D x.toNat y.toNat (D 0 2).toNat : Nat)) ((c_141 h.1 h0 h1).mono ?_) (fun τ hM hw => m_265 hM hw h0 h1) (fun r g z hz => by rw [g, hz])) (fun r τ hk => Kp.w0 hk)
  · rintro r τ (⟨p, rfl, rfl⟩ | ⟨p, rfl, rfl⟩)
    · exact Or.inl ⟨p, ⟨_, rfl, rfl⟩, h.1⟩
    · exact Or.inr ⟨p, rfl, rfl⟩
theorem j_316 {x y v : Int} (h : Jd σ n b N F e0 e1 R D cd V u L w T im) (h0 : -2147483648 ≤ x ∧ x ≤ 2147483647) (h1 : -2147483648 ≤ y ∧ y ≤ 2147483647) (h2 : -2147483648 ≤ v ∧ v ≤ 2147483647) : Ct sc 5 316 [vR 0, vI x, vI y, vI v, vR 102] σ (Qw (Kp sc 5 266 [vR 63, vI x, vI y, vI v] n (fun x => x = 0) (fun _ => 1)) (fun _ => 1)) := by
  refine w_316 h.1.1 (jq0 h (A := fun z => z = (agW D x.toNat y.toNat v.toNat : Nat)) ((c_142 h.1 h0 h1 h2).mono ?_) (fun τ hM hw => m_266 hM hw h0 h1 h2) (fun r g z hz => by rw [g, hz])) (fun r τ hk => Kp.w0 hk)
  · rintro r τ (⟨p, rfl, rfl⟩ | ⟨p, rfl, rfl⟩)
    · exact Or.inl ⟨p, ⟨_, rfl, rfl⟩, h.1⟩
    · exact Or.inr ⟨p, rfl, rfl⟩
theorem j_317 {x y : Int} (h : Jd σ n b N F e0 e1 R D cd V u L w T im) (h0 : -2147483648 ≤ x ∧ x ≤ 2147483647) (h1 : -2147483648 ≤ y ∧ y ≤ 2147483647) : Ct sc 5 317 [vR 0, vI x, vI y, vR 102] σ (Qw (Kp sc 5 267 [vR 63, vI x, vI y] n (fun x => x = 0) (fun _ => 1)) (fun _ => 1)) := by
  refine w_317 h.1.1 (jq0 h (A := fun z => z = (agK D x.toNat y.toNat 9 : Nat)) ((c_143 h.1 h0 h1).mono ?_) (fun τ hM hw => m_267 hM hw h0 h1) (fun r g z hz => by rw [g, hz])) (fun r τ hk => Kp.w0 hk)
  · rintro r τ (⟨p, rfl, rfl⟩ | ⟨p, rfl, rfl⟩)
    · exact Or.inl ⟨p, ⟨_, rfl, rfl⟩, h.1⟩
    · exact Or.inr ⟨p, rfl, rfl⟩
theorem j_318 {x : Int} (h : Jd σ n b N F e0 e1 R D cd V u L w T im) (h0 : -2147483648 ≤ x ∧ x ≤ 2147483647) : Ct sc 5 318 [vR 0, vI x, vR 102] σ (Qw (Kp sc 4 273 [vR 63, vI x] n (fun x => x = 0) (fun _ => 1)) (fun _ => 1)) := by
  refine w_318 h.1.1 (jq0 h (A := fun z => z = (if x = 0 then (lkO u w 12).1 else (lkO u w 12).2)) ((c_146 h.1 h0).mono ?_) (fun τ hM hw => m_273 hM hw h.W h0) (fun r g z hz => by rw [g, hz])) (fun r τ hk => Kp.w0 hk)
  · rintro r τ (⟨p, rfl, rfl⟩ | ⟨p, rfl, rfl⟩)
    · exact Or.inl ⟨p, ⟨_, rfl, rfl⟩, h.1⟩
    · exact Or.inr ⟨p, rfl, rfl⟩
theorem j_319 {x y : Int} (h : Jd σ n b N F e0 e1 R D cd V u L w T im) (h0 : -2147483648 ≤ x ∧ x ≤ 2147483647) (h1 : -2147483648 ≤ y ∧ y ≤ 2147483647) : Ct sc 4 319 [vR 0, vI x, vI y, vR 102] σ (Qw (Kp sc 2 274 [vR 63, vI x, vI y] n (fun x => x = 0) (fun _ => 1)) (fun _ => 1)) := by
  refine w_319 h.1.1 (jq0 h (A := fun z => z = w (24 + 12 * x.toNat + y.toNat)) ((c_147 h.1 h0 h1).mono ?_) (fun τ hM hw => m_274 hM hw h0 h1) (fun r g z hz => by rw [g, hz])) (fun r τ hk => Kp.w0 hk)
  · rintro r τ (⟨p, rfl, rfl⟩ | ⟨p, rfl, rfl⟩)
    · exact Or.inl ⟨p, ⟨_, rfl, rfl⟩, h.1⟩
    · exact Or.inr ⟨p, rfl, rfl⟩
theorem j_320 {x y : Int} (h : Jd σ n b N F e0 e1 R D cd V u L w T im) (h0 : -2147483648 ≤ x ∧ x ≤ 2147483647) (h1 : -2147483648 ≤ y ∧ y ≤ 2147483647) : Ct sc 3 320 [vR 0, vI x, vI y, vR 102] σ (QwL (KpL sc 2 277 [vR 63, vI x, vI y] n (fun x => x = 0) (fun _ => 1)) (fun _ => 1)) := by
  obtain ⟨f, hf⟩ := Int.eq_ofNat_of_zero_le (show 0 ≤ D 0 6 by have := h.WDD.1; omega)
  refine w_320 h.1.1 (jqL h (A := fun z => z = (lsT ((16 - f) ^ x.toNat) (16 ^ x.toNat) y.toNat : Nat)) ((c_148 h.1 hf h0 h1).mono ?_) (fun τ hM hw => m_277 hM hw hf h0 h1) (fun r g z hz => by rw [g, hz])) (fun r τ hk => KpL.w0 hk)
  · rintro r τ (⟨p, rfl, rfl⟩ | ⟨p, rfl, rfl⟩)
    · exact Or.inl ⟨p, ⟨_, rfl, rfl⟩, h.1⟩
    · exact Or.inr ⟨p, rfl, rfl⟩
theorem j_321 {x y : Int} (h : Jd σ n b N F e0 e1 R D cd V u L w T im) (h0 : -2147483648 ≤ x ∧ x ≤ 2147483647) (h1 : -2147483648 ≤ y ∧ y ≤ 2147483647) : Ct sc 3 321 [vR 0, vI x, vI y, vR 102] σ (QwL (KpL sc 2 278 [vR 63, vI x, vI y] n (fun x => x = 0) (fun _ => 1)) (fun _ => 1)) := by
  obtain ⟨f, hf⟩ := Int.eq_ofNat_of_zero_le (show 0 ≤ D 0 6 by have := h.WDD.1; omega)
  refine w_321 h.1.1 (jqL h (A := fun z => z = (lsT (ahU (16 - f) x.toNat) (16 ^ x.toNat) y.toNat : Nat)) ((c_149 h.1 hf h0 h1).mono ?_) (fun τ hM hw => m_278 hM hw hf h0 h1) (fun r g z hz => by rw [g, hz])) (fun r τ hk => KpL.w0 hk)
  · rintro r τ (⟨p, rfl, rfl⟩ | ⟨p, rfl, rfl⟩)
    · exact Or.inl ⟨p, ⟨_, rfl, rfl⟩, h.1⟩
    · exact Or.inr ⟨p, rfl, rfl⟩
theorem j_322 {s x y : Int} (h : Jd σ n b N F e0 e1 R D cd V u L w T im) (h0 : -2147483648 ≤ s ∧ s ≤ 2147483647) (h1 : -2147483648 ≤ x ∧ x ≤ 2147483647) (h2 : -2147483648 ≤ y ∧ y ≤ 2147483647) : Ct sc 9 322 [vR 0, vI s, vI x, vI y, vR 102] σ (Qw (Kp sc 9 281 [vR 63, vI s, vI x, vI y] n (fun x => x = 0) (fun _ => 1)) (fun _ => 1)) := by
  refine w_322 h.1.1 (jq0 h (A := fun z => z = snV D cd w s x.toNat y) ((c_150 h.1 h1 h2).mono ?_) (fun τ hM hw => m_281 hM hw h.W h1 h2) (fun r g z hz => by rw [g, hz])) (fun r τ hk => Kp.w0 hk)
  · rintro r τ (⟨p, rfl, hC⟩ | ⟨p, rfl, rfl⟩)
    · exact Or.inl ⟨p, ⟨_, rfl, rfl⟩, hC⟩
    · exact Or.inr ⟨p, rfl, rfl⟩
theorem j_323 {s x y v a : Int} (h : Jd σ n b N F e0 e1 R D cd V u L w T im) (h0 : -2147483648 ≤ s ∧ s ≤ 2147483647) (h1 : -2147483648 ≤ x ∧ x ≤ 2147483647) (h2 : -2147483648 ≤ y ∧ y ≤ 2147483647) (h3 : -2147483648 ≤ v ∧ v ≤ 2147483647) (h4 : -2147483648 ≤ a ∧ a ≤ 2147483647) : Ct sc 9 323 [vR 0, vI s, vI x, vI y, vI v, vI a, vR 102] σ (Qw (Kp sc 9 282 [vR 63, vI s, vI x, vI y, vI v, vI a] n (fun x => x = 0) (fun _ => 1)) (fun _ => 1)) := by
  refine w_323 h.1.1 (jq0 h (A := fun z => z = spV D cd w s x.toNat y.toNat v a.toNat) ((c_151 h.1 h1 h2 h3 h4).mono ?_) (fun τ hM hw => m_282 hM hw h.W h1 h2 h3 h4) (fun r g z hz => by rw [g, hz])) (fun r τ hk => Kp.w0 hk)
  · rintro r τ (⟨p, rfl, hC⟩ | ⟨p, rfl, rfl⟩)
    · exact Or.inl ⟨p, ⟨_, rfl, rfl⟩, hC⟩
    · exact Or.inr ⟨p, rfl, rfl⟩
theorem j_117 (h : Jd σ n b N F e0 e1 R D cd V u L w T im)  : Ct sc 1 117 [vR 0] σ (fun r τ0 => ∃ z, r = rV (vI z) ∧ Ok τ0 ∧ Ct sc 1 184 [vR 63] τ0 (fun r υ => r = rV (vI z) ∧ Jn (n + 1) υ)) := by
  refine jqP h (A := fun z => z = F) ((c_117 h.1).mono ?_) (fun τ hM hw => m_184 hM hw) (fun r g z hz => by rw [g, hz])
  · rintro r τ ⟨rfl, rfl⟩
    exact ⟨⟨_, rfl, rfl⟩, h.1⟩
theorem j_127 (h : Jd σ n b N F e0 e1 R D cd V u L w T im)  : Ct sc 3 127 [vR 0] σ (fun r τ0 => ∃ z, r = rV (vI z) ∧ Ok τ0 ∧ Ct sc 3 237 [vR 63] τ0 (fun r υ => r = rV (vI z) ∧ Jn (n + 1) υ)) := by
  obtain ⟨k, hn⟩ := Int.eq_ofNat_of_zero_le h.D8.1
  refine jqP h (A := fun z => z = csC D (fun b => w (8 + b)) (D 0 0).toNat) ((c_127 h.1 hn).mono ?_) (fun τ hM hw => m_237 hM hw h.W) (fun r g z hz => by rw [g, hz])
  · rintro r τ ⟨rfl, rfl⟩
    refine ⟨⟨_, rfl, ?_⟩, h.1⟩
    rw [show (D 0 0).toNat = k by omega]
    exact cost_is h.WDD h.W (by have := h.D8; omega)
theorem j_132 (h : Jd σ n b N F e0 e1 R D cd V u L w T im)  : Ct sc 4 132 [vR 0] σ (fun r τ0 => ∃ z, r = rV (vI z) ∧ Ok τ0 ∧ Ct sc 3 247 [vR 63] τ0 (fun r υ => r = rV (vI z) ∧ Jn (n + 1) υ)) := by
  obtain ⟨k, hn⟩ := Int.eq_ofNat_of_zero_le h.D8.1
  refine jqP h (A := fun z => z = (bhS D k 0 : Nat)) ((c_132 h.1).mono ?_) (fun τ hM hw => m_247 hM hw hn) (fun r g z hz => by rw [g, hz])
  · rintro r τ ⟨rfl, hC⟩
    exact ⟨⟨_, rfl, by rw [show (D 0 0).toNat = k by omega]⟩, hC⟩
theorem j_134 (h : Jd σ n b N F e0 e1 R D cd V u L w T im)  : Ct sc 4 134 [vR 0] σ (fun r τ0 => ∃ z, r = rV (vI z) ∧ Ok τ0 ∧ Ct sc 3 249 [vR 63] τ0 (fun r υ => r = rV (vI z) ∧ Jn (n + 1) υ)) := by
  obtain ⟨k, hn⟩ := Int.eq_ofNat_of_zero_le h.D8.1
  refine jqP h (A := fun z => z = (shS (fun i => (ldR D k).getD i 0) k k : Nat)) ((c_134 h.1 hn).mono ?_) (fun τ hM hw => m_249 hM hw hn) (fun r g z hz => by rw [g, hz])
  · rintro r τ ⟨rfl, hC⟩
    exact ⟨⟨_, rfl, rfl⟩, hC⟩
theorem j_144 (h : Jd σ n b N F e0 e1 R D cd V u L w T im)  : Ct sc 2 144 [vR 0] σ (fun r τ0 => ∃ z, r = rV (vI z) ∧ Ok τ0 ∧ Ct sc 3 268 [vR 63] τ0 (fun r υ => r = rV (vI z) ∧ Jn (n + 1) υ)) := by
  refine jqP h (A := fun z => z = btA D) ((c_144 h.1).mono ?_) (fun τ hM hw => m_268 hM hw) (fun r g z hz => by rw [g, hz])
  · rintro r τ ⟨rfl, rfl⟩
    exact ⟨⟨_, rfl, rfl⟩, h.1⟩
theorem j_145 (h : Jd σ n b N F e0 e1 R D cd V u L w T im)  : Ct sc 4 145 [vR 0] σ (fun r τ0 => ∃ z, r = rV (vI z) ∧ Ok τ0 ∧ Ct sc 3 271 [vR 63] τ0 (fun r υ => r = rV (vI z) ∧ Jn (n + 1) υ)) := by
  refine jqP h (A := fun z => z = (ftB u w 12 : Nat)) ((c_145 h.1).mono ?_) (fun τ hM hw => m_271 hM hw h.W) (fun r g z hz => by rw [g, hz])
  · rintro r τ ⟨rfl, rfl⟩
    exact ⟨⟨_, rfl, rfl⟩, h.1⟩
theorem j_154 {x : Int} (h : Jd σ n b N F e0 e1 R D cd V u L w T im) (h0 : -2147483648 ≤ x ∧ x ≤ 2147483647) : Ct sc 1 154 [vR 0, vI x] σ (fun r τ0 => ∃ z, r = rV (vI z) ∧ Ok τ0 ∧ Ct sc 2 287 [vR 63, vI x] τ0 (fun r υ => r = rV (vI z) ∧ Jn (n + 1) υ)) := by
  refine jqP h (A := fun z => z = (if x = 0 then e0 else if x = 1 then e1 else -1)) ((c_154 h.1 h0).mono ?_) (fun τ hM hw => m_287 hM hw h0) (fun r g z hz => by rw [g, hz])
  · rintro r τ ⟨rfl, rfl⟩
    exact ⟨⟨_, rfl, rfl⟩, h.1⟩
theorem j_155 {x : Int} (h : Jd σ n b N F e0 e1 R D cd V u L w T im) (h0 : -2147483648 ≤ x ∧ x ≤ 2147483647) : Ct sc 1 155 [vR 0, vI x] σ (fun r τ0 => ∃ z, r = rV (vI z) ∧ Ok τ0 ∧ Ct sc 1 288 [vR 63, vI x] τ0 (fun r υ => r = rV (vI z) ∧ Jn (n + 1) υ)) := by
  refine jqP h (A := fun z => z = (if x = 0 then (im.length : Int) else if x = 1 then (N : Int) else if x = 2 then (T.length : Int) else -1)) ((c_155 h.1 h0).mono ?_) (fun τ hM hw => m_288 hM hw h0) (fun r g z hz => by rw [g, hz])
  · rintro r τ ⟨rfl, rfl⟩
    exact ⟨⟨_, rfl, rfl⟩, h.1⟩
end JQS
