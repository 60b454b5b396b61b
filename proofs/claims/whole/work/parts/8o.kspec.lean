/-! WORK's text: what it tells -/
section KSPEC
variable {D : jD}
/-- steps, and others behind them -/
def wapp : Wk → Wk → Wk
  | .var 0, r => r
  | .op (.op (.var k) (.op (.var a) (.var x))) t, r => wOne k a x (wapp t r)
  | .op (.op (.op (.var n) (.var 0)) b) t, r => wRep n b (wapp t r)
  | t, _ => t
theorem wapp_fin (r : Wk) : wapp wFin r = r := rfl
theorem wapp_one (k a x : Nat) (t r : Wk) : wapp (wOne k a x t) r = wOne k a x (wapp t r) := rfl
theorem wapp_rep (n : Nat) (b t r : Wk) : wapp (wRep n b t) r = wRep n b (wapp t r) := rfl
theorem wapp_nil {x : Wk} (h : okW D x) : wapp x wFin = x := by
  refine wk_ind (D := D) (P := fun x => wapp x wFin = x) rfl ?_ ?_ x h
  · intro k a x r ih; rw [wapp_one, ih]
  · intro n b r _ ih; rw [wapp_rep, ih]
theorem wapp_ass {x : Wk} (h : okW D x) (y z : Wk) : wapp (wapp x y) z = wapp x (wapp y z) := by
  refine wk_ind (D := D) (P := fun x => wapp (wapp x y) z = wapp x (wapp y z)) rfl ?_ ?_ x h
  · intro k a x r ih; rw [wapp_one, wapp_one, wapp_one, ih]
  · intro n b r _ ih; rw [wapp_rep, wapp_rep, wapp_rep, ih]
theorem okW_one {k a x : Nat} {r : Wk} : okW D (wOne k a x r) ↔ k ≤ 3 ∧ (k = 3 ∨ (a : Int) < D 0 0) ∧ (k = 0 → x < 12) ∧ okW D r := Iff.rfl
theorem okW_rep {n : Nat} {b r : Wk} : okW D (wRep n b r) ↔ n ≤ 20 ∧ okW D b ∧ okW D r := Iff.rfl
theorem okW_app {x y : Wk} (h : okW D x) (hy : okW D y) : okW D (wapp x y) := by
  refine wk_ind (D := D) (P := fun x => okW D x → okW D (wapp x y)) ?_ ?_ ?_ x h h
  · intro _; exact hy
  · intro k a x r ih h; rw [wapp_one]; exact ⟨h.1, h.2.1, h.2.2.1, ih h.2.2.2⟩
  · intro n b r _ ih h; rw [wapp_rep]; exact ⟨h.1, h.2.1, ih h.2.2⟩
theorem mlen_one (k a x : Nat) (r : Wk) : mlen (wOne k a x r) = 3 + mlen r := rfl
theorem mlen_rep (n : Nat) (b r : Wk) : mlen (wRep n b r) = 3 + mlen b + mlen r := rfl
theorem clen_one (k a x : Nat) (r : Wk) : clen (wOne k a x r) = 1 + clen r := rfl
theorem clen_rep (n : Nat) (b r : Wk) : clen (wRep n b r) = 2 + clen b + clen r := rfl
theorem dpt_one (k a x : Nat) (r : Wk) : dpt (wOne k a x r) = dpt r := rfl
theorem dpt_rep (n : Nat) (b r : Wk) : dpt (wRep n b r) = max (dpt b + 1) (dpt r) := rfl
theorem mlen_app {x : Wk} (h : okW D x) (y : Wk) : mlen (wapp x y) = mlen x + mlen y := by
  refine wk_ind (D := D) (P := fun x => mlen (wapp x y) = mlen x + mlen y) ?_ ?_ ?_ x h
  · rw [wapp_fin]; simp [mlen]
  · intro k a x r ih; rw [wapp_one, mlen_one, mlen_one, ih]; omega
  · intro n b r _ ih; rw [wapp_rep, mlen_rep, mlen_rep, ih]; omega
theorem clen_app {x : Wk} (h : okW D x) (y : Wk) : clen (wapp x y) = clen x + clen y := by
  refine wk_ind (D := D) (P := fun x => clen (wapp x y) = clen x + clen y) ?_ ?_ ?_ x h
  · rw [wapp_fin]; simp [clen]
  · intro k a x r ih; rw [wapp_one, clen_one, clen_one, ih]; omega
  · intro n b r _ ih; rw [wapp_rep, clen_rep, clen_rep, ih]; omega
theorem dpt_app {x : Wk} (h : okW D x) (y : Wk) : dpt (wapp x y) = max (dpt x) (dpt y) := by
  refine wk_ind (D := D) (P := fun x => dpt (wapp x y) = max (dpt x) (dpt y)) ?_ ?_ ?_ x h
  · rw [wapp_fin]; simp [dpt]
  · intro k a x r ih; rw [wapp_one, dpt_one, dpt_one, ih]
  · intro n b r _ ih; rw [wapp_rep, dpt_rep, dpt_rep, ih]; omega
theorem MCd_app {row : Nat → Int} {x : Wk} (h : okW D x) (y : Wk) : ∀ o, MCd row x o → MCd row y (o + mlen x) → MCd row (wapp x y) o := by
  refine wk_ind (D := D) (P := fun x => ∀ o, MCd row x o → MCd row y (o + mlen x) → MCd row (wapp x y) o) ?_ ?_ ?_ x h
  · intro o _ h; exact h
  · intro k a x r ih o h1 h2
    rw [mlen_one, ← Nat.add_assoc] at h2
    exact ⟨h1.1, h1.2.1, h1.2.2.1, ih _ h1.2.2.2 h2⟩
  · intro n b r _ ih o h1 h2
    rw [mlen_rep, ← Nat.add_assoc, ← Nat.add_assoc] at h2
    exact ⟨h1.1, h1.2.1, h1.2.2.1, h1.2.2.2.1, ih _ h1.2.2.2.2 h2⟩
theorem CCd_app {r0 r1 r2 : Nat → Int} {x : Wk} (h : okW D x) (y : Wk) : ∀ o, CCd r0 r1 r2 x o → CCd r0 r1 r2 y (o + clen x) → CCd r0 r1 r2 (wapp x y) o := by
  refine wk_ind (D := D) (P := fun x => ∀ o, CCd r0 r1 r2 x o → CCd r0 r1 r2 y (o + clen x) → CCd r0 r1 r2 (wapp x y) o) ?_ ?_ ?_ x h
  · intro o _ h; exact h
  · intro k a x r ih o h1 h2
    rw [clen_one, ← Nat.add_assoc] at h2
    exact ⟨h1.1, h1.2.1, h1.2.2.1, ih _ h1.2.2.2 h2⟩
  · intro n b r _ ih o h1 h2
    rw [clen_rep, ← Nat.add_assoc, ← Nat.add_assoc] at h2
    exact ⟨h1.1, h1.2.1, h1.2.2.1, h1.2.2.2.1, h1.2.2.2.2.1, h1.2.2.2.2.2.1, ih _ h1.2.2.2.2.2.2 h2⟩
theorem MCd_con {row row' : Nat → Int} {x : Wk} (h : okW D x) : ∀ o, (∀ j, o ≤ j → j < o + mlen x → row' j = row j) → MCd row x o → MCd row' x o := by
  refine wk_ind (D := D) (P := fun x => ∀ o, (∀ j, o ≤ j → j < o + mlen x → row' j = row j) → MCd row x o → MCd row' x o) ?_ ?_ ?_ x h
  · intro o _ h; exact h
  · intro k a x r ih o hc h1
    rw [mlen_one] at hc
    refine ⟨by rw [hc o (by omega) (by omega)]; exact h1.1, by rw [hc (o + 1) (by omega) (by omega)]; exact h1.2.1, fun z => by rw [hc (o + 2) (by omega) (by omega)]; exact h1.2.2.1 z, ih _ (fun j a b => hc j (by omega) (by omega)) h1.2.2.2⟩
  · intro n b r ihb ih o hc h1
    rw [mlen_rep] at hc
    exact ⟨by rw [hc o (by omega) (by omega)]; exact h1.1, by rw [hc (o + 1) (by omega) (by omega)]; exact h1.2.1, by rw [hc (o + 2) (by omega) (by omega)]; exact h1.2.2.1, ihb _ (fun j a b => hc j (by omega) (by omega)) h1.2.2.2.1, ih _ (fun j a b => hc j (by omega) (by omega)) h1.2.2.2.2⟩
theorem CCd_con {r0 r1 r2 s0 s1 s2 : Nat → Int} {x : Wk} (h : okW D x) : ∀ o, (∀ j, o ≤ j → j < o + clen x → s0 j = r0 j ∧ s1 j = r1 j ∧ s2 j = r2 j) → CCd r0 r1 r2 x o → CCd s0 s1 s2 x o := by
  refine wk_ind (D := D) (P := fun x => ∀ o, (∀ j, o ≤ j → j < o + clen x → s0 j = r0 j ∧ s1 j = r1 j ∧ s2 j = r2 j) → CCd r0 r1 r2 x o → CCd s0 s1 s2 x o) ?_ ?_ ?_ x h
  · intro o _ h; exact h
  · intro k a x r ih o hc h1
    rw [clen_one] at hc
    have h0 := hc o (by omega) (by omega)
    exact ⟨by rw [h0.1]; exact h1.1, by rw [h0.2.1]; exact h1.2.1, fun z => by rw [h0.2.2]; exact h1.2.2.1 z, ih _ (fun j a b => hc j (by omega) (by omega)) h1.2.2.2⟩
  · intro n b r ihb ih o hc h1
    rw [clen_rep] at hc
    have h0 := hc o (by omega) (by omega)
    have h9 := hc (o + 1 + clen b) (by omega) (by omega)
    exact ⟨by rw [h0.1]; exact h1.1, by rw [h0.2.1]; exact h1.2.1, by rw [h0.2.2]; exact h1.2.2.1, ihb _ (fun j a b => hc j (by omega) (by omega)) h1.2.2.2.1, by rw [h9.1]; exact h1.2.2.2.2.1, by rw [h9.2.1]; exact h1.2.2.2.2.2.1, ih _ (fun j a b => hc j (by omega) (by omega)) h1.2.2.2.2.2.2⟩
/-- a step's head: a step that is whole, or a loop that is opened -/
abbrev pHd : Type := (Nat × Nat × Nat) ⊕ Nat
def pH (b : Nat → Int) (e : Nat) (n : Int) (o a : Nat) : Except pF (pHd × Nat) := match wix b (sk b e a) (rn isL b e (sk b e a) - sk b e a) ws3 0 with
  | some 0 => pN b e (rn isL b e (sk b e a)) 0 (n - 1) fun x a1 => pN b e a1 0 11 fun y a2 => pS b e a2 59 fun a3 => .ok (.inl (0, x, y), a3)
  | some 1 => pN b e (rn isL b e (sk b e a)) 0 (n - 1) fun x a1 => pS b e a1 59 fun a2 => .ok (.inl (1, x, 0), a2)
  | some 2 => pN b e (rn isL b e (sk b e a)) 0 (n - 1) fun x a1 => pS b e a1 59 fun a2 => .ok (.inl (2, x, 0), a2)
  | some 3 => pS b e (rn isL b e (sk b e a)) 59 fun a1 => .ok (.inl (3, 0, 0), a1)
  | some (_ + 4) => if 6 ≤ o then .error (3, sk b e a) else pN b e (rn isL b e (sk b e a)) 0 20 fun x a1 => pS b e a1 91 fun a2 => .ok (.inr x, a2)
  | none => .error (1, sk b e a)
/-- such a head -/
def hdO (n : Int) (o : Nat) : pHd → Prop
  | .inl y => y.1 ≤ 3 ∧ (y.1 = 3 ∨ (y.2.1 : Int) < n) ∧ (y.1 = 0 → y.2.2 < 12)
  | .inr x => x ≤ 20 ∧ o < 6
theorem pH_at {b : Nat → Int} {e o a : Nat} {n : Int} {y : pHd} {a' : Nat} (ha : a ≤ e) (h : pH b e n o a = .ok (y, a')) : a + 4 ≤ a' ∧ a' ≤ e ∧ hdO n o y := by
  have hs := sk_ge (b := b) (e := e) (a := a)
  have hs2 := sk_le (b := b) ha
  have hr := rn_ge (q := isL) (b := b) (e := e) (a := sk b e a)
  have hr2 := rn_le (q := isL) (b := b) hs2
  unfold pH at h
  cases hx : wix b (sk b e a) (rn isL b e (sk b e a) - sk b e a) ws3 0 with
  | none => rw [hx] at h; cases h
  | some w =>
    have hw := wix_at hx
    rw [hx] at h
    match w, h, hw with
    | 0, h, hw =>
      have hw1 : rn isL b e (sk b e a) - sk b e a = 3 := hw.1
      obtain ⟨x, a1, h1, h2, h3, h4, h⟩ := pN_at hr2 h
      obtain ⟨z, a2, h5, h6, h7, h8, h⟩ := pN_at h4 h
      obtain ⟨h9, h⟩ := pS_inv h
      have := sk_ge (b := b) (e := e) (a := a2)
      cases h
      refine ⟨by omega, by omega, ?_⟩
      simp only [hdO]
      omega
    | 1, h, hw =>
      have hw1 : rn isL b e (sk b e a) - sk b e a = 4 := hw.1
      obtain ⟨x, a1, h1, h2, h3, h4, h⟩ := pN_at hr2 h
      obtain ⟨h9, h⟩ := pS_inv h
      have := sk_ge (b := b) (e := e) (a := a1)
      cases h
      refine ⟨by omega, by omega, ?_⟩
      simp only [hdO]
      omega
    | 2, h, hw =>
      have hw1 : rn isL b e (sk b e a) - sk b e a = 5 := hw.1
      obtain ⟨x, a1, h1, h2, h3, h4, h⟩ := pN_at hr2 h
      obtain ⟨h9, h⟩ := pS_inv h
      have := sk_ge (b := b) (e := e) (a := a1)
      cases h
      refine ⟨by omega, by omega, ?_⟩
      simp only [hdO]
      omega
    | 3, h, hw =>
      have hw1 : rn isL b e (sk b e a) - sk b e a = 3 := hw.1
      obtain ⟨h9, h⟩ := pS_inv h
      have := sk_ge (b := b) (e := e) (a := rn isL b e (sk b e a))
      cases h
      refine ⟨by omega, by omega, ?_⟩
      exact ⟨Nat.le_refl _, Or.inl rfl, fun h => by cases h⟩
    | w + 4, h, hw =>
      simp only at h
      split at h
      · cases h
      · rename_i h6
        obtain ⟨x, a1, h1, h2, h3, h4, h⟩ := pN_at hr2 h
        obtain ⟨h9, h⟩ := pS_inv h
        have := sk_ge (b := b) (e := e) (a := a1)
        have hlen : 3 ≤ rn isL b e (sk b e a) - sk b e a := by
          have h0 : w = 0 := by
            have : wix b (sk b e a) (rn isL b e (sk b e a) - sk b e a) ws3 0 = some (w + 4) := hx
            simp only [ws3, wix] at this
            split at this
            · cases this
            split at this
            · cases this
            split at this
            · cases this
            split at this
            · cases this
            split at this
            · cases this; rfl
            · cases this
          subst h0
          have : rn isL b e (sk b e a) - sk b e a = 5 := hw.1
          omega
        cases h
        refine ⟨by omega, by omega, ?_⟩
        simp only [hdO]
        omega
def qA (k : Wk) (r : Except pF (Wk × Nat)) : Except pF (Wk × Nat) := match r with
  | .ok (l, a) => .ok (wapp k l, a)
  | .error q => .error q
def qB (r : Except pF (Wk × Nat)) (f : Wk → Nat → Except pF (Wk × Nat)) : Except pF (Wk × Nat) := match r with
  | .ok (l, a) => f l a
  | .error q => .error q
theorem qA_ok (k l : Wk) (a : Nat) : qA k (.ok (l, a)) = .ok (wapp k l, a) := rfl
theorem qA_er (k : Wk) (q : pF) : qA k (.error q) = .error q := rfl
theorem qB_ok (l : Wk) (a : Nat) (f : Wk → Nat → Except pF (Wk × Nat)) : qB (.ok (l, a)) f = f l a := rfl
theorem qB_er (q : pF) (f : Wk → Nat → Except pF (Wk × Nat)) : qB (.error q) f = .error q := rfl
/-- the steps from a on, o loops being open -/
def pWs (b : Nat → Int) (e : Nat) (n : Int) (o a : Nat) : Except pF (Wk × Nat) :=
  if sk b e a < e then
    if 0 < o ∧ b (sk b e a) = 93 then .ok (wFin, sk b e a + 1)
    else match pH b e n o a with
      | .error q => .error q
      | .ok (.inl y, a1) => if _h : a < a1 ∧ a1 ≤ e then qA (wOne y.1 y.2.1 y.2.2 wFin) (pWs b e n o a1) else .error (0, 0)
      | .ok (.inr m, a1) => if _h : a < a1 ∧ a1 ≤ e then qB (pWs b e n (o + 1) a1) fun k a2 => pS b e a2 59 fun a3 => if _h2 : a < a3 ∧ a3 ≤ e then qA (wRep m k wFin) (pWs b e n o a3) else .error (0, 0) else .error (0, 0)
  else if o = 0 then .ok (wFin, sk b e a) else .error (1, sk b e a)
termination_by e - a
decreasing_by all_goals omega
variable {b : Nat → Int} {e : Nat} {n : Int}
theorem pW_end {o a : Nat} (h : ¬ sk b e a < e) : pWs b e n o a = if o = 0 then .ok (wFin, sk b e a) else .error (1, sk b e a) := by rw [pWs, if_neg h]
theorem pW_cl {o a : Nat} (h : sk b e a < e) (ho : 0 < o) (h1 : b (sk b e a) = 93) : pWs b e n o a = .ok (wFin, sk b e a + 1) := by rw [pWs, if_pos h, if_pos ⟨ho, h1⟩]
theorem pW_er {o a : Nat} {q : pF} (h : sk b e a < e) (h1 : ¬ (0 < o ∧ b (sk b e a) = 93)) (h2 : pH b e n o a = .error q) : pWs b e n o a = .error q := by rw [pWs, if_pos h, if_neg h1, h2]
theorem pW_one {o a a1 : Nat} {y : Nat × Nat × Nat} (ha : a ≤ e) (h : sk b e a < e) (h1 : ¬ (0 < o ∧ b (sk b e a) = 93)) (h2 : pH b e n o a = .ok (.inl y, a1)) : pWs b e n o a = qA (wOne y.1 y.2.1 y.2.2 wFin) (pWs b e n o a1) := by
  have := pH_at ha h2
  rw [pWs, if_pos h, if_neg h1, h2]
  simp only
  rw [dif_pos (by omega)]
theorem pW_at (hn : D 0 0 = n) : ∀ (m o a : Nat) (k : Wk) (a' : Nat), e - a ≤ m → a ≤ e → o ≤ 6 → pWs b e n o a = .ok (k, a') → a ≤ a' ∧ a' ≤ e ∧ (0 < o → a < a') ∧ okW D k ∧ o + dpt k ≤ 6 ∧ mlen k ≤ a' - a ∧ clen k ≤ a' - a := by
  intro m
  induction m with
  | zero =>
    intro o a k a' hm ha ho h
    have hs := sk_ge (b := b) (e := e) (a := a)
    have hs2 := sk_le (b := b) ha
    rw [pW_end (by omega)] at h
    split at h
    · cases h
      refine ⟨by omega, by omega, by omega, trivial, ?_, ?_, ?_⟩ <;> simp [dpt, mlen, clen] <;> omega
    · cases h
  | succ m ih =>
    intro o a k a' hm ha ho h
    have hs := sk_ge (b := b) (e := e) (a := a)
    have hs2 := sk_le (b := b) ha
    rw [pWs] at h
    split at h
    · split at h
      · cases h
        refine ⟨by omega, by omega, by omega, trivial, ?_, ?_, ?_⟩ <;> simp [dpt, mlen, clen] <;> omega
      · split at h
        · cases h
        · rename_i y a1 hp
          have hp2 := pH_at ha hp
          rw [dif_pos (by omega)] at h
          cases hr : pWs b e n o a1 with
          | error q => rw [hr, qA_er] at h; cases h
          | ok z =>
            obtain ⟨k1, a2⟩ := z
            rw [hr, qA_ok] at h
            have h3 := ih o a1 k1 a2 (by omega) (by omega) ho hr
            cases h
            rw [wapp_one, wapp_fin]
            have h4 := hp2.2.2
            simp only [hdO] at h4
            rw [dpt_one, mlen_one, clen_one]
            exact ⟨by omega, by omega, by omega, ⟨h4.1, by rw [hn]; exact h4.2.1, h4.2.2, h3.2.2.2.1⟩, h3.2.2.2.2.1, by omega, by omega⟩
        · rename_i x a1 hp
          have hp2 := pH_at ha hp
          have h4 := hp2.2.2
          simp only [hdO] at h4
          rw [dif_pos (by omega)] at h
          cases hr : pWs b e n (o + 1) a1 with
          | error q => rw [hr, qB_er] at h; cases h
          | ok z =>
            obtain ⟨k1, a2⟩ := z
            rw [hr, qB_ok] at h
            have h3 := ih (o + 1) a1 k1 a2 (by omega) (by omega) (by omega) hr
            obtain ⟨h9, h⟩ := pS_inv h
            have h10 := sk_ge (b := b) (e := e) (a := a2)
            rw [dif_pos (by omega)] at h
            cases hr2 : pWs b e n o (sk b e a2 + 1) with
            | error q => rw [hr2, qA_er] at h; cases h
            | ok z =>
              obtain ⟨k2, a4⟩ := z
              rw [hr2, qA_ok] at h
              have h5 := ih o (sk b e a2 + 1) k2 a4 (by omega) (by omega) ho hr2
              cases h
              rw [wapp_rep, wapp_fin]
              rw [dpt_rep, mlen_rep, clen_rep]
              exact ⟨by omega, by omega, by omega, ⟨h4.1, h3.2.2.2.1, h5.2.2.2.1⟩, by omega, by omega, by omega⟩
    · split at h
      · cases h
        refine ⟨by omega, by omega, by omega, trivial, ?_, ?_, ?_⟩ <;> simp [dpt, mlen, clen] <;> omega
      · cases h
theorem pW_rep {o a a1 x : Nat} (hn : D 0 0 = n) (ha : a ≤ e) (ho : o ≤ 6) (h : sk b e a < e) (h1 : ¬ (0 < o ∧ b (sk b e a) = 93)) (h2 : pH b e n o a = .ok (.inr x, a1)) : pWs b e n o a = qB (pWs b e n (o + 1) a1) fun k a2 => pS b e a2 59 fun a3 => qA (wRep x k wFin) (pWs b e n o a3) := by
  have hp := pH_at ha h2
  have h4 := hp.2.2
  simp only [hdO] at h4
  rw [pWs, if_pos h, if_neg h1, h2]
  simp only
  rw [dif_pos (by omega)]
  cases hr : pWs b e n (o + 1) a1 with
  | error q => rfl
  | ok z =>
    obtain ⟨k1, a2⟩ := z
    have h3 := pW_at (D := D) hn (e - a1) (o + 1) a1 k1 a2 (by omega) (by omega) (by omega) hr
    rw [qB_ok, qB_ok]
    by_cases hs : sk b e a2 < e ∧ b (sk b e a2) = 59
    · have := sk_ge (b := b) (e := e) (a := a2)
      rw [pS_ok hs.1 hs.2, pS_ok hs.1 hs.2, dif_pos (by omega)]
    · rw [pS_er hs, pS_er hs]
end KSPEC
