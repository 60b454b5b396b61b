/-! A LAW as a row of figures, facts and operators (0 figure, 1 fact, 2 +, 3 -, 4 *, 5 /, 6 least, 7 most), each operator behind what it joins -/
section LSPEC
abbrev lC : Type := List (Nat × Nat)
def pA (acc : lC) (r : Except pF (lC × Nat)) : Except pF (lC × Nat) := match r with
  | .ok (l, a) => .ok (acc ++ l, a)
  | .error q => .error q
theorem pA_ok (acc l : lC) (a : Nat) : pA acc (.ok (l, a)) = .ok (acc ++ l, a) := rfl
theorem pA_er (acc : lC) (q : pF) : pA acc (.error q) = .error q := rfl
theorem pA_pA (x y : lC) (r : Except pF (lC × Nat)) : pA x (pA y r) = pA (x ++ y) r := by
  cases r with
  | error q => rfl
  | ok p => obtain ⟨l, a⟩ := p; simp [pA]
theorem pA_nil (r : Except pF (lC × Nat)) : pA [] r = r := by
  cases r with
  | error q => rfl
  | ok p => obtain ⟨l, a⟩ := p; simp [pA]
/-- a part, and what comes behind it -/
def pB (r : Except pF (lC × Nat)) (f : lC → Nat → Except pF (lC × Nat)) : Except pF (lC × Nat) := match r with
  | .ok (l, a) => f l a
  | .error q => .error q
theorem pB_ok (l : lC) (a : Nat) (f : lC → Nat → Except pF (lC × Nat)) : pB (.ok (l, a)) f = f l a := rfl
theorem pB_er (q : pF) (f : lC → Nat → Except pF (lC × Nat)) : pB (.error q) f = .error q := rfl
/-- a sign, and what comes behind it -/
def pS {α : Type} (b : Nat → Int) (e a : Nat) (c : Int) (f : Nat → Except pF α) : Except pF α := if sk b e a < e ∧ b (sk b e a) = c then f (sk b e a + 1) else .error (1, sk b e a)
theorem pS_ok {α : Type} {b : Nat → Int} {e a : Nat} {c : Int} {f : Nat → Except pF α} (h1 : sk b e a < e) (h2 : b (sk b e a) = c) : pS b e a c f = f (sk b e a + 1) := if_pos ⟨h1, h2⟩
theorem pS_er {α : Type} {b : Nat → Int} {e a : Nat} {c : Int} {f : Nat → Except pF α} (h : ¬ (sk b e a < e ∧ b (sk b e a) = c)) : pS b e a c f = .error (1, sk b e a) := if_neg h
/-- 0 a sum, 1 the rest of one, 2 a product, 3 the rest of one, 4 a unit; o are open -/
def pL (b : Nat → Int) (e : Nat) : Nat → Nat → Nat → Nat → Except pF (lC × Nat)
  | 0, _, _, _ => .error (0, 0)
  | f + 1, 0, o, a => pB (pL b e f 2 o a) fun l a1 => pA l (pL b e f 1 o a1)
  | f + 1, 1, o, a => if sk b e a < e ∧ b (sk b e a) = 43 then pB (pL b e f 2 o (sk b e a + 1)) fun l a1 => pA (l ++ [(2, 0)]) (pL b e f 1 o a1)
      else if sk b e a < e ∧ b (sk b e a) = 45 then pB (pL b e f 2 o (sk b e a + 1)) fun l a1 => pA (l ++ [(3, 0)]) (pL b e f 1 o a1)
      else .ok ([], sk b e a)
  | f + 1, 2, o, a => pB (pL b e f 4 o a) fun l a1 => pA l (pL b e f 3 o a1)
  | f + 1, 3, o, a => if sk b e a < e ∧ b (sk b e a) = 42 then pB (pL b e f 4 o (sk b e a + 1)) fun l a1 => pA (l ++ [(4, 0)]) (pL b e f 3 o a1)
      else if sk b e a < e ∧ b (sk b e a) = 47 then pB (pL b e f 4 o (sk b e a + 1)) fun l a1 => pA (l ++ [(5, 0)]) (pL b e f 3 o a1)
      else .ok ([], sk b e a)
  | f + 1, _ + 4, o, a => if sk b e a < e ∧ isD (b (sk b e a)) = true then pN b e a 0 999 fun x a1 => .ok ([(0, x)], a1)
      else if sk b e a < e ∧ b (sk b e a) = 40 then if 6 ≤ o then .error (3, sk b e a) else pB (pL b e f 0 (o + 1) (sk b e a + 1)) fun l a1 => pS b e a1 41 fun a2 => .ok (l, a2)
      else match wix b (sk b e a) (rn isL b e (sk b e a) - sk b e a) ws2 0 with
        | none => .error (1, sk b e a)
        | some w => if w < 8 then .ok ([(1, w)], rn isL b e (sk b e a)) else if 6 ≤ o then .error (3, sk b e a) else
            pS b e (rn isL b e (sk b e a)) 91 fun a1 => pB (pL b e f 0 (o + 1) a1) fun l1 a2 => pS b e a2 44 fun a3 => pB (pL b e f 0 (o + 1) a3) fun l2 a4 => pS b e a4 93 fun a5 => .ok (l1 ++ l2 ++ [(w - 2, 0)], a5)
section
variable (b : Nat → Int) (e f o a : Nat)
theorem pL_0 : pL b e (f + 1) 0 o a = pB (pL b e f 2 o a) fun l a1 => pA l (pL b e f 1 o a1) := by rw [pL]
theorem pL_1 : pL b e (f + 1) 1 o a = if sk b e a < e ∧ b (sk b e a) = 43 then pB (pL b e f 2 o (sk b e a + 1)) fun l a1 => pA (l ++ [(2, 0)]) (pL b e f 1 o a1)
      else if sk b e a < e ∧ b (sk b e a) = 45 then pB (pL b e f 2 o (sk b e a + 1)) fun l a1 => pA (l ++ [(3, 0)]) (pL b e f 1 o a1)
      else .ok ([], sk b e a) := by rw [pL]
theorem pL_2 : pL b e (f + 1) 2 o a = pB (pL b e f 4 o a) fun l a1 => pA l (pL b e f 3 o a1) := by rw [pL]
theorem pL_3 : pL b e (f + 1) 3 o a = if sk b e a < e ∧ b (sk b e a) = 42 then pB (pL b e f 4 o (sk b e a + 1)) fun l a1 => pA (l ++ [(4, 0)]) (pL b e f 3 o a1)
      else if sk b e a < e ∧ b (sk b e a) = 47 then pB (pL b e f 4 o (sk b e a + 1)) fun l a1 => pA (l ++ [(5, 0)]) (pL b e f 3 o a1)
      else .ok ([], sk b e a) := by rw [pL]
theorem pL_4 : pL b e (f + 1) 4 o a = if sk b e a < e ∧ isD (b (sk b e a)) = true then pN b e a 0 999 fun x a1 => .ok ([(0, x)], a1)
      else if sk b e a < e ∧ b (sk b e a) = 40 then if 6 ≤ o then .error (3, sk b e a) else pB (pL b e f 0 (o + 1) (sk b e a + 1)) fun l a1 => pS b e a1 41 fun a2 => .ok (l, a2)
      else match wix b (sk b e a) (rn isL b e (sk b e a) - sk b e a) ws2 0 with
        | none => .error (1, sk b e a)
        | some w => if w < 8 then .ok ([(1, w)], rn isL b e (sk b e a)) else if 6 ≤ o then .error (3, sk b e a) else
            pS b e (rn isL b e (sk b e a)) 91 fun a1 => pB (pL b e f 0 (o + 1) a1) fun l1 a2 => pS b e a2 44 fun a3 => pB (pL b e f 0 (o + 1) a3) fun l2 a4 => pS b e a4 93 fun a5 => .ok (l1 ++ l2 ++ [(w - 2, 0)], a5) := by rw [pL]
end
/-- what is read is read within the text, is no longer than its bytes, and (but for a rest) is something -/
def pG (b : Nat → Int) (e f m o a : Nat) : Prop := ∀ l a', pL b e f m o a = .ok (l, a') → a ≤ a' ∧ a' ≤ e ∧ l.length ≤ a' - a ∧ (m = 1 ∨ m = 3 ∨ a < a')
theorem pNum_at {b : Nat → Int} {e a : Nat} {lo up x : Int} {a' : Nat} (ha : a ≤ e) (h : pNum b e a lo up = .ok (x, a')) : a < a' ∧ a' ≤ e := by
  have h1 := sk_ge (b := b) (e := e) (a := a)
  have h2 := sk_le (b := b) ha
  unfold pNum at h
  split at h
  · split at h
    · rename_i h3 h4
      cases h
      have := rn_go (q := isD) (b := b) h3.1 h3.2
      have h5 := rn_ge (q := isD) (b := b) (e := e) (a := sk b e a + 1)
      exact ⟨by omega, rn_le h2⟩
    · cases h
  · cases h
theorem pN_at {α : Type} {b : Nat → Int} {e a : Nat} {lo up : Int} {f : Nat → Nat → Except pF α} {y : α} (ha : a ≤ e) (h : pN b e a lo up f = .ok y) : ∃ x a' : Nat, lo ≤ x ∧ (x : Int) ≤ up ∧ a < a' ∧ a' ≤ e ∧ f x a' = .ok y := by
  unfold pN at h
  split at h
  · rename_i x a' hx
    have h1 := pNum_rg hx
    have h2 := pNum_at ha hx
    exact ⟨x.toNat, a', by omega, by omega, h2.1, h2.2, h⟩
  · cases h
theorem pB_inv {r : Except pF (lC × Nat)} {f : lC → Nat → Except pF (lC × Nat)} {y : lC × Nat} (h : pB r f = .ok y) : ∃ l a, r = .ok (l, a) ∧ f l a = .ok y := by
  unfold pB at h
  split at h
  · exact ⟨_, _, rfl, h⟩
  · cases h
theorem pA_inv {acc : lC} {r : Except pF (lC × Nat)} {l : lC} {a : Nat} (h : pA acc r = .ok (l, a)) : ∃ m, r = .ok (m, a) ∧ l = acc ++ m := by
  unfold pA at h
  split at h
  · cases h
    exact ⟨_, rfl, rfl⟩
  · cases h
theorem pS_inv {α : Type} {b : Nat → Int} {e a : Nat} {c : Int} {f : Nat → Except pF α} {y : α} (h : pS b e a c f = .ok y) : sk b e a < e ∧ f (sk b e a + 1) = .ok y := by
  unfold pS at h
  split at h
  · rename_i h1
    exact ⟨h1.1, h⟩
  · cases h
theorem wix_len {b : Nat → Int} {s n : Nat} : ∀ {ws : List (List Nat)} {i j : Nat}, (∀ w ∈ ws, 0 < w.length) → wix b s n ws i = some j → 0 < n
  | [], _, _, _, h => by cases h
  | w :: ws, i, j, hw, h => by
    rw [wix] at h
    split at h
    · rename_i h1
      have := hw w (by simp)
      unfold wq at h1
      simp only [Bool.and_eq_true, decide_eq_true_eq] at h1
      omega
    · exact wix_len (fun w hw' => hw w (by simp [hw'])) h
theorem pG_all (b : Nat → Int) (e : Nat) : ∀ f m o a, a ≤ e → pG b e f m o a := by
  intro f
  induction f with
  | zero => intro m o a ha l a' h; rw [pL] at h; cases h
  | succ f ih =>
    intro m o a ha l a' h
    have h1 := sk_ge (b := b) (e := e) (a := a)
    have h2 := sk_le (b := b) ha
    match m with
    | 0 =>
      rw [pL_0] at h
      obtain ⟨l1, a1, g1, h⟩ := pB_inv h
      obtain ⟨l2, g2, rfl⟩ := pA_inv h
      have k1 := ih 2 o a ha l1 a1 g1
      have k2 := ih 1 o a1 k1.2.1 l2 a' g2
      rw [List.length_append]
      omega
    | 1 =>
      rw [pL_1] at h
      split at h
      · obtain ⟨l1, a1, g1, h⟩ := pB_inv h
        obtain ⟨l2, g2, rfl⟩ := pA_inv h
        have k1 := ih 2 o _ (by omega) l1 a1 g1
        have k2 := ih 1 o a1 k1.2.1 l2 a' g2
        simp only [List.length_append, List.length_cons, List.length_nil]
        omega
      · split at h
        · obtain ⟨l1, a1, g1, h⟩ := pB_inv h
          obtain ⟨l2, g2, rfl⟩ := pA_inv h
          have k1 := ih 2 o _ (by omega) l1 a1 g1
          have k2 := ih 1 o a1 k1.2.1 l2 a' g2
          simp only [List.length_append, List.length_cons, List.length_nil]
          omega
        · cases h
          exact ⟨sk_ge, sk_le ha, Nat.zero_le _, by omega⟩
    | 2 =>
      rw [pL_2] at h
      obtain ⟨l1, a1, g1, h⟩ := pB_inv h
      obtain ⟨l2, g2, rfl⟩ := pA_inv h
      have k1 := ih 4 o a ha l1 a1 g1
      have k2 := ih 3 o a1 k1.2.1 l2 a' g2
      rw [List.length_append]
      omega
    | 3 =>
      rw [pL_3] at h
      split at h
      · obtain ⟨l1, a1, g1, h⟩ := pB_inv h
        obtain ⟨l2, g2, rfl⟩ := pA_inv h
        have k1 := ih 4 o _ (by omega) l1 a1 g1
        have k2 := ih 3 o a1 k1.2.1 l2 a' g2
        simp only [List.length_append, List.length_cons, List.length_nil]
        omega
      · split at h
        · obtain ⟨l1, a1, g1, h⟩ := pB_inv h
          obtain ⟨l2, g2, rfl⟩ := pA_inv h
          have k1 := ih 4 o _ (by omega) l1 a1 g1
          have k2 := ih 3 o a1 k1.2.1 l2 a' g2
          simp only [List.length_append, List.length_cons, List.length_nil]
          omega
        · cases h
          exact ⟨sk_ge, sk_le ha, Nat.zero_le _, by omega⟩
    | m + 4 =>
      have h3 := rn_le (q := isL) (b := b) h2
      have h4 := rn_ge (q := isL) (b := b) (e := e) (a := sk b e a)
      rw [pL] at h
      split at h
      · obtain ⟨x, a1, _, _, k1, k2, h⟩ := pN_at ha h
        cases h
        simp only [List.length_cons, List.length_nil]
        omega
      · split at h
        · split at h
          · cases h
          · obtain ⟨l1, a1, g1, h⟩ := pB_inv h
            obtain ⟨g2, h⟩ := pS_inv h
            cases h
            have k1 := ih 0 (o + 1) _ (by omega) l a1 g1
            have k2 := sk_ge (b := b) (e := e) (a := a1)
            omega
        · split at h
          · cases h
          · rename_i w hw
            have h5 := wix_len (by decide) hw
            split at h
            · cases h
              simp only [List.length_cons, List.length_nil]
              omega
            · split at h
              · cases h
              · obtain ⟨g0, h⟩ := pS_inv h
                have j0 := sk_ge (b := b) (e := e) (a := rn isL b e (sk b e a))
                obtain ⟨l1, a1, g1, h⟩ := pB_inv h
                have k1 := ih 0 (o + 1) _ (by omega) l1 a1 g1
                obtain ⟨g2, h⟩ := pS_inv h
                have j1 := sk_ge (b := b) (e := e) (a := a1)
                obtain ⟨l2, a2, g3, h⟩ := pB_inv h
                have k2 := ih 0 (o + 1) _ (by omega) l2 a2 g3
                obtain ⟨g4, h⟩ := pS_inv h
                have j2 := sk_ge (b := b) (e := e) (a := a2)
                cases h
                simp only [List.length_append, List.length_cons, List.length_nil]
                omega
end LSPEC
