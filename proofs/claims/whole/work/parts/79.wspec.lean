/-! A town as a row of 171 numbers (0.. where each wagon is: 0 on the train, 1 laid, 2 left; 8.. its cell; 16.. the mile it was left at; 24.. what was noted; 168 the day, 169 hours left, 170 the mile) -/
section WSPEC
def upw (w : Nat → Int) (k : Nat) (z : Int) : Nat → Int := fun j => if j = k then z else w j
theorem upw_eq (w : Nat → Int) (k : Nat) (z : Int) (j : Nat) : upw w k z j = if j = k then z else w j := rfl
/-- who of the first n stands in a cell -/
def std (w : Nat → Int) (x : Int) : Nat → Int
  | 0 => -1
  | n + 1 => if std w x n ≠ -1 then std w x n else if w n = 1 ∧ w (8 + n) = x then n else -1
theorem std_rg (w : Nat → Int) (x : Int) : ∀ n, -1 ≤ std w x n ∧ std w x n < n
  | 0 => by simp [std]
  | n + 1 => by
    have := std_rg w x n
    rw [std]
    split
    · omega
    · split <;> omega
theorem std_no {w : Nat → Int} {x : Int} : ∀ {n}, std w x n = -1 ↔ ∀ a, a < n → ¬ (w a = 1 ∧ w (8 + a) = x)
  | 0 => by simp [std]
  | n + 1 => by
    have ih := std_no (w := w) (x := x) (n := n)
    rw [std]
    by_cases h : std w x n = -1
    · rw [if_neg (by omega)]
      by_cases h2 : w n = 1 ∧ w (8 + n) = x
      · rw [if_pos h2]
        exact ⟨fun q => by omega, fun q => (q n (by omega) h2).elim⟩
      · rw [if_neg h2]
        refine ⟨fun _ a ha => ?_, fun _ => rfl⟩
        by_cases hn : a = n
        · rw [hn]; exact h2
        · exact ih.mp h a (by omega)
    · rw [if_pos h]
      exact ⟨fun q => (h q).elim, fun q => ih.mpr (fun a ha => q a (by omega))⟩
theorem std_at {w : Nat → Int} {x : Int} : ∀ {n}, std w x n ≠ -1 → w (std w x n).toNat = 1 ∧ w (8 + (std w x n).toNat) = x ∧ 0 ≤ std w x n
  | 0, h => by simp [std] at h
  | n + 1, h => by
    have ih := std_at (w := w) (x := x) (n := n)
    rw [std] at h ⊢
    by_cases h1 : std w x n = -1
    · rw [if_neg (by omega)] at h ⊢
      by_cases h2 : w n = 1 ∧ w (8 + n) = x
      · rw [if_pos h2, Int.toNat_natCast]
        exact ⟨h2.1, h2.2, by omega⟩
      · rw [if_neg h2] at h
        exact (h rfl).elim
    · rw [if_pos h1] at h ⊢
      exact ih h1
/-- it stands: the first found -/
theorem std_first {w : Nat → Int} {x : Int} : ∀ {n} {a : Nat}, a < n → w a = 1 → w (8 + a) = x → (∀ b, b < a → ¬ (w b = 1 ∧ w (8 + b) = x)) → std w x n = a
  | 0, a, h, _, _, _ => by omega
  | n + 1, a, h, h1, h2, h3 => by
    rw [std]
    by_cases ha : a = n
    · subst ha
      rw [if_neg (fun q => q (std_no.mpr h3)), if_pos ⟨h1, h2⟩]
    · have := std_first (n := n) (a := a) (by omega) h1 h2 h3
      rw [if_pos (by omega)]
      exact this
def nrW (w : Nat → Int) (n : Nat) (x : Nat) : Int := (if 0 < x ∧ std w ((x : Int) - 1) n ≠ -1 then 1 else 0) + (if x < 11 ∧ std w ((x : Int) + 1) n ≠ -1 then 1 else 0)
/-- the facts of a wagon in a cell -/
def fcW (D : jD) (w : Nat → Int) (f : Int) (a x : Nat) : Nat → Int := fun j => match j with
  | 0 => D 1 a
  | 1 => D 2 a
  | 2 => D 3 a
  | 3 => x
  | 4 => D 6 x
  | 5 => w 168
  | 6 => nrW w (D 0 0).toNat x
  | _ => f
def lsW (D : jD) (cd : lC) (w : Nat → Int) (f : Int) (a x : Nat) : Int := lst (fcW D w f a x) cd
/-- all that it needs are laid -/
def ndW (D : jD) (w : Nat → Int) (a : Nat) : Bool := (List.range a).all (fun b => !(D 4 a).toNat.testBit b || decide (w b = 1))
def cnW (D : jD) (cd : lC) (w : Nat → Int) (f : Int) (a x : Nat) : Bool := decide (w a = 0) && decide (std w x (D 0 0).toNat = -1) && ndW D w a && decide (lsW D cd w f a x ≤ w 169)
def lyW (w : Nat → Int) (a x : Nat) (n : Int) : Nat → Int := upw (upw (upw w 169 (w 169 - n)) a 1) (8 + a) x
/-- half of its hours, 1 at least -/
def hfW (D : jD) (a : Nat) : Int := if 0 < D 1 a / 2 then D 1 a / 2 else 1
def ntW (D : jD) (w : Nat → Int) (a : Nat) : Bool := (List.range (D 0 0).toNat).all (fun b => !(decide (a < b) && decide (w b = 1) && (D 4 b).toNat.testBit a))
def tkW (D : jD) (w : Nat → Int) (a : Nat) : Bool := decide (w a = 1) && decide (hfW D a ≤ w 169) && ntW D w a
def tuW (D : jD) (w : Nat → Int) (a : Nat) : Nat → Int := upw (upw (upw w 169 (w 169 - hfW D a)) a 0) (8 + a) (-1)
def bhW (w : Nat → Int) (a : Nat) : Int := if w a = 2 then w 170 - w (16 + a) else 0
def fnW (w : Nat → Int) (a : Nat) : Int := 1 + (bhW w a + 9) / 10
def ftW (w : Nat → Int) (a : Nat) : Bool := decide (w a = 2) && decide (fnW w a ≤ w 169)
def fbW (w : Nat → Int) (a : Nat) : Nat → Int := upw (upw w 169 (w 169 - fnW w a)) a 0
/-- what is noted of a cell -/
def kdW (D : jD) (w : Nat → Int) (x : Nat) : Int := if std w x (D 0 0).toNat = -1 then 6 else D 3 (std w x (D 0 0).toNat).toNat
def dyW (D : jD) (w : Nat → Int) : Nat → Int := fun j =>
  if j = 168 then w 168 + 1 else if j = 169 then D 0 4 else if j = 170 then w 170 + D 0 5
  else if j < 8 then (if (j : Int) < D 0 0 ∧ w j = 1 then 2 else w j)
  else if j < 16 then (if (j : Int) - 8 < D 0 0 ∧ w (j - 8) = 1 then -1 else w j)
  else if j < 24 then (if (j : Int) - 16 < D 0 0 ∧ w (j - 16) = 1 then w 170 else w j)
  else if w 168 < 12 ∧ 24 + 12 * w 168 ≤ j ∧ (j : Int) < 36 + 12 * w 168 then kdW D w (j - 24 - 12 * (w 168).toNat) else w j
/-- a town as it should be -/
def WW (D : jD) (w : Nat → Int) : Prop := (∀ a, a < 8 → (w a = 0 ∨ w a = 1 ∨ w a = 2) ∧ (w a = 1 → 0 ≤ w (8 + a) ∧ w (8 + a) ≤ 11) ∧ (w a ≠ 1 → w (8 + a) = -1) ∧ (w a = 2 → 0 ≤ w (16 + a) ∧ w (16 + a) ≤ w 170) ∧ (D 0 0 ≤ a → w a = 0)) ∧
  (∀ a b, a < 8 → b < 8 → w a = 1 → w b = 1 → w (8 + a) = w (8 + b) → a = b) ∧
  (0 ≤ w 168 ∧ w 168 ≤ 200 ∧ 0 ≤ w 169 ∧ w 169 ≤ 24 ∧ 0 ≤ w 170 ∧ w 170 ≤ 20 * w 168) ∧
  (∀ d x : Nat, d < 12 → x < 12 → ((d : Int) < w 168 → 0 ≤ w (24 + 12 * d + x) ∧ w (24 + 12 * d + x) ≤ 6) ∧ (w 168 ≤ d → w (24 + 12 * d + x) = -1))
end WSPEC
