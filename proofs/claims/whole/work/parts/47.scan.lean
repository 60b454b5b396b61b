/-! What is read of a row of bytes: blanks, digits, letters, numbers, words -/
section SCAN
/-- from a on: the first place whose byte isn't of this kind, or the end -/
def rnn (q : Int → Bool) (b : Nat → Int) (e : Nat) : Nat → Nat → Nat
  | 0, a => a
  | n + 1, a => if a < e ∧ q (b a) = true then rnn q b e n (a + 1) else a
def rn (q : Int → Bool) (b : Nat → Int) (e a : Nat) : Nat := rnn q b e (e - a) a
section
variable {q : Int → Bool} {b : Nat → Int} {e a : Nat}
theorem rn_go (h1 : a < e) (h2 : q (b a) = true) : rn q b e a = rn q b e (a + 1) := by
  unfold rn
  obtain ⟨n, hn⟩ : ∃ n, e - a = n + 1 := ⟨e - a - 1, by omega⟩
  rw [hn, rnn, if_pos ⟨h1, h2⟩, show e - (a + 1) = n by omega]
theorem rn_stop (h : ¬ (a < e ∧ q (b a) = true)) : rn q b e a = a := by
  unfold rn
  cases hn : e - a with
  | zero => rw [rnn]
  | succ n => rw [rnn, if_neg h]
theorem rn_ind {P : Nat → Prop} (h1 : ∀ a, ¬ (a < e ∧ q (b a) = true) → P a) (h2 : ∀ a, a < e → q (b a) = true → P (a + 1) → P a) (a : Nat) : P a := by
  obtain ⟨n, hn⟩ : ∃ n, e - a = n := ⟨_, rfl⟩
  induction n generalizing a with
  | zero => exact h1 a (by omega)
  | succ n ih =>
    by_cases h : a < e ∧ q (b a) = true
    · exact h2 a h.1 h.2 (ih (a + 1) (by omega))
    · exact h1 a h
theorem rn_ge : a ≤ rn q b e a := by
  refine rn_ind (q := q) (b := b) (e := e) (P := fun a => a ≤ rn q b e a) (fun a h => ?_) (fun a h1 h2 ih => ?_) a
  · rw [rn_stop h]; exact Nat.le_refl _
  · rw [rn_go h1 h2]; omega
theorem rn_le (h : a ≤ e) : rn q b e a ≤ e := by
  refine rn_ind (q := q) (b := b) (e := e) (P := fun a => a ≤ e → rn q b e a ≤ e) (fun a h _ => ?_) (fun a h1 h2 ih _ => ?_) a h
  · rw [rn_stop h]; assumption
  · rw [rn_go h1 h2]; exact ih h1
theorem rn_out : ¬ (rn q b e a < e ∧ q (b (rn q b e a)) = true) := by
  refine rn_ind (q := q) (b := b) (e := e) (P := fun a => ¬ (rn q b e a < e ∧ q (b (rn q b e a)) = true)) (fun a h => ?_) (fun a h1 h2 ih => ?_) a
  · rw [rn_stop h]; exact h
  · rw [rn_go h1 h2]; exact ih
theorem rn_in {i : Nat} (h1 : a ≤ i) (h2 : i < rn q b e a) : i < e ∧ q (b i) = true := by
  refine rn_ind (q := q) (b := b) (e := e) (P := fun a => a ≤ i → i < rn q b e a → i < e ∧ q (b i) = true) (fun a h k1 k2 => ?_) (fun a k1 k2 ih k3 k4 => ?_) a h1 h2
  · rw [rn_stop h] at k2; omega
  · rw [rn_go k1 k2] at k4
    by_cases hi : a = i
    · subst hi; exact ⟨k1, k2⟩
    · exact ih (by omega) k4
theorem rn_rn : rn q b e (rn q b e a) = rn q b e a := rn_stop rn_out
end
def isB (c : Int) : Bool := decide (c = 32)
def isD (c : Int) : Bool := decide (48 ≤ c ∧ c ≤ 57)
def isL (c : Int) : Bool := decide (97 ≤ c ∧ c ≤ 122)
abbrev sk (b : Nat → Int) (e a : Nat) : Nat := rn isB b e a
/-- the number that n digits from a on spell -/
def dv (b : Nat → Int) (a : Nat) : Nat → Int
  | 0 => 0
  | n + 1 => dv b a n * 10 + (b (a + n) - 48)
/-- a fault: its kind, its place; else what was read, and where it ends -/
abbrev pR (α : Type) : Type := Except (Int × Nat) (α × Nat)
def pNum (b : Nat → Int) (e a : Nat) (lo up : Int) : pR Int :=
  if sk b e a < e ∧ isD (b (sk b e a)) = true then
    if lo ≤ dv b (sk b e a) (rn isD b e (sk b e a) - sk b e a) ∧ dv b (sk b e a) (rn isD b e (sk b e a) - sk b e a) ≤ up then .ok (dv b (sk b e a) (rn isD b e (sk b e a) - sk b e a), rn isD b e (sk b e a)) else .error (2, sk b e a)
  else .error (1, sk b e a)
def pSign (b : Nat → Int) (e a : Nat) (c : Int) : Except (Int × Nat) Nat :=
  if sk b e a < e ∧ b (sk b e a) = c then .ok (sk b e a + 1) else .error (1, sk b e a)
/-- the n bytes from a on are this word -/
def wEq (b : Nat → Int) (a n : Nat) (w : List Nat) : Prop := n = w.length ∧ ∀ i (h : i < w.length), b (a + i) = (w[i] : Nat)
end SCAN
