/-! What a TRAIN's clauses tell: rows of numbers (0: wagons, gangs, voters, wells, hours, speed, frost; 1 H, 2 W, 3 K, 4 needs, 5 ties, 6 ground, 7 gangs, 8 voters, 9 wells) -/
section DSPEC
abbrev jD : Type := Nat → Nat → Int
abbrev pF : Type := Int × Nat
def du (D : jD) (r k : Nat) (z : Int) : jD := fun a b => if a = r ∧ b = k then z else D a b
theorem du_eq (D : jD) (r k : Nat) (z : Int) (a b : Nat) : du D r k z a b = if a = r ∧ b = k then z else D a b := rfl
/-- a number, and what comes behind it -/
def pN {α : Type} (b : Nat → Int) (e a : Nat) (lo up : Int) (f : Nat → Nat → Except pF α) : Except pF α := match pNum b e a lo up with
  | .ok (x, a') => f x.toNat a'
  | .error q => .error q
theorem pN_ok {α : Type} {b : Nat → Int} {e a : Nat} {lo up : Int} {f : Nat → Nat → Except pF α} {x a' : Nat} (h : pNum b e a lo up = .ok ((x : Int), a')) : pN b e a lo up f = f x a' := by
  unfold pN
  rw [h]
  rfl
theorem pN_er {α : Type} {b : Nat → Int} {e a : Nat} {lo up : Int} {f : Nat → Nat → Except pF α} {kd : Int} {pl : Nat} (h : pNum b e a lo up = .error (kd, pl)) : pN b e a lo up f = .error (kd, pl) := by
  unfold pN
  rw [h]
/-- a clause, behind its word w, which starts at s0 -/
def pcl (b : Nat → Int) (e : Nat) (D : jD) (w s0 a : Nat) : Except pF (jD × Nat) := match w with
  | 0 => if 8 ≤ D 0 0 then .error (3, s0) else pN b e a 1 6 fun h a => pN b e a 1 9 fun w a => pN b e a 0 5 fun k a => .ok (du (du (du (du (du D 1 (D 0 0).toNat h) 2 (D 0 0).toNat w) 3 (D 0 0).toNat k) 4 (D 0 0).toNat 0) 0 0 (D 0 0 + 1), a)
  | 1 => pN b e a 0 (D 0 0 - 1) fun x a => pN b e a 0 (D 0 0 - 1) fun y a2 => if x = y then .error (2, sk b e a) else pN b e a2 1 9 fun n a => .ok (du (du D 5 (8 * x + y) (D 5 (8 * x + y) + n)) 5 (8 * y + x) (D 5 (8 * y + x) + n), a)
  | 2 => pN b e a 0 (D 0 0 - 1) fun x a => pN b e a 0 ((x : Int) - 1) fun y a => .ok (du D 4 x (((D 4 x).toNat ||| 2 ^ y : Nat) : Int), a)
  | 3 => pN b e a 0 11 fun x a => pN b e a 0 9 fun g a => .ok (du D 6 x g, a)
  | 4 => pN b e a 1 24 fun x a => .ok (du D 0 4 x, a)
  | 5 => pN b e a 1 20 fun x a => .ok (du D 0 5 x, a)
  | 6 => if 4 ≤ D 0 1 then .error (3, s0) else pN b e a 1 3 fun x a => .ok (du (du D 7 (D 0 1).toNat x) 0 1 (D 0 1 + 1), a)
  | 7 => if 9 ≤ D 0 2 then .error (3, s0) else pN b e a 0 2 fun x a1 => pN b e a1 0 2 fun y a2 => if y = x then .error (2, sk b e a1) else pN b e a2 0 2 fun z a3 => if z = x ∨ z = y then .error (2, sk b e a2) else .ok (du (du (du (du D 8 (3 * (D 0 2).toNat) x) 8 (3 * (D 0 2).toNat + 1) y) 8 (3 * (D 0 2).toNat + 2) z) 0 2 (D 0 2 + 1), a3)
  | 8 => if 8 ≤ D 0 3 then .error (3, s0) else pN b e a 1 200 fun x a => .ok (du (du D 9 (D 0 3).toNat x) 0 3 (D 0 3 + 1), a)
  | _ => pN b e a 0 16 fun x a => .ok (du D 0 6 x, a)
def D0 : jD := fun r k => if r = 0 ∧ k = 4 then 8 else if r = 0 ∧ k = 5 then 5 else 0
/-- the clauses, c ahead of them -/
def pcs (b : Nat → Int) (e : Nat) : Nat → Nat → jD → Nat → Except pF jD
  | 0, _, D, _ => .ok D
  | n + 1, c, D, a => if sk b e a < e then match wix b (sk b e a) (rn isL b e (sk b e a) - sk b e a) ws1 0 with
      | none => .error (1, sk b e a)
      | some w => if c = 60 then .error (3, sk b e a) else match pcl b e D w (sk b e a) (rn isL b e (sk b e a)) with
        | .error q => .error q
        | .ok (D', a') => if sk b e a' < e ∧ b (sk b e a') = 59 then pcs b e n (c + 1) D' (sk b e a' + 1) else .error (1, sk b e a')
    else .ok D
/-- such a train's numbers, c clauses behind it -/
def WD (D : jD) (c : Nat) : Prop := (0 ≤ D 0 0 ∧ D 0 0 ≤ 8 ∧ 0 ≤ D 0 1 ∧ D 0 1 ≤ 4 ∧ 0 ≤ D 0 2 ∧ D 0 2 ≤ 9 ∧ 0 ≤ D 0 3 ∧ D 0 3 ≤ 8 ∧ 1 ≤ D 0 4 ∧ D 0 4 ≤ 24 ∧ 1 ≤ D 0 5 ∧ D 0 5 ≤ 20 ∧ 0 ≤ D 0 6 ∧ D 0 6 ≤ 16) ∧
  (∀ a : Nat, (a : Int) < D 0 0 → 1 ≤ D 1 a ∧ D 1 a ≤ 6 ∧ 1 ≤ D 2 a ∧ D 2 a ≤ 9 ∧ 0 ≤ D 3 a ∧ D 3 a ≤ 5 ∧ 0 ≤ D 4 a ∧ (D 4 a).toNat < 2 ^ a) ∧
  (∀ j, 0 ≤ D 5 j ∧ D 5 j ≤ 9 * c) ∧ (∀ x y, x < 8 → y < 8 → D 5 (8 * x + y) = D 5 (8 * y + x)) ∧ (∀ x, D 5 (8 * x + x) = 0) ∧
  (∀ x, 0 ≤ D 6 x ∧ D 6 x ≤ 9) ∧ (∀ g : Nat, (g : Int) < D 0 1 → 1 ≤ D 7 g ∧ D 7 g ≤ 3) ∧
  (∀ v : Nat, (v : Int) < D 0 2 → 0 ≤ D 8 (3 * v) ∧ D 8 (3 * v) ≤ 2 ∧ 0 ≤ D 8 (3 * v + 1) ∧ D 8 (3 * v + 1) ≤ 2 ∧ 0 ≤ D 8 (3 * v + 2) ∧ D 8 (3 * v + 2) ≤ 2 ∧ D 8 (3 * v) ≠ D 8 (3 * v + 1) ∧ D 8 (3 * v) ≠ D 8 (3 * v + 2) ∧ D 8 (3 * v + 1) ≠ D 8 (3 * v + 2)) ∧
  (∀ i : Nat, (i : Int) < D 0 3 → 1 ≤ D 9 i ∧ D 9 i ≤ 200)
theorem WD0 : WD D0 0 := by
  unfold WD
  simp only [D0]
  refine ⟨by decide, ?_, ?_, ?_, ?_, ?_, ?_, ?_, ?_⟩ <;> intros <;> simp at * <;> omega
theorem pNum_rg {b : Nat → Int} {e a : Nat} {lo up x : Int} {a' : Nat} (h : pNum b e a lo up = .ok (x, a')) : lo ≤ x ∧ x ≤ up ∧ 0 ≤ x := by
  unfold pNum at h
  split at h
  · split at h
    · rename_i h1 h2
      cases h
      refine ⟨h2.1, h2.2, dv_pos (fun i hi => (rn_in (q := isD) (b := b) (e := e) (a := sk b e a) (i := sk b e a + i) (by omega) (by omega)).2)⟩
    · cases h
  · cases h
theorem pN_inv {α : Type} {b : Nat → Int} {e a : Nat} {lo up : Int} {f : Nat → Nat → Except pF α} {y : α} (h : pN b e a lo up f = .ok y) : ∃ x a' : Nat, lo ≤ x ∧ (x : Int) ≤ up ∧ f x a' = .ok y := by
  unfold pN at h
  split at h
  · rename_i x a' hx
    have := pNum_rg hx
    exact ⟨x.toNat, a', by omega, by omega, h⟩
  · cases h
end DSPEC
