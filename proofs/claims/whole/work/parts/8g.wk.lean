/-! A WORK as steps and loops: what it does to a town (both sides go by it) -/
section WKS
/-- the steps: one, or a loop of n turns, and what follows (a tree that Lean has: no new kind of thing is made) -/
abbrev Wk : Type := Lean.Data.AC.Expr
abbrev wFin : Wk := .var 0
abbrev wOne (k a x : Nat) (r : Wk) : Wk := .op (.op (.var k) (.op (.var a) (.var x))) r
abbrev wRep (n : Nat) (b r : Wk) : Wk := .op (.op (.op (.var n) (.var 0)) b) r
/-- a town, and how many steps were begun, done, refused -/
abbrev jWs : Type := (Nat → Int) × Nat × Nat × Nat
def itr (g : jWs → jWs) : Nat → jWs → jWs
  | 0, s => s
  | n + 1, s => itr g n (g s)
def stpW (D : jD) (cd : lC) (f : Int) (k a x : Nat) (s : jWs) : jWs := (goW D cd s.1 f k a x, s.2.1 + 1, if okG D cd s.1 f k a x = true then s.2.2.1 + 1 else s.2.2.1, if okG D cd s.1 f k a x = true then s.2.2.2 else s.2.2.2 + 1)
def runW (D : jD) (cd : lC) (f : Int) : Wk → jWs → jWs
  | .var 0 => fun s => s
  | .op (.op (.var k) (.op (.var a) (.var x))) r => fun s => if 200 ≤ s.2.1 then s else runW D cd f r (stpW D cd f k a x s)
  | .op (.op (.op (.var n) (.var 0)) b) r => fun s => if 200 ≤ s.2.1 then s else runW D cd f r (itr (runW D cd f b) n (s.1, s.2.1 + 1, s.2.2.1, s.2.2.2))
  | _ => fun s => s
/-- how many numbers it takes in the reference, how many rows in the class -/
def mlen : Wk → Nat
  | .var 0 => 0
  | .op (.op (.var _) (.op (.var _) (.var _))) r => 3 + mlen r
  | .op (.op (.op (.var _) (.var 0)) b) r => 3 + mlen b + mlen r
  | _ => 0
def clen : Wk → Nat
  | .var 0 => 0
  | .op (.op (.var _) (.op (.var _) (.var _))) r => 1 + clen r
  | .op (.op (.op (.var _) (.var 0)) b) r => 2 + clen b + clen r
  | _ => 0
/-- how deep its loops lie -/
def dpt : Wk → Nat
  | .var 0 => 0
  | .op (.op (.var _) (.op (.var _) (.var _))) r => dpt r
  | .op (.op (.op (.var _) (.var 0)) b) r => max (dpt b + 1) (dpt r)
  | _ => 0
def okW (D : jD) : Wk → Prop
  | .var 0 => True
  | .op (.op (.var k) (.op (.var a) (.var x))) r => k ≤ 3 ∧ (k = 3 ∨ (a : Int) < D 0 0) ∧ (k = 0 → x < 12) ∧ okW D r
  | .op (.op (.op (.var n) (.var 0)) b) r => n ≤ 20 ∧ okW D b ∧ okW D r
  | _ => False
/-- the reference holds it in a row from o on -/
def MCd (row : Nat → Int) : Wk → Nat → Prop
  | .var 0, _ => True
  | .op (.op (.var k) (.op (.var a) (.var x))) r, o => row o = k ∧ (k = 3 ∨ row (o + 1) = a) ∧ (k = 0 → row (o + 2) = x) ∧ MCd row r (o + 3)
  | .op (.op (.op (.var n) (.var 0)) b) r, o => row o = 4 ∧ row (o + 1) = n ∧ row (o + 2) = ((o + 3 + mlen b : Nat) : Int) ∧ MCd row b (o + 3) ∧ MCd row r (o + 3 + mlen b)
  | _, _ => False
/-- the class holds it in three rows from o on -/
def CCd (r0 r1 r2 : Nat → Int) : Wk → Nat → Prop
  | .var 0, _ => True
  | .op (.op (.var k) (.op (.var a) (.var x))) r, o => r0 o = k ∧ (k = 3 ∨ r1 o = a) ∧ (k = 0 → r2 o = x) ∧ CCd r0 r1 r2 r (o + 1)
  | .op (.op (.op (.var n) (.var 0)) b) r, o => r0 o = 4 ∧ r1 o = n ∧ r2 o = ((o + 1 + clen b : Nat) : Int) ∧ CCd r0 r1 r2 b (o + 1) ∧ r0 (o + 1 + clen b) = 5 ∧ r1 (o + 1 + clen b) = o ∧ CCd r0 r1 r2 r (o + 2 + clen b)
  | _, _ => False
variable {D : jD} {cd : lC} {f : Int}
/-- a tree of steps: nothing else -/
theorem wk_ind {P : Wk → Prop} (h0 : P wFin) (h1 : ∀ k a x r, P r → P (wOne k a x r)) (h2 : ∀ n b r, P b → P r → P (wRep n b r)) : ∀ k : Wk, okW D k → P k
  | .var 0, _ => h0
  | .op (.op (.var k) (.op (.var a) (.var x))) r, h => h1 k a x r (wk_ind h0 h1 h2 r h.2.2.2)
  | .op (.op (.op (.var n) (.var 0)) b) r, h => h2 n b r (wk_ind h0 h1 h2 b h.2.1) (wk_ind h0 h1 h2 r h.2.2)
  | .var (_ + 1), h => h.elim
  | .op (.var _) _, h => h.elim
  | .op (.op (.var _) (.var _)) _, h => h.elim
  | .op (.op (.var _) (.op (.op _ _) _)) _, h => h.elim
  | .op (.op (.var _) (.op (.var _) (.op _ _))) _, h => h.elim
  | .op (.op (.op (.op _ _) _) _) _, h => h.elim
  | .op (.op (.op (.var _) (.op _ _)) _) _, h => h.elim
  | .op (.op (.op (.var _) (.var (_ + 1))) _) _, h => h.elim
end WKS
