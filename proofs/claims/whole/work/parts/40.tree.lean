/-! The small machine's cells as functions of whole numbers; its code put together of pieces, each of which says what it asks for an end to hold (wp). -/
section TREE
/-- a value: an int, a long, a place, a text or the script, null (true) or nothing of use (false) -/
abbrev jV : Type := Int ⊕ Int ⊕ Nat ⊕ Nat ⊕ Bool
abbrev vI (z : Int) : jV := .inl z
abbrev vL (z : Int) : jV := .inr (.inl z)
abbrev vR (q : Nat) : jV := .inr (.inr (.inl q))
abbrev vS (q : Nat) : jV := .inr (.inr (.inr (.inl q)))
abbrev vN : jV := .inr (.inr (.inr (.inr true)))
abbrev vU : jV := .inr (.inr (.inr (.inr false)))
def jc : jV → Value
  | .inl z => .int (Int32.ofInt z)
  | .inr (.inl z) => .long (Int64.ofInt z)
  | .inr (.inr (.inl q)) => .ref q
  | .inr (.inr (.inr (.inl q))) => .float (UInt32.ofNat q)
  | .inr (.inr (.inr (.inr true))) => .null
  | .inr (.inr (.inr (.inr false))) => a_un
def jcat : jV → Nat
  | .inr (.inl _) => 2
  | _ => 1
theorem jc_cat : ∀ v : jV, (jc v).category = jcat v
  | .inl _ => rfl
  | .inr (.inl _) => rfl
  | .inr (.inr (.inl _)) => rfl
  | .inr (.inr (.inr (.inl _))) => rfl
  | .inr (.inr (.inr (.inr true))) => rfl
  | .inr (.inr (.inr (.inr false))) => rfl
/-- the cells: what each is (0, 1, 2: rows of ints, longs, Towns, with their lengths; c + 3: an object of class c), and what it holds: ints, longs, places -/
abbrev jH : Type := List (Nat × Nat) × (Nat → Nat → Int) × (Nat → Nat → Int) × (Nat → Nat → Option Nat)
def hsh (σ : jH) : List (Nat × Nat) := σ.1
def hi (σ : jH) : Nat → Nat → Int := σ.2.1
def hl (σ : jH) : Nat → Nat → Int := σ.2.2.1
def hp (σ : jH) : Nat → Nat → Option Nat := σ.2.2.2
def j_ft (t : FieldType) : Nat := match t with
  | .long => 1
  | .object _ => 2
  | .array _ => 2
  | _ => 0
def j_fv (σ : jH) (r c k : Nat) : Value := match j_ft (a_ty c k) with
  | 0 => .int (Int32.ofInt (hi σ r k))
  | 1 => .long (Int64.ofInt (hl σ r k))
  | _ => va_rf (hp σ r k)
def j_nf (c : Nat) : Nat := match a_cl[c]? with
  | some q => q.2.2
  | none => 0
def j_cell (σ : jH) (r : Nat) (k : Nat × Nat) : AC := match k.1 with
  | 0 => .inl (0, k.2, .inl (fun j => Int32.ofInt (hi σ r j)))
  | 1 => .inl (1, k.2, .inr (.inl (fun j => Int64.ofInt (hl σ r j))))
  | 2 => .inl (2, k.2, .inr (.inr (.inr (.inr (fun j => hp σ r j)))))
  | c + 3 => .inr (c, (List.range (j_nf c)).map (j_fv σ r c))
def j_h (σ : jH) : AH := (hsh σ).mapIdx (fun r k => j_cell σ r k)
theorem j_h_len (σ : jH) : (j_h σ).length = (hsh σ).length := by simp [j_h]
theorem j_h_get (σ : jH) (r : Nat) : (j_h σ)[r]? = ((hsh σ)[r]?).map (j_cell σ r) := by simp [j_h]
def hsi (σ : jH) (r k : Nat) (z : Int) : jH := (σ.1, (fun a b => if a = r ∧ b = k then z else σ.2.1 a b), σ.2.2)
def hsl (σ : jH) (r k : Nat) (z : Int) : jH := (σ.1, σ.2.1, (fun a b => if a = r ∧ b = k then z else σ.2.2.1 a b), σ.2.2.2)
def hsp (σ : jH) (r k : Nat) (z : Option Nat) : jH := (σ.1, σ.2.1, σ.2.2.1, (fun a b => if a = r ∧ b = k then z else σ.2.2.2 a b))
def hal (σ : jH) (k n : Nat) : jH := (σ.1 ++ [(k, n)], (fun a b => if a = σ.1.length then 0 else σ.2.1 a b), (fun a b => if a = σ.1.length then 0 else σ.2.2.1 a b), (fun a b => if a = σ.1.length then none else σ.2.2.2 a b))
def hci (σ : jH) (a sp b dp n : Nat) : jH := (σ.1, (fun r k => if r = b ∧ dp ≤ k ∧ k < dp + n then σ.2.1 a (sp + (k - dp)) else σ.2.1 r k), σ.2.2)
def hcl (σ : jH) (a sp b dp n : Nat) : jH := (σ.1, σ.2.1, (fun r k => if r = b ∧ dp ≤ k ∧ k < dp + n then σ.2.2.1 a (sp + (k - dp)) else σ.2.2.1 r k), σ.2.2.2)
theorem hsh_si (σ : jH) (r k : Nat) (z : Int) : hsh (hsi σ r k z) = hsh σ := rfl
theorem hsh_sl (σ : jH) (r k : Nat) (z : Int) : hsh (hsl σ r k z) = hsh σ := rfl
theorem hsh_sp (σ : jH) (r k : Nat) (z : Option Nat) : hsh (hsp σ r k z) = hsh σ := rfl
theorem hsh_al (σ : jH) (k n : Nat) : hsh (hal σ k n) = hsh σ ++ [(k, n)] := rfl
theorem hsh_ci (σ : jH) (a sp b dp n : Nat) : hsh (hci σ a sp b dp n) = hsh σ := rfl
theorem hsh_cl (σ : jH) (a sp b dp n : Nat) : hsh (hcl σ a sp b dp n) = hsh σ := rfl
theorem hi_si (σ : jH) (r k : Nat) (z : Int) (a b : Nat) : hi (hsi σ r k z) a b = if a = r ∧ b = k then z else hi σ a b := rfl
theorem hi_sl (σ : jH) (r k : Nat) (z : Int) : hi (hsl σ r k z) = hi σ := rfl
theorem hi_sp (σ : jH) (r k : Nat) (z : Option Nat) : hi (hsp σ r k z) = hi σ := rfl
theorem hi_al (σ : jH) (k n : Nat) (a b : Nat) : hi (hal σ k n) a b = if a = (hsh σ).length then 0 else hi σ a b := rfl
theorem hi_ci (σ : jH) (x sp y dp n : Nat) (a b : Nat) : hi (hci σ x sp y dp n) a b = if a = y ∧ dp ≤ b ∧ b < dp + n then hi σ x (sp + (b - dp)) else hi σ a b := rfl
theorem hi_cl (σ : jH) (x sp y dp n : Nat) : hi (hcl σ x sp y dp n) = hi σ := rfl
theorem hl_sl (σ : jH) (r k : Nat) (z : Int) (a b : Nat) : hl (hsl σ r k z) a b = if a = r ∧ b = k then z else hl σ a b := rfl
theorem hl_si (σ : jH) (r k : Nat) (z : Int) : hl (hsi σ r k z) = hl σ := rfl
theorem hl_sp (σ : jH) (r k : Nat) (z : Option Nat) : hl (hsp σ r k z) = hl σ := rfl
theorem hl_al (σ : jH) (k n : Nat) (a b : Nat) : hl (hal σ k n) a b = if a = (hsh σ).length then 0 else hl σ a b := rfl
theorem hl_cl (σ : jH) (x sp y dp n : Nat) (a b : Nat) : hl (hcl σ x sp y dp n) a b = if a = y ∧ dp ≤ b ∧ b < dp + n then hl σ x (sp + (b - dp)) else hl σ a b := rfl
theorem hl_ci (σ : jH) (x sp y dp n : Nat) : hl (hci σ x sp y dp n) = hl σ := rfl
theorem hp_sp (σ : jH) (r k : Nat) (z : Option Nat) (a b : Nat) : hp (hsp σ r k z) a b = if a = r ∧ b = k then z else hp σ a b := rfl
theorem hp_si (σ : jH) (r k : Nat) (z : Int) : hp (hsi σ r k z) = hp σ := rfl
theorem hp_sl (σ : jH) (r k : Nat) (z : Int) : hp (hsl σ r k z) = hp σ := rfl
theorem hp_al (σ : jH) (k n : Nat) (a b : Nat) : hp (hal σ k n) a b = if a = (hsh σ).length then none else hp σ a b := rfl
theorem hp_ci (σ : jH) (x sp y dp n : Nat) : hp (hci σ x sp y dp n) = hp σ := rfl
theorem hp_cl (σ : jH) (x sp y dp n : Nat) : hp (hcl σ x sp y dp n) = hp σ := rfl
/-- an int as it stands in the machine -/
def j_w (z : Int) : Int := (Int32.ofInt z).toInt
def j_w64 (z : Int) : Int := (Int64.ofInt z).toInt
theorem j_w_of (z : Int) : Int32.ofInt (j_w z) = Int32.ofInt z := Int32.ofInt_toInt _
theorem j_w64_of (z : Int) : Int64.ofInt (j_w64 z) = Int64.ofInt z := Int64.ofInt_toInt _
theorem j_w_id {z : Int} (h1 : -2147483648 ≤ z) (h2 : z ≤ 2147483647) : j_w z = z := Int32.toInt_ofInt_of_le h1 (by omega)
theorem j_w64_id {z : Int} (h1 : -9223372036854775808 ≤ z) (h2 : z ≤ 9223372036854775807) : j_w64 z = z := Int64.toInt_ofInt_of_le h1 (by omega)
theorem j_w_rg (z : Int) : -2147483648 ≤ j_w z ∧ j_w z ≤ 2147483647 := by
  have h1 := Int32.le_toInt (Int32.ofInt z)
  have h2 := Int32.toInt_lt (Int32.ofInt z)
  unfold j_w
  constructor <;> omega
/-- operators by number: 0 +, 1 -, 2 *, 3 and, 4 or, 5 xor, 6 shl, 7 shr, 8 ushr -/
def j_oi (o : Nat) : Instr := match o with
  | 0 => .iadd
  | 1 => .isub
  | 2 => .imul
  | 3 => .iand
  | 4 => .ior
  | 5 => .ixor
  | 6 => .ishl
  | 7 => .ishr
  | _ => .iushr
def j_op (o : Nat) (x y : Int) : Int := match o with
  | 0 => x + y
  | 1 => x - y
  | 2 => x * y
  | 3 => (Int32.ofInt x &&& Int32.ofInt y).toInt
  | 4 => (Int32.ofInt x ||| Int32.ofInt y).toInt
  | 5 => (Int32.ofInt x ^^^ Int32.ofInt y).toInt
  | 6 => (Int32.ofInt x <<< (Int32.ofInt y &&& 31)).toInt
  | 7 => (Int32.ofInt x >>> (Int32.ofInt y &&& 31)).toInt
  | _ => ((Int32.ofInt x).toUInt32 >>> ((Int32.ofInt y).toUInt32 &&& Int32.toUInt32 31)).toInt32.toInt
def j_loi (o : Nat) : Instr := match o with
  | 0 => .ladd
  | 2 => .lmul
  | 3 => .land
  | _ => .lor
def j_lop (o : Nat) (x y : Int) : Int := match o with
  | 0 => x + y
  | 2 => x * y
  | 3 => (Int64.ofInt x &&& Int64.ofInt y).toInt
  | _ => (Int64.ofInt x ||| Int64.ofInt y).toInt
def j_div (x y : Int) : Int := (Int32.ofInt x / Int32.ofInt y).toInt
def j_rem (x y : Int) : Int := (Int32.ofInt x - Int32.ofInt x / Int32.ofInt y * Int32.ofInt y).toInt
def j_ldiv (x y : Int) : Int := (Int64.ofInt x / Int64.ofInt y).toInt
def j_lrem (x y : Int) : Int := (Int64.ofInt x - Int64.ofInt x / Int64.ofInt y * Int64.ofInt y).toInt
def j_lshl (x y : Int) : Int := (Int64.ofInt x <<< ((Int32.ofInt y).toInt64 &&& 63)).toInt
def j_lshr (x y : Int) : Int := (Int64.ofInt x >>> ((Int32.ofInt y).toInt64 &&& 63)).toInt
/-- a comparison -/
def j_c2 (c : ClassFile.Cond) (x y : Int) : Prop := match c with
  | .eq => x = y
  | .ne => ¬ x = y
  | .lt => x < y
  | .ge => y ≤ x
  | .gt => y < x
  | .le => x ≤ y
/-- how a call ends: an answer, none, or an exception's number -/
abbrev jR : Type := Option jV ⊕ Nat
abbrev rV (x : jV) : jR := .inl (some x)
abbrev rN : jR := .inl none
abbrev rT (x : Nat) : jR := .inr x
def jcR : jR → Option Value ⊕ Nat
  | .inl (some x) => .inl (some (jc x))
  | .inl none => .inl none
  | .inr x => .inr x
def jInt (v : jV) (P : Int → Prop) : Prop := match v with
  | .inl z => P z
  | _ => False
def jLng (v : jV) (P : Int → Prop) : Prop := match v with
  | .inr (.inl z) => P z
  | _ => False
def jRef (v : jV) (P : Nat → Prop) : Prop := match v with
  | .inr (.inr (.inl z)) => P z
  | _ => False
def jStr (v : jV) (P : Nat → Prop) : Prop := match v with
  | .inr (.inr (.inr (.inl z))) => P z
  | _ => False
theorem jInt_I (z : Int) (P : Int → Prop) : jInt (vI z) P = P z := rfl
theorem jLng_L (z : Int) (P : Int → Prop) : jLng (vL z) P = P z := rfl
theorem jRef_R (z : Nat) (P : Nat → Prop) : jRef (vR z) P = P z := rfl
theorem jStr_S (z : Nat) (P : Nat → Prop) : jStr (vS z) P = P z := rfl
theorem jInt_iff {v : jV} {P : Int → Prop} : jInt v P ↔ ∃ z, v = vI z ∧ P z := by
  constructor
  · intro h
    match v, h with
    | .inl z, h => exact ⟨z, rfl, h⟩
  · rintro ⟨z, rfl, h⟩
    exact h
theorem jLng_iff {v : jV} {P : Int → Prop} : jLng v P ↔ ∃ z, v = vL z ∧ P z := by
  constructor
  · intro h
    match v, h with
    | .inr (.inl z), h => exact ⟨z, rfl, h⟩
  · rintro ⟨z, rfl, h⟩
    exact h
theorem jRef_iff {v : jV} {P : Nat → Prop} : jRef v P ↔ ∃ z, v = vR z ∧ P z := by
  constructor
  · intro h
    match v, h with
    | .inr (.inr (.inl z)), h => exact ⟨z, rfl, h⟩
  · rintro ⟨z, rfl, h⟩
    exact h
theorem jStr_iff {v : jV} {P : Nat → Prop} : jStr v P ↔ ∃ z, v = vS z ∧ P z := by
  constructor
  · intro h
    match v, h with
    | .inr (.inr (.inr (.inl z))), h => exact ⟨z, rfl, h⟩
  · rintro ⟨z, rfl, h⟩
    exact h
/-- a place or null -/
def jPls (v : jV) (P : Option Nat → Prop) : Prop := match v with
  | .inr (.inr (.inl z)) => P (some z)
  | .inr (.inr (.inr (.inr true))) => P none
  | _ => False
theorem jPls_R (z : Nat) (P : Option Nat → Prop) : jPls (vR z) P = P (some z) := rfl
theorem jPls_N (P : Option Nat → Prop) : jPls vN P = P none := rfl
def jpv (x : Option Nat) : jV := match x with
  | none => vN
  | some q => vR q
theorem jpv_c (x : Option Nat) : jc (jpv x) = va_rf x := by cases x <;> rfl
theorem jpv_some (q : Nat) : jpv (some q) = vR q := rfl
theorem jpv_none : jpv none = vN := rfl
theorem jcat_pv (x : Option Nat) : jcat (jpv x) = 1 := by cases x <;> rfl
theorem jPls_iff {v : jV} {P : Option Nat → Prop} : jPls v P ↔ ∃ z, v = jpv z ∧ P z := by
  constructor
  · intro h
    match v, h with
    | .inr (.inr (.inl z)), h => exact ⟨some z, rfl, h⟩
    | .inr (.inr (.inr (.inr true))), h => exact ⟨none, rfl, h⟩
  · rintro ⟨z, rfl, h⟩
    cases z <;> exact h
/-- a place, or a text -/
def jAny (v : jV) (P : jV → Prop) : Prop := match v with
  | .inr (.inr (.inl z)) => P (vR z)
  | .inr (.inr (.inr (.inl z))) => P (vS z)
  | _ => False
theorem jAny_R (z : Nat) (P : jV → Prop) : jAny (vR z) P = P (vR z) := rfl
theorem jAny_S (z : Nat) (P : jV → Prop) : jAny (vS z) P = P (vS z) := rfl
def jget : List jV → Nat → jV
  | [], _ => vU
  | a :: _, 0 => a
  | _ :: t, j + 1 => jget t j
def jisL : jV → Bool
  | .inr (.inl _) => true
  | _ => false
/-- a local is written: no half of a long is -/
def jst (L : List jV) (j : Nat) (v : jV) : Option (List jV) := match L, j with
  | [], _ => none
  | _ :: t, 0 => some (v :: t)
  | a :: t, 1 => if jisL a = true then none else (jst t 0 v).map (fun m => a :: m)
  | a :: t, j + 2 => (jst t (j + 1) v).map (fun m => a :: m)
def jst2 (L : List jV) (j : Nat) (v : jV) : Option (List jV) := if j + 1 < L.length then (jst L j v).map (fun m => m.set (j + 1) vU) else none
/-- the place r holds a row of kind k, and the index x lies in it -/
def jIx (σ : jH) (r k : Nat) (x : Int) (P : Prop) : Prop := ∃ n, (hsh σ)[r]? = some (k, n) ∧ n ≤ 1000000 ∧ 0 ≤ x ∧ x < n ∧ P
def jOb (σ : jH) (r ci : Nat) (P : Prop) : Prop := (hsh σ)[r]? = some (ci + 3, 0) ∧ P
abbrev jCR : Type := Nat → List jV → jH → jR → jH → Prop
abbrev jSc : Type := Nat × (Nat → Int32)
abbrev jE : Type := jSc → jCR → List jV → (jV → jH → Prop) → jH → Prop
abbrev jEs : Type := jSc → jCR → List jV → (List jV → jH → Prop) → jH → Prop
abbrev jC : Type := jSc → jCR → List jV → (jH → Prop) → (jH → Prop) → jH → Prop
abbrev jN : Type := List jV → jH → Prop
abbrev jS : Type := jSc → jCR → jN → jN → jN → (jR → jH → Prop) → List jV → jH → Prop
abbrev jW : Type := jSc → jCR → Int → jN → jN → (jR → jH → Prop) → List jV → jH → Prop
section
variable (sc : jSc) (C : jCR) (L : List jV) (Q : jV → jH → Prop) (σ : jH)
def eInt (z : Int) (sc : jSc) (C : jCR) (L : List jV) (Q : jV → jH → Prop) (σ : jH) : Prop := Q (vI z) σ
def eLng (z : Int) (sc : jSc) (C : jCR) (L : List jV) (Q : jV → jH → Prop) (σ : jH) : Prop := Q (vL z) σ
def eNul (sc : jSc) (C : jCR) (L : List jV) (Q : jV → jH → Prop) (σ : jH) : Prop := Q vN σ
def eStr (q : Nat) (sc : jSc) (C : jCR) (L : List jV) (Q : jV → jH → Prop) (σ : jH) : Prop := Q (vS q) σ
def eLoc (j : Nat) (sc : jSc) (C : jCR) (L : List jV) (Q : jV → jH → Prop) (σ : jH) : Prop := jInt (jget L j) (fun z => Q (vI z) σ)
def eLol (j : Nat) (sc : jSc) (C : jCR) (L : List jV) (Q : jV → jH → Prop) (σ : jH) : Prop := jLng (jget L j) (fun z => Q (vL z) σ)
def eLor (j : Nat) (sc : jSc) (C : jCR) (L : List jV) (Q : jV → jH → Prop) (σ : jH) : Prop := jAny (jget L j) (fun z => Q z σ)
def eBin (o : Nat) (a b : jE) (sc : jSc) (C : jCR) (L : List jV) (Q : jV → jH → Prop) (σ : jH) : Prop := a sc C L (fun x σ => b sc C L (fun y σ => jInt x (fun x => jInt y (fun y => Q (vI (j_op o x y)) σ))) σ) σ
def eDiv (a b : jE) (sc : jSc) (C : jCR) (L : List jV) (Q : jV → jH → Prop) (σ : jH) : Prop := a sc C L (fun x σ => b sc C L (fun y σ => jInt x (fun x => jInt y (fun y => j_w y ≠ 0 ∧ Q (vI (j_div x y)) σ))) σ) σ
def eRem (a b : jE) (sc : jSc) (C : jCR) (L : List jV) (Q : jV → jH → Prop) (σ : jH) : Prop := a sc C L (fun x σ => b sc C L (fun y σ => jInt x (fun x => jInt y (fun y => j_w y ≠ 0 ∧ Q (vI (j_rem x y)) σ))) σ) σ
def eNeg (a : jE) (sc : jSc) (C : jCR) (L : List jV) (Q : jV → jH → Prop) (σ : jH) : Prop := a sc C L (fun x σ => jInt x (fun x => Q (vI (-x)) σ)) σ
def eLbin (o : Nat) (a b : jE) (sc : jSc) (C : jCR) (L : List jV) (Q : jV → jH → Prop) (σ : jH) : Prop := a sc C L (fun x σ => b sc C L (fun y σ => jLng x (fun x => jLng y (fun y => Q (vL (j_lop o x y)) σ))) σ) σ
def eLdiv (a b : jE) (sc : jSc) (C : jCR) (L : List jV) (Q : jV → jH → Prop) (σ : jH) : Prop := a sc C L (fun x σ => b sc C L (fun y σ => jLng x (fun x => jLng y (fun y => j_w64 y ≠ 0 ∧ Q (vL (j_ldiv x y)) σ))) σ) σ
def eLrem (a b : jE) (sc : jSc) (C : jCR) (L : List jV) (Q : jV → jH → Prop) (σ : jH) : Prop := a sc C L (fun x σ => b sc C L (fun y σ => jLng x (fun x => jLng y (fun y => j_w64 y ≠ 0 ∧ Q (vL (j_lrem x y)) σ))) σ) σ
def eLshl (a b : jE) (sc : jSc) (C : jCR) (L : List jV) (Q : jV → jH → Prop) (σ : jH) : Prop := a sc C L (fun x σ => b sc C L (fun y σ => jLng x (fun x => jInt y (fun y => Q (vL (j_lshl x y)) σ))) σ) σ
def eLshr (a b : jE) (sc : jSc) (C : jCR) (L : List jV) (Q : jV → jH → Prop) (σ : jH) : Prop := a sc C L (fun x σ => b sc C L (fun y σ => jLng x (fun x => jInt y (fun y => Q (vL (j_lshr x y)) σ))) σ) σ
def eI2l (a : jE) (sc : jSc) (C : jCR) (L : List jV) (Q : jV → jH → Prop) (σ : jH) : Prop := a sc C L (fun x σ => jInt x (fun x => Q (vL (j_w x)) σ)) σ
def eL2i (a : jE) (sc : jSc) (C : jCR) (L : List jV) (Q : jV → jH → Prop) (σ : jH) : Prop := a sc C L (fun x σ => jLng x (fun x => Q (vI x) σ)) σ
def eFldI (ci k : Nat) (a : jE) (sc : jSc) (C : jCR) (L : List jV) (Q : jV → jH → Prop) (σ : jH) : Prop := a sc C L (fun x σ => jRef x (fun r => jOb σ r ci (Q (vI (hi σ r k)) σ))) σ
def eFldL (ci k : Nat) (a : jE) (sc : jSc) (C : jCR) (L : List jV) (Q : jV → jH → Prop) (σ : jH) : Prop := a sc C L (fun x σ => jRef x (fun r => jOb σ r ci (Q (vL (hl σ r k)) σ))) σ
def eFldP (ci k : Nat) (a : jE) (sc : jSc) (C : jCR) (L : List jV) (Q : jV → jH → Prop) (σ : jH) : Prop := a sc C L (fun x σ => jRef x (fun r => jOb σ r ci (Q (jpv (hp σ r k)) σ))) σ
def jScr (sc : jSc) (y : Int) (P : Int → Prop) : Prop := sc.1 ≤ 1000000 ∧ 0 ≤ y ∧ y < sc.1 ∧ P (sc.2 y.toNat).toInt
def eAldI (a i : jE) (sc : jSc) (C : jCR) (L : List jV) (Q : jV → jH → Prop) (σ : jH) : Prop := a sc C L (fun x σ => i sc C L (fun y σ => jInt y (fun y => jRef x (fun r => jIx σ r 0 y (Q (vI (hi σ r y.toNat)) σ)))) σ) σ
/-- an element of the script -/
def eAldS (a i : jE) (sc : jSc) (C : jCR) (L : List jV) (Q : jV → jH → Prop) (σ : jH) : Prop := a sc C L (fun x σ => i sc C L (fun y σ => jInt y (fun y => jStr x (fun q => q = 1000 ∧ jScr sc y (fun z => Q (vI z) σ)))) σ) σ
def eAldL (a i : jE) (sc : jSc) (C : jCR) (L : List jV) (Q : jV → jH → Prop) (σ : jH) : Prop := a sc C L (fun x σ => i sc C L (fun y σ => jInt y (fun y => jRef x (fun r => jIx σ r 1 y (Q (vL (hl σ r y.toNat)) σ)))) σ) σ
def eAldP (a i : jE) (sc : jSc) (C : jCR) (L : List jV) (Q : jV → jH → Prop) (σ : jH) : Prop := a sc C L (fun x σ => i sc C L (fun y σ => jInt y (fun y => jRef x (fun r => jIx σ r 2 y (Q (jpv (hp σ r y.toNat)) σ)))) σ) σ
def eLen (a : jE) (sc : jSc) (C : jCR) (L : List jV) (Q : jV → jH → Prop) (σ : jH) : Prop := a sc C L (fun x σ => jRef x (fun r => ∃ k n, (hsh σ)[r]? = some (k, n) ∧ k < 2 ∧ Q (vI n) σ)) σ
def eLenS (a : jE) (sc : jSc) (C : jCR) (L : List jV) (Q : jV → jH → Prop) (σ : jH) : Prop := a sc C L (fun x σ => jStr x (fun q => q = 1000 ∧ Q (vI sc.1) σ)) σ
/-- a call that answers -/
def jcal (C : jCR) (m w : Nat) (vs : List jV) (Q : jV → jH → Prop) (σ : jH) : Prop := ∃ v τ, C m vs σ (rV v) τ ∧ jcat v = w ∧ Q v τ
def eCall (w m : Nat) (as : jEs) (sc : jSc) (C : jCR) (L : List jV) (Q : jV → jH → Prop) (σ : jH) : Prop := as sc C L (fun vs σ => jcal C m w vs Q σ) σ
def eCalv (w ci m : Nat) (as : jEs) (sc : jSc) (C : jCR) (L : List jV) (Q : jV → jH → Prop) (σ : jH) : Prop := as sc C L (fun vs σ => jRef (jget vs 0) (fun r => jOb σ r ci (jcal C m w vs Q σ))) σ
def eMin (a b : jE) (sc : jSc) (C : jCR) (L : List jV) (Q : jV → jH → Prop) (σ : jH) : Prop := a sc C L (fun x σ => b sc C L (fun y σ => jInt x (fun x => jInt y (fun y => Q (vI (if j_w y < j_w x then y else x)) σ))) σ) σ
def eMax (a b : jE) (sc : jSc) (C : jCR) (L : List jV) (Q : jV → jH → Prop) (σ : jH) : Prop := a sc C L (fun x σ => b sc C L (fun y σ => jInt x (fun x => jInt y (fun y => Q (vI (if j_w x < j_w y then y else x)) σ))) σ) σ
def eLmin (a b : jE) (sc : jSc) (C : jCR) (L : List jV) (Q : jV → jH → Prop) (σ : jH) : Prop := a sc C L (fun x σ => b sc C L (fun y σ => jLng x (fun x => jLng y (fun y => Q (vL (if j_w64 y < j_w64 x then y else x)) σ))) σ) σ
def eAbs (a : jE) (sc : jSc) (C : jCR) (L : List jV) (Q : jV → jH → Prop) (σ : jH) : Prop := a sc C L (fun x σ => jInt x (fun x => Q (vI (if 0 ≤ j_w x then x else 0 - x)) σ)) σ
def eSlen (a : jE) (sc : jSc) (C : jCR) (L : List jV) (Q : jV → jH → Prop) (σ : jH) : Prop := a sc C L (fun x σ => jStr x (fun q => q < 27 ∧ Q (vI (a_txt q).length) σ)) σ
def eSat (a i : jE) (sc : jSc) (C : jCR) (L : List jV) (Q : jV → jH → Prop) (σ : jH) : Prop := a sc C L (fun x σ => i sc C L (fun y σ => jStr x (fun q => jInt y (fun y => q < 27 ∧ 0 ≤ y ∧ y < (a_txt q).length ∧ Q (vI ((a_txt q).getD y.toNat 0 : Nat)) σ))) σ) σ
def eIte (c : jC) (a b : jE) (sc : jSc) (C : jCR) (L : List jV) (Q : jV → jH → Prop) (σ : jH) : Prop := c sc C L (fun σ => a sc C L Q σ) (fun σ => b sc C L Q σ) σ
def eNewa (t : Nat) (a : jE) (sc : jSc) (C : jCR) (L : List jV) (Q : jV → jH → Prop) (σ : jH) : Prop := a sc C L (fun x σ => jInt x (fun n => 0 ≤ n ∧ n ≤ 1000000 ∧ Q (vR (hsh σ).length) (hal σ t n.toNat))) σ
def eNewo (ci m : Nat) (as : jEs) (sc : jSc) (C : jCR) (L : List jV) (Q : jV → jH → Prop) (σ : jH) : Prop := as sc C L (fun vs τ => ∃ τ', C m (vR (hsh σ).length :: vs) τ rN τ' ∧ Q (vR (hsh σ).length) τ') (hal σ (ci + 3) 0)
def esN (sc : jSc) (C : jCR) (L : List jV) (Q : List jV → jH → Prop) (σ : jH) : Prop := Q [] σ
def esC (e : jE) (t : jEs) (sc : jSc) (C : jCR) (L : List jV) (Q : List jV → jH → Prop) (σ : jH) : Prop := e sc C L (fun v σ => t sc C L (fun vs σ => Q (v :: vs) σ) σ) σ
def cCmp (o : ClassFile.Cond) (a b : jE) (sc : jSc) (C : jCR) (L : List jV) (T F : jH → Prop) (σ : jH) : Prop := a sc C L (fun x σ => b sc C L (fun y σ => jInt x (fun x => jInt y (fun y => (j_c2 o (j_w x) (j_w y) → T σ) ∧ (¬ j_c2 o (j_w x) (j_w y) → F σ)))) σ) σ
def cCmpz (o : ClassFile.Cond) (a : jE) (sc : jSc) (C : jCR) (L : List jV) (T F : jH → Prop) (σ : jH) : Prop := a sc C L (fun x σ => jInt x (fun x => (j_c2 o (j_w x) 0 → T σ) ∧ (¬ j_c2 o (j_w x) 0 → F σ))) σ
def cLcmp (o : ClassFile.Cond) (a b : jE) (sc : jSc) (C : jCR) (L : List jV) (T F : jH → Prop) (σ : jH) : Prop := a sc C L (fun x σ => b sc C L (fun y σ => jLng x (fun x => jLng y (fun y => (j_c2 o (j_w64 x) (j_w64 y) → T σ) ∧ (¬ j_c2 o (j_w64 x) (j_w64 y) → F σ)))) σ) σ
def cIsn (a : jE) (sc : jSc) (C : jCR) (L : List jV) (T F : jH → Prop) (σ : jH) : Prop := a sc C L (fun x σ => jPls x (fun p => (p = none → T σ) ∧ (¬ p = none → F σ))) σ
def cNot (c : jC) (sc : jSc) (C : jCR) (L : List jV) (T F : jH → Prop) (σ : jH) : Prop := c sc C L F T σ
def cAnd (a b : jC) (sc : jSc) (C : jCR) (L : List jV) (T F : jH → Prop) (σ : jH) : Prop := a sc C L (fun σ => b sc C L T F σ) F σ
def cOr (a b : jC) (sc : jSc) (C : jCR) (L : List jV) (T F : jH → Prop) (σ : jH) : Prop := a sc C L T (fun σ => b sc C L T F σ) σ
/-- the field's type lets it hold the int -/
def jFit (ci k : Nat) (z : Int) : Prop := a_ty ci k = .boolean → z = 0 ∨ z = 1
def jlp (wc : List jV → (jH → Prop) → (jH → Prop) → jH → Prop) (wb : jN → jN → jN → List jV → jH → Prop) (wu : jN → List jV → jH → Prop) (N : jN) : Nat → List jV → jH → Prop
  | 0, _, _ => False
  | n + 1, L, σ => wc L (fun σ => wb (wu (jlp wc wb wu N n)) N (wu (jlp wc wb wu N n)) L σ) (fun σ => N L σ) σ
def tSkip (sc : jSc) (C : jCR) (N B K : jN) (R : jR → jH → Prop) (L : List jV) (σ : jH) : Prop := N L σ
def tSup (sc : jSc) (C : jCR) (N B K : jN) (R : jR → jH → Prop) (L : List jV) (σ : jH) : Prop := jRef (jget L 0) (fun _ => N L σ)
def tSeq (a b : jS) (sc : jSc) (C : jCR) (N B K : jN) (R : jR → jH → Prop) (L : List jV) (σ : jH) : Prop := a sc C (fun L σ => b sc C N B K R L σ) B K R L σ
def tSetI (j : Nat) (e : jE) (sc : jSc) (C : jCR) (N B K : jN) (R : jR → jH → Prop) (L : List jV) (σ : jH) : Prop := e sc C L (fun v σ => jInt v (fun z => ∃ M, jst L j (vI z) = some M ∧ N M σ)) σ
def tSetL (j : Nat) (e : jE) (sc : jSc) (C : jCR) (N B K : jN) (R : jR → jH → Prop) (L : List jV) (σ : jH) : Prop := e sc C L (fun v σ => jLng v (fun z => ∃ M, jst2 L j (vL z) = some M ∧ N M σ)) σ
def tSetR (j : Nat) (e : jE) (sc : jSc) (C : jCR) (N B K : jN) (R : jR → jH → Prop) (L : List jV) (σ : jH) : Prop := e sc C L (fun v σ => jAny v (fun z => ∃ M, jst L j z = some M ∧ N M σ)) σ
def tInc (j : Nat) (z : Int) (sc : jSc) (C : jCR) (N B K : jN) (R : jR → jH → Prop) (L : List jV) (σ : jH) : Prop := jInt (jget L j) (fun x => ∃ M, jst L j (vI (x + z)) = some M ∧ N M σ)
def tPutI (ci k : Nat) (o e : jE) (sc : jSc) (C : jCR) (N B K : jN) (R : jR → jH → Prop) (L : List jV) (σ : jH) : Prop := o sc C L (fun x σ => e sc C L (fun y σ => jRef x (fun r => jOb σ r ci (jInt y (fun z => jFit ci k z ∧ N L (hsi σ r k z))))) σ) σ
def tPutL (ci k : Nat) (o e : jE) (sc : jSc) (C : jCR) (N B K : jN) (R : jR → jH → Prop) (L : List jV) (σ : jH) : Prop := o sc C L (fun x σ => e sc C L (fun y σ => jRef x (fun r => jOb σ r ci (jLng y (fun z => N L (hsl σ r k z))))) σ) σ
def tPutP (ci k : Nat) (o e : jE) (sc : jSc) (C : jCR) (N B K : jN) (R : jR → jH → Prop) (L : List jV) (σ : jH) : Prop := o sc C L (fun x σ => e sc C L (fun y σ => jRef x (fun r => jOb σ r ci (jPls y (fun z => N L (hsp σ r k z))))) σ) σ
/-- o.f = o.f op e -/
def tPutc (ci k : Nat) (o : jE) (p : Nat) (e : jE) (sc : jSc) (C : jCR) (N B K : jN) (R : jR → jH → Prop) (L : List jV) (σ : jH) : Prop := o sc C L (fun x σ => jRef x (fun r => jOb σ r ci (e sc C L (fun y τ => jInt y (fun z => jOb τ r ci (jFit ci k (j_op p (hi σ r k) z) ∧ N L (hsi τ r k (j_op p (hi σ r k) z))))) σ))) σ
def tAstI (a i e : jE) (sc : jSc) (C : jCR) (N B K : jN) (R : jR → jH → Prop) (L : List jV) (σ : jH) : Prop := a sc C L (fun x σ => i sc C L (fun y σ => e sc C L (fun v σ => jRef x (fun r => jInt y (fun y => jIx σ r 0 y (jInt v (fun z => N L (hsi σ r y.toNat z)))))) σ) σ) σ
def tAstL (a i e : jE) (sc : jSc) (C : jCR) (N B K : jN) (R : jR → jH → Prop) (L : List jV) (σ : jH) : Prop := a sc C L (fun x σ => i sc C L (fun y σ => e sc C L (fun v σ => jRef x (fun r => jInt y (fun y => jIx σ r 1 y (jLng v (fun z => N L (hsl σ r y.toNat z)))))) σ) σ) σ
def tAstP (a i e : jE) (sc : jSc) (C : jCR) (N B K : jN) (R : jR → jH → Prop) (L : List jV) (σ : jH) : Prop := a sc C L (fun x σ => i sc C L (fun y σ => e sc C L (fun v σ => jRef x (fun r => jInt y (fun y => jIx σ r 2 y (jPls v (fun z => (∀ q, z = some q → jOb σ q 9 True) ∧ N L (hsp σ r y.toNat z)))))) σ) σ) σ
/-- a[i] = a[i] op e -/
def tAstcI (a i : jE) (p : Nat) (e : jE) (sc : jSc) (C : jCR) (N B K : jN) (R : jR → jH → Prop) (L : List jV) (σ : jH) : Prop := a sc C L (fun x σ => i sc C L (fun y σ => jRef x (fun r => jInt y (fun y => jIx σ r 0 y (e sc C L (fun v τ => jInt v (fun z => jIx τ r 0 y (N L (hsi τ r y.toNat (j_op p (hi σ r y.toNat) z))))) σ)))) σ) σ
def tAstcL (a i : jE) (p : Nat) (e : jE) (sc : jSc) (C : jCR) (N B K : jN) (R : jR → jH → Prop) (L : List jV) (σ : jH) : Prop := a sc C L (fun x σ => i sc C L (fun y σ => jRef x (fun r => jInt y (fun y => jIx σ r 1 y (e sc C L (fun v τ => jLng v (fun z => jIx τ r 1 y (N L (hsl τ r y.toNat (j_lop p (hl σ r y.toNat) z))))) σ)))) σ) σ
def jcpy (σ : jH) (t ra rb : Nat) (s d n : Int) (P : Prop) : Prop := ∃ na nb, (hsh σ)[ra]? = some (t, na) ∧ (hsh σ)[rb]? = some (t, nb) ∧ 0 ≤ s ∧ 0 ≤ d ∧ 0 ≤ n ∧ s + n ≤ na ∧ d + n ≤ nb ∧ na ≤ 1000000 ∧ nb ≤ 1000000 ∧ P
def tAcpI (a sp b dp n : jE) (sc : jSc) (C : jCR) (N B K : jN) (R : jR → jH → Prop) (L : List jV) (σ : jH) : Prop := a sc C L (fun va σ => sp sc C L (fun vs σ => b sc C L (fun vb σ => dp sc C L (fun vd σ => n sc C L (fun vn σ => jRef va (fun ra => jInt vs (fun s => jRef vb (fun rb => jInt vd (fun d => jInt vn (fun n => jcpy σ 0 ra rb s d n (N L (hci σ ra s.toNat rb d.toNat n.toNat)))))))) σ) σ) σ) σ) σ
def tAcpL (a sp b dp n : jE) (sc : jSc) (C : jCR) (N B K : jN) (R : jR → jH → Prop) (L : List jV) (σ : jH) : Prop := a sc C L (fun va σ => sp sc C L (fun vs σ => b sc C L (fun vb σ => dp sc C L (fun vd σ => n sc C L (fun vn σ => jRef va (fun ra => jInt vs (fun s => jRef vb (fun rb => jInt vd (fun d => jInt vn (fun n => jcpy σ 1 ra rb s d n (N L (hcl σ ra s.toNat rb d.toNat n.toNat)))))))) σ) σ) σ) σ) σ
def tExp (e : jE) (sc : jSc) (C : jCR) (N B K : jN) (R : jR → jH → Prop) (L : List jV) (σ : jH) : Prop := e sc C L (fun _ σ => N L σ) σ
/-- a call that answers nothing; one that may throw -/
def jcav (C : jCR) (m : Nat) (vs : List jV) (Q : jH → Prop) (σ : jH) : Prop := ∃ τ, C m vs σ rN τ ∧ Q τ
def jcat2 (C : jCR) (m : Nat) (vs : List jV) (Q : jH → Prop) (R : jR → jH → Prop) (σ : jH) : Prop := ∃ x τ, C m vs σ x τ ∧ ((x = rN ∧ Q τ) ∨ ∃ y, x = rT y ∧ R (rT y) τ)
def tExv (m : Nat) (as : jEs) (sc : jSc) (C : jCR) (N B K : jN) (R : jR → jH → Prop) (L : List jV) (σ : jH) : Prop := as sc C L (fun vs σ => jcav C m vs (N L) σ) σ
def tExw (ci m : Nat) (as : jEs) (sc : jSc) (C : jCR) (N B K : jN) (R : jR → jH → Prop) (L : List jV) (σ : jH) : Prop := as sc C L (fun vs σ => jRef (jget vs 0) (fun r => jOb σ r ci (jcat2 C m vs (N L) R σ))) σ
def tIte (c : jC) (a b : jS) (sc : jSc) (C : jCR) (N B K : jN) (R : jR → jH → Prop) (L : List jV) (σ : jH) : Prop := c sc C L (fun σ => a sc C N B K R L σ) (fun σ => b sc C N B K R L σ) σ
def tLoop (c : jC) (b u : jS) (sc : jSc) (C : jCR) (N B K : jN) (R : jR → jH → Prop) (L : List jV) (σ : jH) : Prop := ∃ n, jlp (fun L => c sc C L) (fun N B K => b sc C N B K R) (fun N => u sc C N (fun _ _ => False) (fun _ _ => False) R) N n L σ
def tSw (e : jE) (w : jW) (sc : jSc) (C : jCR) (N B K : jN) (R : jR → jH → Prop) (L : List jV) (σ : jH) : Prop := e sc C L (fun v σ => jInt v (fun z => w sc C (j_w z) N K R L σ)) σ
def tRet (e : jE) (sc : jSc) (C : jCR) (N B K : jN) (R : jR → jH → Prop) (L : List jV) (σ : jH) : Prop := e sc C L (fun v σ => jInt v (fun z => R (rV (vI z)) σ)) σ
def tRetB (e : jE) (sc : jSc) (C : jCR) (N B K : jN) (R : jR → jH → Prop) (L : List jV) (σ : jH) : Prop := e sc C L (fun v σ => jInt v (fun z => (z = 0 ∨ z = 1) ∧ R (rV (vI z)) σ)) σ
def tRetL (e : jE) (sc : jSc) (C : jCR) (N B K : jN) (R : jR → jH → Prop) (L : List jV) (σ : jH) : Prop := e sc C L (fun v σ => jLng v (fun z => R (rV (vL z)) σ)) σ
def tRetv (sc : jSc) (C : jCR) (N B K : jN) (R : jR → jH → Prop) (L : List jV) (σ : jH) : Prop := R rN σ
def tBrk (sc : jSc) (C : jCR) (N B K : jN) (R : jR → jH → Prop) (L : List jV) (σ : jH) : Prop := B L σ
def tCont (sc : jSc) (C : jCR) (N B K : jN) (R : jR → jH → Prop) (L : List jV) (σ : jH) : Prop := K L σ
def tThr (x : Nat) (sc : jSc) (C : jCR) (N B K : jN) (R : jR → jH → Prop) (L : List jV) (σ : jH) : Prop := R (rT x) (hal σ (x + 16) 0)
def wD (s : jS) (sc : jSc) (C : jCR) (z : Int) (N K : jN) (R : jR → jH → Prop) (L : List jV) (σ : jH) : Prop := s sc C N N K R L σ
def wK (ks : List Int) (s : jS) (t : jW) (sc : jSc) (C : jCR) (z : Int) (N K : jN) (R : jR → jH → Prop) (L : List jV) (σ : jH) : Prop := (z ∈ ks → s sc C (fun _ _ => False) N K R L σ) ∧ (¬ z ∈ ks → t sc C z N K R L σ)
end
end TREE
