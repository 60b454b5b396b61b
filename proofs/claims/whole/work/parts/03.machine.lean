/-! A small machine of our own: the bytecode of the claim's methods with every link resolved, run over cells that are counted
from 0 on. What it does is shown (part 05) to be what the JVM does; everything behind that speaks of this machine alone. -/
/-- a cell: a row (kind 0 int, 1 long, 2 Town; its length and what it holds), or an object (its class's number, its fields) -/
abbrev AC : Type := (Nat × vp_A) ⊕ (Nat × List Value)
abbrev AH : Type := List AC
/-- where it stands in the code, the instruction, its length, what its numbers are resolved to -/
abbrev AI : Type := Nat × Instr × Nat × List Nat
/-- how a method ends: an answer, or an exception's class's number -/
abbrev ARes : Type := (Option Value ⊕ Nat) × AH
abbrev AFr : Type := Nat × List Value × List Value × AH
/-- what an instruction does: go on; end; call (method, arguments, the rest of the stack) -/
abbrev AOut : Type := AFr ⊕ (ARes ⊕ (Nat × List Value × List Value))
/-- a local that holds nothing of use -/
abbrev a_un : Value := .retAddr 0
def a_ldI (L : List Value) (j : Nat) : Option Value := match L[j]? with
  | some (.int x) => some (.int x)
  | _ => none
def a_ldL (L : List Value) (j : Nat) : Option Value := match L[j]? with
  | some (.long x) => some (.long x)
  | _ => none
def a_ldA (L : List Value) (j : Nat) : Option Value := match L[j]? with
  | some (.ref x) => some (.ref x)
  | some (.float x) => some (.float x)
  | _ => none
/-- a long begins just ahead of place j -/
def a_pl (L : List Value) : Nat → Bool
  | 0 => false
  | j + 1 => match L[j]? with
    | some v => decide (v.category = 2)
    | none => false
def a_st1 (L : List Value) (j : Nat) (v : Value) : Option (List Value) := if j < L.length ∧ a_pl L j = false then some (L.set j v) else none
def a_st2 (L : List Value) (j : Nat) (v : Value) : Option (List Value) := if j + 1 < L.length ∧ a_pl L j = false then some ((L.set j v).set (j + 1) a_un) else none
def a_go (o : Nat) (L st : List Value) (h : AH) : Option AOut := some (.inl (o + 1, L, st, h))
def a_to (t : Nat) (L st : List Value) (h : AH) : Option AOut := some (.inl (t, L, st, h))
def a_ld (o : Nat) (v : Option Value) (L st : List Value) (h : AH) : Option AOut := match v with
  | some v => a_go o L (v :: st) h
  | none => none
def a_sto (o : Nat) (L' : Option (List Value)) (st : List Value) (h : AH) : Option AOut := match L' with
  | some L => a_go o L st h
  | none => none
def a_stI (o j : Nat) (L st : List Value) (h : AH) : Option AOut := match st with
  | .int x :: r => a_sto o (a_st1 L j (.int x)) r h
  | _ => none
def a_stA (o j : Nat) (L st : List Value) (h : AH) : Option AOut := match st with
  | .ref x :: r => a_sto o (a_st1 L j (.ref x)) r h
  | .float x :: r => a_sto o (a_st1 L j (.float x)) r h
  | _ => none
def a_stL (o j : Nat) (L st : List Value) (h : AH) : Option AOut := match st with
  | .long x :: r => a_sto o (a_st2 L j (.long x)) r h
  | _ => none
def a_i2 (f : Int32 → Int32 → Int32) (o : Nat) (L st : List Value) (h : AH) : Option AOut := match st with
  | .int y :: .int x :: r => a_go o L (.int (f x y) :: r) h
  | _ => none
def a_cat : List Value → Nat
  | [] => 0
  | v :: t => v.category + a_cat t
/-- Math.min, Math.max -/
def a_m2 (f : Int32 → Int32 → Int32) (o : Nat) (L st : List Value) (h : AH) : Option AOut := match st with
  | .int y :: .int x :: r => if a_cat r ≤ 8 then a_go o L (.int (f x y) :: r) h else none
  | _ => none
/-- a division: not by 0 -/
def a_i2d (f : Int32 → Int32 → Int32) (o : Nat) (L st : List Value) (h : AH) : Option AOut := match st with
  | .int y :: .int x :: r => if y = 0 then none else a_go o L (.int (f x y) :: r) h
  | _ => none
def a_l2 (f : Int64 → Int64 → Int64) (o : Nat) (L st : List Value) (h : AH) : Option AOut := match st with
  | .long y :: .long x :: r => a_go o L (.long (f x y) :: r) h
  | _ => none
def a_l2d (f : Int64 → Int64 → Int64) (o : Nat) (L st : List Value) (h : AH) : Option AOut := match st with
  | .long y :: .long x :: r => if y = 0 then none else a_go o L (.long (f x y) :: r) h
  | _ => none
def a_lsh (f : Int64 → Int32 → Int64) (o : Nat) (L st : List Value) (h : AH) : Option AOut := match st with
  | .int y :: .long x :: r => a_go o L (.long (f x y) :: r) h
  | _ => none
def a_c1 (c : ClassFile.Cond) (x : Int32) : Bool := match c with
  | .eq => decide (x = 0)
  | .ne => decide (¬ x = 0)
  | .lt => decide (x < 0)
  | .ge => decide (0 ≤ x)
  | .gt => decide (0 < x)
  | .le => decide (x ≤ 0)
def a_c2 (c : ClassFile.Cond) (x y : Int32) : Bool := match c with
  | .eq => decide (x = y)
  | .ne => decide (¬ x = y)
  | .lt => decide (x < y)
  | .ge => decide (y ≤ x)
  | .gt => decide (y < x)
  | .le => decide (x ≤ y)
def a_br (b : Bool) (o t : Nat) (L st : List Value) (h : AH) : Option AOut := match b with
  | true => a_to t L st h
  | false => a_go o L st h
/-- place of an index in a row of n -/
def a_in (i : Int32) (n : Nat) : Bool := decide (¬ (i < 0 ∨ n ≤ i.toNatClampNeg))
theorem a_in_iff {i : Int32} {n : Nat} : a_in i n = true ↔ vp_in i n := by unfold a_in vp_in; exact decide_eq_true_iff
/-- the classes whose objects there are; the last two are the exceptions, whose fields nobody reads -/
abbrev a_cl : List vw_C := [(RX0, TX0, 6), (RX1, TX1, 3), (RX2, TX2, 4), (RX3, TX3, 10), (RX4, TX4, 3), (RX5, TX5, 3), (RX6, TX6, 4), (RX7, TX7, 9), (RX8, TX8, 8), (RX9, TX9, 11), (RX10, TX10, 15), (RX11, TX11, 16), (RX12, TX12, 77), ("java/lang/IllegalArgumentException", (fun _ => ("", "", "", false)), 0), ("java/util/NoSuchElementException", (fun _ => ("", "", "", false)), 0)]
/-- the fields' types, by class -/
def a_ty (ci : Nat) : Nat → FieldType := match ci with
  | 0 => tyX0 | 1 => tyX1 | 2 => tyX2 | 3 => tyX3 | 4 => tyX4 | 5 => tyX5 | 6 => tyX6 | 7 => tyX7 | 8 => tyX8 | 9 => tyX9 | 10 => tyX10 | 11 => tyX11 | _ => tyX12
/-- the fields of a new object -/
def a_new (ci : Nat) : List Value := match a_cl[ci]? with
  | some q => (List.range q.2.2).map (fun j => defaultValue (a_ty ci j))
  | none => []
/-- how many slots a cell has -/
def a_sz (c : AC) : Nat := match c with
  | .inl (_, n, _) => n
  | .inr (ci, _) => match a_cl[ci]? with
    | some q => if q.2.2 = 0 then 6 else q.2.2
    | none => 0
def a_hsz : AH → Nat
  | [] => 0
  | c :: t => a_sz c + a_hsz t
/-- the text constants' bytes -/
def a_txts : List (List Nat) := [[97, 32, 110, 117, 109, 98, 101, 114, 32, 116, 104, 97, 116, 32, 105, 115, 32, 111, 117, 116, 32, 111, 102, 32, 105, 116, 115, 32, 114, 97, 110, 103, 101], [119, 97, 103, 111, 110, 32, 116, 105, 101, 32, 110, 101, 101, 100, 115, 32, 103, 114, 111, 117, 110, 100, 32, 104, 111, 117, 114, 115, 32, 115, 112, 101, 101, 100, 32, 103, 97, 110, 103, 32, 118, 111, 116, 101, 114, 32, 119, 101, 108, 108, 32, 102, 114, 111, 115, 116], [104, 111, 117, 114, 115, 32, 119, 101, 105, 103, 104, 116, 32, 107, 105, 110, 100, 32, 99, 101, 108, 108, 32, 103, 114, 111, 117, 110, 100, 32, 100, 97, 121, 32, 110, 101, 97, 114, 32, 102, 114, 111, 115, 116, 32, 108, 101, 97, 115, 116, 32, 109, 111, 115, 116], [108, 97, 121, 32, 116, 97, 107, 101, 32, 102, 101, 116, 99, 104, 32, 100, 97, 121, 32, 97, 103, 97, 105, 110], [110, 111, 32, 115, 117, 99, 104, 32, 119, 97, 103, 111, 110], [111, 110, 101, 32, 112, 108, 97, 110, 32, 105, 110, 115, 116, 101, 97, 100, 32, 111, 102, 32, 116, 119, 111], [119, 97, 103, 111, 110], [116, 105, 101], [118, 111, 116, 101, 114], [110, 101, 101, 100, 115], [103, 114, 111, 117, 110, 100], [103, 97, 110, 103], [119, 101, 108, 108], [104, 111, 117, 114, 115], [115, 112, 101, 101, 100], [102, 114, 111, 115, 116], [108, 101, 97, 115, 116], [109, 111, 115, 116], [119, 101, 105, 103, 104, 116], [107, 105, 110, 100], [99, 101, 108, 108], [100, 97, 121], [110, 101, 97, 114], [108, 97, 121], [116, 97, 107, 101], [102, 101, 116, 99, 104], [97, 103, 97, 105, 110]]
def a_txt (i : Nat) : List Nat := a_txts.getD i []
/-- what a field of this type may hold -/
def a_fit (ty : FieldType) (v : Value) : Bool := decide (narrow ty v = v) && fits ty v
def a_isF (v : Value) : Bool := match v with
  | .float _ => true
  | _ => false
/-- the target of a lookupswitch -/
def a_look (x : Int) : List (Int × Int) → List Nat → Nat → Nat
  | (k, _) :: t, g :: gs, d => if x = k then g else a_look x t gs d
  | _, _, d => d
/-- an object of class ci stands at the cell r -/
def a_is (h : AH) (r ci : Nat) : Bool := match h[r]? with
  | some (.inr (c, _)) => decide (c = ci)
  | _ => false
/-- a call of a method of n arguments (with the receiver) -/
def a_call (mi n : Nat) (st : List Value) : Option AOut := if n ≤ st.length ∧ a_cat (st.drop n) ≤ 8 then some (.inr (.inr (mi, (st.take n).reverse, st.drop n))) else none
def a_callV (mi n ci : Nat) (st : List Value) (h : AH) : Option AOut := match st[n]? with
  | some (.ref r) => if a_is h r ci = true then a_call mi (n + 1) st else none
  | _ => none
def a_callI (mi n : Nat) (st : List Value) : Option AOut := match st[n]? with
  | some (.ref _) => a_call mi (n + 1) st
  | _ => none
def a_getf (ci k o : Nat) (L st : List Value) (h : AH) : Option AOut := match st with
  | .ref r :: rest => match h[r]? with
    | some (.inr (c, fs)) => if c = ci then a_ld o fs[k]? L rest h else none
    | _ => none
  | _ => none
def a_putf (ci k o : Nat) (L st : List Value) (h : AH) : Option AOut := match st with
  | v :: .ref r :: rest => match h[r]? with
    | some (.inr (c, fs)) => if c = ci ∧ k < fs.length ∧ a_isF v = false ∧ a_fit (a_ty ci k) v = true then a_go o L rest (h.set r (.inr (c, fs.set k v))) else none
    | _ => none
  | _ => none
def a_iald (sc : Nat × (Nat → Int32)) (o : Nat) (L st : List Value) (h : AH) : Option AOut := match st with
  | .int i :: .ref r :: rest => match h[r]? with
    | some (.inl (0, n, .inl f)) => if a_in i n = true then a_go o L (.int (f i.toNatClampNeg) :: rest) h else none
    | _ => none
  | .int i :: .float q :: rest => if q = 1000 ∧ a_in i sc.1 = true then a_go o L (.int (sc.2 i.toNatClampNeg) :: rest) h else none
  | _ => none
def a_lald (o : Nat) (L st : List Value) (h : AH) : Option AOut := match st with
  | .int i :: .ref r :: rest => match h[r]? with
    | some (.inl (1, n, .inr (.inl f))) => if a_in i n = true then a_go o L (.long (f i.toNatClampNeg) :: rest) h else none
    | _ => none
  | _ => none
def a_aald (o : Nat) (L st : List Value) (h : AH) : Option AOut := match st with
  | .int i :: .ref r :: rest => match h[r]? with
    | some (.inl (2, n, .inr (.inr (.inr (.inr f))))) => if a_in i n = true then a_go o L (va_rf (f i.toNatClampNeg) :: rest) h else none
    | _ => none
  | _ => none
def a_iast (o : Nat) (L st : List Value) (h : AH) : Option AOut := match st with
  | .int x :: .int i :: .ref r :: rest => match h[r]? with
    | some (.inl (0, n, .inl f)) => if a_in i n = true then a_go o L rest (h.set r (.inl (0, n, .inl (upd f i.toNatClampNeg x)))) else none
    | _ => none
  | _ => none
def a_last (o : Nat) (L st : List Value) (h : AH) : Option AOut := match st with
  | .long x :: .int i :: .ref r :: rest => match h[r]? with
    | some (.inl (1, n, .inr (.inl f))) => if a_in i n = true then a_go o L rest (h.set r (.inl (1, n, .inr (.inl (vp_updL f i.toNatClampNeg x))))) else none
    | _ => none
  | _ => none
def a_aast (o : Nat) (L st : List Value) (h : AH) : Option AOut := match st with
  | .ref t :: .int i :: .ref r :: rest => match h[r]? with
    | some (.inl (2, n, .inr (.inr (.inr (.inr f))))) => if a_in i n = true ∧ a_is h t 9 = true then a_go o L rest (h.set r (.inl (2, n, .inr (.inr (.inr (.inr (va_up f i.toNatClampNeg (some t)))))))) else none
    | _ => none
  | .null :: .int i :: .ref r :: rest => match h[r]? with
    | some (.inl (2, n, .inr (.inr (.inr (.inr f))))) => if a_in i n = true then a_go o L rest (h.set r (.inl (2, n, .inr (.inr (.inr (.inr (va_up f i.toNatClampNeg none))))))) else none
    | _ => none
  | _ => none
def a_alen (sc : Nat × (Nat → Int32)) (o : Nat) (L st : List Value) (h : AH) : Option AOut := match st with
  | .ref r :: rest => match h[r]? with
    | some (.inl (0, n, .inl _)) => a_go o L (.int (Int32.ofNat n) :: rest) h
    | some (.inl (1, n, .inr (.inl _))) => a_go o L (.int (Int32.ofNat n) :: rest) h
    | _ => none
  | .float q :: rest => if q = 1000 then a_go o L (.int (Int32.ofNat sc.1) :: rest) h else none
  | _ => none
def a_newa (k o : Nat) (L st : List Value) (h : AH) : Option AOut := match st with
  | .int n :: rest => if n < 0 ∨ 67108864 < n.toNatClampNeg then none else match k with
    | 0 => a_go o L (.ref h.length :: rest) (h ++ [.inl (0, n.toNatClampNeg, .inl (fun _ => 0))])
    | 1 => a_go o L (.ref h.length :: rest) (h ++ [.inl (1, n.toNatClampNeg, .inr (.inl (fun _ => 0)))])
    | 2 => a_go o L (.ref h.length :: rest) (h ++ [.inl (2, n.toNatClampNeg, .inr (.inr (.inr (.inr (fun _ => none)))))])
    | _ => none
  | _ => none
/-- System.arraycopy of two rows of ints that are not one -/
def a_cpi (o : Nat) (L st : List Value) (h : AH) : Option AOut := match st with
  | .int n :: .int dp :: .ref b :: .int sp :: .ref a :: rest => match h[a]?, h[b]? with
    | some (.inl (0, n0, .inl f)), some (.inl (0, n1, .inl g)) => if ¬ sp < 0 ∧ ¬ dp < 0 ∧ ¬ n < 0 ∧ sp.toNatClampNeg + n.toNatClampNeg ≤ n0 ∧ dp.toNatClampNeg + n.toNatClampNeg ≤ n1 ∧ a_cat rest ≤ 8
      then a_go o L rest (h.set b (.inl (0, n1, .inl (va_cpy f g sp.toNatClampNeg dp.toNatClampNeg n.toNatClampNeg)))) else none
    | _, _ => none
  | _ => none
def a_cpl (o : Nat) (L st : List Value) (h : AH) : Option AOut := match st with
  | .int n :: .int dp :: .ref b :: .int sp :: .ref a :: rest => match h[a]?, h[b]? with
    | some (.inl (1, n0, .inr (.inl f))), some (.inl (1, n1, .inr (.inl g))) => if ¬ sp < 0 ∧ ¬ dp < 0 ∧ ¬ n < 0 ∧ sp.toNatClampNeg + n.toNatClampNeg ≤ n0 ∧ dp.toNatClampNeg + n.toNatClampNeg ≤ n1 ∧ a_cat rest ≤ 8
      then a_go o L rest (h.set b (.inl (1, n1, .inr (.inl (va_cpy f g sp.toNatClampNeg dp.toNatClampNeg n.toNatClampNeg))))) else none
    | _, _ => none
  | _ => none
def a_slen (o : Nat) (L st : List Value) (h : AH) : Option AOut := match st with
  | .float q :: rest => if q.toNat < 27 ∧ a_cat rest ≤ 8 then a_go o L (.int (Int32.ofNat (a_txt q.toNat).length) :: rest) h else none
  | _ => none
def a_sat (o : Nat) (L st : List Value) (h : AH) : Option AOut := match st with
  | .int i :: .float q :: rest => if q.toNat < 27 ∧ a_cat rest ≤ 8 ∧ a_in i (a_txt q.toNat).length = true then a_go o L (.int (Int32.ofNat ((a_txt q.toNat).getD i.toNatClampNeg 0)) :: rest) h else none
  | _ => none
/-- an instruction at place o, over locals L, stack st, cells h; sc is the law's script -/
def a_step (sc : Nat × (Nat → Int32)) (o : Nat) (i : Instr) (ps : List Nat) (L st : List Value) (h : AH) : Option AOut := match i with
  | .aload_n k => a_ld o (a_ldA L k.val) L st h
  | .aload k => a_ld o (a_ldA L k) L st h
  | .iload_n k => a_ld o (a_ldI L k.val) L st h
  | .iload k => a_ld o (a_ldI L k) L st h
  | .lload_n k => a_ld o (a_ldL L k.val) L st h
  | .lload k => a_ld o (a_ldL L k) L st h
  | .istore_n k => a_stI o k.val L st h
  | .istore k => a_stI o k L st h
  | .lstore_n k => a_stL o k.val L st h
  | .lstore k => a_stL o k L st h
  | .astore_n k => a_stA o k.val L st h
  | .astore k => a_stA o k L st h
  | .iinc k z => match a_ldI L k with
    | some (.int x) => a_sto o (a_st1 L k (.int (x + Int32.ofInt z))) st h
    | _ => none
  | .iconst z => a_go o L (.int (Int32.ofInt z) :: st) h
  | .bipush z => a_go o L (.int (Int8.ofInt z).toInt32 :: st) h
  | .sipush z => a_go o L (.int (Int16.ofInt z).toInt32 :: st) h
  | .lconst k => a_go o L (.long (Int64.ofNat k.val) :: st) h
  | .ldc _ => match ps with
    | [0, v, _] => a_go o L (.int (Int32.ofNat v) :: st) h
    | [1, q] => a_go o L (.float (UInt32.ofNat q) :: st) h
    | _ => none
  | .ldc_w _ => match ps with
    | [0, v, _] => a_go o L (.int (Int32.ofNat v) :: st) h
    | [1, q] => a_go o L (.float (UInt32.ofNat q) :: st) h
    | _ => none
  | .ldc2_w _ => match ps with
    | [v, _] => a_go o L (.long (Int64.ofNat v) :: st) h
    | _ => none
  | .aconst_null => a_go o L (.null :: st) h
  | .iadd => a_i2 (fun x y => x + y) o L st h
  | .isub => a_i2 (fun x y => x - y) o L st h
  | .imul => a_i2 (fun x y => x * y) o L st h
  | .iand => a_i2 (fun x y => x &&& y) o L st h
  | .ior => a_i2 (fun x y => x ||| y) o L st h
  | .ixor => a_i2 (fun x y => x ^^^ y) o L st h
  | .ishl => a_i2 (fun x y => x <<< (y &&& 31)) o L st h
  | .ishr => a_i2 (fun x y => x >>> (y &&& 31)) o L st h
  | .iushr => a_i2 (fun x y => (x.toUInt32 >>> (y.toUInt32 &&& Int32.toUInt32 31)).toInt32) o L st h
  | .idiv => a_i2d (fun x y => x / y) o L st h
  | .irem => a_i2d (fun x y => x - x / y * y) o L st h
  | .ineg => match st with
    | .int x :: r => a_go o L (.int (-x) :: r) h
    | _ => none
  | .ladd => a_l2 (fun x y => x + y) o L st h
  | .lmul => a_l2 (fun x y => x * y) o L st h
  | .land => a_l2 (fun x y => x &&& y) o L st h
  | .lor => a_l2 (fun x y => x ||| y) o L st h
  | .ldiv => a_l2d (fun x y => x / y) o L st h
  | .lrem => a_l2d (fun x y => x - x / y * y) o L st h
  | .lshl => a_lsh (fun x y => x <<< (y.toInt64 &&& 63)) o L st h
  | .lshr => a_lsh (fun x y => x >>> (y.toInt64 &&& 63)) o L st h
  | .lcmp => match st with
    | .long y :: .long x :: r => a_go o L (.int (lg_cmp x y) :: r) h
    | _ => none
  | .i2l => match st with
    | .int x :: r => a_go o L (.long x.toInt64 :: r) h
    | _ => none
  | .l2i => match st with
    | .long x :: r => a_go o L (.int x.toInt32 :: r) h
    | _ => none
  | .dup => match st with
    | v :: r => if v.category = 1 then a_go o L (v :: v :: r) h else none
    | _ => none
  | .pop => match st with
    | v :: r => if v.category = 1 then a_go o L r h else none
    | _ => none
  | .dup2 => match st with
    | v :: w :: r => if v.category = 1 ∧ w.category = 1 then a_go o L (v :: w :: v :: w :: r) h else none
    | _ => none
  | .goto _ => match ps with
    | [t] => a_to t L st h
    | _ => none
  | .ifCond c _ => match ps, st with
    | [t], .int x :: r => a_br (a_c1 c x) o t L r h
    | _, _ => none
  | .if_icmp c _ => match ps, st with
    | [t], .int y :: .int x :: r => a_br (a_c2 c x y) o t L r h
    | _, _ => none
  | .ifnull _ => match ps, st with
    | [t], .null :: r => a_to t L r h
    | [_], .ref _ :: r => a_go o L r h
    | _, _ => none
  | .ifnonnull _ => match ps, st with
    | [_], .null :: r => a_go o L r h
    | [t], .ref _ :: r => a_to t L r h
    | _, _ => none
  | .tableswitch _ lo hi _ => match ps, st with
    | d :: ts, .int x :: r => if x.toInt < lo ∨ hi < x.toInt then a_to d L r h else match ts[(x.toInt - lo).toNat]? with
      | some t => a_to t L r h
      | none => none
    | _, _ => none
  | .lookupswitch _ prs => match ps, st with
    | d :: ts, .int x :: r => a_to (a_look x.toInt prs.toList ts d) L r h
    | _, _ => none
  | .getfield _ => match ps with
    | [_, ci, k, _] => a_getf ci k o L st h
    | _ => none
  | .putfield _ => match ps with
    | [_, ci, k, _] => a_putf ci k o L st h
    | _ => none
  | .iaload => a_iald sc o L st h
  | .laload => a_lald o L st h
  | .aaload => a_aald o L st h
  | .iastore => a_iast o L st h
  | .lastore => a_last o L st h
  | .aastore => a_aast o L st h
  | .arraylength => a_alen sc o L st h
  | .newarray _ => match ps with
    | [k, _] => a_newa k o L st h
    | _ => none
  | .anewarray _ => match ps with
    | [_, _] => a_newa 2 o L st h
    | _ => none
  | .new _ => match ps with
    | 0 :: ci :: _ => a_go o L (.ref h.length :: st) (h ++ [.inr (ci, a_new ci)])
    | 1 :: x :: _ => if a_cat st ≤ 8 then some (.inr (.inl (.inr x, h ++ [.inr (13 + x, [])]))) else none
    | _ => none
  | .invokevirtual _ => match ps with
    | 0 :: mi :: n :: ci :: _ => a_callV mi n ci st h
    | 1 :: _ => a_slen o L st h
    | 2 :: _ => a_sat o L st h
    | _ => none
  | .invokestatic _ => match ps with
    | 0 :: mi :: n :: _ => a_call mi n st
    | 1 :: _ => a_cpi o L st h
    | 2 :: _ => a_cpl o L st h
    | 3 :: mi :: n :: _ => a_call mi n st
    | 4 :: _ => a_m2 (fun x y => if y < x then y else x) o L st h
    | 5 :: _ => a_m2 (fun x y => if x < y then y else x) o L st h
    | 6 :: _ => match st with
      | .int x :: r => if a_cat r ≤ 8 then a_go o L (.int (if 0 ≤ x then x else 0 - x) :: r) h else none
      | _ => none
    | 7 :: _ => match st with
      | .long y :: .long x :: r => if a_cat r ≤ 8 then a_go o L (.long (if y < x then y else x) :: r) h else none
      | _ => none
    | _ => none
  | .invokespecial _ => match ps with
    | 0 :: mi :: n :: _ => a_callI mi n st
    | 1 :: mi :: n :: _ => a_callI mi n st
    | 2 :: _ => match st with
      | .ref _ :: r => if a_cat r ≤ 8 then a_go o L r h else none
      | _ => none
    | _ => none
  | .ireturn => match ps, st with
    | [0], [.int x] => some (.inr (.inl (.inl (some (.int x)), h)))
    | [1], [.int x] => if narrow .boolean (.int x) = .int x then some (.inr (.inl (.inl (some (.int x)), h))) else none
    | _, _ => none
  | .lreturn => match st with
    | [.long x] => some (.inr (.inl (.inl (some (.long x)), h)))
    | _ => none
  | .return_ => match st with
    | [] => some (.inr (.inl (.inl none, h)))
    | _ => none
  | _ => none
/-- the arguments as locals -/
def a_lay : List Value → List Value
  | [] => []
  | v :: t => if v.category = 2 then v :: a_un :: a_lay t else v :: a_lay t
def a_enter (n : Nat) (args : List Value) : List Value := a_lay args ++ List.replicate (n - (a_lay args).length) a_un
/-- a row of an exception table: from, to (places), the handler's place, its local, the class's number -/
abbrev AHd : Type := Nat × Nat × Nat × Nat × Nat
def a_find (o x : Nat) : List AHd → Option (Nat × Nat)
  | [] => none
  | (a, b, g, j, k) :: t => if a ≤ o ∧ o < b ∧ x = k then some (g, j) else a_find o x t
