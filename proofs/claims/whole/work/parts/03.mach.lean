/-! ===== an abstract machine over numbered cells: a state is fn_M (cell, field or element); references are numbers of cells; G says of which world: 0 the system, 1 the reference ===== -/
abbrev fn_M : Type := Nat → Nat → Int32
def fn_w (x : fn_M) (q j : Nat) (v : Int32) : fn_M := fun a => if a = q then upd (x q) j v else x a
abbrev fn_R : Type := fn_M × Option Value
abbrev fn_L : Type := List (Nat × Value)
/-- how a run goes on: at an instruction, with locals, stack and memory -/
abbrev fn_K : Type := Nat → fn_L → List Value → fn_M → Option fn_R
def fn_rd : fn_L → Nat → Option Value
  | [], _ => none
  | (j, v) :: r, i => if j = i then some v else fn_rd r i
def fn_ins (i : Nat) (v : Value) : fn_L → fn_L
  | [] => [(i, v)]
  | (j, w) :: r => if i < j then (i, v) :: (j, w) :: r else (j, w) :: fn_ins i v r
/-- a local is stored: the list stays in order -/
def fn_wr (lo : fn_L) (i : Nat) (v : Value) : fn_L := fn_ins i v (lo.filter (fun q => !(q.1 == i) && !(q.1 + 1 == i && q.2.category == 2)))
def fn_sw {α : Type} (k : Nat → α) (v : Int32) (d : Nat) : List (Int32 × Nat) → α
  | [] => k d
  | (a, t) :: r => if v = a then k t else fn_sw k v d r
def fn_bin (f : Nat) (x y : Int32) : Int32 := match f with
  | 0 => x + y
  | 1 => x - y
  | 2 => x * y
  | 3 => x &&& y
  | 4 => x ||| y
  | 5 => x <<< (y &&& 31)
  | _ => x >>> (y &&& 31)
/-- what an object's field holds: fn_fc says how (0 an int, 1 a boolean, 2 the cell c, 3 the cell c further on, 4 a cell whose number stands in the memory, 5 a byte, 6 a final int) -/
def fn_fv (x : fn_M) (ci j q : Nat) : Value := match fn_fc ci j with
  | (0, _) => .int (x q j)
  | (1, _) => .int (x q j)
  | (2, c) => .ref c
  | (3, c) => .ref (q + c)
  | (4, _) => .ref (x q j).toNatClampNeg
  | _ => .int (x q j)
def fn_or (r : Option Nat) : Value := match r with
  | none => .null
  | some p => .ref p
/-- behind a call: of a method that returns nothing, an int, a reference -/
def fn_bv (o : Option fn_R) (k : fn_M → Option fn_R) : Option fn_R := match o with
  | some (y, none) => k y
  | _ => none
def fn_bi (o : Option fn_R) (k : fn_M → Int32 → Option fn_R) : Option fn_R := match o with
  | some (y, some (.int v)) => k y v
  | _ => none
def fn_br (o : Option fn_R) (k : fn_M → Nat → Option fn_R) (kn : fn_M → Option fn_R) : Option fn_R := match o with
  | some (y, some (.ref p)) => k y p
  | some (y, some .null) => kn y
  | _ => none
/-- constant bytes outside the worlds: 1000, 1001 the two tables of digits, 1003 the literal's bytes (1002 the literal; a formatter that nobody asks is a value .float 0) -/
def fn_ro (q : Nat) : List Int32 := if q = 1000 then fn_ones else if q = 1001 then fn_tens else if q = 1003 then fn_lit else []
/-- an index is within an array of n -/
def fn_ix (i : Int32) (n : Nat) : Prop := ¬ (i < 0 ∨ n ≤ i.toNatClampNeg)
def fn_o0 (I : fn_I) (lo : fn_L) (st : List Value) (x : fn_M) (k : fn_K) : Option fn_R := k I.2.1 lo (.int I.2.2.2.2.1 :: st) x
def fn_o1 (I : fn_I) (lo : fn_L) (st : List Value) (x : fn_M) (k : fn_K) : Option fn_R := match fn_rd lo I.2.2.1 with
  | some (.int v) => k I.2.1 lo (.int v :: st) x
  | _ => none
def fn_o2 (I : fn_I) (lo : fn_L) (st : List Value) (x : fn_M) (k : fn_K) : Option fn_R := match fn_rd lo I.2.2.1 with
  | some (.ref q) => k I.2.1 lo (.ref q :: st) x
  | some .null => k I.2.1 lo (.null :: st) x
  | _ => none
def fn_o3 (I : fn_I) (lo : fn_L) (st : List Value) (x : fn_M) (k : fn_K) : Option fn_R := match st with
  | .int v :: st => k I.2.1 (fn_wr lo I.2.2.1 (.int v)) st x
  | _ => none
def fn_o4 (I : fn_I) (lo : fn_L) (st : List Value) (x : fn_M) (k : fn_K) : Option fn_R := match st with
  | .ref q :: st => k I.2.1 (fn_wr lo I.2.2.1 (.ref q)) st x
  | .null :: st => k I.2.1 (fn_wr lo I.2.2.1 .null) st x
  | _ => none
def fn_o5 (I : fn_I) (lo : fn_L) (st : List Value) (x : fn_M) (k : fn_K) : Option fn_R := match fn_rd lo I.2.2.1 with
  | some (.int u) => k I.2.1 (fn_wr lo I.2.2.1 (.int (u + I.2.2.2.2.1))) st x
  | _ => none
def fn_o6 (I : fn_I) (lo : fn_L) (st : List Value) (x : fn_M) (k : fn_K) : Option fn_R := match st with
  | .int b :: .int a :: st => k I.2.1 lo (.int (fn_bin I.2.2.1 a b) :: st) x
  | _ => none
def fn_o7 (I : fn_I) (lo : fn_L) (st : List Value) (x : fn_M) (k : fn_K) : Option fn_R := match st with
  | .int b :: .int a :: st => if b = 0 then none else k I.2.1 lo (.int (a / b) :: st) x
  | _ => none
def fn_o8 (I : fn_I) (lo : fn_L) (st : List Value) (x : fn_M) (k : fn_K) : Option fn_R := match st with
  | .int b :: .int a :: st => if b = 0 then none else k I.2.1 lo (.int (a - a / b * b) :: st) x
  | _ => none
def fn_o9 (I : fn_I) (lo : fn_L) (st : List Value) (x : fn_M) (k : fn_K) : Option fn_R := match st with
  | .int a :: st => k I.2.1 lo (.int a :: .int a :: st) x
  | .ref a :: st => k I.2.1 lo (.ref a :: .ref a :: st) x
  | _ => none
def fn_o10 (I : fn_I) (lo : fn_L) (st : List Value) (x : fn_M) (k : fn_K) : Option fn_R := match st with
  | .int b :: .ref a :: st => k I.2.1 lo (.int b :: .ref a :: .int b :: .ref a :: st) x
  | _ => none
def fn_o11 (I : fn_I) (lo : fn_L) (st : List Value) (x : fn_M) (k : fn_K) : Option fn_R := match st with
  | .int _ :: st => k I.2.1 lo st x
  | .ref _ :: st => k I.2.1 lo st x
  | _ => none
/-- the six comparisons -/
def fn_if {α : Type} (f : Nat) (a b : Int32) (t e : α) (d : α) : α := match f with
  | 0 => if a = b then t else e
  | 1 => if a = b then e else t
  | 2 => if a < b then t else e
  | 3 => if b ≤ a then t else e
  | 4 => if b < a then t else e
  | 5 => if a ≤ b then t else e
  | _ => d
def fn_o12 (I : fn_I) (lo : fn_L) (st : List Value) (x : fn_M) (k : fn_K) : Option fn_R := match st with
  | .int a :: st => fn_if I.2.1 a 0 (k I.2.2.1 lo st x) (k I.2.2.2.1 lo st x) none
  | _ => none
def fn_o13 (I : fn_I) (lo : fn_L) (st : List Value) (x : fn_M) (k : fn_K) : Option fn_R := match st with
  | .int b :: .int a :: st => fn_if I.2.1 a b (k I.2.2.1 lo st x) (k I.2.2.2.1 lo st x) none
  | _ => none
def fn_o14 (I : fn_I) (lo : fn_L) (st : List Value) (x : fn_M) (k : fn_K) : Option fn_R := match st with
  | .null :: st => k I.2.2.1 lo st x
  | .ref _ :: st => k I.2.2.2.1 lo st x
  | _ => none
def fn_o15 (I : fn_I) (lo : fn_L) (st : List Value) (x : fn_M) (k : fn_K) : Option fn_R := k I.2.2.1 lo st x
def fn_o45 (I : fn_I) (lo : fn_L) (st : List Value) (x : fn_M) (k : fn_K) : Option fn_R := k I.2.2.1 (lo.filter (fun q => decide (q.1 < I.2.1))) st x
def fn_o16 (I : fn_I) (lo : fn_L) (st : List Value) (x : fn_M) (k : fn_K) : Option fn_R := match st with
  | .int a :: st => fn_sw (fun t => k t lo st x) a I.2.2.1 I.2.2.2.2.2
  | _ => none
def fn_o17 (G : Nat) (I : fn_I) (lo : fn_L) (st : List Value) (x : fn_M) (k : fn_K) : Option fn_R := match st with
  | .ref q :: st => if fn_lc G q = I.2.1 + 1 then k I.2.2.2.1 lo (fn_fv x I.2.1 I.2.2.1 q :: st) x else none
  | _ => none
def fn_o18 (G : Nat) (I : fn_I) (lo : fn_L) (st : List Value) (x : fn_M) (k : fn_K) : Option fn_R := match st with
  | .int v :: .ref q :: st => if fn_lc G q = I.2.1 + 1 then (match (fn_fc I.2.1 I.2.2.1).1 with
    | 0 => k I.2.2.2.1 lo st (fn_w x q I.2.2.1 v)
    | 1 => if v = 0 ∨ v = 1 then k I.2.2.2.1 lo st (fn_w x q I.2.2.1 v) else none
    | _ => none) else none
  | .ref p :: .ref q :: st => if fn_lc G q = I.2.1 + 1 ∧ p < 1000 then (match (fn_fc I.2.1 I.2.2.1).1 with
    | 4 => k I.2.2.2.1 lo st (fn_w x q I.2.2.1 (nI p))
    | _ => none) else none
  | _ => none
def fn_o19 (G : Nat) (I : fn_I) (lo : fn_L) (st : List Value) (x : fn_M) (k : fn_K) : Option fn_R := match st with
  | .int i :: .ref q :: st => if (fn_la G q).1 = I.2.1 + 1 then (if i < 0 ∨ (fn_la G q).2 ≤ i.toNatClampNeg then none else k I.2.2.1 lo (.int (x q i.toNatClampNeg) :: st) x)
    else if I.2.1 = 2 then (if i < 0 ∨ (fn_ro q).length ≤ i.toNatClampNeg then none else k I.2.2.1 lo (.int ((fn_ro q).getD i.toNatClampNeg 0) :: st) x) else none
  | _ => none
def fn_o20 (G : Nat) (I : fn_I) (lo : fn_L) (st : List Value) (x : fn_M) (k : fn_K) : Option fn_R := match st with
  | .int v :: .int i :: .ref q :: st => if (fn_la G q).1 = I.2.1 + 1 then (if i < 0 ∨ (fn_la G q).2 ≤ i.toNatClampNeg then none else (match I.2.1 with
    | 0 => k I.2.2.1 lo st (fn_w x q i.toNatClampNeg v)
    | 1 => if v = 0 ∨ v = 1 then k I.2.2.1 lo st (fn_w x q i.toNatClampNeg v) else none
    | 2 => k I.2.2.1 lo st (fn_w x q i.toNatClampNeg v.toInt8.toInt32)
    | _ => none)) else none
  | _ => none
def fn_o21 (G : Nat) (I : fn_I) (lo : fn_L) (st : List Value) (x : fn_M) (k : fn_K) : Option fn_R := match st with
  | .int i :: .ref q :: st => if (fn_la G q).1 = I.2.1 + 1 then (if i < 0 ∨ (fn_la G q).2 ≤ i.toNatClampNeg then none else if fn_dy q = true then k I.2.2.1 lo (.ref (x q i.toNatClampNeg).toNatClampNeg :: st) x
    else if 1 ≤ i.toNatClampNeg ∧ i.toNatClampNeg ≤ 4 then k I.2.2.1 lo (.ref (q + i.toNatClampNeg) :: st) x else k I.2.2.1 lo (.null :: st) x) else none
  | _ => none
def fn_o22 (G : Nat) (I : fn_I) (lo : fn_L) (st : List Value) (x : fn_M) (k : fn_K) : Option fn_R := match st with
  | .ref p :: .int i :: .ref q :: st => if fn_dy q = true ∧ (fn_la G q).1 = 4 ∧ fn_lc G p = 2 then (if i < 0 ∨ (fn_la G q).2 ≤ i.toNatClampNeg then none else k I.2.2.1 lo st (fn_w x q i.toNatClampNeg (nI p))) else none
  | _ => none
/-- the stack below a call's arguments is short enough -/
def fn_sh (st : List Value) : Bool := Nat.ble (st.map (fun v => v.category)).sum 8
/-- arguments of a call: the receiver is of the kind asked for (99: there is none; 98: the literal) -/
def fn_rc (G ci : Nat) (as : List Value) : Bool := if ci = 99 then true else match as with
  | .ref q :: _ => if ci = 98 then q == 1002 else fn_lc G q == ci + 1
  | _ => false
def fn_ca (G : Nat) (I : fn_I) (st : List Value) : Bool := Nat.ble I.2.2.1 st.length && fn_sh (st.drop I.2.2.1) && fn_rc G (fn_ci I.2.1) (st.take I.2.2.1).reverse
def fn_o23 (G : Nat) (cf : Nat → List Value → fn_M → Option fn_R) (I : fn_I) (lo : fn_L) (st : List Value) (x : fn_M) (k : fn_K) : Option fn_R :=
  if fn_ca G I st = true then fn_bv (cf I.2.1 (st.take I.2.2.1).reverse x) (fun y => k I.2.2.2.1 lo (st.drop I.2.2.1) y) else none
def fn_o24 (G : Nat) (cf : Nat → List Value → fn_M → Option fn_R) (I : fn_I) (lo : fn_L) (st : List Value) (x : fn_M) (k : fn_K) : Option fn_R :=
  if fn_ca G I st = true then fn_bi (cf I.2.1 (st.take I.2.2.1).reverse x) (fun y v => k I.2.2.2.1 lo (.int v :: st.drop I.2.2.1) y) else none
def fn_o42 (G : Nat) (cf : Nat → List Value → fn_M → Option fn_R) (I : fn_I) (lo : fn_L) (st : List Value) (x : fn_M) (k : fn_K) : Option fn_R :=
  if fn_ca G I st = true then fn_br (cf I.2.1 (st.take I.2.2.1).reverse x) (fun y p => k I.2.2.2.1 lo (.ref p :: st.drop I.2.2.1) y) (fun y => k I.2.2.2.1 lo (.null :: st.drop I.2.2.1) y) else none
/-- an int comes back: of an int, a boolean, a char, a byte -/
def fn_o25 (I : fn_I) (st : List Value) (x : fn_M) : Option fn_R := match st with
  | [.int v] => (match I.2.1 with
    | 0 => some (x, some (.int v))
    | 1 => if v = 0 ∨ v = 1 then some (x, some (.int v)) else none
    | 2 => if 0 ≤ v ∧ v ≤ 65535 then some (x, some (.int v)) else none
    | 3 => if v = 0 then some (x, some (.int v)) else none
    | _ => none)
  | _ => none
def fn_o26 (st : List Value) (x : fn_M) : Option fn_R := match st with
  | [.ref q] => some (x, some (.ref q))
  | [.null] => some (x, some .null)
  | _ => none
def fn_o27 (st : List Value) (x : fn_M) : Option fn_R := match st with
  | [] => some (x, none)
  | _ => none
def fn_o28 (I : fn_I) (lo : fn_L) (st : List Value) (x : fn_M) (k : fn_K) : Option fn_R := k I.2.1 lo (.null :: st) x
/-- what a static field of the JDK holds -/
def fn_sv (b : Nat) : Value := match b with
  | 0 => .int 1
  | 1 => .ref 1000
  | 2 => .ref 1001
  | _ => .float 0
def fn_o30 (I : fn_I) (lo : fn_L) (st : List Value) (x : fn_M) (k : fn_K) : Option fn_R := k I.2.1 lo (fn_sv I.2.2.1 :: st) x
def fn_o31 (G : Nat) (I : fn_I) (lo : fn_L) (st : List Value) (x : fn_M) (k : fn_K) : Option fn_R := match st with
  | .ref q :: st => if (fn_la G q).1 = 0 then (if q = 1003 then k I.2.1 lo (.int 5 :: st) x else none) else k I.2.1 lo (.int (Int32.ofNat (fn_la G q).2) :: st) x
  | _ => none
def fn_o32 (I : fn_I) (lo : fn_L) (st : List Value) (x : fn_M) (k : fn_K) : Option fn_R := match st with
  | .int a :: st => k I.2.1 lo (.int (-a) :: st) x
  | _ => none
def fn_o33 (I : fn_I) (lo : fn_L) (st : List Value) (x : fn_M) (k : fn_K) : Option fn_R := match st with
  | .int a :: st => k I.2.1 lo (.int a.toInt8.toInt32 :: st) x
  | _ => none
def fn_o34 (I : fn_I) (lo : fn_L) (st : List Value) (x : fn_M) (k : fn_K) : Option fn_R := match st with
  | .int a :: st => k I.2.1 lo (.int (a.toUInt32 % 65536).toInt32 :: st) x
  | _ => none
def fn_o35 (I : fn_I) (lo : fn_L) (st : List Value) (x : fn_M) (k : fn_K) : Option fn_R := match st with
  | .int a :: .ref b :: st => k I.2.1 lo (.int a :: .ref b :: .int a :: st) x
  | _ => none
def fn_o36 (I : fn_I) (lo : fn_L) (st : List Value) (x : fn_M) (k : fn_K) : Option fn_R := match st with
  | .null :: st => k I.2.2.2.1 lo st x
  | .ref _ :: st => k I.2.2.1 lo st x
  | _ => none
def fn_o37 (I : fn_I) (lo : fn_L) (st : List Value) (x : fn_M) (k : fn_K) : Option fn_R := k I.2.1 lo (.ref 1002 :: st) x
def fn_cp (x : fn_M) (q sp dp n : Nat) : fn_M := fun a => if a = q then va_cpy (fun j => fn_lit.getD j 0) (x q) sp dp n else x a
def fn_o38 (G : Nat) (I : fn_I) (lo : fn_L) (st : List Value) (x : fn_M) (k : fn_K) : Option fn_R := match st with
  | .int n :: .int dp :: .ref q :: .int sp :: .ref b :: st => if b = 1003 ∧ (fn_la G q).1 = 3 ∧ fn_sh st = true then (if sp < 0 ∨ dp < 0 ∨ n < 0 ∨ ¬ sp.toNatClampNeg + n.toNatClampNeg ≤ 5 ∨ ¬ dp.toNatClampNeg + n.toNatClampNeg ≤ (fn_la G q).2 then none
    else k I.2.1 lo st (fn_cp x q sp.toNatClampNeg dp.toNatClampNeg n.toNatClampNeg)) else none
  | _ => none
def fn_o39 (I : fn_I) (lo : fn_L) (st : List Value) (x : fn_M) (k : fn_K) : Option fn_R := match st with
  | .ref q :: st => if q = 1002 then (match I.2.2.1 with
    | 0 => k I.2.1 lo (.ref 1003 :: st) x
    | _ => k I.2.1 lo (.int 0 :: st) x) else none
  | _ => none
def fn_op (G : Nat) (cf : Nat → List Value → fn_M → Option fn_R) (I : fn_I) (lo : fn_L) (st : List Value) (x : fn_M) (k : fn_K) : Option fn_R := match I.1 with
  | 0 => fn_o0 I lo st x k
  | 1 => fn_o1 I lo st x k
  | 2 => fn_o2 I lo st x k
  | 3 => fn_o3 I lo st x k
  | 4 => fn_o4 I lo st x k
  | 5 => fn_o5 I lo st x k
  | 6 => fn_o6 I lo st x k
  | 7 => fn_o7 I lo st x k
  | 8 => fn_o8 I lo st x k
  | 9 => fn_o9 I lo st x k
  | 10 => fn_o10 I lo st x k
  | 11 => fn_o11 I lo st x k
  | 12 => fn_o12 I lo st x k
  | 13 => fn_o13 I lo st x k
  | 14 => fn_o14 I lo st x k
  | 15 => fn_o15 I lo st x k
  | 16 => fn_o16 I lo st x k
  | 17 => fn_o17 G I lo st x k
  | 18 => fn_o18 G I lo st x k
  | 19 => fn_o19 G I lo st x k
  | 20 => fn_o20 G I lo st x k
  | 21 => fn_o21 G I lo st x k
  | 22 => fn_o22 G I lo st x k
  | 23 => fn_o23 G cf I lo st x k
  | 24 => fn_o24 G cf I lo st x k
  | 25 => fn_o25 I st x
  | 26 => fn_o26 st x
  | 27 => fn_o27 st x
  | 28 => fn_o28 I lo st x k
  | 29 => fn_o45 I lo st x k
  | 30 => fn_o30 I lo st x k
  | 31 => fn_o31 G I lo st x k
  | 32 => fn_o32 I lo st x k
  | 33 => fn_o33 I lo st x k
  | 34 => fn_o34 I lo st x k
  | 35 => fn_o35 I lo st x k
  | 36 => fn_o36 I lo st x k
  | 37 => fn_o37 I lo st x k
  | 38 => fn_o38 G I lo st x k
  | 39 => fn_o39 I lo st x k
  | 40 => fn_o42 G cf I lo st x k
  | _ => none
def fn_run (G : Nat) (cf : Nat → List Value → fn_M → Option fn_R) (dc : Nat → fn_I) : Nat → fn_K
  | 0, _, _, _, _ => none
  | n + 1, pc, lo, st, x => fn_op G cf (dc pc) lo st x (fun pc lo st x => fn_run G cf dc n pc lo st x)
