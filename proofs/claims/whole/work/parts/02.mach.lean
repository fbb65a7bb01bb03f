/-! THE ABSTRACT MACHINE: a small machine with resolved instructions over a heap of numbered cells; part 03 shows that what it does the machine of the model does. -/
/-- an instruction, its references resolved: operation, two numbers, a value, the pairs of a switch -/
abbrev am_I : Type := Nat × Nat × Nat × Value × List (Int32 × Nat)
/-- a frame: pc, locals, operand stack -/
abbrev am_F : Type := Nat × List (Nat × Value) × List Value
/-- a heap: its cells, how many they are, how many cells and slots were made -/
abbrev am_H : Type := (Nat → va_E) × Nat × Nat × Nat
/-- a program: the code of each method, the static tables, the fields of a new object of each class, of each method the class of its receiver (0: none, 1: a new object, k + 2: class k) and its locals -/
abbrev am_G : Type := (Nat → Nat → am_I) × (Nat → Nat × (Nat → Int32)) × (Nat → List Value) × (Nat → Nat × Nat)
/-- what a method comes to: an answer, or an exception by its number -/
abbrev am_R : Type := Option Value ⊕ Nat
def am_ld (i : Nat) : List (Nat × Value) → Option Value
  | [] => none
  | (j, v) :: r => bif Nat.beq j i then some v else am_ld i r
def am_st1 (i : Nat) (v : Value) (l : List (Nat × Value)) : List (Nat × Value) := (i, v) :: l.filter (fun q => !(q.1 == i) && !(q.1 + 1 == i && q.2.category == 2))
def am_st2 (i : Nat) (v : Value) (l : List (Nat × Value)) : List (Nat × Value) := (i, v) :: l.filter (fun q => !(q.1 == i) && (!(q.1 == i + 1) && !(q.1 + 1 == i && q.2.category == 2)))
/-- int operations -/
def am_ii (b : Nat) (x y : Int32) : Option Int32 :=
  bif Nat.ble b 4 then
    bif Nat.ble b 1 then (bif Nat.beq b 0 then some (x + y) else some (x - y))
    else bif Nat.beq b 2 then some (x * y) else bif Nat.beq b 3 then some (x &&& y) else some (x ||| y)
  else bif Nat.ble b 7 then
    bif Nat.beq b 5 then some (x ^^^ y) else bif Nat.beq b 6 then some (x <<< (y &&& 31)) else some (x >>> (y &&& 31))
  else bif Nat.beq b 8 then some (x.toUInt32 >>> (y.toUInt32 &&& Int32.toUInt32 31)).toInt32
  else if y = 0 then none else bif Nat.beq b 9 then some (x / y) else some (x - x / y * y)
/-- long operations -/
def am_ll (b : Nat) (x y : Int64) : Option Int64 :=
  bif Nat.ble b 2 then (bif Nat.beq b 0 then some (x + y) else bif Nat.beq b 1 then some (x - y) else some (x * y))
  else bif Nat.ble b 5 then (bif Nat.beq b 3 then some (x &&& y) else bif Nat.beq b 4 then some (x ||| y) else some (x ^^^ y))
  else if y = 0 then none else bif Nat.beq b 6 then some (x / y) else some (x - x / y * y)
/-- shifts of a long -/
def am_ls (b : Nat) (x : Int64) (y : Int32) : Int64 :=
  bif Nat.beq b 0 then x <<< (y.toInt64 &&& 63) else bif Nat.beq b 1 then x >>> (y.toInt64 &&& 63) else (x.toUInt64 >>> (y.toInt64.toUInt64 &&& Int64.toUInt64 63)).toInt64
/-- where a branch goes: by its kind, two numbers, its target, what is behind it -/
def am_br (b : Nat) (x y : Int32) (t n : Nat) : Nat :=
  bif Nat.ble b 2 then (bif Nat.beq b 0 then (if x = y then t else n) else bif Nat.beq b 1 then (if ¬ x = y then t else n) else if x < y then t else n)
  else bif Nat.beq b 3 then (if y ≤ x then t else n) else bif Nat.beq b 4 then (if y < x then t else n) else if x ≤ y then t else n
/-- where a switch goes -/
def am_sw (x : Int32) (d : Nat) : List (Int32 × Nat) → Nat
  | [] => d
  | (k, t) :: r => if x = k then t else am_sw x d r
/-- the beginning of the tables' numbers -/
abbrev am_T0 : Nat := 1000000000
/-- a new cell -/
def am_new (h : am_H) (c : va_E) (n : Nat) : Option am_H := bif Nat.blt h.2.1 am_T0 then some (va_up h.1 h.2.1 c, h.2.1 + 1, h.2.2.1 + 1, h.2.2.2 + n) else none
/-- a cell written -/
def am_set (h : am_H) (i : Nat) (c : va_E) : am_H := (va_up h.1 i c, h.2)
/-- may a field whose first value was d take v? -/
def am_fit (d v : Value) : Bool := match d, v with
  | .int _, .int _ => true
  | .long _, .long _ => true
  | .null, .null => true
  | .null, .ref _ => true
  | _, _ => false
/-- is v of the kind of d? (null stands for a reference) -/
def am_tag (d v : Value) : Bool := match d, v with
  | .int _, .int _ => true
  | .long _, .long _ => true
  | .null, .ref _ => true
  | _, _ => false
/-- array reads by kind: 0 int, 1 long, 2 boolean, 3 on: references -/
def am_ald (G : am_G) (a : Nat) (h : am_H) (r : Nat) (i : Int32) : Option Value :=
  bif Nat.ble am_T0 r then
    (bif Nat.beq a 0 && Nat.blt (r - am_T0) 6 then (if i < 0 ∨ (G.2.1 (r - am_T0)).1 ≤ i.toNatClampNeg then none else some (.int ((G.2.1 (r - am_T0)).2 i.toNatClampNeg))) else none)
  else bif Nat.blt r h.2.1 then
    match h.1 r with
    | .inl (k, n, .inl f) => bif Nat.beq k a && (Nat.beq a 0 || Nat.beq a 2) then (if i < 0 ∨ n ≤ i.toNatClampNeg then none else some (.int (f i.toNatClampNeg))) else none
    | .inl (k, n, .inr (.inl f)) => bif Nat.beq k a && Nat.beq a 1 then (if i < 0 ∨ n ≤ i.toNatClampNeg then none else some (.long (f i.toNatClampNeg))) else none
    | .inl (k, n, .inr (.inr (.inr (.inr f)))) => bif Nat.beq k a && Nat.ble 3 a then (if i < 0 ∨ n ≤ i.toNatClampNeg then none else some (va_rf (f i.toNatClampNeg))) else none
    | _ => none
  else none
/-- array writes of ints and longs -/
def am_ast (a : Nat) (h : am_H) (r : Nat) (i : Int32) (v : Value) : Option am_H :=
  bif Nat.blt r h.2.1 then
    match h.1 r, v with
    | .inl (k, n, .inl f), .int x => bif Nat.beq k a then
        (if i < 0 ∨ n ≤ i.toNatClampNeg then none else bif Nat.beq a 0 then some (am_set h r (.inl (k, n, .inl (upd f i.toNatClampNeg x)))) else bif Nat.beq a 2 then some (am_set h r (.inl (k, n, .inl (upd f i.toNatClampNeg (x &&& 1))))) else none) else none
    | .inl (k, n, .inr (.inl f)), .long x => bif Nat.beq k a && Nat.beq a 1 then (if i < 0 ∨ n ≤ i.toNatClampNeg then none else some (am_set h r (.inl (k, n, .inr (.inl (vp_updL f i.toNatClampNeg x)))))) else none
    | _, _ => none
  else none
/-- a new array of ints, longs, booleans; of references: all null -/
def am_arr (a n : Nat) : va_E := .inl (a, n, bif Nat.beq a 1 then .inr (.inl (fun _ => 0)) else bif Nat.ble a 2 then .inl (fun _ => 0) else .inr (.inr (.inr (.inr (fun _ => none)))))
def am_wt : List Value → Nat
  | [] => 0
  | v :: r => v.category + am_wt r
abbrev am_O : Type := Option (am_F × am_H)
/-- local a, b bytes long -/
def x_load (a b : Nat) (v : Value) (pc : Nat) (ls : List (Nat × Value)) (st : List Value) (h : am_H) : am_O := match am_ld a ls with
  | some x => bif am_tag v x then some ((pc + b, ls, x :: st), h) else none
  | none => none
/-- to local a, b bytes long -/
def x_st1 (a b : Nat) (v : Value) (pc : Nat) (ls : List (Nat × Value)) (st : List Value) (h : am_H) : am_O := match st with
  | x :: r => bif am_tag v x then some ((pc + b, am_st1 a x ls, r), h) else none
  | _ => none
def x_st2 (a b : Nat) (v : Value) (pc : Nat) (ls : List (Nat × Value)) (st : List Value) (h : am_H) : am_O := match st with
  | x :: r => bif am_tag v x then some ((pc + b, am_st2 a x ls, r), h) else none
  | _ => none
/-- local a grows by v -/
def x_inc (a : Nat) (v : Value) (pc : Nat) (ls : List (Nat × Value)) (st : List Value) (h : am_H) : am_O := match am_ld a ls, v with
  | some (.int x), .int y => some ((pc + 3, am_st1 a (.int (x + y)) ls, st), h)
  | _, _ => none
def x_ii (a : Nat) (pc : Nat) (ls : List (Nat × Value)) (st : List Value) (h : am_H) : am_O := match st with
  | .int y :: .int x :: r => (match am_ii a x y with
    | some z => some ((pc + 1, ls, .int z :: r), h)
    | none => none)
  | _ => none
def x_ll (a : Nat) (pc : Nat) (ls : List (Nat × Value)) (st : List Value) (h : am_H) : am_O := match st with
  | .long y :: .long x :: r => (match am_ll a x y with
    | some z => some ((pc + 1, ls, .long z :: r), h)
    | none => none)
  | _ => none
def x_ls (a : Nat) (pc : Nat) (ls : List (Nat × Value)) (st : List Value) (h : am_H) : am_O := match st with
  | .int y :: .long x :: r => some ((pc + 1, ls, .long (am_ls a x y) :: r), h)
  | _ => none
/-- two ints compared, kind b, to a; an int and 0 -/
def x_br (a b : Nat) (pc : Nat) (ls : List (Nat × Value)) (st : List Value) (h : am_H) : am_O := match st with
  | .int y :: .int x :: r => some ((am_br b x y a (pc + 3), ls, r), h)
  | _ => none
def x_bz (a b : Nat) (pc : Nat) (ls : List (Nat × Value)) (st : List Value) (h : am_H) : am_O := match st with
  | .int x :: r => some ((am_br b x 0 a (pc + 3), ls, r), h)
  | _ => none
def x_sw (a : Nat) (sw : List (Int32 × Nat)) (ls : List (Nat × Value)) (st : List Value) (h : am_H) : am_O := match st with
  | .int x :: r => some ((am_sw x a sw, ls, r), h)
  | _ => none
def x_lcmp (pc : Nat) (ls : List (Nat × Value)) (st : List Value) (h : am_H) : am_O := match st with
  | .long y :: .long x :: r => some ((pc + 1, ls, .int (lg_cmp x y) :: r), h)
  | _ => none
/-- conversions and signs: 0 i2l, 1 l2i, 2 ineg, 3 lneg -/
def x_un (a : Nat) (pc : Nat) (ls : List (Nat × Value)) (st : List Value) (h : am_H) : am_O := match st with
  | .int x :: r => bif Nat.beq a 0 then some ((pc + 1, ls, .long x.toInt64 :: r), h) else bif Nat.beq a 2 then some ((pc + 1, ls, .int (-x) :: r), h) else none
  | .long x :: r => bif Nat.beq a 1 then some ((pc + 1, ls, .int x.toInt32 :: r), h) else bif Nat.beq a 3 then some ((pc + 1, ls, .long (-x) :: r), h) else none
  | _ => none
def x_dup (pc : Nat) (ls : List (Nat × Value)) (st : List Value) (h : am_H) : am_O := match st with
  | x :: r => bif Nat.beq x.category 1 then some ((pc + 1, ls, x :: x :: r), h) else none
  | _ => none
def x_pop (pc : Nat) (ls : List (Nat × Value)) (st : List Value) (h : am_H) : am_O := match st with
  | x :: r => bif Nat.beq x.category 1 then some ((pc + 1, ls, r), h) else none
  | _ => none
def x_dupx (pc : Nat) (ls : List (Nat × Value)) (st : List Value) (h : am_H) : am_O := match st with
  | x :: y :: r => bif Nat.beq x.category 1 && Nat.beq y.category 1 then some ((pc + 1, ls, x :: y :: x :: r), h) else none
  | _ => none
def x_dup2 (pc : Nat) (ls : List (Nat × Value)) (st : List Value) (h : am_H) : am_O := match st with
  | .long x :: r => some ((pc + 1, ls, .long x :: .long x :: r), h)
  | x :: y :: r => bif Nat.beq x.category 1 && Nat.beq y.category 1 then some ((pc + 1, ls, x :: y :: x :: y :: r), h) else none
  | _ => none
/-- a field read: class a, field b -/
def x_get (a b : Nat) (pc : Nat) (ls : List (Nat × Value)) (st : List Value) (h : am_H) : am_O := match st with
  | .ref i :: r => bif Nat.blt i h.2.1 then (match h.1 i with
    | .inr (ci, fs) => bif Nat.beq ci a then (match fs[b]? with
      | some x => some ((pc + 3, ls, x :: r), h)
      | none => none) else none
    | _ => none) else none
  | _ => none
/-- a field written, v: its first value -/
def x_put (a b : Nat) (v : Value) (pc : Nat) (ls : List (Nat × Value)) (st : List Value) (h : am_H) : am_O := match st with
  | x :: .ref i :: r => bif Nat.blt i h.2.1 then (match h.1 i with
    | .inr (ci, fs) => bif Nat.beq ci a && Nat.blt b fs.length && am_fit v x then some ((pc + 3, ls, r), am_set h i (.inr (ci, fs.set b x))) else none
    | _ => none) else none
  | _ => none
/-- a boolean field written -/
def x_putz (a b : Nat) (pc : Nat) (ls : List (Nat × Value)) (st : List Value) (h : am_H) : am_O := match st with
  | .int z :: .ref i :: r => bif Nat.blt i h.2.1 then (match h.1 i with
    | .inr (ci, fs) => bif Nat.beq ci a && Nat.blt b fs.length then (if z = 0 ∨ z = 1 then some ((pc + 3, ls, r), am_set h i (.inr (ci, fs.set b (.int z)))) else none) else none
    | _ => none) else none
  | _ => none
def x_ald (G : am_G) (a : Nat) (pc : Nat) (ls : List (Nat × Value)) (st : List Value) (h : am_H) : am_O := match st with
  | .int i :: .ref r :: t => (match am_ald G a h r i with
    | some x => some ((pc + 1, ls, x :: t), h)
    | none => none)
  | _ => none
def x_ast (a : Nat) (pc : Nat) (ls : List (Nat × Value)) (st : List Value) (h : am_H) : am_O := match st with
  | x :: .int i :: .ref r :: t => (match am_ast a h r i x with
    | some h' => some ((pc + 1, ls, t), h')
    | none => none)
  | _ => none
def x_len (G : am_G) (pc : Nat) (ls : List (Nat × Value)) (st : List Value) (h : am_H) : am_O := match st with
  | .ref r :: t => bif Nat.ble am_T0 r then (bif Nat.blt (r - am_T0) 6 then some ((pc + 1, ls, .int (nI (G.2.1 (r - am_T0)).1) :: t), h) else none) else bif Nat.blt r h.2.1 then (match h.1 r with
    | .inl (k, n, _) => bif Nat.ble k 3 then some ((pc + 1, ls, .int (nI n) :: t), h) else none
    | _ => none) else none
  | _ => none
def x_new (G : am_G) (a : Nat) (pc : Nat) (ls : List (Nat × Value)) (st : List Value) (h : am_H) : am_O := match am_new h (.inr (a, G.2.2.1 a)) (G.2.2.1 a).length with
  | some h' => some ((pc + 3, ls, .ref h.2.1 :: st), h')
  | none => none
def x_newa (a b : Nat) (pc : Nat) (ls : List (Nat × Value)) (st : List Value) (h : am_H) : am_O := match st with
  | .int n :: r => if n < 0 then none else bif Nat.ble n.toNatClampNeg 1000000 then (match am_new h (am_arr a n.toNatClampNeg) n.toNatClampNeg with
    | some h' => some ((pc + b, ls, .ref h.2.1 :: r), h')
    | none => none) else none
  | _ => none
/-- an array of references of kind a, of objects of class b, written -/
def x_astq (a b : Nat) (pc : Nat) (ls : List (Nat × Value)) (st : List Value) (h : am_H) : am_O := match st with
  | .ref v :: .int i :: .ref r :: t => bif Nat.blt r h.2.1 && Nat.blt v h.2.1 then (match h.1 r, h.1 v with
    | .inl (k, n, .inr (.inr (.inr (.inr f)))), .inr (ci, _) => bif Nat.beq k a && Nat.beq ci b then (if i < 0 ∨ n ≤ i.toNatClampNeg then none else some ((pc + 1, ls, t), am_set h r (.inl (k, n, .inr (.inr (.inr (.inr (va_up f i.toNatClampNeg (some v))))))))) else none
    | _, _ => none) else none
  | _ => none
def x_max (pc : Nat) (ls : List (Nat × Value)) (st : List Value) (h : am_H) : am_O := match st with
  | .int y :: .int x :: r => bif Nat.ble (am_wt r) 8 then some ((pc + 3, ls, .int (if x < y then y else x) :: r), h) else none
  | _ => none
def x_oi (pc : Nat) (ls : List (Nat × Value)) (st : List Value) (h : am_H) : am_O := match st with
  | .ref _ :: r => bif Nat.ble (am_wt r) 8 then some ((pc + 3, ls, r), h) else none
  | _ => none
/-- System.arraycopy of longs -/
def x_copy (pc : Nat) (ls : List (Nat × Value)) (st : List Value) (h : am_H) : am_O := match st with
  | .int n :: .int dp :: .ref a :: .int sp :: .ref b :: r => bif Nat.blt a h.2.1 && Nat.blt b h.2.1 && Nat.ble (am_wt r) 8 then (match h.1 b, h.1 a with
    | .inl (k0, n0, .inr (.inl f)), .inl (k1, n1, .inr (.inl g)) => bif Nat.beq k0 1 && Nat.beq k1 1 then (if sp < 0 ∨ dp < 0 ∨ n < 0 ∨ n0 < sp.toNatClampNeg + n.toNatClampNeg ∨ n1 < dp.toNatClampNeg + n.toNatClampNeg then none else some ((pc + 3, ls, r), am_set h a (.inl (k1, n1, .inr (.inl (va_cpy f g sp.toNatClampNeg dp.toNatClampNeg n.toNatClampNeg)))))) else none
    | _, _ => none) else none
  | _ => none
/-- one instruction that is no call and no end -/
def am_1 (G : am_G) (q : am_I) (f : am_F) (h : am_H) : am_O := match q, f with
  | (op, a, b, v, sw), (pc, ls, st) =>
    bif Nat.ble op 9 then
      bif Nat.ble op 4 then
        (bif Nat.ble op 1 then (bif Nat.beq op 0 then some ((pc + a, ls, v :: st), h) else x_load a b v pc ls st h)
        else bif Nat.beq op 2 then x_st1 a b v pc ls st h else bif Nat.beq op 3 then x_st2 a b v pc ls st h else x_inc a v pc ls st h)
      else (bif Nat.ble op 6 then (bif Nat.beq op 5 then x_ii a pc ls st h else x_ll a pc ls st h)
        else bif Nat.beq op 7 then x_ls a pc ls st h else bif Nat.beq op 8 then x_br a b pc ls st h else x_bz a b pc ls st h)
    else bif Nat.ble op 19 then
      (bif Nat.ble op 13 then (bif Nat.beq op 10 then some ((a, ls, st), h) else bif Nat.beq op 11 then x_sw a sw ls st h else bif Nat.beq op 12 then x_lcmp pc ls st h else x_un a pc ls st h)
      else bif Nat.beq op 14 then x_dup pc ls st h else bif Nat.beq op 15 then x_pop pc ls st h else bif Nat.beq op 16 then x_dupx pc ls st h else bif Nat.beq op 17 then x_dup2 pc ls st h else none)
    else bif Nat.ble op 25 then
      (bif Nat.ble op 22 then (bif Nat.beq op 20 then x_get a b pc ls st h else bif Nat.beq op 21 then x_put a b v pc ls st h else x_putz a b pc ls st h)
      else bif Nat.beq op 23 then x_ald G a pc ls st h else bif Nat.beq op 24 then x_ast a pc ls st h else x_len G pc ls st h)
    else bif Nat.ble op 28 then (bif Nat.beq op 26 then x_new G a pc ls st h else x_newa a b pc ls st h)
    else bif Nat.beq op 29 then x_astq a b pc ls st h else bif Nat.beq op 30 then x_max pc ls st h else bif Nat.beq op 31 then x_oi pc ls st h else bif Nat.beq op 32 then x_copy pc ls st h else none
/-- n values off the stack, the deepest first -/
def am_take : Nat → List Value → Option (List Value × List Value)
  | 0, st => some ([], st)
  | _ + 1, [] => none
  | n + 1, v :: r => match am_take n r with
    | some (As, rest) => some (As ++ [v], rest)
    | none => none
/-- may the method be called with these? -/
def am_can (G : am_G) (y : Nat) (As : List Value) (h : am_H) : Bool := Nat.ble (am_wt As) (G.2.2.2 y).2 &&
  (match (G.2.2.2 y).1, As with
  | 0, _ => true
  | 1, .ref _ :: _ => true
  | k + 2, .ref i :: _ => Nat.blt i h.2.1 && (match h.1 i with
    | .inr (ci, _) => Nat.beq ci k
    | _ => false)
  | _, _ => false)
/-- ends: 40 int, 41 boolean, 42 long, 43 nothing, 44 a reference -/
def am_ret (op : Nat) (st : List Value) : Option (Option Value) := match st with
  | [] => bif Nat.beq op 43 then some none else none
  | [.int x] => bif Nat.beq op 40 then some (some (.int x)) else bif Nat.beq op 41 then (if x = 0 ∨ x = 1 then some (some (.int x)) else none) else none
  | [.long x] => bif Nat.beq op 42 then some (some (.long x)) else none
  | [.ref x] => bif Nat.beq op 44 then some (some (.ref x)) else none
  | _ => none
/-- a thrown exception: a new cell that nobody looks at -/
def am_thr (h : am_H) : am_H := (h.1, h.2.1, h.2.2.1 + 1, h.2.2.2 + 6)
/-- behind a call: 50 plain; 51 of a helper that catches; 52 inside a helper -/
def am_post (rc : Nat → Nat → am_F → am_H → Option (am_R × am_H)) (op : Nat) (sw : List (Int32 × Nat)) (d y : Nat) (f : am_F) (rest : List Value) : Option (am_R × am_H) → Option (am_R × am_H)
  | some (.inl v, h1) => rc d y (f.1 + 3, f.2.1, v.toList ++ rest) h1
  | some (.inr x, h1) => bif Nat.beq op 51 then (match am_hand x sw.tail with
    | some k => rc d y (f.1 + 3, f.2.1, .int k :: rest) h1
    | none => none) else bif Nat.beq op 52 then some (.inr x, h1) else none
  | none => none
/-- one turn of the run of a frame of method y, at most d frames deep; rc: the turns behind it -/
def am_body (G : am_G) (rc : Nat → Nat → am_F → am_H → Option (am_R × am_H)) (d y : Nat) (f : am_F) (h : am_H) : Option (am_R × am_H) :=
    bif Nat.ble (G.1 y f.1).1 39 then
      (match am_1 G (G.1 y f.1) f h with
      | some r => rc d y r.1 r.2
      | none => none)
    else bif Nat.ble (G.1 y f.1).1 44 then
      (match am_ret (G.1 y f.1).1 f.2.2 with
      | some r => some (.inl r, h)
      | none => none)
    else bif Nat.beq (G.1 y f.1).1 70 then
      (match f.2.2 with
      | [] => bif Nat.ble 5 d then some (.inr (G.1 y f.1).2.1, am_thr h) else none
      | _ => none)
    else bif Nat.ble 50 (G.1 y f.1).1 && Nat.ble (G.1 y f.1).1 52 then
      (match am_take (G.1 y f.1).2.2.1 f.2.2, d with
      | some r, d' + 1 => bif am_can G (G.1 y f.1).2.1 r.1 h && Nat.ble (am_wt r.2) 8 then
          am_post rc (G.1 y f.1).1 (G.1 y f.1).2.2.2.2 d y f r.2 (rc d' (G.1 y f.1).2.1 (0, lv_args 0 r.1, []) h) else none
      | _, _ => none)
    else none
/-- the run of a frame of method y: by n turns, at most d frames deep -/
def am_ev (G : am_G) : Nat → Nat → Nat → am_F → am_H → Option (am_R × am_H)
  | 0 => fun _ _ _ _ => none
  | n + 1 => am_body G (am_ev G n)
/-- what a turn may be -/
def am_turn (G : am_G) (rc : Nat → Nat → am_F → am_H → Option (am_R × am_H)) (d y : Nat) (f : am_F) (h : am_H) (r : am_R × am_H) : Prop :=
  ((G.1 y f.1).1 ≤ 39 ∧ ∃ (f' : am_F) (h' : am_H), am_1 G (G.1 y f.1) f h = some (f', h') ∧ rc d y f' h' = some r) ∨
  (¬ (G.1 y f.1).1 ≤ 39 ∧ (G.1 y f.1).1 ≤ 44 ∧ ∃ v : Option Value, am_ret (G.1 y f.1).1 f.2.2 = some v ∧ r = (.inl v, h)) ∨
  ((G.1 y f.1).1 = 70 ∧ 5 ≤ d ∧ f.2.2 = [] ∧ r = (.inr (G.1 y f.1).2.1, am_thr h)) ∨
  (50 ≤ (G.1 y f.1).1 ∧ (G.1 y f.1).1 ≤ 52 ∧ ∃ (As rest : List Value) (d' : Nat) (z : am_R) (h1 : am_H), d = d' + 1 ∧ am_take (G.1 y f.1).2.2.1 f.2.2 = some (As, rest) ∧ am_can G (G.1 y f.1).2.1 As h = true ∧ am_wt rest ≤ 8 ∧
    rc d' (G.1 y f.1).2.1 (0, lv_args 0 As, []) h = some (z, h1) ∧ am_post rc (G.1 y f.1).1 (G.1 y f.1).2.2.2.2 d y f rest (some (z, h1)) = some r)
theorem am_body_turn {G : am_G} {rc : Nat → Nat → am_F → am_H → Option (am_R × am_H)} {d y : Nat} {f : am_F} {h : am_H} {r : am_R × am_H} (hh : am_body G rc d y f h = some r) : am_turn G rc d y f h r := by
  unfold am_body at hh
  cases h39 : Nat.ble (G.1 y f.1).1 39 with
  | true =>
    rw [h39, cond_true] at hh
    cases h1 : am_1 G (G.1 y f.1) f h with
    | none => rw [h1] at hh; cases hh
    | some q => rw [h1] at hh; exact Or.inl ⟨Nat.le_of_ble_eq_true h39, q.1, q.2, h1, hh⟩
  | false =>
    rw [h39, cond_false] at hh
    have n39 : ¬ (G.1 y f.1).1 ≤ 39 := fun q => by rw [Nat.ble_eq_true_of_le q] at h39; cases h39
    cases h44 : Nat.ble (G.1 y f.1).1 44 with
    | true =>
      rw [h44, cond_true] at hh
      cases h1 : am_ret (G.1 y f.1).1 f.2.2 with
      | none => rw [h1] at hh; cases hh
      | some q => rw [h1] at hh; exact Or.inr (Or.inl ⟨n39, Nat.le_of_ble_eq_true h44, q, h1, (Option.some.inj hh).symm⟩)
    | false =>
      rw [h44, cond_false] at hh
      cases h70 : Nat.beq (G.1 y f.1).1 70 with
      | true =>
        rw [h70, cond_true] at hh
        split at hh
        · rename_i e
          cases h5 : Nat.ble 5 d with
          | false => rw [h5, cond_false] at hh; cases hh
          | true =>
            rw [h5, cond_true] at hh
            exact Or.inr (Or.inr (Or.inl ⟨Nat.eq_of_beq_eq_true h70, Nat.le_of_ble_eq_true h5, e, (Option.some.inj hh).symm⟩))
        · cases hh
      | false =>
        rw [h70, cond_false] at hh
        cases h50 : Nat.ble 50 (G.1 y f.1).1 && Nat.ble (G.1 y f.1).1 52 with
        | false => rw [h50, cond_false] at hh; cases hh
        | true =>
          rw [h50, cond_true] at hh
          rw [Bool.and_eq_true] at h50
          cases h1 : am_take (G.1 y f.1).2.2.1 f.2.2 with
          | none => rw [h1] at hh; cases hh
          | some q =>
            obtain ⟨As, rest⟩ := q
            cases d with
            | zero => rw [h1] at hh; cases hh
            | succ d' =>
              rw [h1] at hh
              dsimp only at hh
              cases h2 : am_can G (G.1 y f.1).2.1 As h && Nat.ble (am_wt rest) 8 with
              | false => rw [h2, cond_false] at hh; cases hh
              | true =>
                rw [h2, cond_true] at hh
                rw [Bool.and_eq_true] at h2
                cases h3 : rc d' (G.1 y f.1).2.1 (0, lv_args 0 As, []) h with
                | none => rw [h3] at hh; cases hh
                | some z =>
                  obtain ⟨a, h1'⟩ := z
                  rw [h3] at hh
                  exact Or.inr (Or.inr (Or.inr ⟨Nat.le_of_ble_eq_true h50.1, Nat.le_of_ble_eq_true h50.2, As, rest, d', a, h1', rfl, h1, h2.1, Nat.le_of_ble_eq_true h2.2, h3, hh⟩))
theorem am_turn_body {G : am_G} {rc : Nat → Nat → am_F → am_H → Option (am_R × am_H)} {d y : Nat} {f : am_F} {h : am_H} {r : am_R × am_H} (hh : am_turn G rc d y f h r) : am_body G rc d y f h = some r := by
  unfold am_body
  have nb : ∀ {k n : Nat}, ¬ k ≤ n → Nat.ble k n = false := by
    intro k n hk
    cases q : Nat.ble k n with
    | false => rfl
    | true => exact absurd (Nat.le_of_ble_eq_true q) hk
  rcases hh with ⟨h39, f', h', h1, h2⟩ | ⟨n39, h44, v, h1, rfl⟩ | ⟨h70, h5d, h1, rfl⟩ | ⟨h50, h52, As, rest, d', z, h1, rfl, h2, h3, h4, h5, h6⟩
  · rw [Nat.ble_eq_true_of_le h39, cond_true, h1]
    exact h2
  · rw [nb n39, cond_false, Nat.ble_eq_true_of_le h44, cond_true, h1]
  · rw [nb (show ¬ (G.1 y f.1).1 ≤ 39 by omega), cond_false, nb (show ¬ (G.1 y f.1).1 ≤ 44 by omega), cond_false, show Nat.beq (G.1 y f.1).1 70 = true by rw [h70]; rfl, cond_true, h1]
    show (bif Nat.ble 5 d then _ else none) = _
    rw [Nat.ble_eq_true_of_le h5d, cond_true]
  · have n70 : Nat.beq (G.1 y f.1).1 70 = false := by
      cases q : Nat.beq (G.1 y f.1).1 70 with
      | false => rfl
      | true => have := Nat.eq_of_beq_eq_true q; omega
    rw [nb (show ¬ (G.1 y f.1).1 ≤ 39 by omega), cond_false, nb (show ¬ (G.1 y f.1).1 ≤ 44 by omega), cond_false, n70, cond_false, Nat.ble_eq_true_of_le h50, Nat.ble_eq_true_of_le h52, Bool.and_self, cond_true, h2]
    show (bif am_can G (G.1 y f.1).2.1 As h && Nat.ble (am_wt rest) 8 then _ else none) = _
    rw [h3, Nat.ble_eq_true_of_le h4, Bool.true_and, cond_true, h5]
    exact h6
theorem am_post_up {rc rc' : Nat → Nat → am_F → am_H → Option (am_R × am_H)} (hr : ∀ d y f h r, rc d y f h = some r → rc' d y f h = some r) {op : Nat} {sw : List (Int32 × Nat)} {d y : Nat} {f : am_F} {rest : List Value} {z : Option (am_R × am_H)} {r : am_R × am_H} (hh : am_post rc op sw d y f rest z = some r) : am_post rc' op sw d y f rest z = some r := by
  unfold am_post at hh ⊢
  split at hh
  · exact hr _ _ _ _ _ hh
  · cases q : Nat.beq op 51 with
    | true =>
      rw [q, cond_true] at hh
      show (match am_hand _ sw.tail with
        | some k => rc' d y (f.1 + 3, f.2.1, .int k :: rest) _
        | none => none) = some r
      split at hh
      · exact hr _ _ _ _ _ hh
      · cases hh
    | false =>
      rw [q, cond_false] at hh
      exact hh
  · cases hh
theorem am_turn_up {G : am_G} {rc rc' : Nat → Nat → am_F → am_H → Option (am_R × am_H)} (hr : ∀ d y f h r, rc d y f h = some r → rc' d y f h = some r) {d y : Nat} {f : am_F} {h : am_H} {r : am_R × am_H} (hh : am_turn G rc d y f h r) : am_turn G rc' d y f h r := by
  rcases hh with ⟨h39, f', h', h1, h2⟩ | hh | hh | ⟨h50, h52, As, rest, d', z, h1, e, h2, h3, h4, h5, h6⟩
  · exact Or.inl ⟨h39, f', h', h1, hr _ _ _ _ _ h2⟩
  · exact Or.inr (Or.inl hh)
  · exact Or.inr (Or.inr (Or.inl hh))
  · exact Or.inr (Or.inr (Or.inr ⟨h50, h52, As, rest, d', z, h1, e, h2, h3, h4, hr _ _ _ _ _ h5, am_post_up hr h6⟩))
theorem am_ev_up (G : am_G) : ∀ n d y f h r, am_ev G n d y f h = some r → am_ev G (n + 1) d y f h = some r := by
  intro n
  induction n with
  | zero => intro d y f h r hh; cases hh
  | succ n ih => intro d y f h r hh; exact am_turn_body (am_turn_up ih (am_body_turn hh))
theorem am_ev_le (G : am_G) {n k : Nat} (hk : n ≤ k) {d y : Nat} {f : am_F} {h : am_H} {r : am_R × am_H} (hh : am_ev G n d y f h = some r) : am_ev G k d y f h = some r := by
  induction hk with
  | refl => exact hh
  | step _ ih => exact am_ev_up G _ _ _ _ _ _ ih
/-- the run ends, and P holds of its end -/
def am_E (G : am_G) (d y : Nat) (f : am_F) (h : am_H) (P : am_R → am_H → Prop) : Prop := ∃ (n : Nat) (r : am_R) (h' : am_H), am_ev G n d y f h = some (r, h') ∧ P r h'
theorem am_E.weak {G : am_G} {d y : Nat} {f : am_F} {h : am_H} {P P' : am_R → am_H → Prop} (k : am_E G d y f h P) (hP : ∀ r h', P r h' → P' r h') : am_E G d y f h P' := by
  obtain ⟨n, r, h', e, q⟩ := k
  exact ⟨n, r, h', e, hP r h' q⟩
theorem e_1 {G : am_G} {d y : Nat} {f f' : am_F} {h h' : am_H} {P : am_R → am_H → Prop} (hop : Nat.ble (G.1 y f.1).1 39 = true) (hs : am_1 G (G.1 y f.1) f h = some (f', h')) (k : am_E G d y f' h' P) : am_E G d y f h P := by
  obtain ⟨n, r, h2, e, q⟩ := k
  exact ⟨n + 1, r, h2, am_turn_body (Or.inl ⟨Nat.le_of_ble_eq_true hop, f', h', hs, e⟩), q⟩
/-- k simple instructions at once -/
def am_n (G : am_G) (y : Nat) : Nat → am_F → am_H → Option (am_F × am_H)
  | 0, f, h => some (f, h)
  | k + 1, f, h => bif Nat.ble (G.1 y f.1).1 39 then (match am_1 G (G.1 y f.1) f h with
    | some r => am_n G y k r.1 r.2
    | none => none) else none
theorem e_n {G : am_G} {d y : Nat} {f' : am_F} {h' : am_H} {P : am_R → am_H → Prop} : ∀ (k : Nat) {f : am_F} {h : am_H} (_ : am_n G y k f h = some (f', h')) (_ : am_E G d y f' h' P), am_E G d y f h P := by
  intro k
  induction k with
  | zero => intro f h hs kk; cases hs; exact kk
  | succ k ih =>
    intro f h hs kk
    unfold am_n at hs
    cases h39 : Nat.ble (G.1 y f.1).1 39 with
    | false => rw [h39, cond_false] at hs; cases hs
    | true =>
      rw [h39, cond_true] at hs
      cases h1 : am_1 G (G.1 y f.1) f h with
      | none => rw [h1] at hs; cases hs
      | some q => rw [h1] at hs; exact e_1 h39 h1 (ih hs kk)
theorem e_ret {G : am_G} {d y : Nat} {f : am_F} {h : am_H} {P : am_R → am_H → Prop} {v : Option Value} (hop : (Nat.ble 40 (G.1 y f.1).1 && Nat.ble (G.1 y f.1).1 44) = true) (hs : am_ret (G.1 y f.1).1 f.2.2 = some v) (k : P (.inl v) h) : am_E G d y f h P := by
  rw [Bool.and_eq_true] at hop
  have h1 := Nat.le_of_ble_eq_true hop.1
  exact ⟨1, _, _, am_turn_body (rc := am_ev G 0) (Or.inr (Or.inl ⟨by omega, Nat.le_of_ble_eq_true hop.2, v, hs, rfl⟩)), k⟩
theorem e_call {G : am_G} {d y : Nat} {f : am_F} {h : am_H} {P P' : am_R → am_H → Prop} {As rest : List Value} (z : Nat) (hop : (Nat.ble 50 (G.1 y f.1).1 && Nat.ble (G.1 y f.1).1 52) = true) (hz : (G.1 y f.1).2.1 = z) (ht : am_take (G.1 y f.1).2.2.1 f.2.2 = some (As, rest)) (hc : am_can G z As h = true) (hw : Nat.ble (am_wt rest) 8 = true)
    (hM : am_E G d z (0, lv_args 0 As, []) h P') (k : ∀ (r : am_R) (h1 : am_H), P' r h1 → ∃ v : Option Value, r = .inl v ∧ am_E G (d + 1) y (f.1 + 3, f.2.1, v.toList ++ rest) h1 P) : am_E G (d + 1) y f h P := by
  subst hz
  rw [Bool.and_eq_true] at hop
  obtain ⟨n1, r1, h1, e1, q1⟩ := hM
  obtain ⟨v, rfl, n2, r2, h2, e2, q2⟩ := k r1 h1 q1
  exact ⟨max n1 n2 + 1, r2, h2, am_turn_body (rc := am_ev G (max n1 n2)) (Or.inr (Or.inr (Or.inr ⟨Nat.le_of_ble_eq_true hop.1, Nat.le_of_ble_eq_true hop.2, As, rest, d, .inl v, h1, rfl, ht, hc, Nat.le_of_ble_eq_true hw, am_ev_le G (Nat.le_max_left _ _) e1, am_ev_le G (Nat.le_max_right _ _) e2⟩))), q2⟩
theorem e_thr {G : am_G} {d y pc : Nat} {ls : List (Nat × Value)} {h : am_H} {P : am_R → am_H → Prop} (hop : (G.1 y pc).1 = 70) (hd : Nat.ble 5 d = true) (k : P (.inr (G.1 y pc).2.1) (am_thr h)) : am_E G d y (pc, ls, []) h P :=
  ⟨1, _, _, am_turn_body (rc := am_ev G 0) (Or.inr (Or.inr (Or.inl ⟨hop, Nat.le_of_ble_eq_true hd, rfl, rfl⟩))), k⟩
/-- a call inside a helper -/
theorem e_call2 {G : am_G} {d y : Nat} {f : am_F} {h : am_H} {P P' : am_R → am_H → Prop} {As rest : List Value} (z : Nat) (hop : (G.1 y f.1).1 = 52) (hz : (G.1 y f.1).2.1 = z) (ht : am_take (G.1 y f.1).2.2.1 f.2.2 = some (As, rest)) (hc : am_can G z As h = true) (hw : Nat.ble (am_wt rest) 8 = true)
    (hM : am_E G d z (0, lv_args 0 As, []) h P') (k : ∀ (r : am_R) (h1 : am_H), P' r h1 → (∃ v : Option Value, r = .inl v ∧ am_E G (d + 1) y (f.1 + 3, f.2.1, v.toList ++ rest) h1 P) ∨ ∃ x, r = .inr x ∧ P (.inr x) h1) : am_E G (d + 1) y f h P := by
  obtain ⟨n1, r1, h1, e1, q1⟩ := hM
  rcases k r1 h1 q1 with ⟨v, rfl, k⟩ | ⟨x, rfl, q⟩
  · exact e_call z (by rw [hop]; rfl) hz ht hc hw ⟨n1, .inl v, h1, e1, (rfl : (Sum.inl v, h1) = (Sum.inl v, h1))⟩ (P' := fun r h2 => (r, h2) = (Sum.inl v, h1)) (fun r h2 e => by cases e; exact ⟨v, rfl, k⟩)
  · subst hz
    exact ⟨n1 + 1, .inr x, h1, am_turn_body (rc := am_ev G n1) (Or.inr (Or.inr (Or.inr ⟨by omega, by omega, As, rest, d, .inr x, h1, rfl, ht, hc, Nat.le_of_ble_eq_true hw, e1, by rw [hop]; rfl⟩))), q⟩
/-- a call of a helper -/
theorem e_call1 {G : am_G} {d y : Nat} {f : am_F} {h : am_H} {P P' : am_R → am_H → Prop} {As rest : List Value} (z : Nat) (hop : (G.1 y f.1).1 = 51) (hz : (G.1 y f.1).2.1 = z) (ht : am_take (G.1 y f.1).2.2.1 f.2.2 = some (As, rest)) (hc : am_can G z As h = true) (hw : Nat.ble (am_wt rest) 8 = true)
    (hM : am_E G d z (0, lv_args 0 As, []) h P') (k : ∀ (r : am_R) (h1 : am_H), P' r h1 → (∃ v : Option Value, r = .inl v ∧ am_E G (d + 1) y (f.1 + 3, f.2.1, v.toList ++ rest) h1 P) ∨ ∃ x k, r = .inr x ∧ am_hand x (G.1 y f.1).2.2.2.2.tail = some k ∧ am_E G (d + 1) y (f.1 + 3, f.2.1, .int k :: rest) h1 P) : am_E G (d + 1) y f h P := by
  obtain ⟨n1, r1, h1, e1, q1⟩ := hM
  rcases k r1 h1 q1 with ⟨v, rfl, k⟩ | ⟨x, k, rfl, hk, n2, r2, h2, e2, q2⟩
  · exact e_call z (by rw [hop]; rfl) hz ht hc hw ⟨n1, .inl v, h1, e1, (rfl : (Sum.inl v, h1) = (Sum.inl v, h1))⟩ (P' := fun r h2 => (r, h2) = (Sum.inl v, h1)) (fun r h2 e => by cases e; exact ⟨v, rfl, k⟩)
  · subst hz
    refine ⟨max n1 n2 + 1, r2, h2, am_turn_body (rc := am_ev G (max n1 n2)) (Or.inr (Or.inr (Or.inr ⟨by omega, by omega, As, rest, d, .inr x, h1, rfl, ht, hc, Nat.le_of_ble_eq_true hw, am_ev_le G (Nat.le_max_left _ _) e1, ?_⟩))), q2⟩
    unfold am_post
    rw [hop]
    show (match am_hand x (G.1 y f.1).2.2.2.2.tail with
      | some k => am_ev G (max n1 n2) (d + 1) y (f.1 + 3, f.2.1, .int k :: rest) h1
      | none => none) = _
    rw [hk]
    exact am_ev_le G (Nat.le_max_right _ _) e2
theorem e_if {G : am_G} {d y : Nat} {ls : List (Nat × Value)} {st : List Value} {h : am_H} {P : am_R → am_H → Prop} {c : Prop} [Decidable c] {t n : Nat} (k1 : c → am_E G d y (t, ls, st) h P) (k2 : ¬ c → am_E G d y (n, ls, st) h P) : am_E G d y (if c then t else n, ls, st) h P := by
  by_cases q : c
  · rw [if_pos q]; exact k1 q
  · rw [if_neg q]; exact k2 q
